/-! hands, further: wants swayed, days, bills put -/
section
variable {pr : am_Pr} {d : Nat} {S : List (Nat × Nat)} {I : Nat → Nat → Int32} {J : Nat → Nat → Int64} {P : Nat → Nat → Option Nat} {Q : Option Value → am_H → Prop} {n l s u tp : Nat} {kp lf kp' : Nat → Int32} {lw : Option (Nat × List Cl)} {lv0 : Option (List Cl)}
theorem un_sw {q : Nat} {w x : Int32} (hq : q < 35) (hx : kp q = x) : ∀ j, j < 44 → kp j = am_un n 2 (nI q) x (g_sw kp q w) j := by
  intro j hj
  unfold am_un g_sw
  rw [if_neg (by decide), if_neg (by decide), if_pos rfl, am_clN (by omega)]
  by_cases z : q = j
  · rw [if_pos z, ← z, hx]
  · rw [if_neg z, if_neg (fun y => z y.symm)]
theorem hr_sw {I1 : Nat → Nat → Int32} {q w : Nat} (hr : am_HR I 65 kp n l s) (hq : q < n * 5) (hw : w ≤ 9) (er : ∀ a, a ≠ 68 → I1 a = I a) (e68 : ∀ j, j ≠ q → I1 68 j = I 68 j) (z1 : I1 68 q = nI w) (ek2 : ∀ j, j ≠ q → kp' j = kp j) (zk : kp' q = nI w) : am_HR I1 65 kp' n l s := by
  have n7 := hr.n7
  have ek : ∀ j, 35 ≤ j → kp' j = kp j := fun j hj => ek2 j (by omega)
  have eh : ∀ q, 0 ≤ q → I1 65 q = I 65 q := fun q _ => by rw [er 65 (by decide)]
  refine am_HR_mk ?_ ?_ ?_ ?_ ?_ ?_ ?_ ?_ ?_ ?_ ?_ ?_ ?_ ?_ ?_ ?_
  · exact ⟨hr.n7, hr.l6, hr.s6⟩
  · show I1 65 0 = nI n ∧ kp' 73 = nI n
    rw [eh 0 (by omega), ek 73 (by omega)]
    exact hr 1
  · intro mq hmq
    by_cases hmz : mq < n
    · show am_bit (I1 65 1) mq = 1 ↔ mq < n ∧ kp' (35 + mq) = 1
      rw [eh 1 (by omega), ek (35 + mq) (by omega)]
      exact hr 2 mq hmq
    · show am_bit (I1 65 1) mq = 1 ↔ mq < n ∧ kp' (35 + mq) = 1
      rw [eh 1 (by omega), hr.he mq hmq]
      exact ⟨fun q => absurd q.1 hmz, fun q => absurd q.1 hmz⟩
  · intro mq hmq
    show kp' (35 + mq) = 0 ∨ kp' (35 + mq) = 1
    rw [ek (35 + mq) (by omega)]
    exact hr 3 mq hmq
  · show I1 65 2 = kp' 42 ∧ ∃ x, x < 32 ∧ kp' 42 = nI x
    rw [eh 2 (by omega), ek 42 (by omega)]
    exact hr 4
  · show I1 65 3 = nI l ∧ kp' 75 = nI l
    rw [eh 3 (by omega), ek 75 (by omega)]
    exact hr 5
  · show I1 65 4 = kp' 76 ∧ (kp' 76 = -1 ∨ ∃ f, f < l ∧ kp' 76 = nI f)
    rw [eh 4 (by omega), ek 76 (by omega)]
    exact hr 6
  · show I1 65 5 = nI s ∧ kp' 74 = nI s
    rw [eh 5 (by omega), ek 74 (by omega)]
    exact hr 7
  · intro mq hmq
    show I1 66 mq = kp' (44 + mq) ∧ ∃ x, 1 ≤ x ∧ x ≤ 9 ∧ kp' (44 + mq) = nI x
    rw [er 66 (by omega), ek (44 + mq) (by omega)]
    exact hr 8 mq hmq
  · intro mq hmq
    show I1 67 mq = kp' (51 + mq)
    rw [er 67 (by omega), ek (51 + mq) (by omega)]
    exact hr 9 mq hmq
  · intro jq hjq
    show I1 68 jq = kp' jq ∧ ∃ x, x ≤ 9 ∧ kp' jq = nI x
    by_cases z : jq = q
    · rw [z, z1, zk]
      exact ⟨rfl, w, hw, rfl⟩
    · rw [e68 jq z, ek2 jq z]
      exact hr 10 jq hjq
  · show I1 69 0 = kp' 43 ∧ ∃ x, x ≤ 999 ∧ kp' 43 = nI x
    rw [er 69 (by omega), ek 43 (by omega)]
    exact hr 11
  · show I1 69 1 = kp' 70 ∧ ∃ x, x ≤ 10 ∧ kp' 70 = nI x
    rw [er 69 (by omega), ek 70 (by omega)]
    exact hr 12
  · show I1 69 2 = kp' 71
    rw [er 69 (by omega), ek 71 (by omega)]
    exact hr 13
  · show I1 69 3 = kp' 72 ∧ ∃ x, x ≤ 99 ∧ kp' 72 = nI x
    rw [er 69 (by omega), ek 72 (by omega)]
    exact hr 14
  · intro iq hiq
    have hs6 := hr.s6
    show ∃ a b, a < 5 ∧ b < 5 ∧ I1 71 iq = nI a ∧ kp' (58 + 2 * iq) = nI a ∧ I1 72 iq = nI b ∧ kp' (58 + 2 * iq + 1) = nI b
    rw [er 71 (by omega), er 72 (by omega), ek (58 + 2 * iq) (by omega), ek (58 + 2 * iq + 1) (by omega)]
    exact hr 15 iq hiq
/-- doSway -/
theorem c103 (L : am_Lay S P) {m b w : Nat} (h : HC I kp lf n l s u) (hm : m < n) (hb : b < 5) (hw : w ≤ 9) (hne : ¬ kp (m * 5 + b) = nI w) (k : ∀ I', (∀ a, a ≠ 68 → a ≠ 90 → a ≠ 91 → I' a = I a) → HC I' (g_sw kp (m * 5 + b) (nI w)) (g_kp lf u kp 2) n l s (g_m u + 1) → Q (some (.int (kp (m * 5 + b)))) (S, I', J, P)) : am_ev pr (d + 2) 103 [.ref 64, .int (nI m), .int (nI b), .int (nI w)] (S, I, J, P) Q := by
  obtain ⟨hr, u16, hu, hPA⟩ := h
  have n7 := hr.n7
  have hh := L.h65
  have hm7 : m < 7 := by omega
  have e1 : I 68 (m * 5 + b) = kp (m * 5 + b) := hr.wa _ (by omega)
  have hw9 : (0 ≤ nI w ∧ nI w ≤ 9) := ⟨nI_pos' (by omega), nI_le (b := 9) hw (by decide)⟩
  show am_wp pr (d + 2) 103 0 [(0, .ref 64), (1, .int (nI m)), (2, .int (nI b)), (3, .int (nI w))] [] _ _
  refine w103_0 rfl ?_
  refine w103_1 (k := c18b hb ?_)
  refine w103_4 (fun hQ => absurd hQ am_n01) (fun _ => ?_)
  refine w103_7 rfl ?_
  refine w103_8 (k := c46 ?_)
  rw [am_b_t hw9]
  refine w103_11 (fun _ => ?_) (fun hQ => absurd am_n01 hQ)
  refine w103_16 rfl ?_
  refine w103_17 (L.2 _ _ _ rfl) ?_
  refine w103_20 rfl ?_
  refine w103_21 (k := c16 hh ?_)
  rw [hr.hn, am_mem7 hm n7]
  refine w103_24 (fun _ => ?_) (fun hQ => absurd am_n01 hQ)
  refine w103_30 rfl ?_
  refine w103_31 ?_
  refine w103_32 ?_
  refine w103_33 rfl ?_
  refine w103_34 ?_
  rw [am_seat]
  refine w103_35 ?_
  refine w103_37 rfl ?_
  refine w103_38 (L.2 _ _ _ rfl) ?_
  refine w103_41 (L.2 _ _ _ rfl) ?_
  refine w103_44 rfl ?_
  refine w103_46 (L.sh rfl) (am_in_nI (by omega) (by decide)) ?_
  rw [am_clN (by omega), e1]
  refine w103_47 ?_
  refine w103_49 rfl ?_
  refine w103_51 rfl ?_
  refine w103_52 (fun _ => ?_) (fun hQ => absurd hne hQ)
  refine w103_58 rfl ?_
  refine w103_59 (L.2 _ _ _ rfl) ?_
  refine w103_62 (L.2 _ _ _ rfl) ?_
  refine w103_65 rfl ?_
  refine w103_67 rfl ?_
  refine w103_68 (L.sh rfl) (am_in_nI (by omega) (by decide)) ?_
  rw [am_clN (by omega)]
  refine w103_69 rfl ?_
  refine w103_70 (L.2 _ _ _ rfl) ?_
  refine w103_73 ?_
  refine w103_74 rfl ?_
  refine w103_76 rfl ?_
  generalize hI1 : am_u I 68 (m * 5 + b) (nI w) = I1
  have er : ∀ a, a ≠ 68 → I1 a = I a := fun a ha => by rw [← hI1, am_u_ne ha]
  have e68 : ∀ j, j ≠ m * 5 + b → I1 68 j = I 68 j := fun j hj => by rw [← hI1, am_u_at hj]
  have z1 : I1 68 (m * 5 + b) = nI w := by rw [← hI1, am_u_self]
  have hr1 := hr_sw (kp' := g_sw kp (m * 5 + b) (nI w)) hr (by omega) hw er e68 z1 (fun j hj => if_neg hj) (if_pos rfl)
  refine w103_78 (k := cK L (by rw [er 90 (by decide)]; exact hu) u16 (by rw [er 91 (by decide)]; exact hPA) hr.mv n7 (Or.inr (Or.inr (Or.inl ⟨rfl, m * 5 + b, by omega, rfl⟩))) (un_sw (w := nI w) (by omega) rfl) (fun I2 g1 g2 g3 => ?_))
  refine w103_81 rfl ?_
  refine w103_83 ?_
  exact k I2 (fun a a1 a2 a3 => by rw [g1 a a2 a3, er a a1]) ⟨am_HR_cg 65 (fun a b1 b2 => g1 a (by omega) (by omega)) rfl hr1, g_m16 u16, g2, g3⟩
/-- doSway refused -/
theorem c103n (L : am_Lay S P) {x y z : Int32} (hr : am_HR I 65 kp n l s) (k1 : ¬ ((0 ≤ y ∧ y < 5) ∧ 0 ≤ z ∧ z ≤ 9) → Q (some (.int (-1))) (S, I, J, P)) (k2 : ((0 ≤ y ∧ y < 5) ∧ 0 ≤ z ∧ z ≤ 9) → ¬ (0 ≤ x ∧ x < nI n) → Q (some (.int (-2))) (S, I, J, P)) (k3 : ∀ m b, m < n → b < 5 → x = nI m → y = nI b → 0 ≤ z ∧ z ≤ 9 → kp (m * 5 + b) = z → Q (some (.int (-3))) (S, I, J, P)) (hno : ∀ m b, m < n → b < 5 → x = nI m → y = nI b → 0 ≤ z ∧ z ≤ 9 → kp (m * 5 + b) = z) : am_ev pr (d + 2) 103 [.ref 64, .int x, .int y, .int z] (S, I, J, P) Q := by
  have hh := L.h65
  have n7 := hr.n7
  show am_wp pr (d + 2) 103 0 [(0, .ref 64), (1, .int x), (2, .int y), (3, .int z)] [] _ _
  by_cases hy : 0 ≤ y ∧ y < 5
  · by_cases hz : 0 ≤ z ∧ z ≤ 9
    · by_cases hx : 0 ≤ x ∧ x < nI n
      · obtain ⟨m, hm, rfl⟩ := (am_pk7 x n7).resolve_right (fun q => q hx)
        obtain ⟨b, hb, rfl⟩ := (am_pk5 y).resolve_right (fun q => q hy)
        have e0 := hno m b hm hb rfl rfl hz
        have e1 : I 68 (m * 5 + b) = z := by rw [← e0]; exact hr.wa _ (by omega)
        refine w103_0 rfl ?_
        refine w103_1 (k := c18b hb ?_)
        refine w103_4 (fun hQ => absurd hQ am_n01) (fun _ => ?_)
        refine w103_7 rfl ?_
        refine w103_8 (k := c46 ?_)
        rw [am_b_t hz]
        refine w103_11 (fun _ => ?_) (fun hQ => absurd am_n01 hQ)
        refine w103_16 rfl ?_
        refine w103_17 (L.2 _ _ _ rfl) ?_
        refine w103_20 rfl ?_
        refine w103_21 (k := c16 hh ?_)
        rw [hr.hn, am_mem7 hm n7]
        refine w103_24 (fun _ => ?_) (fun hQ => absurd am_n01 hQ)
        refine w103_30 rfl ?_
        refine w103_31 ?_
        refine w103_32 ?_
        refine w103_33 rfl ?_
        refine w103_34 ?_
        rw [am_seat]
        refine w103_35 ?_
        refine w103_37 rfl ?_
        refine w103_38 (L.2 _ _ _ rfl) ?_
        refine w103_41 (L.2 _ _ _ rfl) ?_
        refine w103_44 rfl ?_
        refine w103_46 (L.sh rfl) (am_in_nI (by omega) (by decide)) ?_
        rw [am_clN (by omega), e1]
        refine w103_47 ?_
        refine w103_49 rfl ?_
        refine w103_51 rfl ?_
        refine w103_52 (fun hQ => absurd hQ (fun q => q rfl)) (fun _ => ?_)
        refine w103_55 ?_
        refine w103_57 ?_
        exact k3 m b hm hb rfl rfl hz e0
      · have h2 : ¬ (0 ≤ x ∧ x < I 65 0 ∧ x < 7) := fun q => hx ⟨q.1, by rw [← hr.hn]; exact q.2.1⟩
        refine w103_0 rfl ?_
        refine w103_1 (k := c18 ?_)
        rw [am_b_t hy]
        refine w103_4 (fun hQ => absurd hQ am_n01) (fun _ => ?_)
        refine w103_7 rfl ?_
        refine w103_8 (k := c46 ?_)
        rw [am_b_t hz]
        refine w103_11 (fun _ => ?_) (fun hQ => absurd am_n01 hQ)
        refine w103_16 rfl ?_
        refine w103_17 (L.2 _ _ _ rfl) ?_
        refine w103_20 rfl ?_
        refine w103_21 (k := c16 hh ?_)
        rw [am_b_f h2]
        refine w103_24 (fun hQ => absurd hQ (by decide)) (fun _ => ?_)
        refine w103_27 ?_
        refine w103_29 ?_
        exact k2 ⟨hy, hz⟩ hx
    · refine w103_0 rfl ?_
      refine w103_1 (k := c18 ?_)
      rw [am_b_t hy]
      refine w103_4 (fun hQ => absurd hQ am_n01) (fun _ => ?_)
      refine w103_7 rfl ?_
      refine w103_8 (k := c46 ?_)
      rw [am_b_f hz]
      refine w103_11 (fun hQ => absurd hQ (by decide)) (fun _ => ?_)
      refine w103_14 ?_
      refine w103_15 ?_
      exact k1 (fun q => hz q.2)
  · refine w103_0 rfl ?_
    refine w103_1 (k := c18 ?_)
    rw [am_b_f hy]
    refine w103_4 (fun _ => ?_) (fun hQ => absurd rfl hQ)
    refine w103_14 ?_
    refine w103_15 ?_
    exact k1 (fun q => hy q.1)
/-- swaysKept -/
theorem c255 (L : am_Lay S P) {m b w : Nat} (h : HM I kp lf u) (u16 : u ≤ 16) (hn : kp 73 = nI n) (n7 : n ≤ 7) (hm : m < n) (hb : b < 5) (hw : w ≤ 9) (hne : ¬ kp (m * 5 + b) = nI w) (k : ∀ I', (∀ a, a ≠ 124 → a ≠ 126 → a ≠ 141 → I' a = I a) → (∀ q, q ≠ 35 → I' 124 q = I 124 q) → HM I' (g_sw kp (m * 5 + b) (nI w)) (g_kp lf u kp 2) (g_m u + 1) → Q (some (.int (kp (m * 5 + b)))) (S, I', J, P)) : am_ev pr (d + 2) 255 [.ref 124, .int (nI m), .int (nI b), .int (nI w)] (S, I, J, P) Q := by
  have hm7 : m < 7 := by omega
  have hw9 : (0 ≤ nI w ∧ nI w ≤ 9) := ⟨nI_pos' (by omega), nI_le (b := 9) hw (by decide)⟩
  have eb : (0 : Int32) + 5 * nI m + nI b = nI (m * 5 + b) := by rw [am_0n, am_seat', Nat.mul_comm]
  show am_wp pr (d + 2) 255 0 [(0, .ref 124), (1, .int (nI m)), (2, .int (nI b)), (3, .int (nI w))] [] _ _
  refine w255_0 rfl ?_
  refine w255_1 (k := c177b hb ?_)
  refine w255_4 (fun hQ => absurd hQ am_n01) (fun _ => ?_)
  refine w255_7 rfl ?_
  refine w255_8 (k := c215 ?_)
  rw [am_b_t hw9]
  refine w255_11 (fun _ => ?_) (fun hQ => absurd am_n01 hQ)
  refine w255_16 rfl ?_
  refine w255_17 rfl ?_
  refine w255_18 (k := c174 L (by rw [h.1]; exact hn) n7 ?_)
  rw [am_memn hm n7]
  refine w255_21 (fun _ => ?_) (fun hQ => absurd am_n01 hQ)
  refine w255_27 rfl ?_
  refine w255_28 rfl ?_
  refine w255_29 rfl ?_
  refine w255_30 (k := c175 L hm7 hb ?_)
  rw [h.1]
  refine w255_33 ?_
  refine w255_35 rfl ?_
  refine w255_37 rfl ?_
  refine w255_38 (fun _ => ?_) (fun hQ => absurd hne hQ)
  refine w255_44 rfl ?_
  refine w255_45 ?_
  refine w255_46 (k := mK L h u16 (fun I1 g1 g2 g3 => ?_))
  refine w255_49 rfl ?_
  refine w255_50 (L.2 _ _ _ rfl) ?_
  refine w255_53 ?_
  refine w255_54 ?_
  refine w255_55 rfl ?_
  refine w255_56 ?_
  refine w255_57 ?_
  refine w255_58 rfl ?_
  refine w255_59 ?_
  rw [eb]
  refine w255_60 rfl ?_
  refine w255_61 (L.sh rfl) (am_in_nI (by omega) (by decide)) ?_
  rw [am_clN (by omega)]
  refine w255_62 rfl ?_
  refine w255_64 ?_
  refine k _ (fun a a1 a2 a3 => ?_) (fun q hq => ?_) ⟨?_, ?_, ?_⟩
  · rw [am_u_ne a2, g1 a a1 a3]
  · rw [am_u_ne (by decide), g2 q hq]
  · funext j
    rw [am_u_get, g3.1]
    unfold g_sw
    by_cases z : j = m * 5 + b
    · rw [if_pos ⟨rfl, z⟩, if_pos z]
    · rw [if_neg (fun q => z q.2), if_neg z]
  · rw [am_u_ne (by decide)]; exact g3.2.1
  · rw [am_u_ne (by decide)]; exact g3.2.2
theorem c255n (L : am_Lay S P) {x y z : Int32} (hk : I 126 = kp) (hn : kp 73 = nI n) (n7 : n ≤ 7) (k1 : ¬ ((0 ≤ y ∧ y < 5) ∧ 0 ≤ z ∧ z ≤ 9) → Q (some (.int (-1))) (S, I, J, P)) (k2 : ((0 ≤ y ∧ y < 5) ∧ 0 ≤ z ∧ z ≤ 9) → ¬ (0 ≤ x ∧ x < nI n) → Q (some (.int (-2))) (S, I, J, P)) (k3 : ∀ m b, m < n → b < 5 → x = nI m → y = nI b → 0 ≤ z ∧ z ≤ 9 → kp (m * 5 + b) = z → Q (some (.int (-3))) (S, I, J, P)) (hno : ∀ m b, m < n → b < 5 → x = nI m → y = nI b → 0 ≤ z ∧ z ≤ 9 → kp (m * 5 + b) = z) : am_ev pr (d + 2) 255 [.ref 124, .int x, .int y, .int z] (S, I, J, P) Q := by
  show am_wp pr (d + 2) 255 0 [(0, .ref 124), (1, .int x), (2, .int y), (3, .int z)] [] _ _
  have hn1 : I 126 73 = nI n := by rw [hk]; exact hn
  by_cases hy : 0 ≤ y ∧ y < 5
  · obtain ⟨b, hb, rfl⟩ := (am_pk5 y).resolve_right (fun q => q hy)
    by_cases hz : 0 ≤ z ∧ z ≤ 9
    · by_cases hx : 0 ≤ x ∧ x < nI n
      · obtain ⟨m, hm, rfl⟩ := (am_pk7 x n7).resolve_right (fun q => q hx)
        have e0 := hno m b hm hb rfl rfl hz
        have hm7 : m < 7 := by omega
        refine w255_0 rfl ?_
        refine w255_1 (k := c177b hb ?_)
        refine w255_4 (fun hQ => absurd hQ am_n01) (fun _ => ?_)
        refine w255_7 rfl ?_
        refine w255_8 (k := c215 ?_)
        rw [am_b_t hz]
        refine w255_11 (fun _ => ?_) (fun hQ => absurd am_n01 hQ)
        refine w255_16 rfl ?_
        refine w255_17 rfl ?_
        refine w255_18 (k := c174 L hn1 n7 ?_)
        rw [am_memn hm n7]
        refine w255_21 (fun _ => ?_) (fun hQ => absurd am_n01 hQ)
        refine w255_27 rfl ?_
        refine w255_28 rfl ?_
        refine w255_29 rfl ?_
        refine w255_30 (k := c175 L hm7 hb ?_)
        rw [hk, e0]
        refine w255_33 ?_
        refine w255_35 rfl ?_
        refine w255_37 rfl ?_
        refine w255_38 (fun hQ => absurd hQ (fun q => q rfl)) (fun _ => ?_)
        refine w255_41 ?_
        refine w255_43 ?_
        exact k3 m b hm hb rfl rfl hz e0
      · refine w255_0 rfl ?_
        refine w255_1 (k := c177b hb ?_)
        refine w255_4 (fun hQ => absurd hQ am_n01) (fun _ => ?_)
        refine w255_7 rfl ?_
        refine w255_8 (k := c215 ?_)
        rw [am_b_t hz]
        refine w255_11 (fun _ => ?_) (fun hQ => absurd am_n01 hQ)
        refine w255_16 rfl ?_
        refine w255_17 rfl ?_
        refine w255_18 (k := c174 L hn1 n7 ?_)
        rw [am_b_f hx]
        refine w255_21 (fun hQ => absurd hQ (by decide)) (fun _ => ?_)
        refine w255_24 ?_
        refine w255_26 ?_
        exact k2 ⟨hy, hz⟩ hx
    · refine w255_0 rfl ?_
      refine w255_1 (k := c177b hb ?_)
      refine w255_4 (fun hQ => absurd hQ am_n01) (fun _ => ?_)
      refine w255_7 rfl ?_
      refine w255_8 (k := c215 ?_)
      rw [am_b_f hz]
      refine w255_11 (fun hQ => absurd hQ (by decide)) (fun _ => ?_)
      refine w255_14 ?_
      refine w255_15 ?_
      exact k1 (fun q => hz q.2)
  · refine w255_0 rfl ?_
    refine w255_1 (k := c177 ?_)
    rw [am_b_f (am_ge5 hy)]
    refine w255_4 (fun _ => ?_) (fun hQ => absurd rfl hQ)
    refine w255_14 ?_
    refine w255_15 ?_
    exact k1 (fun q => hy q.1)
theorem un_pa {x : Int32} (n7 : n ≤ 7) (he : ∀ m, m < 32 → (am_bit x m = 1 ↔ m < n ∧ kp (35 + m) = 1)) (k01 : ∀ m, m < n → kp (35 + m) = 0 ∨ kp (35 + m) = 1) : ∀ j, j < 44 → kp j = am_un n 3 x 0 (g_pa kp n) j := by
  intro j hj
  unfold am_un g_pa
  rw [if_neg (by decide), if_neg (by decide), if_neg (by decide)]
  by_cases z : j = 43
  · rw [if_pos z, if_pos rfl, z, Int32.add_sub_cancel]
  · rw [if_neg z, if_neg z]
    by_cases y : 35 ≤ j ∧ j < 35 + n
    · rw [if_pos y]
      obtain ⟨m, rfl⟩ : ∃ m, j = 35 + m := ⟨j - 35, by omega⟩
      rw [show 35 + m - 35 = m by omega]
      have := he m (by omega)
      rcases k01 m (by omega) with q | q
      · rw [q] at this ⊢
        exact (am_bit_n0.mp (fun w => absurd (this.mp w).2 (by decide))).symm
      · rw [q] at this ⊢
        exact (this.mpr ⟨by omega, rfl⟩).symm
    · rw [if_neg y, if_neg y]
theorem hr_pa {I1 : Nat → Nat → Int32} {h v : Nat} (hr : am_HR I h kp n l s) (hv : v < 999) (hkv : kp 43 = nI v) (er : ∀ a, a ≠ h → a ≠ h + 1 + 3 → I1 a = I a) (eh : ∀ q, q ≠ 1 → I1 h q = I h q) (z1 : I1 h 1 = 1 <<< (nI n &&& 31) - 1) (e69 : ∀ q, q ≠ 0 → I1 (h + 1 + 3) q = I (h + 1 + 3) q) (z69 : I1 (h + 1 + 3) 0 = nI (v + 1)) (ek2 : ∀ j, j ≠ 43 → ¬ (35 ≤ j ∧ j < 35 + n) → kp' j = kp j) (zk : kp' 43 = nI (v + 1)) (zk2 : ∀ m, m < n → kp' (35 + m) = 1) : am_HR I1 h kp' n l s := by
  have n7 := hr.n7
  have s6 := hr.s6
  have ek : ∀ j, j < 35 ∨ j = 42 ∨ 43 < j → kp' j = kp j := fun j hj => ek2 j (by omega) (by omega)
  have e0 : I1 (h + 1 + 0) = I (h + 1 + 0) := er _ (by omega) (by omega)
  have e1 : I1 (h + 1 + 1) = I (h + 1 + 1) := er _ (by omega) (by omega)
  have e2 : I1 (h + 1 + 2) = I (h + 1 + 2) := er _ (by omega) (by omega)
  have e5 : I1 (h + 1 + 5) = I (h + 1 + 5) := er _ (by omega) (by omega)
  have e6 : I1 (h + 1 + 6) = I (h + 1 + 6) := er _ (by omega) (by omega)
  refine am_HR_mk ?_ ?_ ?_ ?_ ?_ ?_ ?_ ?_ ?_ ?_ ?_ ?_ ?_ ?_ ?_ ?_
  · exact ⟨n7, hr.l6, s6⟩
  · show I1 h 0 = nI n ∧ kp' 73 = nI n
    rw [eh 0 (by omega), ek 73 (by omega)]; exact hr 1
  · intro m hm
    show am_bit (I1 h 1) m = 1 ↔ m < n ∧ kp' (35 + m) = 1
    rw [z1, am_bit_all n m n7 hm]
    exact ⟨fun q => ⟨q, zk2 m q⟩, fun q => q.1⟩
  · exact fun m hm => Or.inr (zk2 m hm)
  · show I1 h 2 = kp' 42 ∧ ∃ x, x < 32 ∧ kp' 42 = nI x
    rw [eh 2 (by omega), ek 42 (by omega)]; exact hr 4
  · show I1 h 3 = nI l ∧ kp' 75 = nI l
    rw [eh 3 (by omega), ek 75 (by omega)]; exact hr 5
  · show I1 h 4 = kp' 76 ∧ (kp' 76 = -1 ∨ ∃ f, f < l ∧ kp' 76 = nI f)
    rw [eh 4 (by omega), ek 76 (by omega)]; exact hr 6
  · show I1 h 5 = nI s ∧ kp' 74 = nI s
    rw [eh 5 (by omega), ek 74 (by omega)]; exact hr 7
  · intro m hm
    show I1 (h + 1 + 0) m = kp' (44 + m) ∧ ∃ x, 1 ≤ x ∧ x ≤ 9 ∧ kp' (44 + m) = nI x
    rw [e0, ek (44 + m) (by omega)]; exact hr 8 m hm
  · intro m hm
    show I1 (h + 1 + 1) m = kp' (51 + m)
    rw [e1, ek (51 + m) (by omega)]; exact hr 9 m hm
  · intro j hj
    show I1 (h + 1 + 2) j = kp' j ∧ ∃ x, x ≤ 9 ∧ kp' j = nI x
    rw [e2, ek j (by omega)]; exact hr 10 j hj
  · show I1 (h + 1 + 3) 0 = kp' 43 ∧ ∃ x, x ≤ 999 ∧ kp' 43 = nI x
    rw [z69, zk]; exact ⟨rfl, v + 1, by omega, rfl⟩
  · show I1 (h + 1 + 3) 1 = kp' 70 ∧ ∃ x, x ≤ 10 ∧ kp' 70 = nI x
    rw [e69 1 (by omega), ek 70 (by omega)]; exact hr 12
  · show I1 (h + 1 + 3) 2 = kp' 71
    rw [e69 2 (by omega), ek 71 (by omega)]; exact hr 13
  · show I1 (h + 1 + 3) 3 = kp' 72 ∧ ∃ x, x ≤ 99 ∧ kp' 72 = nI x
    rw [e69 3 (by omega), ek 72 (by omega)]; exact hr 14
  · intro i hi
    show ∃ a b, a < 5 ∧ b < 5 ∧ I1 (h + 1 + 5) i = nI a ∧ kp' (58 + 2 * i) = nI a ∧ I1 (h + 1 + 6) i = nI b ∧ kp' (58 + 2 * i + 1) = nI b
    rw [e5, e6, ek (58 + 2 * i) (by omega), ek (58 + 2 * i + 1) (by omega)]; exact hr 15 i hi
theorem g_pa_k {v : Nat} (hkv : kp 43 = nI v) : (∀ j, j ≠ 43 → ¬ (35 ≤ j ∧ j < 35 + n) → g_pa kp n j = kp j) ∧ g_pa kp n 43 = nI (v + 1) ∧ (n ≤ 7 → ∀ m, m < n → g_pa kp n (35 + m) = 1) := by
  refine ⟨fun j h1 h2 => ?_, ?_, fun n7 m hm => ?_⟩
  · unfold g_pa
    rw [if_neg h1, if_neg h2]
  · unfold g_pa
    rw [if_pos rfl, hkv, nI_1]
  · unfold g_pa
    rw [if_neg (by omega), if_pos (by omega)]
/-- doPass -/
theorem c104 (L : am_Lay S P) {v : Nat} (h : HC I kp lf n l s u) (hkv : kp 43 = nI v) (hv : v < 999) (k : ∀ I', (∀ a, a ≠ 65 → a ≠ 69 → a ≠ 90 → a ≠ 91 → I' a = I a) → HC I' (g_pa kp n) (g_kp lf u kp 3) n l s (g_m u + 1) → Q (some (.int (nI n - m_hm kp n))) (S, I', J, P)) : am_ev pr (d + 2) 104 [.ref 64] (S, I, J, P) Q := by
  obtain ⟨hr, u16, hu, hPA⟩ := h
  have n7 := hr.n7
  have hh := L.h65
  have e69 : I 69 0 = nI v := by rw [← hkv]; exact hr.td
  show am_wp pr (d + 2) 104 0 [(0, .ref 64)] [] _ _
  refine w104_0 rfl ?_
  refine w104_1 (L.2 _ _ _ rfl) ?_
  refine w104_4 (L.2 _ _ _ rfl) ?_
  refine w104_7 ?_
  refine w104_8 (L.sh rfl) (by decide) ?_
  rw [tl_0, e69]
  refine w104_9 ?_
  refine w104_12 (fun _ => ?_) (fun hQ => absurd (nI_lt (b := 999) hv (by decide)) hQ)
  refine w104_18 rfl ?_
  refine w104_19 (L.2 _ _ _ rfl) ?_
  refine w104_22 ?_
  refine w104_25 ?_
  refine w104_26 rfl ?_
  refine w104_27 (L.2 _ _ _ rfl) ?_
  refine w104_30 (k := c105 hh (fun I0 hI0 => ?_))
  rw [show am_u I 69 0 (I 69 0 + 1) = am_u I 69 0 (nI (v + 1)) by rw [e69, nI_1]] at hI0
  have en : I0 65 0 = nI n := by rw [hI0, am_u_ne (by decide)]; exact hr.hn
  rw [en]
  generalize hI1 : am_u I0 65 1 (1 <<< (nI n &&& 31) - 1) = I1
  have er : ∀ a, a ≠ 65 → a ≠ 65 + 1 + 3 → I1 a = I a := fun a h1 h2 => by rw [← hI1, am_u_ne h1, hI0, am_u_ne h2]
  obtain ⟨z, hz, ez, eon⟩ := am_came2 n7 hr.he hr.k01
  obtain ⟨q1, q2, q3⟩ := g_pa_k (n := n) hkv
  have hr1 : am_HR I1 65 (g_pa kp n) n l s := hr_pa (v := v) hr hv hkv er (fun q hq => by rw [← hI1, am_u_at hq, hI0, am_u_ne (by decide)]) (by rw [← hI1, am_u_self]) (fun q hq => by rw [← hI1, am_u_ne (by decide), hI0, am_u_at hq]) (by rw [← hI1, am_u_ne (by decide), hI0, am_u_self]) q1 q2 (q3 n7)
  refine w104_33 rfl ?_
  refine w104_34 (L.2 _ _ _ rfl) ?_
  refine w104_37 ?_
  refine w104_38 rfl ?_
  refine w104_39 ?_
  refine w104_40 (k := cK L (by rw [er 90 (by decide) (by decide)]; exact hu) u16 (by rw [er 91 (by decide) (by decide)]; exact hPA) hr.mv n7 (Or.inr (Or.inr (Or.inr ⟨rfl, fun m h1 h2 => am_bit_n0.mp (fun y => absurd ((hr.he m h2).mp y).1 (by omega))⟩))) (un_pa n7 hr.he hr.k01) (fun I2 g1 g2 g3 => ?_))
  have e1 : I2 65 1 = 1 <<< (nI n &&& 31) - 1 := by rw [g1 65 (by decide) (by decide), ← hI1, am_u_self]
  refine w104_43 rfl ?_
  refine w104_44 (L.2 _ _ _ rfl) ?_
  refine w104_47 ?_
  rw [e1]
  refine w104_50 rfl ?_
  refine w104_51 ?_
  refine w104_52 ?_
  refine w104_53 ?_
  rw [ez]
  refine w104_54 (k := c23 hz ?_)
  rw [eon]
  refine w104_57 ?_
  exact k I2 (fun a a1 a2 a3 a4 => by rw [g1 a a3 a4, er a a1 a2]) ⟨am_HR_cg 65 (fun a b1 b2 => g1 a (by omega) (by omega)) rfl hr1, g_m16 u16, g2, g3⟩
theorem c104n (L : am_Lay S P) (hr : am_HR I 65 kp n l s) (hkv : kp 43 = nI 999) (k : Q (some (.int (-3))) (S, I, J, P)) : am_ev pr (d + 2) 104 [.ref 64] (S, I, J, P) Q := by
  have e69 : I 69 0 = nI 999 := by rw [← hkv]; exact hr.td
  show am_wp pr (d + 2) 104 0 [(0, .ref 64)] [] _ _
  refine w104_0 rfl ?_
  refine w104_1 (L.2 _ _ _ rfl) ?_
  refine w104_4 (L.2 _ _ _ rfl) ?_
  refine w104_7 ?_
  refine w104_8 (L.sh rfl) (by decide) ?_
  rw [tl_0, e69]
  refine w104_9 ?_
  refine w104_12 (fun hQ => absurd hQ (by decide)) (fun _ => ?_)
  refine w104_15 ?_
  refine w104_17 ?_
  exact k
/-- dayPasses -/
theorem c258 (L : am_Lay S P) (hk : I 126 = kp) (hn : kp 73 = nI n) (n7 : n ≤ 7) (k : ∀ I', (∀ a, a ≠ 126 → I' a = I a) → I' 126 = g_pa kp n → Q (some (.int (nI n - m_hm kp n))) (S, I', J, P)) : am_ev pr (d + 2) 258 [.ref 124] (S, I, J, P) Q := by
  have hn1 : I 126 73 = nI n := by rw [hk]; exact hn
  show am_wp pr (d + 2) 258 0 [(0, .ref 124)] [] _ _
  refine w258_0 rfl ?_
  refine w258_1 (k := c171 L ?_)
  rw [hn1]
  refine w258_4 rfl ?_
  refine w258_5 (k := c183 L hn1 n7 ?_)
  rw [hk]
  refine w258_8 ?_
  refine w258_9 ?_
  refine w258_10 ?_
  refine w258_11 ?_
  refine am_for (fun m => ∀ I' : Nat → Nat → Int32, (∀ a, a ≠ 126 → I' a = I a) → (∀ j, I' 126 j = if 35 ≤ j ∧ j < 35 + m then 1 else kp j) → ∀ lv, am_ld1 lv 0 = some (.ref 124) → am_ld1 lv 1 = some (.int (nI n - m_hm kp n)) → am_ld1 lv 2 = some (.int (nI m)) → am_wp pr (d + 2) 258 12 lv [] (S, I', J, P) Q) n ?_ ?_ I (fun _ _ => rfl) (fun j => by rw [if_neg (by omega), hk]) _ rfl rfl rfl
  · intro m hm ih I' h1 h2 lv l0 l1 l2
    have e73 : I' 126 73 = nI n := by rw [h2, if_neg (by omega)]; exact hn
    refine w258_12 l2 ?_
    refine w258_13 l0 ?_
    refine w258_14 (k := c171 L ?_)
    rw [e73]
    refine w258_17 (fun hQ => absurd hQ (am_nlt hm (by omega))) (fun _ => ?_)
    refine w258_20 l0 ?_
    refine w258_21 (L.2 _ _ _ rfl) ?_
    refine w258_24 ?_
    refine w258_26 l2 ?_
    refine w258_27 ?_
    rw [nz_a35]
    refine w258_28 ?_
    refine w258_29 (L.sh rfl) (am_in_nI (by omega) (by decide)) ?_
    rw [am_clN (by omega)]
    refine w258_30 l2 ?_
    refine w258_33 ?_
    refine ih _ (fun a ha => by rw [am_u_ne ha]; exact h1 a ha) (fun j => ?_) _ l0 l1 (am_nx m)
    rw [am_u_get, h2]
    by_cases z : j = 35 + m
    · rw [if_pos ⟨rfl, z⟩, if_pos (by omega)]
    · rw [if_neg (fun q => z q.2)]
      by_cases y : 35 ≤ j ∧ j < 35 + m
      · rw [if_pos y, if_pos (by omega)]
      · rw [if_neg y, if_neg (by omega)]
  · intro I' h1 h2 lv l0 l1 l2
    have e73 : I' 126 73 = nI n := by rw [h2, if_neg (by omega)]; exact hn
    have e43 : I' 126 43 = kp 43 := by rw [h2, if_neg (by omega)]
    refine w258_12 l2 ?_
    refine w258_13 l0 ?_
    refine w258_14 (k := c171 L ?_)
    rw [e73]
    refine w258_17 (fun _ => ?_) (fun hQ => absurd (Int32.le_refl _) hQ)
    refine w258_36 l0 ?_
    refine w258_37 (L.2 _ _ _ rfl) ?_
    refine w258_40 ?_
    refine w258_42 ⟨rfl, rfl⟩ ?_
    refine w258_43 (L.sh rfl) (by decide) ?_
    rw [tl_43, e43]
    refine w258_44 ?_
    refine w258_45 ?_
    refine w258_46 (L.sh rfl) (by decide) ?_
    rw [tl_43]
    refine w258_47 l1 ?_
    refine w258_48 ?_
    refine k _ (fun a ha => by rw [am_u_ne ha]; exact h1 a ha) ?_
    funext j
    rw [am_u_get, h2]
    unfold g_pa
    by_cases z : j = 43
    · rw [if_pos ⟨rfl, z⟩, if_pos z]
    · rw [if_neg (fun q => z q.2), if_neg z]
/-- passesKept -/
theorem c257 (L : am_Lay S P) {v : Nat} (h : HM I kp lf u) (u16 : u ≤ 16) (hn : kp 73 = nI n) (n7 : n ≤ 7) (hkv : kp 43 = nI v) (hv : v < 999) (k : ∀ I', (∀ a, a ≠ 124 → a ≠ 126 → a ≠ 141 → I' a = I a) → (∀ q, q ≠ 35 → I' 124 q = I 124 q) → HM I' (g_pa kp n) (g_kp lf u kp 3) (g_m u + 1) → Q (some (.int (nI n - m_hm kp n))) (S, I', J, P)) : am_ev pr (d + 3) 257 [.ref 124] (S, I, J, P) Q := by
  show am_wp pr (d + 3) 257 0 [(0, .ref 124)] [] _ _
  have e43 : I 126 43 = nI v := by rw [h.1]; exact hkv
  refine w257_0 rfl ?_
  refine w257_1 (L.2 _ _ _ rfl) ?_
  refine w257_4 ?_
  refine w257_6 (L.sh rfl) (by decide) ?_
  rw [tl_43, e43]
  refine w257_7 ?_
  refine w257_10 (fun _ => ?_) (fun hQ => absurd (nI_ne (b := 999) (by omega) (by omega) (by decide)) hQ)
  refine w257_16 rfl ?_
  refine w257_17 ?_
  refine w257_18 (k := mK L h u16 (fun I1 g1 g2 g3 => ?_))
  refine w257_21 rfl ?_
  refine w257_22 (k := c258 L g3.1 hn n7 (fun I2 g4 g5 => ?_))
  refine w257_25 ?_
  refine k I2 (fun a a1 a2 a3 => by rw [g4 a a2, g1 a a1 a3]) (fun q hq => by rw [g4 124 (by decide), g2 q hq]) ⟨g5, by rw [g4 124 (by decide)]; exact g3.2.1, by rw [g4 141 (by decide)]; exact g3.2.2⟩
theorem c257n (L : am_Lay S P) (hkv : I 126 43 = nI 999) (k : Q (some (.int (-3))) (S, I, J, P)) : am_ev pr (d + 3) 257 [.ref 124] (S, I, J, P) Q := by
  show am_wp pr (d + 3) 257 0 [(0, .ref 124)] [] _ _
  refine w257_0 rfl ?_
  refine w257_1 (L.2 _ _ _ rfl) ?_
  refine w257_4 ?_
  refine w257_6 (L.sh rfl) (by decide) ?_
  rw [tl_43, hkv]
  refine w257_7 ?_
  refine w257_10 (fun hQ => absurd hQ (fun q => q rfl)) (fun _ => ?_)
  refine w257_13 ?_
  refine w257_15 ?_
  exact k
end
