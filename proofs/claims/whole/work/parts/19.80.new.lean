/-! hands: bills put; both sides' calls of all of them; votes taken back -/
section
variable {pr : am_Pr} {d : Nat} {S : List (Nat × Nat)} {I : Nat → Nat → Int32} {J : Nat → Nat → Int64} {P : Nat → Nat → Option Nat} {Q : Option Value → am_H → Prop} {n l s u tp : Nat} {kp lf kp' : Nat → Int32} {lw : Option (Nat × List Cl)} {lv0 : Option (List Cl)}
theorem am_xx (x y : Int32) : x ^^^ y ^^^ y = x := by
  rw [Int32.xor_assoc, Int32.xor_self, Int32.xor_zero]
theorem un_pu {b : Nat} (hb : b < 5) : ∀ j, j < 44 → kp j = am_un n 0 (nI b) 0 (g_put kp b) j := by
  intro j hj
  unfold am_un g_put
  rw [if_pos rfl]
  by_cases z : j = 42
  · rw [if_pos z, if_pos rfl, am_xx, z]
  · rw [if_neg z, if_neg z]
theorem pu_32 : ∀ x, x < 32 → ∀ b, b < 5 → ∃ y, y < 32 ∧ nI x ^^^ (1 <<< (nI b &&& 31)) = nI y := by
  have h : (List.range 32).all (fun x => (List.range 5).all (fun b => decide ((nI x ^^^ (1 <<< (nI b &&& 31))).toNatClampNeg < 32) && decide (nI x ^^^ (1 <<< (nI b &&& 31)) = nI ((nI x ^^^ (1 <<< (nI b &&& 31))).toNatClampNeg)))) = true := by decide +kernel
  intro x hx b hb
  have q := List.all_eq_true.mp (List.all_eq_true.mp h x (List.mem_range.mpr hx)) b (List.mem_range.mpr hb)
  simp only [Bool.and_eq_true, decide_eq_true_eq] at q
  exact ⟨_, q.1, q.2⟩
theorem hr_pu {I1 : Nat → Nat → Int32} {b : Nat} (hr : am_HR I 65 kp n l s) (hb : b < 5) (er : ∀ a, a ≠ 65 → I1 a = I a) (eh : ∀ q, q ≠ 2 → I1 65 q = I 65 q) (z1 : I1 65 2 = I 65 2 ^^^ (1 <<< (nI b &&& 31))) (ek : ∀ j, j ≠ 42 → kp' j = kp j) (zk : kp' 42 = kp 42 ^^^ (1 <<< (nI b &&& 31))) : am_HR I1 65 kp' n l s := by
  have n7 := hr.n7
  obtain ⟨x, hx, ex⟩ := hr.ks
  obtain ⟨y, hy, ey⟩ := pu_32 x hx b hb
  refine am_HR_mk ?_ ?_ ?_ ?_ ?_ ?_ ?_ ?_ ?_ ?_ ?_ ?_ ?_ ?_ ?_ ?_
  · exact ⟨hr.n7, hr.l6, hr.s6⟩
  · show I1 65 0 = nI n ∧ kp' 73 = nI n
    rw [eh 0 (by omega), ek 73 (by omega)]
    exact hr 1
  · intro mq hmq
    by_cases hmz : mq < n
    · show am_bit (I1 65 1) mq = 1 ↔ mq < n ∧ kp' (35 + mq) = 1
      rw [eh 1 (by omega), ek (35 + mq) (by omega)]
      exact hr 2 mq hmq
    · show am_bit (I1 65 1) mq = 1 ↔ mq < n ∧ kp' (35 + mq) = 1
      rw [eh 1 (by omega), hr.he mq hmq]
      exact ⟨fun q => absurd q.1 hmz, fun q => absurd q.1 hmz⟩
  · intro mq hmq
    show kp' (35 + mq) = 0 ∨ kp' (35 + mq) = 1
    rw [ek (35 + mq) (by omega)]
    exact hr 3 mq hmq
  · show I1 65 2 = kp' 42 ∧ ∃ x, x < 32 ∧ kp' 42 = nI x
    rw [z1, zk, hr.st]
    exact ⟨rfl, y, hy, by rw [ex]; exact ey⟩
  · show I1 65 3 = nI l ∧ kp' 75 = nI l
    rw [eh 3 (by omega), ek 75 (by omega)]
    exact hr 5
  · show I1 65 4 = kp' 76 ∧ (kp' 76 = -1 ∨ ∃ f, f < l ∧ kp' 76 = nI f)
    rw [eh 4 (by omega), ek 76 (by omega)]
    exact hr 6
  · show I1 65 5 = nI s ∧ kp' 74 = nI s
    rw [eh 5 (by omega), ek 74 (by omega)]
    exact hr 7
  · intro mq hmq
    show I1 66 mq = kp' (44 + mq) ∧ ∃ x, 1 ≤ x ∧ x ≤ 9 ∧ kp' (44 + mq) = nI x
    rw [er 66 (by omega), ek (44 + mq) (by omega)]
    exact hr 8 mq hmq
  · intro mq hmq
    show I1 67 mq = kp' (51 + mq)
    rw [er 67 (by omega), ek (51 + mq) (by omega)]
    exact hr 9 mq hmq
  · intro jq hjq
    show I1 68 jq = kp' jq ∧ ∃ x, x ≤ 9 ∧ kp' jq = nI x
    rw [er 68 (by omega), ek jq (by omega)]
    exact hr 10 jq hjq
  · show I1 69 0 = kp' 43 ∧ ∃ x, x ≤ 999 ∧ kp' 43 = nI x
    rw [er 69 (by omega), ek 43 (by omega)]
    exact hr 11
  · show I1 69 1 = kp' 70 ∧ ∃ x, x ≤ 10 ∧ kp' 70 = nI x
    rw [er 69 (by omega), ek 70 (by omega)]
    exact hr 12
  · show I1 69 2 = kp' 71
    rw [er 69 (by omega), ek 71 (by omega)]
    exact hr 13
  · show I1 69 3 = kp' 72 ∧ ∃ x, x ≤ 99 ∧ kp' 72 = nI x
    rw [er 69 (by omega), ek 72 (by omega)]
    exact hr 14
  · intro iq hiq
    have hs6 := hr.s6
    show ∃ a b, a < 5 ∧ b < 5 ∧ I1 71 iq = nI a ∧ kp' (58 + 2 * iq) = nI a ∧ I1 72 iq = nI b ∧ kp' (58 + 2 * iq + 1) = nI b
    rw [er 71 (by omega), er 72 (by omega), ek (58 + 2 * iq) (by omega), ek (58 + 2 * iq + 1) (by omega)]
    exact hr 15 iq hiq
/-- doPut -/
theorem c100 (L : am_Lay S P) {b : Nat} (h : HC I kp lf n l s u) (hx : am_lw S I P (P 70) kp l (kp 76) lw) (hb : b < 5) (k1 : g_ca kp n (lw.map Prod.snd) b → ∀ I' J', (∀ a, a ≠ 65 → a ≠ 90 → a ≠ 91 → ¬ (109 ≤ a ∧ a ≤ 113) → a ≠ 118 → a ≠ 119 → I' a = I a) → HC I' (g_put kp b) (g_kp lf u kp 0) n l s (g_m u + 1) → Q (some (.int (g_vF kp n (lw.map Prod.snd) b))) (S, I', J', P)) (k2 : ¬ g_ca kp n (lw.map Prod.snd) b → ∀ I' J', tb_fr I I' → Q (some (.int (-3))) (S, I', J', P)) : am_ev pr (d + 5) 100 [.ref 64, .int (nI b)] (S, I, J, P) Q := by
  obtain ⟨hr, u16, hu, hPA⟩ := h
  have n7 := hr.n7
  have hh := L.h65
  show am_wp pr (d + 5) 100 0 [(0, .ref 64), (1, .int (nI b))] [] _ _
  refine w100_0 rfl ?_
  refine w100_1 (k := c18b hb ?_)
  refine w100_4 (fun _ => ?_) (fun hQ => absurd am_n01 hQ)
  refine w100_9 rfl ?_
  refine w100_10 (L.2 _ _ _ rfl) ?_
  refine w100_13 rfl ?_
  refine w100_14 (L.2 _ _ _ rfl) ?_
  refine w100_17 rfl ?_
  refine w100_18 (L.2 _ _ _ rfl) ?_
  refine w100_21 rfl ?_
  refine w100_22 (L.2 _ _ _ rfl) ?_
  refine w100_25 ?_
  rw [hr.hf]
  refine w100_28 (k := c21L hh hr hx ?_)
  refine w100_31 rfl ?_
  refine w100_32 (hv1 := am_rf_cat _) (k := c22b L hh hr (by decide) hx.good hb (fun I1 J1 f1 f2 f3 f4 => ?_))
  have g0 := m_can_ld kp n (lw.map Prod.snd) (n * 5)
  have end_ : I1 109 2 = kp 72 := by rw [f2.2.2]; exact hr.tn
  have e1 : t_vo (I1 110) (I1 113 b) b = m_vN (m_can kp n (lw.map Prod.snd)) kp n b := b_on f3 g0 n7 hb
  have e2 : t_vo (I1 110) (t_fa (I1 111) (I1 113 b) b) b = g_vF kp n (lw.map Prod.snd) b := b_for f3 g0 n7 hb
  have hca : (t_nd (I1 109 2) (t_vo (I1 110) (I1 113 b) b) ≤ t_vo (I1 110) (t_fa (I1 111) (I1 113 b) b) b) ↔ g_ca kp n (lw.map Prod.snd) b := by
    unfold g_ca
    rw [end_, e1, e2]
  by_cases hc : g_ca kp n (lw.map Prod.snd) b
  · refine w100_35 rfl ?_
    refine w100_36 (L.2 _ _ _ rfl) ?_
    refine w100_39 rfl ?_
    refine w100_40 (k := c33 L hb ?_)
    rw [am_b_t (hca.mpr hc)]
    refine w100_43 (fun _ => ?_) (fun hQ => absurd am_n01 hQ)
    refine w100_49 rfl ?_
    refine w100_50 (L.2 _ _ _ rfl) ?_
    refine w100_53 rfl ?_
    refine w100_54 ?_
    refine w100_57 ?_
    refine w100_58 rfl ?_
    refine w100_59 ?_
    refine w100_60 ?_
    refine w100_61 ?_
    refine w100_64 rfl ?_
    refine w100_65 (L.2 _ _ _ rfl) ?_
    refine w100_68 ?_
    refine w100_69 rfl ?_
    refine w100_70 ?_
    generalize hI2 : am_u I1 65 2 (I1 65 2 ^^^ (1 <<< (nI b &&& 31))) = I2
    have er : ∀ a, a ≠ 65 → I2 a = I1 a := fun a ha => by rw [← hI2, am_u_ne ha]
    have hr1 : am_HR I1 65 kp n l s := am_HR_cg 65 (fun a h1 h2 => f1 a (Or.inl (by omega))) rfl hr
    have hr2 := hr_pu (kp' := g_put kp b) hr1 hb er (fun q hq => by rw [← hI2, am_u_at hq]) (by rw [← hI2, am_u_self]) (fun j hj => if_neg hj) (if_pos rfl)
    refine w100_71 (k := cK (kp' := g_put kp b) L (by rw [er 90 (by decide), f1 90 (Or.inl (by decide))]; exact hu) u16 (by rw [er 91 (by decide), f1 91 (Or.inl (by decide))]; exact hPA) hr.mv n7 (Or.inl ⟨rfl, b, hb, rfl⟩) (un_pu hb) (fun I3 g1 g2 g3 => ?_))
    have e3 : t_vo (I3 110) (t_fa (I3 111) (I3 113 b) b) b = g_vF kp n (lw.map Prod.snd) b := by
      rw [g1 110 (by decide) (by decide), g1 111 (by decide) (by decide), g1 113 (by decide) (by decide), er 110 (by decide), er 111 (by decide), er 113 (by decide)]
      exact e2
    refine w100_74 rfl ?_
    refine w100_75 (L.2 _ _ _ rfl) ?_
    refine w100_78 rfl ?_
    refine w100_79 (k := c30 L hb ?_)
    rw [e3]
    refine w100_82 ?_
    exact k1 hc I3 J1 (fun a a1 a2 a3 a4 a5 a6 => by rw [g1 a a2 a3, er a a1, f1 a (by omega)]) ⟨am_HR_cg 65 (fun a b1 b2 => g1 a (by omega) (by omega)) rfl hr2, g_m16 u16, g2, g3⟩
  · refine w100_35 rfl ?_
    refine w100_36 (L.2 _ _ _ rfl) ?_
    refine w100_39 rfl ?_
    refine w100_40 (k := c33 L hb ?_)
    rw [am_b_f (fun q => hc (hca.mp q))]
    refine w100_43 (fun hQ => absurd hQ (by decide)) (fun _ => ?_)
    refine w100_46 ?_
    refine w100_48 ?_
    exact k2 hc I1 J1 f1
theorem c100n {x : Int32} (hx : ¬ (0 ≤ x ∧ x < 5)) (k : Q (some (.int (-1))) (S, I, J, P)) : am_ev pr (d + 2) 100 [.ref 64, .int x] (S, I, J, P) Q := by
  show am_wp pr (d + 2) 100 0 [(0, .ref 64), (1, .int x)] [] _ _
  refine w100_0 rfl ?_
  refine w100_1 (k := c18 ?_)
  rw [am_b_f hx]
  refine w100_4 (fun hQ => absurd hQ (by decide)) (fun _ => ?_)
  refine w100_7 ?_
  refine w100_8 ?_
  exact k
/-- carriesNow -/
theorem c249 (L : am_Lay S P) {b : Nat} (hk : I 126 = kp) (hn : kp 73 = nI n) (n7 : n ≤ 7) (hlw : m_lw kp lv0) (hb : b < 5) (k1 : g_ca kp n lv0 b → ∀ I2, m_f2 I I2 → m_ld I2 kp n lv0 (n * 5) → Q (some (.int 1)) (S, I2, J, P)) (k2 : ¬ g_ca kp n lv0 b → ∀ I2, m_f2 I I2 → m_ld I2 kp n lv0 (n * 5) → Q (some (.int 0)) (S, I2, J, P)) : am_ev pr (d + 45) 249 [.ref 124, .int (nI b)] (S, I, J, P) Q := by
  show am_wp pr (d + 45) 249 0 [(0, .ref 124), (1, .int (nI b))] [] _ _
  refine w249_0 rfl ?_
  refine w249_1 (k := c178 L hk hn n7 hlw (fun I2 f2 g => ?_))
  have e126 : I2 126 = kp := by rw [f2.1 126 (by decide) (by decide) (by decide) (by decide) (by decide)]; exact hk
  have hn2 : I2 126 73 = nI n := by rw [e126]; exact hn
  have g0 := m_can_ld kp n lv0 (n * 5)
  have hca : (t_nd (kp 72) (m_vN I2 kp n b) ≤ m_vF I2 kp n b) ↔ g_ca kp n lv0 b := by
    unfold g_ca g_vF
    rw [m_vN_c g g0 n7 hb, m_vF_c g g0 n7 hb]
  by_cases hc : g_ca kp n lv0 b
  · have e1 : am_b (t_nd (kp 72) (m_vo (I2 138) n b (m_of kp (I2 140) n b (1 <<< (nI n &&& 31) - 1))) ≤ m_vo (I2 138) n b (m_fa kp (I2 140) (I2 139) n b (1 <<< (nI n &&& 31) - 1))) = 1 := am_b_t (hca.mpr hc)
    refine w249_4 rfl ?_
    refine w249_5 rfl ?_
    refine w249_6 rfl ?_
    refine w249_7 (k := c200 L ?_)
    rw [hn2]
    refine w249_10 (k := c206 L hn2 n7 hb ?_)
    rw [e126, e1]
    refine w249_13 (by first | rfl | exact am_narrow_b _) ?_
    exact k1 hc I2 f2 g
  · have e1 : am_b (t_nd (kp 72) (m_vo (I2 138) n b (m_of kp (I2 140) n b (1 <<< (nI n &&& 31) - 1))) ≤ m_vo (I2 138) n b (m_fa kp (I2 140) (I2 139) n b (1 <<< (nI n &&& 31) - 1))) = 0 := am_b_f (fun q => hc (hca.mp q))
    refine w249_4 rfl ?_
    refine w249_5 rfl ?_
    refine w249_6 rfl ?_
    refine w249_7 (k := c200 L ?_)
    rw [hn2]
    refine w249_10 (k := c206 L hn2 n7 hb ?_)
    rw [e126, e1]
    refine w249_13 (by first | rfl | exact am_narrow_b _) ?_
    exact k2 hc I2 f2 g
/-- putsKept -/
theorem c248 (L : am_Lay S P) {b : Nat} (h : HM I kp lf u) (u16 : u ≤ 16) (hn : kp 73 = nI n) (n7 : n ≤ 7) (hlw : m_lw kp lv0) (hb : b < 5) (k1 : g_ca kp n lv0 b → ∀ I', (∀ a, a ≠ 124 → a ≠ 126 → a ≠ 141 → a ≠ 136 → ¬ (138 ≤ a ∧ a ≤ 140) → I' a = I a) → (∀ q, (q < 22 ∨ 25 < q) → q ≠ 35 → I' 124 q = I 124 q) → HM I' (g_put kp b) (g_kp lf u kp 0) (g_m u + 1) → Q (some (.int (g_vF kp n lv0 b))) (S, I', J, P)) (k2 : ¬ g_ca kp n lv0 b → ∀ I', m_f2 I I' → Q (some (.int (-3))) (S, I', J, P)) : am_ev pr (d + 46) 248 [.ref 124, .int (nI b)] (S, I, J, P) Q := by
  obtain ⟨hk, hu, hlf⟩ := h
  have g0 := m_can_ld kp n lv0 (n * 5)
  show am_wp pr (d + 46) 248 0 [(0, .ref 124), (1, .int (nI b))] [] _ _
  refine w248_0 rfl ?_
  refine w248_1 (k := c177b hb ?_)
  refine w248_4 (fun _ => ?_) (fun hQ => absurd am_n01 hQ)
  refine w248_9 rfl ?_
  refine w248_10 rfl ?_
  refine w248_11 (k := c249 L hk hn n7 hlw hb (fun hc I2 f2 g => ?_) (fun hc I2 f2 g => ?_))
  · have e126 : I2 126 = kp := by rw [f2.1 126 (by decide) (by decide) (by decide) (by decide) (by decide)]; exact hk
    have hn2 : I2 126 73 = nI n := by rw [e126]; exact hn
    have hM2 : HM I2 kp lf u := ⟨e126, by rw [f2.2 35 (by omega)]; exact hu, by rw [f2.1 141 (by decide) (by decide) (by decide) (by decide) (by decide)]; exact hlf⟩
    have ev : m_vo (I2 138) n b (m_fa kp (I2 140) (I2 139) n b (1 <<< (nI n &&& 31) - 1)) = g_vF kp n lv0 b := m_vF_c g g0 n7 hb
    refine w248_14 (fun _ => ?_) (fun hQ => absurd am_n01 hQ)
    refine w248_20 rfl ?_
    refine w248_21 rfl ?_
    refine w248_22 rfl ?_
    refine w248_23 (k := c200 L ?_)
    rw [hn2]
    refine w248_26 (k := c201 L hn2 n7 hb ?_)
    rw [e126, ev]
    refine w248_29 ?_
    refine w248_30 rfl ?_
    refine w248_31 ?_
    refine w248_32 (k := mK L hM2 u16 (fun I3 g1 g2 g3 => ?_))
    have e42 : I3 126 42 = kp 42 := by rw [g3.1]
    refine w248_35 rfl ?_
    refine w248_36 (L.2 _ _ _ rfl) ?_
    refine w248_39 ?_
    refine w248_41 ⟨rfl, rfl⟩ ?_
    refine w248_42 (L.sh rfl) (by decide) ?_
    rw [tl_42, e42]
    refine w248_43 ?_
    refine w248_44 rfl ?_
    refine w248_45 ?_
    refine w248_46 ?_
    refine w248_47 (L.sh rfl) (by decide) ?_
    rw [tl_42]
    refine w248_48 rfl ?_
    refine w248_49 ?_
    refine k1 hc _ (fun a a1 a2 a3 a4 a5 => ?_) (fun q hq hq2 => ?_) ⟨?_, ?_, ?_⟩
    · rw [am_u_ne a2, g1 a a1 a3, f2.1 a a1 a4 (by omega) (by omega) (by omega)]
    · rw [am_u_ne (by decide), g2 q hq2, f2.2 q hq]
    · funext j
      rw [am_u_get, g3.1]
      unfold g_put
      by_cases z : j = 42
      · rw [if_pos ⟨rfl, z⟩, if_pos z]
      · rw [if_neg (fun q => z q.2), if_neg z]
    · rw [am_u_ne (by decide)]; exact g3.2.1
    · rw [am_u_ne (by decide)]; exact g3.2.2
  · refine w248_14 (fun hQ => absurd hQ (by decide)) (fun _ => ?_)
    refine w248_17 ?_
    refine w248_19 ?_
    exact k2 hc I2 f2
theorem c248n {x : Int32} (hx : ¬ (0 ≤ x ∧ x < 5)) (k : Q (some (.int (-1))) (S, I, J, P)) : am_ev pr (d + 2) 248 [.ref 124, .int x] (S, I, J, P) Q := by
  show am_wp pr (d + 2) 248 0 [(0, .ref 124), (1, .int x)] [] _ _
  refine w248_0 rfl ?_
  refine w248_1 (k := c177 ?_)
  rw [am_b_f (am_ge5 hx)]
  refine w248_4 (fun hQ => absurd hQ (by decide)) (fun _ => ?_)
  refine w248_7 ?_
  refine w248_8 ?_
  exact k
theorem am_R.hc (r : am_R S I P n l s u tp) : HC I (I 126) (I 141) n l s u := ⟨r.hr, r.past.1, r.past.2.1, r.past.2.2.2⟩
theorem am_R.hm (r : am_R S I P n l s u tp) : HM I (I 126) (I 141) u := ⟨rfl, r.past.2.2.1, fun _ _ _ _ => rfl⟩
/-- both have done the same -/
theorem am_R_hands {I' : Nat → Nat → Int32} {u' : Nat} (r : am_R S I P n l s u tp) (hC : HC I' kp' lf n l s u') (hM : HM I' kp' lf u') (k77 : ∀ j, 77 ≤ j → kp' j = I 126 j) (e : ∀ a, 149 ≤ a ∨ a = 94 ∨ a = 95 ∨ a = 96 ∨ a = 131 ∨ a = 123 ∨ a = 125 ∨ a = 81 ∨ a = 84 ∨ a = 148 ∨ a = 127 ∨ a = 128 ∨ a = 130 → I' a = I a) (e64 : I' 64 13 = I 64 13 ∧ I' 64 14 = I 64 14 ∧ I' 64 16 = 0) (e124 : I' 124 0 = 0 ∧ I' 124 6 = I 124 6 ∧ I' 124 13 = I 124 13 ∧ I' 124 14 = I 124 14 ∧ I' 124 40 = I 124 40 ∧ I' 124 48 = I 124 48) : am_R S I' P n l s u' tp := by
  obtain ⟨c1, c2, c3, c4⟩ := hC
  obtain ⟨m1, m2, m3⟩ := hM
  refine am_R_tk r e (fun j hj => by rw [m1]; exact k77 j hj) e64 e124 (by rw [m1]; exact c1) ⟨c2, c3, m2, ?_⟩
  rw [m1]
  exact am_PA_lf c1.n7 m3 c4
end
