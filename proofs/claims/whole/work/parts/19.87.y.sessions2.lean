/-! sessions: one day, by both -/
section
variable {pr : am_Pr} {d : Nat} {S : List (Nat × Nat)} {I I' : Nat → Nat → Int32} {J : Nat → Nat → Int64} {P : Nat → Nat → Option Nat} {Q : Option Value → am_H → Prop} {n l s u tp : Nat} {kp lf kp' : Nat → Int32} {lw : Option (Nat × List Cl)} {lv0 : Option (List Cl)}
/-- holdSession -/
theorem c154 (L : am_Lay S P) (hh : am_Hs S P 81) {a v : Nat} (hr : am_HR I 81 kp n l s) (n0 : 0 < n) (hx : am_lw S I P (P 86) kp l (kp 76) lw) (hs : I 64 12 = nI a) (ha : a < 1000003) (hkv : kp 43 = nI v) (hv : v < 999) (k : ∀ I' J', (∀ q, q ≠ 64 → ¬ (81 ≤ q ∧ q ≤ 88) → ¬ (109 ≤ q ∧ q ≤ 113) → q ≠ 118 → q ≠ 119 → I' q = I q) → (∀ q, q ≠ 12 → I' 64 q = I 64 q) → I' 64 12 = nI (z_a (z_a (z_a (z_a a)))) → am_HR I' 81 (z_st kp n (lw.map Prod.snd) a) n l s → Q none (S, I', J', P)) : am_ev pr (d + 6) 154 [.ref 64] (S, I, J, P) Q := by
  have n7 := hr.n7
  have l6 := hr.l6
  have p1 := z_a_lt a
  have p2 := z_a_lt (z_a a)
  have p3 := z_a_lt (z_a (z_a a))
  have p4 := z_a_lt (z_a (z_a (z_a a)))
  show am_wp pr (d + 6) 154 0 [(0, .ref 64)] [] _ _
  refine w154_0 rfl ?_
  refine w154_1 rfl ?_
  refine w154_2 (L.2 _ _ _ rfl) ?_
  refine w154_5 ?_
  rw [hr.hn]
  refine w154_8 (k := c155b L hs ha n0 (by omega) ?_)
  refine w154_11 ?_
  refine w154_12 rfl ?_
  refine w154_13 ?_
  refine w154_14 (k := c155b (m := 5) L am_u_self p1 (by decide) (by decide) ?_)
  refine w154_17 ?_
  refine w154_18 rfl ?_
  refine w154_19 ?_
  refine w154_21 (k := c155b (m := 10) L am_u_self p2 (by decide) (by decide) ?_)
  refine w154_24 ?_
  refine w154_25 rfl ?_
  refine w154_26 ?_
  refine w154_27 (k := c155b (m := 4) L am_u_self p3 (by decide) (by decide) ?_)
  refine w154_30 ?_
  have hm : z_a a % n < n := Nat.mod_lt _ n0
  have hb : z_a (z_a a) % 5 < 5 := Nat.mod_lt _ (by decide)
  have hw : z_a (z_a (z_a a)) % 10 < 10 := Nat.mod_lt _ (by decide)
  have hq : z_a (z_a (z_a (z_a a))) % 4 < 4 := Nat.mod_lt _ (by decide)
  unfold z_st at k
  generalize hI0 : am_u (am_u (am_u (am_u I 64 12 (nI (z_a a))) 64 12 (nI (z_a (z_a a)))) 64 12 (nI (z_a (z_a (z_a a))))) 64 12 (nI (z_a (z_a (z_a (z_a a))))) = I0
  have er0 : ∀ a, a ≠ 64 → I0 a = I a := fun a ha => by rw [← hI0, am_u_ne ha, am_u_ne ha, am_u_ne ha, am_u_ne ha]
  have e64 : ∀ q, q ≠ 12 → I0 64 q = I 64 q := fun q hq => by rw [← hI0, am_u_at hq, am_u_at hq, am_u_at hq, am_u_at hq]
  have z64 : I0 64 12 = nI (z_a (z_a (z_a (z_a a)))) := by rw [← hI0, am_u_self]
  clear hI0 p1 p2 p3 p4 ha hs
  generalize z_a (z_a (z_a (z_a a))) = a4 at *
  generalize z_a a % n = m at *
  generalize z_a (z_a a) % 5 = b at *
  generalize z_a (z_a (z_a a)) % 10 = w at *
  generalize a4 % 4 = q at *
  have hr0 : am_HR I0 81 kp n l s := am_HR_cg 81 (fun a b1 b2 => er0 a (by omega)) rfl hr
  have hm7 : m < 7 := by omega
  have fin : ∀ (I5 : Nat → Nat → Int32) (J5 : Nat → Nat → Int64), (∀ q, ¬ (81 ≤ q ∧ q ≤ 88) → ¬ (109 ≤ q ∧ q ≤ 113) → q ≠ 118 → q ≠ 119 → I5 q = I0 q) → am_HR I5 81 (z_k kp n (lw.map Prod.snd) m b w q) n l s → ∀ lv, am_ld1 lv 0 = some (.ref 64) → am_wp pr (d + 6) 154 130 lv [] (S, I5, J5, P) Q := by
    intro I5 J5 f1 hr5 lv l0
    have ev : z_k kp n (lw.map Prod.snd) m b w q 43 = nI v := (z_k_44 hm7 hb (by omega)).trans hkv
    have e84 : I5 85 0 = nI v := hr5.td.trans ev
    refine w154_130 l0 ?_
    refine w154_131 (L.2 _ _ _ rfl) ?_
    refine w154_134 (k := c105 hh (fun I6 hI6 => ?_))
    rw [show am_u I5 (81 + 1 + 3) 0 (I5 (81 + 1 + 3) 0 + 1) = am_u I5 85 0 (nI (v + 1)) by rw [show I5 (81 + 1 + 3) 0 = nI v from e84, nI_1]] at hI6
    have en : I6 81 0 = nI n := by rw [hI6, am_u_ne (by decide)]; exact hr5.hn
    rw [en]
    generalize hI7 : am_u I6 81 1 (1 <<< (nI n &&& 31) - 1) = I7
    have er : ∀ a, a ≠ 81 → a ≠ 81 + 1 + 3 → I7 a = I5 a := fun a h1 h2 => by rw [← hI7, am_u_ne h1, hI6, am_u_ne h2]
    obtain ⟨q1, q2, q3⟩ := g_pa_k (n := n) ev
    have hr7 : am_HR I7 81 (g_pa (z_k kp n (lw.map Prod.snd) m b w q) n) n l s := hr_pa (v := v) hr5 hv ev er (fun q hq => by rw [← hI7, am_u_at hq, hI6, am_u_ne (by decide)]) (by rw [← hI7, am_u_self]) (fun q hq => by rw [← hI7, am_u_ne (by decide), hI6, am_u_at hq]) (by rw [← hI7, am_u_ne (by decide), hI6, am_u_self]) q1 q2 (q3 n7)
    have e6 : I7 64 = I0 64 := by rw [er 64 (by decide) (by decide), f1 64 (by decide) (by decide) (by decide) (by decide)]
    refine w154_137 ?_
    exact k I7 J5 (fun a a1 a2 a3 a4 a5 => by rw [er a (by omega) (by omega), f1 a a2 a3 a4 a5, er0 a a1]) (fun q hq => by rw [e6, e64 q hq]) (by rw [e6, z64]) hr7
  obtain ⟨m1, m2, m3, m4⟩ := hr0.mv
  by_cases h0 : q = 0
  · have ek : z_k kp n (lw.map Prod.snd) m b w q = g_sw kp (m * 5 + b) (nI w) := if_pos h0
    refine w154_32 rfl ?_
    refine w154_34 (fun hQ => absurd hQ (fun z => z (by rw [h0]; rfl))) (fun _ => ?_)
    refine w154_37 rfl ?_
    refine w154_38 (L.2 _ _ _ rfl) ?_
    refine w154_41 rfl ?_
    refine w154_42 rfl ?_
    refine w154_43 rfl ?_
    refine w154_44 (k := c156 hh hr0.hn n7 hm hb ?_)
    refine w154_47 ?_
    refine fin _ J (fun a a1 _ _ _ => by rw [am_u_ne (by omega)]) ?_ _ rfl
    rw [ek]
    refine hr_mv hr0 (fun a _ a2 _ => am_u_ne a2) (fun q _ _ => by rw [am_u_ne (by decide)]) (fun q _ => by rw [am_u_ne (by decide)]) (fun j hj => if_neg (by omega)) ⟨fun i hi => ?_, ?_, ?_, fun j hj => ?_⟩ (fun i hi => ?_) ?_ (fun j hj => ?_) ?_
    · rw [show g_sw kp (m * 5 + b) (nI w) (35 + i) = kp (35 + i) from if_neg (by omega)]; exact m1 i hi
    · rw [show g_sw kp (m * 5 + b) (nI w) 42 = kp 42 from if_neg (by omega)]; exact m2
    · rw [show g_sw kp (m * 5 + b) (nI w) 43 = kp 43 from if_neg (by omega)]; exact m3
    · by_cases z : j = m * 5 + b
      · exact ⟨w, by omega, if_pos z⟩
      · rw [show g_sw kp (m * 5 + b) (nI w) j = kp j from if_neg z]; exact m4 j hj
    · rw [am_u_ne (by decide), show g_sw kp (m * 5 + b) (nI w) (35 + i) = kp (35 + i) from if_neg (by omega)]; exact hr0.he i hi
    · rw [am_u_ne (by decide), show g_sw kp (m * 5 + b) (nI w) 42 = kp 42 from if_neg (by omega)]; exact hr0.st
    · by_cases z : j = m * 5 + b
      · rw [z, am_u_self]; exact (if_pos rfl).symm
      · rw [am_u_at z, show g_sw kp (m * 5 + b) (nI w) j = kp j from if_neg z]; exact hr0.wa j hj
    · rw [am_u_ne (by decide), show g_sw kp (m * 5 + b) (nI w) 43 = kp 43 from if_neg (by omega)]; exact hr0.td
  · have t0 : ¬ nI q = 0 := fun z => h0 ((nI_eq (a := q) (b := 0) (by omega) (by omega)).mp z)
    by_cases h1 : q = 1
    · have ek : z_k kp n (lw.map Prod.snd) m b w q = g_go kp m := (if_neg h0).trans (if_pos h1)
      have k01 := hr.k01 m hm
      have e10 : (1 : Int32) - 0 = 1 := by decide
      have e11 : (1 : Int32) - 1 = 0 := by decide
      refine w154_32 rfl ?_
      refine w154_34 (fun _ => ?_) (fun hQ => absurd t0 hQ)
      refine w154_50 rfl ?_
      refine w154_52 ?_
      refine w154_53 (fun hQ => absurd hQ (fun z => z (by rw [h1]; rfl))) (fun _ => ?_)
      refine w154_56 rfl ?_
      refine w154_57 (L.2 _ _ _ rfl) ?_
      refine w154_60 rfl ?_
      refine w154_61 ?_
      refine w154_64 ?_
      refine w154_65 rfl ?_
      refine w154_66 ?_
      refine w154_67 ?_
      refine w154_68 ?_
      refine w154_71 ?_
      refine fin _ J (fun a a1 _ _ _ => by rw [am_u_ne (by omega)]) ?_ _ rfl
      rw [ek]
      have gx : ∀ j, j ≠ 35 + m → g_go kp m j = kp j := fun j hj => if_neg hj
      have gm : g_go kp m (35 + m) = 1 - kp (35 + m) := if_pos rfl
      refine hr_mv hr0 (fun a a1 _ _ => am_u_ne a1) (fun q q1 _ => am_u_at q1) (fun q _ => by rw [am_u_ne (by decide)]) (fun j hj => gx j (by omega)) ⟨fun i hi => ?_, ?_, ?_, fun j hj => ?_⟩ (fun i hi => ?_) ?_ (fun j hj => ?_) ?_
      · by_cases z : i = m
        · rw [z, gm]
          rcases k01 with y | y
          · rw [y]; exact Or.inr e10
          · rw [y]; exact Or.inl e11
        · rw [gx _ (by omega)]; exact m1 i hi
      · rw [gx 42 (by omega)]; exact m2
      · rw [gx 43 (by omega)]; exact m3
      · rw [gx j (by omega)]; exact m4 j hj
      · rw [am_u_self, am_bit_xor hi, am_bit_sh1 (by omega) hi, hr0.he i hi]
        by_cases z : i = m
        · subst z
          rw [gm]
          rcases k01 with y | y
          · rw [y, e10]
            exact ⟨fun _ => ⟨hm, rfl⟩, fun _ w => absurd (w.mpr rfl).2 (by decide)⟩
          · rw [y, e11]
            exact ⟨fun w => absurd ⟨fun _ => rfl, fun _ => ⟨hm, rfl⟩⟩ w, fun w => absurd w.2 (by decide)⟩
        · rw [gx _ (by omega)]
          exact ⟨fun w => Decidable.not_not.mp (fun v => w ⟨fun t => absurd t v, fun t => absurd t z⟩), fun w v => z (v.mp w)⟩
      · rw [am_u_at (by decide), gx 42 (by omega)]; exact hr0.st
      · rw [am_u_ne (by decide), gx j (by omega)]; exact hr0.wa j hj
      · rw [am_u_ne (by decide), gx 43 (by omega)]; exact hr0.td
    · have t1 : ¬ nI q = 1 := fun z => h1 ((nI_eq (a := q) (b := 1) (by omega) (by omega)).mp z)
      have hx0 : am_lw S I0 P (P 86) kp l (kp 76) lw := am_lw_cg l6 (fun a ha => er0 a (by omega)) (fun _ _ => rfl) hx
      refine w154_32 rfl ?_
      refine w154_34 (fun _ => ?_) (fun hQ => absurd t0 hQ)
      refine w154_50 rfl ?_
      refine w154_52 ?_
      refine w154_53 (fun _ => ?_) (fun hQ => absurd t1 hQ)
      refine w154_74 rfl ?_
      refine w154_75 (L.2 _ _ _ rfl) ?_
      refine w154_78 rfl ?_
      refine w154_79 (L.2 _ _ _ rfl) ?_
      refine w154_82 rfl ?_
      refine w154_83 (L.2 _ _ _ rfl) ?_
      refine w154_86 rfl ?_
      refine w154_87 (L.2 _ _ _ rfl) ?_
      refine w154_90 ?_
      rw [hr0.hf]
      refine w154_93 (k := c21L hh hr0 hx0 ?_)
      refine w154_96 rfl ?_
      refine w154_97 (hv1 := am_rf_cat _) (k := c22b L hh hr0 (by decide) hx0.good hb (fun I1 J1 f1 f2 f3 f4 => ?_))
      have g0 := m_can_ld kp n (lw.map Prod.snd) (n * 5)
      have end_ : I1 109 2 = kp 72 := by rw [f2.2.2]; exact hr0.tn
      have e1 : t_vo (I1 110) (I1 113 b) b = m_vN (m_can kp n (lw.map Prod.snd)) kp n b := b_on f3 g0 n7 hb
      have e2 : t_vo (I1 110) (t_fa (I1 111) (I1 113 b) b) b = g_vF kp n (lw.map Prod.snd) b := b_for f3 g0 n7 hb
      have hca : (t_nd (I1 109 2) (t_vo (I1 110) (I1 113 b) b) ≤ t_vo (I1 110) (t_fa (I1 111) (I1 113 b) b) b) ↔ g_ca kp n (lw.map Prod.snd) b := by
        unfold g_ca
        rw [end_, e1, e2]
      have hr1 : am_HR I1 81 kp n l s := am_HR_cg 81 (fun a h1 h2 => f1 a (Or.inl (by omega))) rfl hr0
      have f0 : ∀ q, ¬ (109 ≤ q ∧ q ≤ 113) → q ≠ 118 → q ≠ 119 → I1 q = I0 q := fun q q1 q2 q3 => f1 q (by omega)
      by_cases hc : g_ca kp n (lw.map Prod.snd) b
      · have ek : z_k kp n (lw.map Prod.snd) m b w q = g_put kp b := ((if_neg h0).trans (if_neg h1)).trans (if_pos hc)
        have e3 : I1 81 2 = kp 42 := hr1.st
        refine w154_100 rfl ?_
        refine w154_101 (L.2 _ _ _ rfl) ?_
        refine w154_104 rfl ?_
        refine w154_105 ?_
        rw [e3]
        refine w154_108 rfl ?_
        refine w154_109 (L.2 _ _ _ rfl) ?_
        refine w154_112 rfl ?_
        refine w154_113 (k := c33 L hb ?_)
        rw [am_b_t (hca.mpr hc)]
        refine w154_116 (fun hQ => absurd hQ (by decide)) (fun _ => ?_)
        refine w154_119 ?_
        refine w154_120 rfl ?_
        refine w154_121 ?_
        refine w154_122 ?_
        refine w154_126 ?_
        refine w154_127 ?_
        refine fin _ J1 (fun a a1 a2 a3 a4 => by rw [am_u_ne (by omega), f0 a a2 a3 a4]) ?_ _ rfl
        rw [ek]
        obtain ⟨x, hx1, hx2⟩ := m2
        obtain ⟨y, hy1, hy2⟩ := pu_32 x hx1 b hb
        have gx : ∀ j, j ≠ 42 → g_put kp b j = kp j := fun j hj => if_neg hj
        have gm : g_put kp b 42 = kp 42 ^^^ (1 <<< (nI b &&& 31)) := if_pos rfl
        refine hr_mv hr1 (fun a a1 _ _ => am_u_ne a1) (fun q _ q2 => am_u_at q2) (fun q _ => by rw [am_u_ne (by decide)]) (fun j hj => gx j (by omega)) ⟨fun i hi => ?_, ?_, ?_, fun j hj => ?_⟩ (fun i hi => ?_) ?_ (fun j hj => ?_) ?_
        · rw [gx _ (by omega)]; exact m1 i hi
        · exact ⟨y, hy1, by rw [gm, hx2]; exact hy2⟩
        · rw [gx 43 (by decide)]; exact m3
        · rw [gx j (by omega)]; exact m4 j hj
        · rw [am_u_at (by decide), hr1.he i hi]
          by_cases z : i < n
          · rw [gx _ (by omega)]
          · exact ⟨fun q => absurd q.1 z, fun q => absurd q.1 z⟩
        · rw [am_u_self, gm]
        · rw [am_u_ne (by decide), gx j (by omega)]; exact hr1.wa j hj
        · rw [am_u_ne (by decide), gx 43 (by decide)]; exact hr1.td
      · have ek : z_k kp n (lw.map Prod.snd) m b w q = kp := ((if_neg h0).trans (if_neg h1)).trans (if_neg hc)
        refine w154_100 rfl ?_
        refine w154_101 (L.2 _ _ _ rfl) ?_
        refine w154_104 rfl ?_
        refine w154_105 ?_
        refine w154_108 rfl ?_
        refine w154_109 (L.2 _ _ _ rfl) ?_
        refine w154_112 rfl ?_
        refine w154_113 (k := c33 L hb ?_)
        rw [am_b_f (fun q => hc (hca.mp q))]
        refine w154_116 (fun _ => ?_) (fun hQ => absurd rfl hQ)
        refine w154_125 ?_
        refine w154_126 ?_
        rw [Int32.xor_zero]
        refine w154_127 ?_
        rw [am_u_same rfl]
        exact fin I1 J1 (fun a a1 a2 a3 a4 => f0 a a2 a3 a4) (by rw [ek]; exact hr1) _ rfl
/-- sessionDay -/
theorem c299 (L : am_Lay S P) {a : Nat} (hk : I 126 = kp) (hn : kp 73 = nI n) (n7 : n ≤ 7) (n0 : 0 < n) (hlw : m_lw kp lv0) (hs : I 124 49 = nI a) (ha : a < 1000003) (k : ∀ I', (∀ q, q ≠ 124 → q ≠ 126 → q ≠ 136 → ¬ (138 ≤ q ∧ q ≤ 140) → I' q = I q) → (∀ q, (q < 22 ∨ 25 < q) → q ≠ 49 → I' 124 q = I 124 q) → I' 124 49 = nI (z_a (z_a (z_a (z_a a)))) → I' 126 = z_st kp n lv0 a → Q none (S, I', J, P)) : am_ev pr (d + 46) 299 [.ref 124] (S, I, J, P) Q := by
  have pp : a < 1000003 ∧ True := ⟨ha, trivial⟩
  clear ha
  have hn1 : I 126 73 = nI n := by rw [hk]; exact hn
  show am_wp pr (d + 46) 299 0 [(0, .ref 124)] [] _ _
  refine w299_0 rfl ?_
  refine w299_1 rfl ?_
  refine w299_2 (k := c171 L ?_)
  rw [hn1]
  refine w299_5 (k := c300 L hs pp.1 n0 (by omega) ?_)
  refine w299_8 ?_
  refine w299_9 rfl ?_
  refine w299_10 ?_
  refine w299_11 (k := c300 (m := 5) L am_u_self (z_a_lt _) (by decide) (by decide) ?_)
  refine w299_14 ?_
  refine w299_15 rfl ?_
  refine w299_16 ?_
  refine w299_18 (k := c300 (m := 10) L am_u_self (z_a_lt _) (by decide) (by decide) ?_)
  refine w299_21 ?_
  refine w299_22 rfl ?_
  refine w299_23 ?_
  refine w299_24 (k := c300 (m := 4) L am_u_self (z_a_lt _) (by decide) (by decide) ?_)
  refine w299_27 ?_
  have hm : z_a a % n < n := Nat.mod_lt _ n0
  have hb : z_a (z_a a) % 5 < 5 := Nat.mod_lt _ (by decide)
  have hq : z_a (z_a (z_a (z_a a))) % 4 < 4 := Nat.mod_lt _ (by decide)
  unfold z_st at k
  generalize hI0 : am_u (am_u (am_u (am_u I 124 49 (nI (z_a a))) 124 49 (nI (z_a (z_a a)))) 124 49 (nI (z_a (z_a (z_a a))))) 124 49 (nI (z_a (z_a (z_a (z_a a))))) = I0
  have er0 : ∀ a, a ≠ 124 → I0 a = I a := fun a ha => by rw [← hI0, am_u_ne ha, am_u_ne ha, am_u_ne ha, am_u_ne ha]
  have e64 : ∀ q, q ≠ 49 → I0 124 q = I 124 q := fun q hq => by rw [← hI0, am_u_at hq, am_u_at hq, am_u_at hq, am_u_at hq]
  have z64 : I0 124 49 = nI (z_a (z_a (z_a (z_a a)))) := by rw [← hI0, am_u_self]
  have hk0 : I0 126 = kp := by rw [er0 126 (by decide)]; exact hk
  clear hI0 pp hs
  generalize z_a (z_a (z_a (z_a a))) = a4 at *
  generalize z_a a % n = m at *
  generalize z_a (z_a a) % 5 = b at *
  generalize z_a (z_a (z_a a)) % 10 = w at *
  generalize a4 % 4 = q at *
  have hm7 : m < 7 := by omega
  have fin : ∀ I5 : Nat → Nat → Int32, (∀ q, q ≠ 124 → q ≠ 126 → q ≠ 136 → ¬ (138 ≤ q ∧ q ≤ 140) → I5 q = I0 q) → (∀ q, (q < 22 ∨ 25 < q) → I5 124 q = I0 124 q) → I5 126 = z_k kp n lv0 m b w q → ∀ lv, am_ld1 lv 0 = some (.ref 124) → am_wp pr (d + 46) 299 100 lv [] (S, I5, J, P) Q := by
    intro I5 f1 f2 f3 lv l0
    have e73 : z_k kp n lv0 m b w q 73 = nI n := (z_k_44 hm7 hb (by omega)).trans hn
    refine w299_100 l0 ?_
    refine w299_101 (k := c258 L f3 e73 n7 (fun I6 g1 g2 => ?_))
    refine w299_104 rfl ?_
    refine w299_105 ?_
    exact k I6 (fun q q1 q2 q3 q4 => by rw [g1 q q2, f1 q q1 q2 q3 q4, er0 q q1]) (fun q q1 q2 => by rw [g1 124 (by decide), f2 q q1, e64 q q2]) (by rw [g1 124 (by decide), f2 49 (by omega), z64]) g2
  by_cases h0 : q = 0
  · have ek : z_k kp n lv0 m b w q = g_sw kp (m * 5 + b) (nI w) := if_pos h0
    have eb : (0 : Int32) + 5 * nI m + nI b = nI (m * 5 + b) := by rw [am_0n, am_seat', Nat.mul_comm]
    refine w299_29 rfl ?_
    refine w299_31 (fun hQ => absurd hQ (fun z => z (by rw [h0]; rfl))) (fun _ => ?_)
    refine w299_34 rfl ?_
    refine w299_35 (L.2 _ _ _ rfl) ?_
    refine w299_38 ?_
    refine w299_39 ?_
    refine w299_40 rfl ?_
    refine w299_41 ?_
    refine w299_42 ?_
    refine w299_43 rfl ?_
    refine w299_44 ?_
    rw [eb]
    refine w299_45 rfl ?_
    refine w299_46 (L.sh rfl) (am_in_nI (by omega) (by decide)) ?_
    rw [am_clN (by omega)]
    refine w299_47 rfl ?_
    refine w299_49 ?_
    refine w299_50 (fun _ => ?_) (fun hQ => absurd (fun z => absurd ((nI_eq (a := q) (b := 1) (by omega) (by omega)).mp z) (by omega)) hQ)
    refine w299_73 rfl ?_
    refine w299_75 ?_
    refine w299_76 (fun _ => ?_) (fun hQ => absurd (nI_le (b := 1) (by omega) (by decide)) hQ)
    refine fin _ (fun q _ q2 _ _ => by rw [am_u_ne q2]) (fun q _ => by rw [am_u_ne (by decide)]) ?_ _ rfl
    rw [ek]
    funext j
    rw [am_u_get, hk0]
    unfold g_sw
    by_cases z : j = m * 5 + b
    · rw [if_pos ⟨rfl, z⟩, if_pos z]
    · rw [if_neg (fun q => z q.2), if_neg z]
  · have t0 : ¬ nI q = 0 := fun z => h0 ((nI_eq (a := q) (b := 0) (by omega) (by omega)).mp z)
    by_cases h1 : q = 1
    · have ek : z_k kp n lv0 m b w q = g_go kp m := (if_neg h0).trans (if_pos h1)
      refine w299_29 rfl ?_
      refine w299_31 (fun _ => ?_) (fun hQ => absurd t0 hQ)
      refine w299_47 rfl ?_
      refine w299_49 ?_
      refine w299_50 (fun hQ => absurd hQ (fun z => z (by rw [h1]; rfl))) (fun _ => ?_)
      refine w299_53 rfl ?_
      refine w299_54 (L.2 _ _ _ rfl) ?_
      refine w299_57 ?_
      refine w299_59 rfl ?_
      refine w299_60 ?_
      rw [nz_a35]
      refine w299_61 ?_
      refine w299_62 rfl ?_
      refine w299_63 (L.2 _ _ _ rfl) ?_
      refine w299_66 ?_
      refine w299_68 rfl ?_
      refine w299_69 ?_
      rw [nz_a35]
      refine w299_70 (L.sh rfl) (am_in_nI (by omega) (by decide)) ?_
      rw [am_clN (by omega), hk0]
      refine w299_71 ?_
      refine w299_72 (L.sh rfl) (am_in_nI (by omega) (by decide)) ?_
      rw [am_clN (by omega)]
      refine w299_73 rfl ?_
      refine w299_75 ?_
      refine w299_76 (fun _ => ?_) (fun hQ => absurd (nI_le (b := 1) (by omega) (by decide)) hQ)
      refine fin _ (fun q _ q2 _ _ => by rw [am_u_ne q2]) (fun q _ => by rw [am_u_ne (by decide)]) ?_ _ rfl
      rw [ek]
      funext j
      rw [am_u_get, hk0]
      unfold g_go
      by_cases z : j = 35 + m
      · rw [if_pos ⟨rfl, z⟩, if_pos z]
      · rw [if_neg (fun q => z q.2), if_neg z]
    · have t1 : ¬ nI q = 1 := fun z => h1 ((nI_eq (a := q) (b := 1) (by omega) (by omega)).mp z)
      refine w299_29 rfl ?_
      refine w299_31 (fun _ => ?_) (fun hQ => absurd t0 hQ)
      refine w299_47 rfl ?_
      refine w299_49 ?_
      refine w299_50 (fun _ => ?_) (fun hQ => absurd t1 hQ)
      refine w299_73 rfl ?_
      refine w299_75 ?_
      refine w299_76 (fun hQ => absurd hQ (am_nlt (show 1 < q by omega) (by omega))) (fun _ => ?_)
      refine w299_79 rfl ?_
      refine w299_80 rfl ?_
      refine w299_81 (k := c249 L hk0 hn n7 hlw hb (fun hc I2 g1 g2 => ?_) (fun hc I2 g1 g2 => ?_))
      · have ek : z_k kp n lv0 m b w q = g_put kp b := ((if_neg h0).trans (if_neg h1)).trans (if_pos hc)
        have k2 : I2 126 = kp := by rw [g1.1 126 (by decide) (by decide) (by decide) (by decide) (by decide)]; exact hk0
        refine w299_84 (fun hQ => absurd hQ (by decide)) (fun _ => ?_)
        refine w299_87 rfl ?_
        refine w299_88 (L.2 _ _ _ rfl) ?_
        refine w299_91 ?_
        refine w299_93 ⟨rfl, rfl⟩ ?_
        refine w299_94 (L.sh rfl) (by decide) ?_
        rw [tl_42, k2]
        refine w299_95 ?_
        refine w299_96 rfl ?_
        refine w299_97 ?_
        refine w299_98 ?_
        refine w299_99 (L.sh rfl) (by decide) ?_
        rw [tl_42]
        refine fin _ (fun q q1 q2 q3 q4 => by rw [am_u_ne q2, g1.1 q q1 q3 (by omega) (by omega) (by omega)]) (fun q hq => by rw [am_u_ne (by decide), g1.2 q hq]) ?_ _ rfl
        rw [ek]
        funext j
        rw [am_u_get, k2]
        unfold g_put
        by_cases z : j = 42
        · rw [if_pos ⟨rfl, z⟩, if_pos z]
        · rw [if_neg (fun q => z q.2), if_neg z]
      · have ek : z_k kp n lv0 m b w q = kp := ((if_neg h0).trans (if_neg h1)).trans (if_neg hc)
        have k2 : I2 126 = kp := by rw [g1.1 126 (by decide) (by decide) (by decide) (by decide) (by decide)]; exact hk0
        refine w299_84 (fun _ => ?_) (fun hQ => absurd rfl hQ)
        exact fin I2 (fun q q1 q2 q3 q4 => g1.1 q q1 q3 (by omega) (by omega) (by omega)) (fun q hq => g1.2 q hq) (by rw [ek]; exact k2) _ rfl
end
