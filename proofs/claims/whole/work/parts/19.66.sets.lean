/-! both sides' calls: a law compared, the best bill, rings -/
def m_f4 (I I' : Nat → Nat → Int32) : Prop := (∀ a, a ≠ 124 → a ≠ 136 → ¬ (138 ≤ a ∧ a ≤ 140) → ¬ (143 ≤ a ∧ a ≤ 145) → I' a = I a) ∧ ∀ q, (q < 22 ∨ 25 < q) → I' 124 q = I 124 q
theorem m_f2.f4 {I I' : Nat → Nat → Int32} (h : m_f2 I I') : m_f4 I I' := ⟨fun a h1 h2 h3 _ => h.1 a h1 h2 (by omega) (by omega) (by omega), h.2⟩
theorem m_f3.f4 {I I' : Nat → Nat → Int32} (h : m_f3 I I') : m_f4 I I' := ⟨fun a h1 h2 h3 h4 => h.1 a h1 h2 (by omega) (by omega) (by omega) (by omega), h.2⟩
theorem m_f4.tr {I I1 I2 : Nat → Nat → Int32} (h : m_f4 I I1) (h2 : m_f4 I1 I2) : m_f4 I I2 := ⟨fun a q1 q2 q3 q4 => (h2.1 a q1 q2 q3 q4).trans (h.1 a q1 q2 q3 q4), fun q hq => (h2.2 q hq).trans (h.2 q hq)⟩
theorem m_f4_0 (I : Nat → Nat → Int32) : m_f4 I I := ⟨fun _ _ _ _ _ => rfl, fun _ _ => rfl⟩
theorem m_f4_r {I I' : Nat → Nat → Int32} {b : Nat} (hb : 143 ≤ b ∧ b ≤ 145) (h : ∀ a, a ≠ b → I' a = I a) : m_f4 I I' := ⟨fun a _ _ _ h4 => h a (by omega), fun q _ => by rw [h 124 (by omega)]⟩
theorem m_f4.ps {I I' : Nat → Nat → Int32} (h : m_f4 I I') : am_ps I I' := by
  have e : ∀ a, a ≠ 124 → am_pers a ∨ a = 64 ∨ a = 96 → I' a = I a := fun a z q => h.1 a z (by unfold am_pers at q; omega) (by unfold am_pers at q; omega) (by unfold am_pers at q; omega)
  refine ⟨fun a q => e a (by unfold am_pers at q; omega) (Or.inl q), ?_, ⟨?_, ?_, ?_⟩, h.2 0 (by omega), h.2 6 (by omega), h.2 13 (by omega), h.2 14 (by omega), h.2 35 (by omega), h.2 40 (by omega), h.2 48 (by omega)⟩
  · rw [e 96 (by decide) (by omega)]
  · rw [e 64 (by decide) (by omega)]
  · rw [e 64 (by decide) (by omega)]
  · rw [e 64 (by decide) (by omega)]
theorem am_ps_of {I I' : Nat → Nat → Int32} (e : ∀ a, a ≠ 124 → am_pers a ∨ a = 64 ∨ a = 96 → I' a = I a) (h : ∀ q, (q < 22 ∨ 25 < q) → I' 124 q = I 124 q) : am_ps I I' := by
  refine ⟨fun a q => e a (by unfold am_pers at q; omega) (Or.inl q), ?_, ⟨?_, ?_, ?_⟩, h 0 (by omega), h 6 (by omega), h 13 (by omega), h 14 (by omega), h 35 (by omega), h 40 (by omega), h 48 (by omega)⟩
  · rw [e 96 (by decide) (by omega)]
  · rw [e 64 (by decide) (by omega)]
  · rw [e 64 (by decide) (by omega)]
  · rw [e 64 (by decide) (by omega)]
/-- one bill beats another one -/
abbrev m_bt (I : Nat → Nat → Int32) (kp : Nat → Int32) (n a b : Nat) : Prop := a ≠ b ∧ m_va kp (I 140) (I 138) (I 139) n b a < m_va kp (I 140) (I 138) (I 139) n a b
theorem m_bt_as {I : Nat → Nat → Int32} {kp : Nat → Int32} {n a b : Nat} (h : m_bt I kp n a b) : ¬ m_bt I kp n b a := fun q => absurd h.2 (Int32.not_lt.mpr (Int32.le_of_lt q.2))
theorem am_HR_kp {I : Nat → Nat → Int32} {h n l s : Nat} {kp kp' : Nat → Int32} (r : am_HR I h kp n l s) (e : ∀ j, j ≠ 76 → kp' j = kp j) (m b : Nat) (lw : Option (List Cl)) : (m < 7 → b < 5 → a_sp kp' n lw m b = a_sp kp n lw m b ∧ a_va kp' n lw m b = a_va kp n lw m b ∧ a_ba kp' n lw m b = a_ba kp n lw m b) := by
  intro hm hb
  have n7 := r.n7
  have e1 : m_hm kp' n = m_hm kp n := am_it_congr (fun q a hq => by rw [e _ (by omega)]) _
  have e2 : a_env kp' n m b = a_env kp n m b := by
    funext c j
    unfold a_env
    rw [e1, e (51 + m) (by omega), e (m * 5 + b) (by omega), e 42 (by omega), e 71 (by omega), e (44 + m) (by omega), e 43 (by omega)]
  cases lw with
  | none => exact ⟨e _ (by omega), e _ (by omega), rfl⟩
  | some xs =>
    refine ⟨?_, ?_, ?_⟩
    · show e_tell (a_env kp' n m b) 1 xs (kp' (44 + m)) = _
      rw [e2, e _ (by omega)]
      rfl
    · show e_tell (a_env kp' n m b) 2 xs (kp' (m * 5 + b)) = _
      rw [e2, e _ (by omega)]
      rfl
    · show e_tell (a_env kp' n m b) 3 xs 0 = _
      rw [e2]
      rfl
section
variable {pr : am_Pr} {d : Nat} {S : List (Nat × Nat)} {I : Nat → Nat → Int32} {J : Nat → Nat → Int64} {P : Nat → Nat → Option Nat} {Q : Option Value → am_H → Prop} {n l s u tp : Nat} {kp : Nat → Int32} {lw : Option (Nat × List Cl)} {lv0 : Option (List Cl)}
theorem am_lw_x {x : Int32} (r : am_R S I P n l s u tp) (hx : x = -1 ∨ ∃ f, f < l ∧ x = nI f) : ∃ lw, am_lw S I P (P 70) (I 126) l x lw := am_lw_ex (r 2) hx
/-- compare -/
theorem op_34 (r : am_R S I P n l s u tp) {x : Int32} : am_op pr (d + 60) S I J P 152 [.ref 64, .int x] 277 [.ref 124, .int x] := by
  have hr := r.hr
  have n7 := hr.n7
  have l6 := hr.l6
  have L := r.L
  have hh := L.h65
  have hl1 : I 126 75 - 1 = nI l - 1 := by rw [hr.kl]
  by_cases hxx : x = -1 ∨ ∃ f, f < l ∧ x = nI f
  · obtain ⟨lw, hlw⟩ := am_lw_x r hxx
    have hz : -1 ≤ x ∧ x ≤ I 126 75 - 1 := by
      rw [hl1]
      rcases hxx with rfl | ⟨f, hf, rfl⟩
      · refine ⟨Int32.le_refl _, ?_⟩
        rcases (show l = 0 ∨ l = 1 ∨ l = 2 ∨ l = 3 ∨ l = 4 ∨ l = 5 ∨ l = 6 by omega) with rfl | rfl | rfl | rfl | rfl | rfl | rfl <;> decide
      · refine ⟨Int32.le_of_lt (nI_m1lt (by omega)), ?_⟩
        rw [nI_sub1 (by omega)]
        exact nI_le (by omega) (by omega)
    let kp' : Nat → Int32 := fun j => if j = 76 then x else I 126 j
    have ek : ∀ j, j ≠ 76 → kp' j = I 126 j := fun j hj => if_neg hj
    have hTK : ∀ f xs, f < 6 → am_TK false (I 126) f xs → am_TK false kp' f xs := fun f xs hf h => am_TK_cg (by omega) (fun j hj => ek j (by omega)) h
    have hml : m_lw kp' (lw.map Prod.snd) := by
      rcases hlw with ⟨h1, rfl⟩ | ⟨f, t, xs, h1, h2, rfl, -, -, -, h3⟩
      · exact Or.inl ⟨(if_pos rfl).trans h1, rfl⟩
      · exact Or.inr ⟨f, xs, by omega, (if_pos rfl).trans h2, rfl, hTK f xs (by omega) h3⟩
    have hld : ∀ I2, m_ld I2 kp' n (lw.map Prod.snd) (n * 5) → m_ld I2 (I 126) n (lw.map Prod.snd) (n * 5) := by
      intro I2 g q y hy hq
      obtain ⟨z1, z2, z3⟩ := am_HR_kp hr ek q y (lw.map Prod.snd) (by omega) hy
      rw [← z1, ← z2, ← z3]
      exact g q y hy hq
    have fin : ∀ I1 J1, am_ps I I1 → am_ev pr (d + 60) 277 [.ref 124, .int x] (S, I1, J1, P) (fun v τ => ∃ I3 I2, v = some (.int (nI (s_mp (m_P I2 (I 126) n)))) ∧ τ = (S, I3, J1, P) ∧ m_ld I2 (I 126) n (lw.map Prod.snd) (n * 5) ∧ am_ps I1 I3) := by
      intro I1 J1 hp
      have e126 : I1 126 = I 126 := hp.r (by unfold am_pers; omega)
      have ek1 : am_u I1 126 76 x 126 = kp' := by
        funext j
        rw [am_u_get, e126]
        show (if 126 = 126 ∧ j = 76 then x else I 126 j) = if j = 76 then x else I 126 j
        by_cases z : j = 76
        · rw [if_pos ⟨rfl, z⟩, if_pos z]
        · rw [if_neg (fun q => z q.2), if_neg z]
      have hz1 : -1 ≤ x ∧ x ≤ I1 126 75 - 1 := by rw [e126]; exact hz
      show am_wp pr (d + 60) 277 0 [(0, .ref 124), (1, .int x)] [] _ _
      refine w277_0 rfl ?_
      refine w277_1 rfl ?_
      refine w277_2 (k := c245 L ?_)
      rw [am_b_t hz1]
      refine w277_5 (fun _ => ?_) (fun hQ => absurd am_n01 hQ)
      refine w277_10 rfl ?_
      refine w277_11 (L.2 _ _ _ rfl) ?_
      refine w277_14 ?_
      refine w277_16 (L.sh rfl) (by decide) ?_
      rw [tl_76]
      refine w277_17 ?_
      refine w277_18 rfl ?_
      refine w277_19 (L.2 _ _ _ rfl) ?_
      refine w277_22 ?_
      refine w277_24 rfl ?_
      refine w277_25 (L.sh rfl) (by decide) ?_
      rw [tl_76]
      refine w277_26 rfl ?_
      refine w277_27 (k := c275 L ek1 (by rw [ek 73 (by decide)]; exact hr.kn) n7 hml (fun I2 f2 g => ?_))
      refine w277_30 ?_
      have e2 : I2 126 = kp' := by rw [f2.1 126 (by decide) (by decide) (by decide) (by decide) (by decide) (by decide)]; exact ek1
      have e5 : am_u I2 126 76 (I1 126 76) 126 = I1 126 := by
        funext j
        rw [am_u_get, e2, e126]
        by_cases z : j = 76
        · rw [if_pos ⟨rfl, z⟩, z]
        · rw [if_neg (fun q => z q.2)]
          exact ek j z
      have hmp : s_mp (m_P I2 kp' n) = s_mp (m_P I2 (I 126) n) := s_mp_c (fun b hb => am_it_congr (fun m a hm => by
        show a + m_gv kp' _ _ _ m b = a + m_gv _ _ _ _ m b
        unfold m_gv m_on
        rw [ek (35 + m) (by omega)]) _)
      have hps : am_ps I1 (am_u I2 126 76 (I1 126 76)) := by
        refine am_ps_of (fun a z q => ?_) (fun q hq => ?_)
        · by_cases y : a = 126
          · subst y
            exact e5
          · rw [am_u_ne y, f2.1 a z (by unfold am_pers at q; omega) (by unfold am_pers at q; omega) (by unfold am_pers at q; omega) (by unfold am_pers at q; omega) (by unfold am_pers at q; omega), am_u_ne y]
        · rw [am_u_ne (by decide), f2.2 q hq, am_u_ne (by decide)]
      refine w277_31 rfl ?_
      refine w277_32 (L.2 _ _ _ rfl) ?_
      refine w277_35 ?_
      refine w277_37 rfl ?_
      refine w277_38 (L.sh rfl) (by decide) ?_
      rw [tl_76]
      refine w277_39 rfl ?_
      refine w277_40 ?_
      exact ⟨_, I2, by rw [hmp], rfl, hld I2 g, hps⟩
    have hx3 : x = -1 ∨ (0 ≤ x ∧ x < I 65 3 ∧ x < 6) := by
      rcases hxx with h | ⟨f, hf, rfl⟩
      · exact Or.inl h
      · exact Or.inr ⟨nI_pos' (by omega), by rw [hr.hl]; exact nI_lt hf (by omega), nI_lt (b := 6) (by omega) (by decide)⟩
    have hend : ∀ lv, am_ld1 lv 0 = some (.ref 64) → am_ld1 lv 1 = some (.int x) → am_wp pr (d + 60) 152 18 lv [] (S, I, J, P) (fun r' τ => ∃ v, r' = some (.int v) ∧ am_ev pr (d + 60) 277 [.ref 124, .int x] τ (am_oi S (.int v))) := by
      intro lv l0 l1
      refine w152_18 l0 ?_
      refine w152_19 (L.2 _ _ _ rfl) ?_
      refine w152_22 l0 ?_
      refine w152_23 (L.2 _ _ _ rfl) ?_
      refine w152_26 l0 ?_
      refine w152_27 (L.2 _ _ _ rfl) ?_
      refine w152_30 l1 ?_
      refine w152_31 (k := c21L hh hr hlw ?_)
      refine w152_34 (hv1 := am_rf_cat _) (k := c35 L hh hr (by decide) hlw.good (fun I1 J1 g1 g2 g3 => ?_))
      refine w152_37 l0 ?_
      refine w152_38 (L.2 _ _ _ rfl) ?_
      refine w152_41 (k := c140 L (fun I2 h1 h2 => ?_))
      refine w152_44 ?_
      refine ⟨_, rfl, ?_⟩
      have hp : am_ps I I2 := g1.ps.tr (am_ps115 h1)
      refine am_ev_mono (fin I2 J1 hp) ?_
      rintro v τ ⟨I3, I4, rfl, rfl, h3, h4⟩
      rw [b_lead hr g3 h3]
      exact am_oi_0 (am_R_ps r (hp.tr h4)) rfl
    show am_wp pr (d + 60) 152 0 [(0, .ref 64), (1, .int x)] [] _ _
    rcases hx3 with h | h
    · refine w152_0 rfl ?_
      refine w152_1 ?_
      refine w152_2 (fun _ => ?_) (fun hQ => absurd h hQ)
      exact hend _ rfl rfl
    · refine w152_0 rfl ?_
      refine w152_1 ?_
      refine w152_2 (fun hQ => absurd hQ (fun q => by rw [q] at h; exact absurd h.1 (by decide))) (fun _ => ?_)
      refine w152_5 rfl ?_
      refine w152_6 (L.2 _ _ _ rfl) ?_
      refine w152_9 rfl ?_
      refine w152_10 (k := c109 hh ?_)
      rw [am_b_t h]
      refine w152_13 (fun _ => ?_) (fun hQ => absurd am_n01 hQ)
      exact hend _ rfl rfl
  · have hx1 : ¬ x = -1 := fun q => hxx (Or.inl q)
    have hx3 : ¬ (0 ≤ x ∧ x < I 65 3 ∧ x < 6) := fun q => hxx (Or.inr (by
      rw [hr.hl] at q
      exact (am_pk7 x (n := l) (by omega)).resolve_right (fun w => w ⟨q.1, q.2.1⟩)))
    have hz : ¬ (-1 ≤ x ∧ x ≤ I 126 75 - 1) := fun q => hxx (by
      rw [hl1] at q
      have q1 := q.1
      have q2 := q.2
      have e1 := am_nm1 (n := l) (by omega)
      rw [Int32.le_iff_toInt_le] at q1 q2
      rw [e1] at q2
      have e2 : (-1 : Int32).toInt = -1 := by decide
      by_cases y : x.toInt = -1
      · exact Or.inl (Int32.toInt_inj.mp (by omega))
      · refine Or.inr ((am_pk7 x (n := l) (by omega)).resolve_right (fun w => w ⟨?_, ?_⟩))
        · rw [Int32.le_iff_toInt_le]
          have : (0 : Int32).toInt = 0 := by decide
          omega
        · rw [Int32.lt_iff_toInt_lt, nI_toInt (by omega)]
          omega)
    refine op_c r (-1) (fun Q k => ?_) (fun Q k => ?_)
    · show am_wp pr (d + 60) 152 0 [(0, .ref 64), (1, .int x)] [] _ _
      refine w152_0 rfl ?_
      refine w152_1 ?_
      refine w152_2 (fun hQ => absurd hQ hx1) (fun _ => ?_)
      refine w152_5 rfl ?_
      refine w152_6 (L.2 _ _ _ rfl) ?_
      refine w152_9 rfl ?_
      refine w152_10 (k := c109 hh ?_)
      rw [am_b_f hx3]
      refine w152_13 (fun hQ => absurd hQ (by decide)) (fun _ => ?_)
      refine w152_16 ?_
      refine w152_17 ?_
      exact k
    · show am_wp pr (d + 60) 277 0 [(0, .ref 124), (1, .int x)] [] _ _
      refine w277_0 rfl ?_
      refine w277_1 rfl ?_
      refine w277_2 (k := c245 L ?_)
      rw [am_b_f hz]
      refine w277_5 (fun hQ => absurd hQ (by decide)) (fun _ => ?_)
      refine w277_8 ?_
      refine w277_9 ?_
      exact k
/-- laysBeats -/
theorem c262 (L : am_Lay S P) (hk : I 126 = kp) (hn : kp 73 = nI n) (n7 : n ≤ 7) (hlw : m_lw kp lv0) (k : ∀ I2, m_f4 I I2 → m_ld I2 kp n lv0 (n * 5) → (∀ a b, a < 5 → b < 5 → I2 143 (a * 5 + b) = am_b (m_bt I2 kp n a b)) → Q none (S, I2, J, P)) : am_ev pr (d + 45) 262 [.ref 124] (S, I, J, P) Q := by
  show am_wp pr (d + 45) 262 0 [(0, .ref 124)] [] _ _
  refine w262_0 rfl ?_
  refine w262_1 (k := c178 L hk hn n7 hlw (fun I1 f1 g => ?_))
  refine w262_4 ?_
  refine w262_5 ?_
  have e126 : I1 126 = kp := by rw [f1.1 126 (by decide) (by decide) (by decide) (by decide) (by decide)]; exact hk
  refine am_for (fun a => ∀ I2, (∀ z, z ≠ 143 → I2 z = I1 z) → (∀ x y, y < 5 → x * 5 + y < a * 5 → I2 143 (x * 5 + y) = am_b (m_bt I1 kp n x y)) → ∀ lv, am_ld1 lv 0 = some (.ref 124) → am_ld1 lv 1 = some (.int (nI a)) → am_wp pr (d + 45) 262 6 lv [] (S, I2, J, P) Q) 5 ?_ ?_ I1 (fun _ _ => rfl) (fun x y hy h => absurd h (by omega)) _ rfl rfl
  · intro a ha ih I2 h1 h2 lv l0 l1
    refine w262_6 l1 ?_
    refine w262_7 ?_
    refine w262_8 (fun hQ => absurd hQ (am_nlt ha (by decide))) (fun _ => ?_)
    refine w262_11 ?_
    refine w262_12 ?_
    refine am_for (fun b => ∀ I2, (∀ z, z ≠ 143 → I2 z = I1 z) → (∀ x y, y < 5 → x * 5 + y < a * 5 + b → I2 143 (x * 5 + y) = am_b (m_bt I1 kp n x y)) → ∀ lv, am_ld1 lv 0 = some (.ref 124) → am_ld1 lv 1 = some (.int (nI a)) → am_ld1 lv 2 = some (.int (nI b)) → am_wp pr (d + 45) 262 13 lv [] (S, I2, J, P) Q) 5 ?_ ?_ I2 h1 h2 _ l0 l1 rfl
    · clear l0 l1 lv h1 h2 I2
      intro b hb ih I2 h1 h2 lv l0 l1 l2
      have e1 : I2 126 = kp := by rw [h1 126 (by decide)]; exact e126
      have hn2 : I2 126 73 = nI n := by rw [e1]; exact hn
      have e2 : am_in (5 * nI a + nI b) 25 = true := by rw [am_seat']; exact am_in_nI (by omega) (by decide)
      have e3 : (5 * nI a + nI b).toNatClampNeg = a * 5 + b := am_clb' (by omega) hb
      have nx : ∀ v, v = am_b (m_bt I1 kp n a b) → (∀ z, z ≠ 143 → am_u I2 143 (a * 5 + b) v z = I1 z) ∧ (∀ x y, y < 5 → x * 5 + y < a * 5 + (b + 1) → am_u I2 143 (a * 5 + b) v 143 (x * 5 + y) = am_b (m_bt I1 kp n x y)) := by
        intro v hv
        refine ⟨fun z hz => by rw [am_u_ne hz]; exact h1 z hz, fun x y hy hxy => ?_⟩
        by_cases z : x * 5 + y = a * 5 + b
        · have z1 : x = a := by omega
          have z2 : y = b := by omega
          subst z1
          subst z2
          rw [am_u_self]
          exact hv
        · rw [am_u_at z]
          exact h2 x y hy (by omega)
      refine w262_13 l2 ?_
      refine w262_14 ?_
      refine w262_15 (fun hQ => absurd hQ (am_nlt hb (by decide))) (fun _ => ?_)
      refine w262_18 l0 ?_
      refine w262_19 (L.2 _ _ _ rfl) ?_
      refine w262_22 ?_
      refine w262_23 l1 ?_
      refine w262_24 ?_
      refine w262_25 l2 ?_
      refine w262_26 ?_
      refine w262_27 l1 ?_
      refine w262_28 l2 ?_
      refine w262_29 (fun h29 => ?_) (fun h29 => ?_)
      · refine w262_51 ?_
        refine w262_52Z (L.sh rfl) e2 ?_
        rw [e3]
        refine w262_53 l2 ?_
        refine w262_56 ?_
        first | exact ih _ (nx _ (am_b_t ⟨fun q => h29 (by rw [q]), h44⟩).symm).1 (nx _ (am_b_t ⟨fun q => h29 (by rw [q]), h44⟩).symm).2 _ l0 l1 (am_nx b) | exact ih _ (nx _ (am_b_f (fun q => absurd q.2 (Int32.not_lt.mpr h44))).symm).1 (nx _ (am_b_f (fun q => absurd q.2 (Int32.not_lt.mpr h44))).symm).2 _ l0 l1 (am_nx b) | exact ih _ (nx _ (am_b_f (fun q => q.1 ((nI_eq (by omega) (by omega)).mp h29))).symm).1 (nx _ (am_b_f (fun q => q.1 ((nI_eq (by omega) (by omega)).mp h29))).symm).2 _ l0 l1 (am_nx b)
      · refine w262_32 l0 ?_
        refine w262_33 l1 ?_
        refine w262_34 l2 ?_
        refine w262_35 (k := c260 L hn2 n7 ha hb ?_)
        rw [e1, h1 140 (by decide), h1 138 (by decide), h1 139 (by decide)]
        refine w262_38 l0 ?_
        refine w262_39 l2 ?_
        refine w262_40 l1 ?_
        refine w262_41 (k := c260 L hn2 n7 hb ha ?_)
        rw [e1, h1 140 (by decide), h1 138 (by decide), h1 139 (by decide)]
        refine w262_44 (fun h44 => ?_) (fun h44 => ?_)
        · refine w262_51 ?_
          refine w262_52Z (L.sh rfl) e2 ?_
          rw [e3]
          refine w262_53 l2 ?_
          refine w262_56 ?_
          first | exact ih _ (nx _ (am_b_t ⟨fun q => h29 (by rw [q]), h44⟩).symm).1 (nx _ (am_b_t ⟨fun q => h29 (by rw [q]), h44⟩).symm).2 _ l0 l1 (am_nx b) | exact ih _ (nx _ (am_b_f (fun q => absurd q.2 (Int32.not_lt.mpr h44))).symm).1 (nx _ (am_b_f (fun q => absurd q.2 (Int32.not_lt.mpr h44))).symm).2 _ l0 l1 (am_nx b) | exact ih _ (nx _ (am_b_f (fun q => q.1 ((nI_eq (by omega) (by omega)).mp h29))).symm).1 (nx _ (am_b_f (fun q => q.1 ((nI_eq (by omega) (by omega)).mp h29))).symm).2 _ l0 l1 (am_nx b)
        · replace h44 := Int32.not_le.mp h44
          refine w262_47 ?_
          refine w262_48 ?_
          refine w262_52Z (L.sh rfl) e2 ?_
          rw [e3]
          refine w262_53 l2 ?_
          refine w262_56 ?_
          first | exact ih _ (nx _ (am_b_t ⟨fun q => h29 (by rw [q]), h44⟩).symm).1 (nx _ (am_b_t ⟨fun q => h29 (by rw [q]), h44⟩).symm).2 _ l0 l1 (am_nx b) | exact ih _ (nx _ (am_b_f (fun q => absurd q.2 (Int32.not_lt.mpr h44))).symm).1 (nx _ (am_b_f (fun q => absurd q.2 (Int32.not_lt.mpr h44))).symm).2 _ l0 l1 (am_nx b) | exact ih _ (nx _ (am_b_f (fun q => q.1 ((nI_eq (by omega) (by omega)).mp h29))).symm).1 (nx _ (am_b_f (fun q => q.1 ((nI_eq (by omega) (by omega)).mp h29))).symm).2 _ l0 l1 (am_nx b)
    · clear l0 l1 lv h1 h2 I2
      intro I2 h1 h2 lv l0 l1 l2
      refine w262_13 l2 ?_
      refine w262_14 ?_
      refine w262_15 (fun _ => ?_) (fun hQ => absurd (Int32.le_refl _) hQ)
      refine w262_59 l1 ?_
      refine w262_62 ?_
      exact ih I2 h1 (by rw [show (a + 1) * 5 = a * 5 + 5 by omega]; exact h2) _ l0 (am_nx a)
  · intro I2 h1 h2 lv l0 l1
    refine w262_6 l1 ?_
    refine w262_7 ?_
    refine w262_8 (fun _ => ?_) (fun hQ => absurd (Int32.le_refl _) hQ)
    refine w262_65 ?_
    refine k I2 (f1.f4.tr (m_f4_r (b := 143) (by decide) h1)) (m_ld_cg (h1 138 (by decide)) (h1 139 (by decide)) (h1 140 (by decide)) g) (fun a b ha hb => ?_)
    rw [h2 a b hb (by omega)]
    exact am_b_iff (by simp only [m_bt, h1 138 (by decide), h1 139 (by decide), h1 140 (by decide)])
/-- what the class's rows tell of it -/
theorem b_bt {I I1 I2 I0 : Nat → Nat → Int32} {h : Nat} (hr : am_HR I0 h kp n l s) (e : I 109 1 = I0 h 1) (hB : ∀ b, b < 5 → t_B I kp n lv0 b) (hb : ∀ x, x < 5 → ∀ y, y < 32 → (am_bit (I1 114 x) y = 1 ↔ y < 5 ∧ x ≠ y ∧ t_va (I 110) (I 111) (I 112) (I 109 1) n y x < t_va (I 110) (I 111) (I 112) (I 109 1) n x y)) (g : m_ld I2 kp n lv0 (n * 5)) {x y : Nat} (hx : x < 5) (hy : y < 32) : am_bit (I1 114 x) y = 1 ↔ y < 5 ∧ m_bt I2 kp n x y := by
  rw [hb x hx y hy, e]
  constructor
  · rintro ⟨z1, z2, z3⟩
    rw [b_va (hB y z1) (hB x hx) g hr.n7 z1 hx hr.he, b_va (hB x hx) (hB y z1) g hr.n7 hx z1 hr.he] at z3
    exact ⟨z1, z2, z3⟩
  · rintro ⟨z1, z2, z3⟩
    rw [b_va (hB y z1) (hB x hx) g hr.n7 z1 hx hr.he, b_va (hB x hx) (hB y z1) g hr.n7 hx z1 hr.he]
    exact ⟨z1, z2, z3⟩
theorem bc_4b : (List.range 128).all (fun s => (List.range 5).all (fun a => !(decide (am_bit (nI s) 5 = 0) && decide (am_bit (nI s) 6 = 0) && decide (am_bit (nI s) a = 0)) || (decide (t_on (nI s) = 4) == (List.range 5).all (fun b => decide (b = a) || decide (am_bit (nI s) b = 1))))) = true := by decide +kernel
theorem bc_4 {s : Nat} (hs : s < 128) {a : Nat} (ha : a < 5) (h5 : am_bit (nI s) 5 = 0) (h6 : am_bit (nI s) 6 = 0) (h0 : am_bit (nI s) a = 0) : t_on (nI s) = 4 ↔ ∀ b, b < 5 → b = a ∨ am_bit (nI s) b = 1 := by
  have h := List.all_eq_true.mp (List.all_eq_true.mp bc_4b s (List.mem_range.mpr hs)) a (List.mem_range.mpr ha)
  rw [h5, h6, h0] at h
  simp only [decide_true, Bool.and_self, Bool.not_true, Bool.false_or, beq_iff_eq] at h
  constructor
  · intro z b hb
    rw [decide_eq_true z] at h
    have q := List.all_eq_true.mp h.symm b (List.mem_range.mpr hb)
    simp only [Bool.or_eq_true, decide_eq_true_eq] at q
    exact q
  · intro z
    rw [show (List.range 5).all (fun b => decide (b = a) || decide (am_bit (nI s) b = 1)) = true from List.all_eq_true.mpr (fun b hb => by
      simp only [Bool.or_eq_true, decide_eq_true_eq]
      exact z b (List.mem_range.mp hb))] at h
    exact of_decide_eq_true h
/-- the best -/
def s_bs (C : Nat → Prop) [DecidablePred C] : Int32 := am_it (fun a is => if C a then nI a else is) 5 (-1)
theorem s_bs_no {C : Nat → Prop} [DecidablePred C] (h : ∀ a, a < 5 → ¬ C a) : s_bs C = -1 := by
  unfold s_bs
  simp only [am_it]
  rw [if_neg (h 4 (by decide)), if_neg (h 3 (by decide)), if_neg (h 2 (by decide)), if_neg (h 1 (by decide)), if_neg (h 0 (by decide))]
theorem s_bs_yes {C : Nat → Prop} [DecidablePred C] {b : Nat} (hb : b < 5) (hC : C b) (hu : ∀ a, a < 5 → C a → a = b) : s_bs C = nI b := by
  have n : ∀ a, a < 5 → a ≠ b → ¬ C a := fun a ha hne z => hne (hu a ha z)
  unfold s_bs
  simp only [am_it]
  rcases (show b = 0 ∨ b = 1 ∨ b = 2 ∨ b = 3 ∨ b = 4 by omega) with rfl | rfl | rfl | rfl | rfl
  · rw [if_neg (n 4 (by decide) (by decide)), if_neg (n 3 (by decide) (by decide)), if_neg (n 2 (by decide) (by decide)), if_neg (n 1 (by decide) (by decide)), if_pos hC]
  · rw [if_neg (n 4 (by decide) (by decide)), if_neg (n 3 (by decide) (by decide)), if_neg (n 2 (by decide) (by decide)), if_pos hC]
  · rw [if_neg (n 4 (by decide) (by decide)), if_neg (n 3 (by decide) (by decide)), if_pos hC]
  · rw [if_neg (n 4 (by decide) (by decide)), if_pos hC]
  · rw [if_pos hC]
theorem am_ps114 {I I' : Nat → Nat → Int32} (h : ∀ a, a ≠ 114 → I' a = I a) : am_ps I I' := am_ps_r (fun a q => h a (by unfold am_pers at q; omega))
abbrev m_C (I : Nat → Nat → Int32) (kp : Nat → Int32) (n a : Nat) : Prop := ∀ b, b < 5 → a = b ∨ m_bt I kp n a b
theorem m_C_u {I : Nat → Nat → Int32} {a b : Nat} (ha : a < 5) (hb : b < 5) (h1 : m_C I kp n a) (h2 : m_C I kp n b) : a = b := by
  rcases h1 b hb with h | h
  · exact h
  · rcases h2 a ha with q | q
    · exact q.symm
    · exact absurd q (m_bt_as h)
theorem op_20 (r : am_R S I P n l s u tp) : am_op pr (d + 60) S I J P 121 [.ref 64] 261 [.ref 124] := by
  have hr := r.hr
  have n7 := hr.n7
  have L := r.L
  obtain ⟨lw, hx⟩ := r.lw
  refine op_rd r hx (fun I2 => s_bs (m_C I2 (I 126) n)) (fun Q k => ?_) (fun I1 J1 e Q k => ?_)
  · show am_wp pr (d + 60) 121 0 [(0, .ref 64)] [] _ _
    refine w121_0 rfl ?_
    refine w121_1 (k := c34 L hr hx (fun I1 J1 f1 f2 f3 => ?_))
    refine w121_4 rfl ?_
    refine w121_5 (L.2 _ _ _ rfl) ?_
    refine w121_8 (k := c122 L f2.1 n7 (fun I2 h1 h2 => ?_))
    refine w121_11 ?_
    refine w121_12 ?_
    have hp : am_ps I I2 := f1.ps.tr (am_ps114 h1)
    have hbit : ∀ I3, m_ld I3 (I 126) n (lw.map Prod.snd) (n * 5) → ∀ a, a < 5 → ∃ s, s < 128 ∧ I2 114 a = nI s ∧ (t_on (nI s) = 4 ↔ m_C I3 (I 126) n a) := by
      intro I3 g a ha
      have hb := fun y (hy : y < 32) => b_bt hr f2.2.1 f3 h2 g ha hy
      obtain ⟨s, hs, es⟩ := am_set7 (x := I2 114 a) (fun m q1 q2 => am_bit_n0.mp (fun z => absurd ((hb m q2).mp z).1 (by omega)))
      refine ⟨s, hs, es, ?_⟩
      rw [es] at hb
      rw [bc_4 hs ha (am_bit_n0.mp (fun z => absurd ((hb 5 (by decide)).mp z).1 (by decide))) (am_bit_n0.mp (fun z => absurd ((hb 6 (by decide)).mp z).1 (by decide))) (am_bit_n0.mp (fun z => ((hb a (by omega)).mp z).2.1 rfl))]
      constructor
      · intro z b h5
        rcases z b h5 with q | q
        · exact Or.inl q.symm
        · exact Or.inr ((hb b (by omega)).mp q).2
      · intro z b h5
        rcases z b h5 with q | q
        · exact Or.inl q.symm
        · exact Or.inr ((hb b (by omega)).mpr ⟨h5, q⟩)
    refine am_for (fun b => (∀ I3, m_ld I3 (I 126) n (lw.map Prod.snd) (n * 5) → ∀ a, a < b → ¬ m_C I3 (I 126) n a) → ∀ lv, am_ld1 lv 0 = some (.ref 64) → am_ld1 lv 1 = some (.int (nI b)) → am_wp pr (d + 60) 121 13 lv [] (S, I2, J1, P) Q) 5 ?_ ?_ (fun _ _ a h => absurd h (Nat.not_lt_zero a)) _ rfl rfl
    · intro b hb ih hno lv l0 l1
      by_cases hex : ∃ I3, m_ld I3 (I 126) n (lw.map Prod.snd) (n * 5)
      · obtain ⟨I3, g3⟩ := hex
        obtain ⟨s, hs, es, hq⟩ := hbit I3 g3 b hb
        refine w121_13 l1 ?_
        refine w121_14 ?_
        refine w121_15 (fun hQ => absurd hQ (am_nlt hb (by decide))) (fun _ => ?_)
        refine w121_18 l0 ?_
        refine w121_19 (L.2 _ _ _ rfl) ?_
        refine w121_22 (L.2 _ _ _ rfl) ?_
        refine w121_25 l1 ?_
        refine w121_26 (L.sh rfl) (am_inB hb) ?_
        rw [am_clB hb, es]
        refine w121_27 (k := c23 hs ?_)
        refine w121_30 ?_
        refine w121_31 (fun h31 => ?_) (fun h31 => ?_)
        · refine w121_36 l1 ?_
          refine w121_39 ?_
          refine ih (fun I4 g4 a ha => ?_) _ l0 (am_nx b)
          by_cases z : a = b
          · subst z
            obtain ⟨s2, -, es2, hq2⟩ := hbit I4 g4 a hb
            rw [← es2, es] at hq2
            exact fun y => h31 (hq2.mpr y)
          · exact hno I4 g4 a (by omega)
        · replace h31 := Decidable.not_not.mp h31
          refine w121_34 l1 ?_
          refine w121_35 ?_
          refine k I2 J1 _ hp (fun I4 g4 => ?_)
          obtain ⟨s2, -, es2, hq2⟩ := hbit I4 g4 b hb
          rw [← es2, es] at hq2
          exact (s_bs_yes hb (hq2.mp h31) (fun a ha z => m_C_u ha hb z (hq2.mp h31))).symm
      · obtain ⟨s, hs, es⟩ := am_set7 (x := I2 114 b) (fun m q1 q2 => am_bit_n0.mp (fun z => absurd ((h2 b hb m q2).mp z).1 (by omega)))
        have tr : ∀ v, Q (some (.int v)) (S, I2, J1, P) := fun v => k I2 J1 v hp (fun I4 g4 => absurd ⟨I4, g4⟩ hex)
        refine w121_13 l1 ?_
        refine w121_14 ?_
        refine w121_15 (fun hQ => absurd hQ (am_nlt hb (by decide))) (fun _ => ?_)
        refine w121_18 l0 ?_
        refine w121_19 (L.2 _ _ _ rfl) ?_
        refine w121_22 (L.2 _ _ _ rfl) ?_
        refine w121_25 l1 ?_
        refine w121_26 (L.sh rfl) (am_inB hb) ?_
        rw [am_clB hb, es]
        refine w121_27 (k := c23 hs ?_)
        refine w121_30 ?_
        refine w121_31 (fun h31 => ?_) (fun h31 => ?_)
        · refine w121_36 l1 ?_
          refine w121_39 ?_
          exact ih (fun I4 g4 => absurd ⟨I4, g4⟩ hex) _ l0 (am_nx b)
        · replace h31 := Decidable.not_not.mp h31
          refine w121_34 l1 ?_
          refine w121_35 ?_
          exact tr _
    · intro hno lv l0 l1
      refine w121_13 l1 ?_
      refine w121_14 ?_
      refine w121_15 (fun _ => ?_) (fun hQ => absurd (Int32.le_refl _) hQ)
      refine w121_42 ?_
      refine w121_43 ?_
      exact k I2 J1 _ hp (fun I3 g3 => (s_bs_no (fun a ha => hno I3 g3 a ha)).symm)
  · show am_wp pr (d + 60) 261 0 [(0, .ref 124)] [] _ _
    refine w261_0 rfl ?_
    refine w261_1 (k := c262 L e hr.kn n7 (hx.m hr.l6) (fun I2 f2 g h143 => ?_))
    refine w261_4 ?_
    refine w261_5 ?_
    refine w261_6 ?_
    refine w261_7 ?_
    have kk := k I2 f2.ps g
    have b01 : ∀ a b, a < 5 → b < 5 → I2 143 (a * 5 + b) = 0 ∨ I2 143 (a * 5 + b) = 1 := fun a b ha hb => by
      rw [h143 a b ha hb]
      unfold am_b
      split
      · exact Or.inr rfl
      · exact Or.inl rfl
    refine am_loop (fun a is => if m_C I2 (I 126) n a then nI a else is) (fun a is => ∀ lv, am_ld1 lv 0 = some (.ref 124) → am_ld1 lv 1 = some (.int is) → am_ld1 lv 2 = some (.int (nI a)) → am_wp pr (d + 60) 261 8 lv [] (S, I2, J1, P) Q) 5 ?_ (-1) ?_ _ rfl rfl rfl
    · intro a is ha ih lv l0 l1 l2
      refine w261_8 l2 ?_
      refine w261_9 ?_
      refine w261_10 (fun hQ => absurd hQ (am_nlt ha (by decide))) (fun _ => ?_)
      refine w261_13 ?_
      refine w261_14 ?_
      refine w261_15 ?_
      refine w261_16 ?_
      refine am_for (fun b => ∀ lv, am_ld1 lv 0 = some (.ref 124) → am_ld1 lv 1 = some (.int is) → am_ld1 lv 2 = some (.int (nI a)) → am_ld1 lv 3 = some (.int (am_b (∀ j, j < b → a = j ∨ m_bt I2 (I 126) n a j))) → am_ld1 lv 4 = some (.int (nI b)) → am_wp pr (d + 60) 261 18 lv [] (S, I2, J1, P) Q) 5 ?_ ?_ _ l0 l1 l2 (by rw [am_b_t (fun i hi => absurd hi (Nat.not_lt_zero i))]; rfl) rfl
      · clear l0 l1 l2 lv
        intro b hb ih lv l0 l1 l2 l3 l4
        have e1 : (∀ j, j < b + 1 → a = j ∨ m_bt I2 (I 126) n a j) ↔ ((∀ j, j < b → a = j ∨ m_bt I2 (I 126) n a j) ∧ (a = b ∨ m_bt I2 (I 126) n a b)) := am_all_succ (F := fun j => a = j ∨ m_bt I2 (I 126) n a j)
        rw [am_b_iff e1] at ih
        have eqn : nI a = nI b → a = b := (nI_eq (by omega) (by omega)).mp
        have y1 : ((∀ j, j < b → a = j ∨ m_bt I2 (I 126) n a j) ∧ (a = b ∨ m_bt I2 (I 126) n a b)) → ∀ lv, am_ld1 lv 0 = some (.ref 124) → am_ld1 lv 1 = some (.int is) → am_ld1 lv 2 = some (.int (nI a)) → am_ld1 lv 3 = some (.int 1) → am_ld1 lv 4 = some (.int (nI (b + 1))) → am_wp pr (d + 60) 261 18 lv [] (S, I2, J1, P) Q := fun q => by rw [am_b_t q] at ih; exact ih
        have y0 : ¬ ((∀ j, j < b → a = j ∨ m_bt I2 (I 126) n a j) ∧ (a = b ∨ m_bt I2 (I 126) n a b)) → ∀ lv, am_ld1 lv 0 = some (.ref 124) → am_ld1 lv 1 = some (.int is) → am_ld1 lv 2 = some (.int (nI a)) → am_ld1 lv 3 = some (.int 0) → am_ld1 lv 4 = some (.int (nI (b + 1))) → am_wp pr (d + 60) 261 18 lv [] (S, I2, J1, P) Q := fun q => by rw [am_b_f q] at ih; exact ih
        refine w261_18 l4 ?_
        refine w261_20 ?_
        refine w261_21 (fun hQ => absurd hQ (am_nlt hb (by decide))) (fun _ => ?_)
        refine w261_24 l3 ?_
        refine w261_25 (fun h25 => ?_) (fun h25 => ?_)
        · refine w261_48 ?_
          refine w261_49 ?_
          refine w261_50 l4 ?_
          refine w261_53 ?_
          first | exact y1 ⟨am_b_1 h25, Or.inl (eqn h31)⟩ _ l0 l1 l2 rfl (am_nx b) | exact y1 ⟨am_b_1 h25, Or.inr (am_b_1 h41)⟩ _ l0 l1 l2 rfl (am_nx b) | exact y0 (fun q => q.2.elim (fun y => h31 (congrArg nI y)) (fun y => (am_b_0 _).mp h41 y)) _ l0 l1 l2 rfl (am_nx b) | exact y0 (fun q => (am_b_0 _).mp h25 q.1) _ l0 l1 l2 rfl (am_nx b)
        · refine w261_28 l2 ?_
          refine w261_29 l4 ?_
          refine w261_31 (fun h31 => ?_) (fun h31 => ?_)
          · refine w261_44 ?_
            refine w261_45 ?_
            refine w261_49 ?_
            refine w261_50 l4 ?_
            refine w261_53 ?_
            first | exact y1 ⟨am_b_1 h25, Or.inl (eqn h31)⟩ _ l0 l1 l2 rfl (am_nx b) | exact y1 ⟨am_b_1 h25, Or.inr (am_b_1 h41)⟩ _ l0 l1 l2 rfl (am_nx b) | exact y0 (fun q => q.2.elim (fun y => h31 (congrArg nI y)) (fun y => (am_b_0 _).mp h41 y)) _ l0 l1 l2 rfl (am_nx b) | exact y0 (fun q => (am_b_0 _).mp h25 q.1) _ l0 l1 l2 rfl (am_nx b)
          · refine w261_34 l0 ?_
            refine w261_35 l2 ?_
            refine w261_36 l4 ?_
            refine w261_38 (k := c263 L ha hb (b01 a b ha hb) ?_)
            rw [h143 a b ha hb]
            refine w261_41 (fun h41 => ?_) (fun h41 => ?_)
            · refine w261_48 ?_
              refine w261_49 ?_
              refine w261_50 l4 ?_
              refine w261_53 ?_
              first | exact y1 ⟨am_b_1 h25, Or.inl (eqn h31)⟩ _ l0 l1 l2 rfl (am_nx b) | exact y1 ⟨am_b_1 h25, Or.inr (am_b_1 h41)⟩ _ l0 l1 l2 rfl (am_nx b) | exact y0 (fun q => q.2.elim (fun y => h31 (congrArg nI y)) (fun y => (am_b_0 _).mp h41 y)) _ l0 l1 l2 rfl (am_nx b) | exact y0 (fun q => (am_b_0 _).mp h25 q.1) _ l0 l1 l2 rfl (am_nx b)
            · refine w261_44 ?_
              refine w261_45 ?_
              refine w261_49 ?_
              refine w261_50 l4 ?_
              refine w261_53 ?_
              first | exact y1 ⟨am_b_1 h25, Or.inl (eqn h31)⟩ _ l0 l1 l2 rfl (am_nx b) | exact y1 ⟨am_b_1 h25, Or.inr (am_b_1 h41)⟩ _ l0 l1 l2 rfl (am_nx b) | exact y0 (fun q => q.2.elim (fun y => h31 (congrArg nI y)) (fun y => (am_b_0 _).mp h41 y)) _ l0 l1 l2 rfl (am_nx b) | exact y0 (fun q => (am_b_0 _).mp h25 q.1) _ l0 l1 l2 rfl (am_nx b)
      · clear l0 l1 l2 lv
        intro lv l0 l1 l2 l3 l4
        refine w261_18 l4 ?_
        refine w261_20 ?_
        refine w261_21 (fun _ => ?_) (fun hQ => absurd (Int32.le_refl _) hQ)
        refine w261_56 l3 ?_
        refine w261_57 (fun h57 => ?_) (fun h57 => ?_)
        · refine w261_64 l1 ?_
          refine w261_65 ?_
          refine w261_66 l2 ?_
          refine w261_69 ?_
          first | (rw [if_pos (show m_C I2 (I 126) n a from am_b_1 h57)] at ih; exact ih _ l0 rfl (am_nx a)) | (rw [if_neg (show ¬ m_C I2 (I 126) n a from (am_b_0 _).mp h57)] at ih; exact ih _ l0 rfl (am_nx a))
        · refine w261_60 l2 ?_
          refine w261_61 ?_
          refine w261_65 ?_
          refine w261_66 l2 ?_
          refine w261_69 ?_
          first | (rw [if_pos (show m_C I2 (I 126) n a from am_b_1 h57)] at ih; exact ih _ l0 rfl (am_nx a)) | (rw [if_neg (show ¬ m_C I2 (I 126) n a from (am_b_0 _).mp h57)] at ih; exact ih _ l0 rfl (am_nx a))
    · intro lv l0 l1 l2
      refine w261_8 l2 ?_
      refine w261_9 ?_
      refine w261_10 (fun _ => ?_) (fun hQ => absurd (Int32.le_refl _) hQ)
      refine w261_72 l1 ?_
      refine w261_73 ?_
      exact kk
end
