/-! hands: bills put, members who go, wants swayed, days; what was ahead of them is kept -/
def g_sh (u : Nat) : Nat := if u = 16 then 1 else 0
def g_m (u : Nat) : Nat := if u = 16 then 15 else u
def g_kp (lf : Nat → Int32) (u : Nat) (kp : Nat → Int32) (x : Int32) : Nat → Int32 := fun i => if 45 * g_m u ≤ i ∧ i < 45 * g_m u + 44 then kp (i - 45 * g_m u) else if i = 45 * g_m u + 44 then x else lf (i + 45 * g_sh u)
theorem g_of {u m sh : Nat} (h1 : m ≤ 15) (h2 : m + sh = u) (h3 : sh = 0 ∨ (sh = 1 ∧ m = 15)) : m = g_m u ∧ sh = g_sh u := by
  unfold g_m g_sh
  by_cases z : u = 16
  · rw [if_pos z, if_pos z]
    omega
  · rw [if_neg z, if_neg z]
    omega
theorem g_m16 {u : Nat} (h : u ≤ 16) : g_m u + 1 ≤ 16 := by
  unfold g_m
  split <;> omega
theorem g_kp_old {lf kp : Nat → Int32} {u i j : Nat} {x : Int32} (hi : i < g_m u) (hj : j < 45) : g_kp lf u kp x (45 * i + j) = lf (45 * (i + g_sh u) + j) := by
  unfold g_kp
  rw [if_neg (by omega), if_neg (by omega)]
  congr 1
  omega
theorem g_kp_new {lf kp : Nat → Int32} {u j : Nat} {x : Int32} (hj : j < 44) : g_kp lf u kp x (45 * g_m u + j) = kp j := by
  unfold g_kp
  rw [if_pos (by omega)]
  congr 1
  omega
theorem g_kp_44 {lf kp : Nat → Int32} {u : Nat} {x : Int32} : g_kp lf u kp x (45 * g_m u + 44) = x := by
  unfold g_kp
  rw [if_neg (by omega), if_pos rfl]
theorem am_HR.mv {I : Nat → Nat → Int32} {h n l s : Nat} {kp : Nat → Int32} (hr : am_HR I h kp n l s) : am_mv n kp := ⟨hr.k01, hr.ks, hr.dr, hr.wr⟩
/-- the class's part, the reference's part -/
def HC (I : Nat → Nat → Int32) (kp lf : Nat → Int32) (n l s u : Nat) : Prop := am_HR I 65 kp n l s ∧ u ≤ 16 ∧ I 90 0 = nI u ∧ am_PA (I 91) lf kp n u
def HM (I : Nat → Nat → Int32) (kp lf : Nat → Int32) (u : Nat) : Prop := I 126 = kp ∧ I 124 35 = nI u ∧ ∀ i, i < u → ∀ j, j < 45 → I 141 (45 * i + j) = lf (45 * i + j)
theorem am_PA_lf {dd lf lf' kp : Nat → Int32} {n u : Nat} (n7 : n ≤ 7) (h : ∀ i, i < u → ∀ j, j < 45 → lf' (45 * i + j) = lf (45 * i + j)) (r : am_PA dd lf kp n u) : am_PA dd lf' kp n u := by
  intro i hi
  obtain ⟨h1, h2, h3, h4⟩ := r i hi
  refine ⟨h1, (h i hi 44 (by omega)).trans h2, ⟨fun m hm => ?_, ?_, ?_, fun q hq => ?_⟩, fun j hj => ?_⟩
  · show lf' (45 * i + (35 + m)) = 0 ∨ lf' (45 * i + (35 + m)) = 1
    rw [h i hi _ (by omega)]; exact h3.1 m hm
  · show ∃ x, x < 32 ∧ lf' (45 * i + 42) = nI x
    rw [h i hi 42 (by omega)]; exact h3.2.1
  · show ∃ x, x ≤ 999 ∧ lf' (45 * i + 43) = nI x
    rw [h i hi 43 (by omega)]; exact h3.2.2.1
  · show ∃ x, x ≤ 9 ∧ lf' (45 * i + q) = nI x
    rw [h i hi q (by omega)]; exact h3.2.2.2 q hq
  · rw [h i hi j (by omega), h4 j hj]
    by_cases z : i + 1 = u
    · rw [if_pos z, if_pos z]
    · rw [if_neg z, if_neg z]
      exact (am_un_cg hj (fun q hq => h (i + 1) (by omega) q (by omega))).symm
def g_put (kp : Nat → Int32) (b : Nat) : Nat → Int32 := fun j => if j = 42 then kp 42 ^^^ (1 <<< (nI b &&& 31)) else kp j
def g_go (kp : Nat → Int32) (m : Nat) : Nat → Int32 := fun j => if j = 35 + m then 1 - kp (35 + m) else kp j
def g_sw (kp : Nat → Int32) (q : Nat) (w : Int32) : Nat → Int32 := fun j => if j = q then w else kp j
def g_pa (kp : Nat → Int32) (n : Nat) : Nat → Int32 := fun j => if j = 43 then kp 43 + 1 else if 35 ≤ j ∧ j < 35 + n then 1 else kp j
/-- canonical rows of what is told -/
def m_can (kp : Nat → Int32) (n : Nat) (lw : Option (List Cl)) : Nat → Nat → Int32 := fun a j => if a = 138 then a_sp kp n lw (j / 5) (j % 5) else if a = 139 then a_va kp n lw (j / 5) (j % 5) else am_b (a_ba kp n lw (j / 5) (j % 5) = 1)
theorem m_can_ld (kp : Nat → Int32) (n : Nat) (lw : Option (List Cl)) (z : Nat) : m_ld (m_can kp n lw) kp n lw z := by
  intro q x hx _
  have e1 : (q * 5 + x) / 5 = q := by omega
  have e2 : (q * 5 + x) % 5 = x := by omega
  unfold m_can
  simp only [e1, e2]
  exact ⟨rfl, rfl, rfl⟩
def g_vF (kp : Nat → Int32) (n : Nat) (lw : Option (List Cl)) (b : Nat) : Int32 := m_vF (m_can kp n lw) kp n b
def g_ca (kp : Nat → Int32) (n : Nat) (lw : Option (List Cl)) (b : Nat) : Prop := t_nd (kp 72) (m_vN (m_can kp n lw) kp n b) ≤ g_vF kp n lw b
theorem m_vo_c {sp sp' : Nat → Int32} {n b : Nat} {X : Int32} (h : ∀ m, m < n → sp (m * 5 + b) = sp' (m * 5 + b)) : m_vo sp n b X = m_vo sp' n b X := am_it_congr (fun m a hm => by rw [h m hm]) _
theorem m_vF_c {I I2 : Nat → Nat → Int32} {kp : Nat → Int32} {n b : Nat} {lw : Option (List Cl)} (g : m_ld I kp n lw (n * 5)) (g2 : m_ld I2 kp n lw (n * 5)) (n7 : n ≤ 7) (hb : b < 5) : m_vF I kp n b = m_vF I2 kp n b := by
  unfold m_vF
  rw [show m_fa kp (I 140) (I 139) n b (m_all n) = m_fa kp (I2 140) (I2 139) n b (m_all n) from am_bit_ext (fun m hm => by rw [m_fa_bit g n7 hb hm, m_fa_bit g2 n7 hb hm])]
  exact m_vo_c (fun m hm => by rw [g.sp hb hm, g2.sp hb hm])
theorem m_vN_c {I I2 : Nat → Nat → Int32} {kp : Nat → Int32} {n b : Nat} {lw : Option (List Cl)} (g : m_ld I kp n lw (n * 5)) (g2 : m_ld I2 kp n lw (n * 5)) (n7 : n ≤ 7) (hb : b < 5) : m_vN I kp n b = m_vN I2 kp n b := by
  unfold m_vN
  rw [show m_of kp (I 140) n b (m_all n) = m_of kp (I2 140) n b (m_all n) from am_bit_ext (fun m hm => by rw [m_of_bit g n7 hb hm, m_of_bit g2 n7 hb hm])]
  exact m_vo_c (fun m hm => by rw [g.sp hb hm, g2.sp hb hm])
/-- how many come, when a day passes -/
theorem am_came {kp : Nat → Int32} : ∀ n, (∀ m, m < n → kp (35 + m) = 0 ∨ kp (35 + m) = 1) → ∃ a b, a + b = n ∧ m_hm kp n = nI a ∧ am_it (fun m acc => acc + (1 - kp (35 + m))) n 0 = nI b
  | 0, _ => ⟨0, 0, rfl, rfl, rfl⟩
  | n + 1, h => by
    obtain ⟨a, b, h1, h2, h3⟩ := am_came n (fun m hm => h m (by omega))
    have e1 : m_hm kp (n + 1) = nI a + kp (35 + n) := by
      unfold m_hm at h2 ⊢
      rw [am_it_s, h2]
    have e2 : am_it (fun m acc => acc + (1 - kp (35 + m))) (n + 1) 0 = nI b + (1 - kp (35 + n)) := by rw [am_it_s, h3]
    rcases h n (by omega) with z | z
    · exact ⟨a, b + 1, by omega, by rw [e1, z, Int32.add_zero], by rw [e2, z]; exact nI_1 b⟩
    · exact ⟨a + 1, b, by omega, by rw [e1, z, nI_1], by rw [e2, z]; exact Int32.add_zero _⟩
theorem am_came2 {x : Int32} {kp : Nat → Int32} {n : Nat} (n7 : n ≤ 7) (he : ∀ m, m < 32 → (am_bit x m = 1 ↔ m < n ∧ kp (35 + m) = 1)) (k01 : ∀ m, m < n → kp (35 + m) = 0 ∨ kp (35 + m) = 1) : ∃ s, s < 128 ∧ (1 <<< (nI n &&& 31) - 1) &&& (x ^^^ -1) = nI s ∧ t_on (nI s) = nI n - m_hm kp n := by
  have hb : ∀ m, m < 32 → (am_bit ((1 <<< (nI n &&& 31) - 1) &&& (x ^^^ -1)) m = 1 ↔ m < n ∧ ¬ kp (35 + m) = 1) := fun m hm => by
    rw [am_bit_and hm, am_bit_all n m n7 hm, show x ^^^ -1 = ~~~ x from Int32.xor_neg_one, am_bit_not hm, he m hm]
    exact ⟨fun q => ⟨q.1, fun y => q.2 ⟨q.1, y⟩⟩, fun q => ⟨q.1, fun y => q.2 y.2⟩⟩
  obtain ⟨s, h1, h2⟩ := am_set7 (x := (1 <<< (nI n &&& 31) - 1) &&& (x ^^^ -1)) (fun m q1 q2 => am_bit_n0.mp (fun z => absurd ((hb m q2).mp z).1 (by omega)))
  refine ⟨s, h1, h2, ?_⟩
  obtain ⟨a, b, e1, e2, e3⟩ := am_came n k01
  rw [e2, ← h2, am_nsub (by omega), show n - a = b by omega, ← e3]
  unfold t_on
  refine am_sum_cut (fun m hm => ?_) 7 n7 (fun m q1 q2 => am_bit_n0.mp (fun z => absurd ((hb m (by omega)).mp z).1 (by omega)))
  have := hb m (by omega)
  rcases k01 m hm with z | z
  · rw [z] at this ⊢
    exact this.mpr ⟨hm, by decide⟩
  · rw [z] at this ⊢
    exact am_bit_n0.mp (fun q => (this.mp q).2 rfl)
section
variable {pr : am_Pr} {d : Nat} {S : List (Nat × Nat)} {I : Nat → Nat → Int32} {J : Nat → Nat → Int64} {P : Nat → Nat → Option Nat} {Q : Option Value → am_H → Prop} {n l s u tp : Nat} {kp lf kp' : Nat → Int32} {lw : Option (Nat × List Cl)} {lv0 : Option (List Cl)}
theorem cK {x y z : Int32} (L : am_Lay S P) (hu : I 90 0 = nI u) (u16 : u ≤ 16) (hPA : am_PA (I 91) lf kp n u) (hmv : am_mv n kp) (n7 : n ≤ 7) (hdd : am_dd n x y z) (hun : ∀ j, j < 44 → kp j = am_un n x y z kp' j) (k : ∀ I', (∀ a, a ≠ 90 → a ≠ 91 → I' a = I a) → I' 90 0 = nI (g_m u + 1) → am_PA (I' 91) (g_kp lf u kp x) kp' n (g_m u + 1) → Q none (S, I', J, P)) : am_ev pr (d + 1) 101 [.ref 90, .int x, .int y, .int z] (S, I, J, P) Q := by
  refine c101b L.p90 hu u16 (fun m sh I' h1 h2 h3 h4 h5 h6 h7 h8 h9 => ?_)
  obtain ⟨rfl, rfl⟩ := g_of h1 h2 h3
  exact k I' h4 h5 (am_PA_keep hPA h2 h6 (fun i hi j hj => g_kp_old hi hj) h7 h8 h9 (fun j hj => g_kp_new hj) g_kp_44 hdd hmv n7 hun)
theorem mK {x : Int32} (L : am_Lay S P) (h : HM I kp lf u) (u16 : u ≤ 16) (k : ∀ I', (∀ a, a ≠ 124 → a ≠ 141 → I' a = I a) → (∀ q, q ≠ 35 → I' 124 q = I 124 q) → HM I' kp (g_kp lf u kp x) (g_m u + 1) → Q none (S, I', J, P)) : am_ev pr d 250 [.ref 124, .int x] (S, I, J, P) Q := by
  obtain ⟨e1, e2, e3⟩ := h
  refine c250 L e2 u16 (fun m sh I' h1 h2 h3 h4 h5 h6 h7 h8 h9 => ?_)
  obtain ⟨rfl, rfl⟩ := g_of h1 h2 h3
  refine k I' h4 h5 ⟨by rw [h4 126 (by decide) (by decide)]; exact e1, h6, fun i hi j hj => ?_⟩
  by_cases z : i = g_m u
  · subst z
    by_cases z2 : j = 44
    · subst z2
      rw [h9, g_kp_44]
    · rw [h8 j (by omega), g_kp_new (by omega), e1]
  · rw [h7 i (by omega) j hj, g_kp_old (by omega) hj]
    exact e3 _ (by omega) j hj
theorem un_go {m : Nat} (hm7 : m < 7) (k01 : kp (35 + m) = 0 ∨ kp (35 + m) = 1) : ∀ j, j < 44 → kp j = am_un n 1 (nI m) 0 (g_go kp m) j := by
  have e10 : (1 : Int32) - 0 = 1 := by decide
  have e11 : (1 : Int32) - 1 = 0 := by decide
  intro j hj
  unfold am_un g_go
  rw [if_neg (by decide), if_pos rfl, am_clN (by omega)]
  by_cases z : 35 + m = j
  · rw [if_pos z, if_pos z.symm, z]
    rw [z] at k01
    rcases k01 with q | q
    · rw [q, e10, e11]
    · rw [q, e11, e10]
  · rw [if_neg z, if_neg (fun q => z q.symm)]
theorem hr_go {I1 : Nat → Nat → Int32} {m : Nat} (hr : am_HR I 65 kp n l s) (hm : m < n) (er : ∀ a, a ≠ 65 → I1 a = I a) (eh : ∀ q, q ≠ 1 → I1 65 q = I 65 q) (z1 : I1 65 1 = I 65 1 ^^^ (1 <<< (nI m &&& 31))) (ek2 : ∀ j, j ≠ 35 + m → kp' j = kp j) (zk : kp' (35 + m) = 1 - kp (35 + m)) : am_HR I1 65 kp' n l s := by
  have e10 : (1 : Int32) - 0 = 1 := by decide
  have e11 : (1 : Int32) - 1 = 0 := by decide
  have n7 := hr.n7
  have hm7 : m < 7 := by omega
  have k01 := hr.k01 m hm
  have ek : ∀ j, j < 35 ∨ 41 < j → kp' j = kp j := fun j hj => ek2 j (by omega)
  clear hm7
  refine am_HR_mk ?_ ?_ ?_ ?_ ?_ ?_ ?_ ?_ ?_ ?_ ?_ ?_ ?_ ?_ ?_ ?_
  · exact ⟨hr.n7, hr.l6, hr.s6⟩
  · show I1 65 0 = nI n ∧ kp' 73 = nI n
    rw [eh 0 (by omega), ek 73 (by omega)]
    exact hr 1
  · intro q hq
    show am_bit (I1 65 1) q = 1 ↔ q < n ∧ kp' (35 + q) = 1
    rw [z1, am_bit_xor hq, am_bit_sh1 (by omega) hq, hr.he q hq]
    by_cases z : q = m
    · subst z
      rw [zk]
      rcases k01 with y | y
      · rw [y, e10]
        exact ⟨fun _ => ⟨hm, rfl⟩, fun _ w => absurd (w.mpr rfl).2 (by decide)⟩
      · rw [y, e11]
        exact ⟨fun w => absurd ⟨fun _ => rfl, fun _ => ⟨hm, rfl⟩⟩ w, fun w => absurd w.2 (by decide)⟩
    · rw [ek2 _ (by omega)]
      exact ⟨fun w => Decidable.not_not.mp (fun v => w ⟨fun t => absurd t v, fun t => absurd t z⟩), fun w v => z (v.mp w)⟩
  · intro q hq
    show kp' (35 + q) = 0 ∨ kp' (35 + q) = 1
    by_cases z : q = m
    · subst z
      rw [zk]
      rcases k01 with y | y
      · rw [y]
        exact Or.inr e10
      · rw [y]
        exact Or.inl e11
    · rw [ek2 _ (by omega)]
      exact hr.k01 q hq
  · show I1 65 2 = kp' 42 ∧ ∃ x, x < 32 ∧ kp' 42 = nI x
    rw [eh 2 (by omega), ek 42 (by omega)]
    exact hr 4
  · show I1 65 3 = nI l ∧ kp' 75 = nI l
    rw [eh 3 (by omega), ek 75 (by omega)]
    exact hr 5
  · show I1 65 4 = kp' 76 ∧ (kp' 76 = -1 ∨ ∃ f, f < l ∧ kp' 76 = nI f)
    rw [eh 4 (by omega), ek 76 (by omega)]
    exact hr 6
  · show I1 65 5 = nI s ∧ kp' 74 = nI s
    rw [eh 5 (by omega), ek 74 (by omega)]
    exact hr 7
  · intro mq hmq
    show I1 66 mq = kp' (44 + mq) ∧ ∃ x, 1 ≤ x ∧ x ≤ 9 ∧ kp' (44 + mq) = nI x
    rw [er 66 (by omega), ek (44 + mq) (by omega)]
    exact hr 8 mq hmq
  · intro mq hmq
    show I1 67 mq = kp' (51 + mq)
    rw [er 67 (by omega), ek (51 + mq) (by omega)]
    exact hr 9 mq hmq
  · intro jq hjq
    show I1 68 jq = kp' jq ∧ ∃ x, x ≤ 9 ∧ kp' jq = nI x
    rw [er 68 (by omega), ek jq (by omega)]
    exact hr 10 jq hjq
  · show I1 69 0 = kp' 43 ∧ ∃ x, x ≤ 999 ∧ kp' 43 = nI x
    rw [er 69 (by omega), ek 43 (by omega)]
    exact hr 11
  · show I1 69 1 = kp' 70 ∧ ∃ x, x ≤ 10 ∧ kp' 70 = nI x
    rw [er 69 (by omega), ek 70 (by omega)]
    exact hr 12
  · show I1 69 2 = kp' 71
    rw [er 69 (by omega), ek 71 (by omega)]
    exact hr 13
  · show I1 69 3 = kp' 72 ∧ ∃ x, x ≤ 99 ∧ kp' 72 = nI x
    rw [er 69 (by omega), ek 72 (by omega)]
    exact hr 14
  · intro iq hiq
    have hs6 := hr.s6
    show ∃ a b, a < 5 ∧ b < 5 ∧ I1 71 iq = nI a ∧ kp' (58 + 2 * iq) = nI a ∧ I1 72 iq = nI b ∧ kp' (58 + 2 * iq + 1) = nI b
    rw [er 71 (by omega), er 72 (by omega), ek (58 + 2 * iq) (by omega), ek (58 + 2 * iq + 1) (by omega)]
    exact hr 15 iq hiq
/-- doGo -/
theorem c102 (L : am_Lay S P) {m : Nat} (h : HC I kp lf n l s u) (hm : m < n) (k : ∀ I', (∀ a, a ≠ 65 → a ≠ 90 → a ≠ 91 → I' a = I a) → HC I' (g_go kp m) (g_kp lf u kp 1) n l s (g_m u + 1) → Q (some (.int (1 - kp (35 + m)))) (S, I', J, P)) : am_ev pr (d + 2) 102 [.ref 64, .int (nI m)] (S, I, J, P) Q := by
  obtain ⟨hr, u16, hu, hPA⟩ := h
  have n7 := hr.n7
  have hh := L.h65
  have hm7 : m < 7 := by omega
  have k01 := hr.k01 m hm
  have e10 : (1 : Int32) - 0 = 1 := by decide
  have e11 : (1 : Int32) - 1 = 0 := by decide
  show am_wp pr (d + 2) 102 0 [(0, .ref 64), (1, .int (nI m))] [] _ _
  refine w102_0 rfl ?_
  refine w102_1 (L.2 _ _ _ rfl) ?_
  refine w102_4 rfl ?_
  refine w102_5 (k := c16 hh ?_)
  rw [hr.hn, am_mem7 hm n7]
  refine w102_8 (fun _ => ?_) (fun hQ => absurd am_n01 hQ)
  refine w102_14 rfl ?_
  refine w102_15 (L.2 _ _ _ rfl) ?_
  refine w102_18 rfl ?_
  refine w102_19 ?_
  refine w102_22 ?_
  refine w102_23 rfl ?_
  refine w102_24 ?_
  refine w102_25 ?_
  refine w102_26 ?_
  refine w102_29 rfl ?_
  refine w102_30 (L.2 _ _ _ rfl) ?_
  refine w102_33 ?_
  refine w102_34 rfl ?_
  refine w102_35 ?_
  have hun := un_go (n := n) hm7 k01
  generalize hI1 : am_u I 65 1 (I 65 1 ^^^ (1 <<< (nI m &&& 31))) = I1
  have er : ∀ a, a ≠ 65 → I1 a = I a := fun a ha => by rw [← hI1, am_u_ne ha]
  have eh : ∀ q, q ≠ 1 → I1 65 q = I 65 q := fun q hq => by rw [← hI1, am_u_at hq]
  have z1 : I1 65 1 = I 65 1 ^^^ (1 <<< (nI m &&& 31)) := by rw [← hI1, am_u_self]
  have hr1 := hr_go (kp' := g_go kp m) hr hm er eh z1 (fun j hj => if_neg hj) (if_pos rfl)
  refine w102_36 (k := cK L (by rw [er 90 (by decide)]; exact hu) u16 (by rw [er 91 (by decide)]; exact hPA) hr.mv n7 (Or.inr (Or.inl ⟨rfl, m, hm, rfl⟩)) hun (fun I2 g1 g2 g3 => ?_))
  have hb : am_bit (I2 65 1) m = 1 - kp (35 + m) := by
    rw [g1 65 (by decide) (by decide), z1]
    have := am_bit_xor (x := I 65 1) (y := 1 <<< (nI m &&& 31)) (m := m) (by omega)
    rw [am_bit_sh1 (by omega) (by omega), hr.he m (by omega)] at this
    rcases k01 with y | y
    · rw [y] at this ⊢
      rw [e10]
      exact this.mpr (fun w => absurd (w.mpr rfl).2 (by decide))
    · rw [y] at this ⊢
      rw [e11]
      exact am_bit_n0.mp (fun w => this.mp w ⟨fun _ => rfl, fun _ => ⟨hm, rfl⟩⟩)
  refine w102_39 rfl ?_
  refine w102_40 (L.2 _ _ _ rfl) ?_
  refine w102_43 ?_
  refine w102_46 rfl ?_
  refine w102_47 (k := c17b ?_)
  rw [hb]
  refine w102_50 ?_
  exact k I2 (fun a a1 a2 a3 => by rw [g1 a a2 a3, er a a1]) ⟨am_HR_cg 65 (fun a b1 b2 => g1 a (by omega) (by omega)) rfl hr1, g_m16 u16, g2, g3⟩
theorem c102n (L : am_Lay S P) {x : Int32} (hr : am_HR I 65 kp n l s) (hx : ¬ (0 ≤ x ∧ x < nI n)) (k : Q (some (.int (-2))) (S, I, J, P)) : am_ev pr (d + 2) 102 [.ref 64, .int x] (S, I, J, P) Q := by
  have hh := L.h65
  have h2 : ¬ (0 ≤ x ∧ x < I 65 0 ∧ x < 7) := fun q => hx ⟨q.1, by rw [← hr.hn]; exact q.2.1⟩
  show am_wp pr (d + 2) 102 0 [(0, .ref 64), (1, .int x)] [] _ _
  refine w102_0 rfl ?_
  refine w102_1 (L.2 _ _ _ rfl) ?_
  refine w102_4 rfl ?_
  refine w102_5 (k := c16 hh ?_)
  rw [am_b_f h2]
  refine w102_8 (fun hQ => absurd hQ (by decide)) (fun _ => ?_)
  refine w102_11 ?_
  refine w102_13 ?_
  exact k
/-- goesKept -/
theorem c253 (L : am_Lay S P) {m : Nat} (h : HM I kp lf u) (u16 : u ≤ 16) (hn : kp 73 = nI n) (n7 : n ≤ 7) (hm : m < n) (k : ∀ I', (∀ a, a ≠ 124 → a ≠ 126 → a ≠ 141 → I' a = I a) → (∀ q, q ≠ 35 → I' 124 q = I 124 q) → HM I' (g_go kp m) (g_kp lf u kp 1) (g_m u + 1) → Q (some (.int (1 - kp (35 + m)))) (S, I', J, P)) : am_ev pr (d + 2) 253 [.ref 124, .int (nI m)] (S, I, J, P) Q := by
  have hm7 : m < 7 := by omega
  show am_wp pr (d + 2) 253 0 [(0, .ref 124), (1, .int (nI m))] [] _ _
  refine w253_0 rfl ?_
  refine w253_1 rfl ?_
  refine w253_2 (k := c174 L (by rw [h.1]; exact hn) n7 ?_)
  rw [am_memn hm n7]
  refine w253_5 (fun _ => ?_) (fun hQ => absurd am_n01 hQ)
  refine w253_11 rfl ?_
  refine w253_12 ?_
  refine w253_13 (k := mK L h u16 (fun I1 g1 g2 g3 => ?_))
  have e1 : I1 126 (35 + m) = kp (35 + m) := by rw [g3.1]
  refine w253_16 rfl ?_
  refine w253_17 (L.2 _ _ _ rfl) ?_
  refine w253_20 ?_
  refine w253_22 rfl ?_
  refine w253_23 ?_
  rw [nz_a35]
  refine w253_24 ?_
  refine w253_25 rfl ?_
  refine w253_26 (L.2 _ _ _ rfl) ?_
  refine w253_29 ?_
  refine w253_31 rfl ?_
  refine w253_32 ?_
  rw [nz_a35]
  refine w253_33 (L.sh rfl) (am_in_nI (by omega) (by decide)) ?_
  rw [am_clN (by omega), e1]
  refine w253_34 ?_
  refine w253_35 (L.sh rfl) (am_in_nI (by omega) (by decide)) ?_
  rw [am_clN (by omega)]
  refine w253_36 rfl ?_
  refine w253_37 (L.2 _ _ _ rfl) ?_
  refine w253_40 ?_
  refine w253_42 rfl ?_
  refine w253_43 ?_
  rw [nz_a35]
  refine w253_44 (L.sh rfl) (am_in_nI (by omega) (by decide)) ?_
  rw [am_clN (by omega), am_u_self]
  refine w253_45 ?_
  refine k _ (fun a a1 a2 a3 => ?_) (fun q hq => ?_) ⟨?_, ?_, ?_⟩
  · rw [am_u_ne a2, g1 a a1 a3]
  · rw [am_u_ne (by decide), g2 q hq]
  · funext j
    rw [am_u_get, g3.1]
    unfold g_go
    by_cases z : j = 35 + m
    · rw [if_pos ⟨rfl, z⟩, if_pos z]
    · rw [if_neg (fun q => z q.2), if_neg z]
  · rw [am_u_ne (by decide)]; exact g3.2.1
  · rw [am_u_ne (by decide)]; exact g3.2.2
theorem c253n (L : am_Lay S P) {x : Int32} (hn : I 126 73 = nI n) (n7 : n ≤ 7) (hx : ¬ (0 ≤ x ∧ x < nI n)) (k : Q (some (.int (-2))) (S, I, J, P)) : am_ev pr (d + 2) 253 [.ref 124, .int x] (S, I, J, P) Q := by
  show am_wp pr (d + 2) 253 0 [(0, .ref 124), (1, .int x)] [] _ _
  refine w253_0 rfl ?_
  refine w253_1 rfl ?_
  refine w253_2 (k := c174 L hn n7 ?_)
  rw [am_b_f hx]
  refine w253_5 (fun hQ => absurd hQ (by decide)) (fun _ => ?_)
  refine w253_8 ?_
  refine w253_10 ?_
  exact k
end
