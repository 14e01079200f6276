/-! orders run: the reference goes along a clause -/
/-- a sum as the reference takes it -/
def o_sm (v : Int64) : Int32 := if v < 0 then -1 else if v ≤ 1000000 then v.toInt32 else -1
section
variable {pr : am_Pr} {d : Nat} {S : List (Nat × Nat)} {I I' M M' : Nat → Nat → Int32} {J : Nat → Nat → Int64} {P : Nat → Nat → Option Nat} {Q : Option Value → am_H → Prop} {n : Nat} {kp : Nat → Int32} {lw : Option (List Cl)} {T : Tk} {base N : Nat} {w : Nat → Nat → Int32}
/-- small -/
theorem c296 {v : Int64} (k : Q (some (.int (o_sm v))) (S, I, J, P)) : am_ev pr d 296 [.long v] (S, I, J, P) Q := by
  show am_wp pr d 296 0 [(0, .long v)] [] _ _
  unfold o_sm at k
  refine w296_0 rfl ?_
  refine w296_1 ?_
  refine w296_2 ?_
  refine w296_3 (fun h3 => ?_) (fun h3 => ?_)
  · refine w296_14 ?_
    refine w296_15 ?_
    refine w296_20 ?_
    first | (rw [if_pos ((lg_cmp_lt _ _).mp h3)] at k; exact k) | (rw [if_neg (fun q => absurd ((lg_cmp_ge _ _).mp h3) (Int64.not_le.mpr q)), if_pos ((lg_cmp_le _ _).mp h11)] at k; exact k) | (rw [if_neg (fun q => absurd ((lg_cmp_ge _ _).mp h3) (Int64.not_le.mpr q)), if_neg (fun q => absurd ((lg_cmp_gt _ _).mp h11) (Int64.not_lt.mpr q))] at k; exact k)
  · replace h3 := Int32.not_lt.mp h3
    refine w296_6 rfl ?_
    refine w296_7 ?_
    refine w296_10 ?_
    refine w296_11 (fun h11 => ?_) (fun h11 => ?_)
    · refine w296_18 rfl ?_
      refine w296_19 ?_
      refine w296_20 ?_
      first | (rw [if_pos ((lg_cmp_lt _ _).mp h3)] at k; exact k) | (rw [if_neg (fun q => absurd ((lg_cmp_ge _ _).mp h3) (Int64.not_le.mpr q)), if_pos ((lg_cmp_le _ _).mp h11)] at k; exact k) | (rw [if_neg (fun q => absurd ((lg_cmp_ge _ _).mp h3) (Int64.not_le.mpr q)), if_neg (fun q => absurd ((lg_cmp_gt _ _).mp h11) (Int64.not_lt.mpr q))] at k; exact k)
    · replace h11 := Int32.not_le.mp h11
      refine w296_14 ?_
      refine w296_15 ?_
      refine w296_20 ?_
      first | (rw [if_pos ((lg_cmp_lt _ _).mp h3)] at k; exact k) | (rw [if_neg (fun q => absurd ((lg_cmp_ge _ _).mp h3) (Int64.not_le.mpr q)), if_pos ((lg_cmp_le _ _).mp h11)] at k; exact k) | (rw [if_neg (fun q => absurd ((lg_cmp_ge _ _).mp h3) (Int64.not_le.mpr q)), if_neg (fun q => absurd ((lg_cmp_gt _ _).mp h11) (Int64.not_lt.mpr q))] at k; exact k)
/-- laysAside, takesBack, the second row -/
theorem c291b (L : am_Lay S P) (k : ∀ I', (∀ a, a ≠ 129 → I' a = I a) → (∀ j, j < 44 → I' 129 (44 + j) = I 126 j) → Q none (S, I', J, P)) : am_ev pr d 291 [.ref 124, .int 1] (S, I, J, P) Q := by
  have e : (44 : Int32) * 1 = nI 44 := by decide
  show am_wp pr d 291 0 [(0, .ref 124), (1, .int 1)] [] _ _
  refine w291_0 ?_
  refine w291_1 ?_
  refine am_for (fun b => ∀ I' : Nat → Nat → Int32, (∀ a, a ≠ 129 → I' a = I a) → (∀ j, j < b → I' 129 (44 + j) = I 126 j) → ∀ lvv, am_ld1 lvv 0 = some (.ref 124) → am_ld1 lvv 1 = some (.int 1) → am_ld1 lvv 2 = some (.int (nI b)) → am_wp pr (d) 291 2 lvv [] (S, I', J, P) Q) 44 ?_ ?_ I (fun _ _ => rfl) (fun j hj => absurd hj (Nat.not_lt_zero j)) _ rfl rfl rfl
  · intro b hb ih I' f1 f2 lv l0 l1 l2
    have e1 : I' 126 b = I 126 b := by rw [f1 126 (by decide)]
    refine w291_2 l2 ?_
    refine w291_3 ?_
    refine w291_5 (fun hQ => absurd hQ (am_nlt hb (by decide))) (fun _ => ?_)
    refine w291_8 l0 ?_
    refine w291_9 (L.2 _ _ _ rfl) ?_
    refine w291_12 ?_
    refine w291_14 l1 ?_
    refine w291_15 ?_
    rw [e]
    refine w291_16 l2 ?_
    refine w291_17 ?_
    rw [nI_add]
    refine w291_18 l0 ?_
    refine w291_19 (L.2 _ _ _ rfl) ?_
    refine w291_22 l2 ?_
    refine w291_23 (L.sh rfl) (am_in_nI (by omega) (by decide)) ?_
    rw [am_clN (by omega), e1]
    refine w291_24 (L.sh rfl) (am_in_nI (by omega) (by decide)) ?_
    rw [am_clN (by omega)]
    refine w291_25 l2 ?_
    refine w291_28 ?_
    refine ih _ (fun a ha => by rw [am_u_ne ha]; exact f1 a ha) (fun j hj => ?_) _ l0 l1 (am_nx b)
    by_cases z : j = b
    · rw [z, am_u_self]
    · rw [am_u_at (by omega)]; exact f2 j (by omega)
  · intro I' f1 f2 lv l0 l1 l2
    refine w291_2 l2 ?_
    refine w291_3 ?_
    refine w291_5 (fun _ => ?_) (fun hQ => absurd (Int32.le_refl _) hQ)
    refine w291_31 ?_
    exact k I' f1 f2
theorem c297b (L : am_Lay S P) (k : ∀ I', (∀ a, a ≠ 126 → I' a = I a) → (∀ j, I' 126 j = if j < 44 then I 129 (44 + j) else I 126 j) → Q none (S, I', J, P)) : am_ev pr d 297 [.ref 124, .int 1] (S, I, J, P) Q := by
  have e : (44 : Int32) * 1 = nI 44 := by decide
  show am_wp pr d 297 0 [(0, .ref 124), (1, .int 1)] [] _ _
  refine w297_0 ?_
  refine w297_1 ?_
  refine am_for (fun b => ∀ I' : Nat → Nat → Int32, (∀ a, a ≠ 126 → I' a = I a) → (∀ j, I' 126 j = if j < b then I 129 (44 + j) else I 126 j) → ∀ lvv, am_ld1 lvv 0 = some (.ref 124) → am_ld1 lvv 1 = some (.int 1) → am_ld1 lvv 2 = some (.int (nI b)) → am_wp pr (d) 297 2 lvv [] (S, I', J, P) Q) 44 ?_ ?_ I (fun _ _ => rfl) (fun j => by rw [if_neg (by omega)]) _ rfl rfl rfl
  · intro b hb ih I' f1 f2 lv l0 l1 l2
    have e1 : I' 129 (44 + b) = I 129 (44 + b) := by rw [f1 129 (by decide)]
    refine w297_2 l2 ?_
    refine w297_3 ?_
    refine w297_5 (fun hQ => absurd hQ (am_nlt hb (by decide))) (fun _ => ?_)
    refine w297_8 l0 ?_
    refine w297_9 (L.2 _ _ _ rfl) ?_
    refine w297_12 l2 ?_
    refine w297_13 l0 ?_
    refine w297_14 (L.2 _ _ _ rfl) ?_
    refine w297_17 ?_
    refine w297_19 l1 ?_
    refine w297_20 ?_
    rw [e]
    refine w297_21 l2 ?_
    refine w297_22 ?_
    rw [nI_add]
    refine w297_23 (L.sh rfl) (am_in_nI (by omega) (by decide)) ?_
    rw [am_clN (by omega), e1]
    refine w297_24 (L.sh rfl) (am_in_nI (by omega) (by decide)) ?_
    rw [am_clN (by omega)]
    refine w297_25 l2 ?_
    refine w297_28 ?_
    refine ih _ (fun a ha => by rw [am_u_ne ha]; exact f1 a ha) (fun j => ?_) _ l0 l1 (am_nx b)
    rw [am_u_get, f2]
    by_cases z : j = b
    · rw [if_pos ⟨rfl, z⟩, if_pos (by omega), z]
    · rw [if_neg (fun q => z q.2)]
      by_cases y : j < b
      · rw [if_pos y, if_pos (by omega)]
      · rw [if_neg y, if_neg (by omega)]
  · intro I' f1 f2 lv l0 l1 l2
    refine w297_2 l2 ?_
    refine w297_3 ?_
    refine w297_5 (fun _ => ?_) (fun hQ => absurd (Int32.le_refl _) hQ)
    refine w297_31 ?_
    exact k I' f1 f2
/-- laysFor -/
theorem c294 (L : am_Lay S P) (hk : I 126 = kp) (hn : kp 73 = nI n) (n7 : n ≤ 7) (hlw : m_lw kp lw) (k : ∀ I', (∀ a, a ≠ 124 → ¬ (136 ≤ a ∧ a ≤ 140) → I' a = I a) → (∀ q, (q < 22 ∨ 25 < q) → I' 124 q = I 124 q) → (∀ b, b < 5 → I' 137 b = g_vF kp n lw b) → Q none (S, I', J, P)) : am_ev pr (d + 45) 294 [.ref 124] (S, I, J, P) Q := by
  show am_wp pr (d + 45) 294 0 [(0, .ref 124)] [] _ _
  refine w294_0 rfl ?_
  refine w294_1 (k := c178 (d := d) L hk hn n7 hlw (fun I1 f1 g1 => ?_))
  refine w294_4 ?_
  refine w294_5 ?_
  refine am_for (fun b => ∀ I2 : Nat → Nat → Int32, (∀ a, a ≠ 137 → I2 a = I1 a) → (∀ q, q < b → I2 137 q = g_vF kp n lw q) → ∀ lvv, am_ld1 lvv 0 = some (.ref 124) → am_ld1 lvv 1 = some (.int (nI b)) → am_wp pr (d + 45) 294 6 lvv [] (S, I2, J, P) Q) 5 ?_ ?_ I1 (fun _ _ => rfl) (fun q hq => absurd hq (Nat.not_lt_zero q)) _ rfl rfl
  · intro b hb ih I2 e1 e2 lvv l0 l1
    have k126 : I2 126 = kp := by rw [e1 126 (by decide), f1.1 126 (by decide) (by decide) (by decide) (by decide) (by decide)]; exact hk
    have n73 : I2 126 73 = nI n := by rw [k126]; exact hn
    have g2 : m_ld I2 kp n lw (n * 5) := fun q x hx hq => by rw [e1 138 (by decide), e1 139 (by decide), e1 140 (by decide)]; exact g1 q x hx hq
    have ev : m_vo (I2 138) n b (m_fa (I2 126) (I2 140) (I2 139) n b (m_all n)) = g_vF kp n lw b := by
      rw [k126]
      exact m_vF_c g2 (m_can_ld kp n lw (n * 5)) n7 hb
    refine w294_6 l1 ?_
    refine w294_7 ?_
    refine w294_8 (fun hQ => absurd hQ (am_nlt (n := 5) hb (by decide))) (fun _ => ?_)
    refine w294_11 l0 ?_
    refine w294_12 (L.2 _ _ _ rfl) ?_
    refine w294_15 l1 ?_
    refine w294_16 l0 ?_
    refine w294_17 l1 ?_
    refine w294_18 l0 ?_
    refine w294_19 (k := c200 (d := d + 43) L ?_)
    rw [n73]
    refine w294_22 (k := c201 (d := d + 42) (set := m_all n) L n73 n7 hb ?_)
    rw [ev]
    refine w294_25 (L.sh rfl) (am_in_nI (by omega) (by decide)) ?_
    rw [am_clN (by omega)]
    refine w294_26 l1 ?_
    refine w294_29 ?_
    refine ih _ (fun a ha => by rw [am_u_ne ha]; exact e1 a ha) (fun q hq => ?_) _ l0 (am_nx b)
    by_cases z : q = b
    · rw [z, am_u_self]
    · rw [am_u_at z]; exact e2 q (by omega)
  · intro I2 e1 e2 lvv l0 l1
    refine w294_6 l1 ?_
    refine w294_7 ?_
    refine w294_8 (fun _ => ?_) (fun hQ => absurd (Int32.le_refl _) hQ)
    refine w294_32 ?_
    exact k I2 (fun a a1 a2 => by rw [e1 a (by omega)]; exact f1.1 a a1 (by omega) (by omega) (by omega) (by omega)) (fun q hq => by rw [e1 124 (by decide)]; exact f1.2 q hq) e2
/-! in plain memories -/
theorem v_s_self {g : Nat} {br : Int32} (h1 : M 124 22 = nI g) (h2 : M 124 24 = br) : v_s M g br = M := by
  unfold v_s
  funext a j
  rw [am_u_get, am_u_get]
  by_cases z : a = 124 ∧ j = 24
  · rw [if_pos z, z.1, z.2]; exact h2.symm
  · rw [if_neg z]
    by_cases y : a = 124 ∧ j = 22
    · rw [if_pos y, y.1, y.2]; exact h1.symm
    · rw [if_neg y]
def v_fr (M M' : Nat → Nat → Int32) : Prop := (∀ a, a ≠ 124 → M' a = M a) ∧ ∀ q, q ≠ 22 → q ≠ 24 → M' 124 q = M 124 q
theorem v_s_fr {g : Nat} {br : Int32} : v_fr M (v_s M g br) := ⟨fun _ h => v_s_ne h, fun _ h1 h2 => v_s_at h1 h2⟩
theorem v_E_cg (e : ∀ a, a ≠ 124 → M' a = M a) (e23 : M' 124 23 = M 124 23) (e25 : M' 124 25 = M 124 25) (e27 : M' 124 27 = M 124 27) (e28 : M' 124 28 = M 124 28) (E : v_E S M P T base N w) : v_E S M' P T base N w := by
  obtain ⟨L, h1, h2, h3, h4, h5⟩ := E
  refine ⟨L, h1, e23.trans h2, ?_, h4, ?_⟩
  · rw [e 126 (by decide)]; exact h3
  · rw [e 126 (by decide), e 136 (by decide), e25]
    rcases h5 with q | ⟨q1, q2, m, q3, q4, q5⟩
    · exact Or.inl q
    · refine Or.inr ⟨q1, q2, m, q3, q4, ?_⟩
      rw [q5]
      unfold o_env
      rw [e 126 (by decide), e 137 (by decide), e27, e28]
theorem c184m (E : v_E S M P T base N w) {i : Nat} (hi : base + i < 100000) (k : Q (some (.int (T.1 i))) (S, M, J, P)) {g : Nat} (hg : M 124 22 = nI g) : am_ev pr d 184 [.ref 124, .int (nI (base + i))] (S, M, J, P) Q := by
  have e := v_s_self hg rfl
  have q := c184 (pr := pr) (d := d) (J := J) (Q := Q) (g := g) (br := M 124 24) E hi (by rw [e]; exact k)
  rw [e] at q
  exact q
theorem c189m (E : v_E S M P T base N w) {i : Nat} (hg : M 124 22 = nI (base + i)) {c : Int32} (hi : base + i < 99999) (k1 : T.1 i = c → ∀ M', v_fr M M' → M' 124 22 = nI (base + (i + 1)) → M' 124 24 = M 124 24 → Q (some (.int 1)) (S, M', J, P)) (k2 : ¬ T.1 i = c → Q (some (.int 0)) (S, M, J, P)) : am_ev pr (d + 1) 189 [.ref 124, .int c] (S, M, J, P) Q := by
  have e := v_s_self hg rfl
  have q := c189 (pr := pr) (d := d) (J := J) (Q := Q) (br := M 124 24) (c := c) E hi (fun z => k1 z _ v_s_fr (v_s_go _ _ _) (v_s_br _ _ _)) (fun z => by rw [e]; exact k2 z)
  rw [e] at q
  exact q
theorem c185m (E : v_E S M P T base N w) {i j lvs lvs' f : Nat} (hg : M 124 22 = nI (base + i)) {e : Ex} (h : p_sum T f 0 i lvs = pOk e j lvs') (hi : i ≤ N) {al : Bool} {live b0 : Int32} (hb : M 124 24 = b0) (hM : v_M al live b0) (k : ∀ v br M', v_fr M M' → M' 124 22 = nI (base + j) → M' 124 24 = br → v_R al b0 (e.1 w) v br → Q (some (.long v)) (S, M', J, P)) : am_ev pr (d + 30) 185 [.ref 124, .int live] (S, M, J, P) Q := by
  have q := c185 (pr := pr) (d := d) (J := J) (Q := Q) E h (by decide) hi hM (fun v br hv => k v br _ v_s_fr (v_s_go _ _ _) (v_s_br _ _ _) hv)
  rw [v_s_self hg hb] at q
  exact q
theorem c193m (E : v_E S M P T base N w) {i j lvs lvs' f : Nat} (hg : M 124 22 = nI (base + i)) {e : Te} (h : p_test T f 0 i lvs = pOk e j lvs') (hi : i ≤ N) {al : Bool} {live b0 : Int32} (hb : M 124 24 = b0) (hM : v_M al live b0) (k : ∀ (v : Bool) br M', v_fr M M' → M' 124 22 = nI (base + j) → M' 124 24 = br → v_R al b0 (e.1 w) v br → Q (some (.int (am_b (v = true)))) (S, M', J, P)) : am_ev pr (d + 42) 193 [.ref 124, .int live] (S, M, J, P) Q := by
  have q := c193 (pr := pr) (d := d) (J := J) (Q := Q) E h (by decide) hi hM (fun v br hv => k v br _ v_s_fr (v_s_go _ _ _) (v_s_br _ _ _) hv)
  rw [v_s_self hg hb] at q
  exact q
end
/-- heads of orders -/
theorem p_head_o {T : Tk} (hT : T.2.2 = true) {f i lv j lv' : Nat} {h : Nat × List Ex} (hp : p_head T f i lv = pOk h j lv') : (T.1 i = 26 ∧ h = (26, []) ∧ j = i + 1) ∨ ((T.1 i = 21 ∨ T.1 i = 22) ∧ T.1 i = nI h.1 ∧ ∃ a, p_sum T f 0 (i + 1) lv = pOk a j lv' ∧ h.2 = [a]) ∨ (T.1 i = 23 ∧ ∃ a b c j1 j2 l1 l2, p_sum T f 0 (i + 1) lv = pOk a j1 l1 ∧ T.1 j1 = 24 ∧ p_sum T f 0 (j1 + 1) l1 = pOk b j2 l2 ∧ T.1 j2 = 25 ∧ p_sum T f 0 (j2 + 1) l2 = pOk c j lv' ∧ h = (23, [a, b, c])) := by
  unfold p_head at hp
  rw [if_pos hT] at hp
  by_cases h23 : T.1 i = 23
  · rw [if_pos h23] at hp
    obtain ⟨a, j1, l1, g1, hp⟩ := pBind_ok hp
    obtain ⟨b, j2, l2, g2, hp⟩ := pBind_ok hp
    obtain ⟨c, j3, l3, g3, hp⟩ := pBind_ok hp
    obtain ⟨r1, r2, r3⟩ := pOk_inj hp
    unfold p_more at g2 g3
    by_cases z2 : T.1 j1 = 24
    · rw [if_pos z2] at g2
      by_cases z3 : T.1 j2 = 25
      · rw [if_pos z3] at g3
        rw [r2, r3] at g3
        exact Or.inr (Or.inr ⟨h23, a, b, c, j1, j2, l1, l2, g1, z2, g2, z3, g3, r1.symm⟩)
      · rw [if_neg z3] at g3
        exact (pBad_no g3).elim
    · rw [if_neg z2] at g2
      exact (pBad_no g2).elim
  · rw [if_neg h23] at hp
    by_cases h21 : T.1 i = 21
    · rw [if_pos h21] at hp
      obtain ⟨a, g1, g2⟩ := pMap_ok hp
      refine Or.inr (Or.inl ⟨Or.inl h21, ?_, a, g1, ?_⟩)
      · rw [g2, h21]; rfl
      · rw [g2]
    · rw [if_neg h21] at hp
      by_cases h22 : T.1 i = 22
      · rw [if_pos h22] at hp
        obtain ⟨a, g1, g2⟩ := pMap_ok hp
        refine Or.inr (Or.inl ⟨Or.inr h22, ?_, a, g1, ?_⟩)
        · rw [g2, h22]; rfl
        · rw [g2]
      · rw [if_neg h22] at hp
        by_cases h26 : T.1 i = 26
        · rw [if_pos h26] at hp
          obtain ⟨r1, r2, r3⟩ := pOk_inj hp
          exact Or.inl ⟨h26, r1.symm, r2.symm⟩
        · rw [if_neg h26] at hp
          exact (pBad_no hp).elim
