/-! both sides' calls: the first, a law compared, who it can be -/
/-- the most points, the lowest -/
def s_mp (t : Nat → Int32) : Nat := am_it (fun k is => if t is < t (k + 1) then k + 1 else is) 4 0
theorem s_mp_lt (t : Nat → Int32) : ∀ k, am_it (fun k is => if t is < t (k + 1) then k + 1 else is) k 0 ≤ k
  | 0 => Nat.le_refl 0
  | k + 1 => by
    have ih := s_mp_lt t k
    show (if t _ < t (k + 1) then k + 1 else _) ≤ k + 1
    split
    · exact Nat.le_refl _
    · omega
theorem s_mp5 (t : Nat → Int32) : s_mp t < 5 := Nat.lt_succ_of_le (s_mp_lt t 4)
theorem am_it_s {α : Type} (f : Nat → α → α) (n : Nat) (a : α) : am_it f (n + 1) a = f n (am_it f n a) := rfl
theorem am_it_ci {α : Type} {f g : Nat → α → α} (V : Nat → α → Prop) {n : Nat} {a : α} (h0 : V 0 a) (hs : ∀ k x, k < n → V k x → f k x = g k x ∧ V (k + 1) (g k x)) : ∀ k, k ≤ n → am_it f k a = am_it g k a ∧ V k (am_it g k a) := by
  intro k
  induction k with
  | zero => exact fun _ => ⟨rfl, h0⟩
  | succ k ih =>
    intro hk
    obtain ⟨h1, h2⟩ := ih (by omega)
    have h3 := hs k _ (by omega) h2
    refine ⟨?_, h3.2⟩
    rw [am_it_s, am_it_s, h1]
    exact h3.1
theorem s_mp_c {f g : Nat → Int32} (h : ∀ b, b < 5 → f b = g b) : s_mp f = s_mp g := by
  refine (am_it_ci (fun k (x : Nat) => x ≤ k) (n := 4) (Nat.le_refl 0) (fun k x hk hx => ⟨?_, ?_⟩) 4 (Nat.le_refl 4)).1
  · rw [h (k + 1) (by omega), h x (by omega)]
  · by_cases z : g x < g (k + 1)
    · rw [if_pos z]
      exact Nat.le_refl _
    · rw [if_neg z]
      omega
theorem t_mo_mp {t : Nat → Int32} (h : -1 < t 0) : (t_mo t).2 = nI (s_mp t) := by
  have key : ∀ k, am_it (fun b (q : Int32 × Int32) => if q.1 < t b then (t b, nI b) else q) (k + 1) (-1, 0) = (t (am_it (fun k is => if t is < t (k + 1) then k + 1 else is) k 0), nI (am_it (fun k is => if t is < t (k + 1) then k + 1 else is) k 0)) := by
    intro k
    induction k with
    | zero =>
      show (if (-1 : Int32) < t 0 then (t 0, nI 0) else (-1, 0)) = _
      rw [if_pos h]
      rfl
    | succ k ih =>
      show (if (am_it (fun b (q : Int32 × Int32) => if q.1 < t b then (t b, nI b) else q) (k + 1) (-1, 0)).1 < t (k + 1) then (t (k + 1), nI (k + 1)) else am_it (fun b (q : Int32 × Int32) => if q.1 < t b then (t b, nI b) else q) (k + 1) (-1, 0)) = _
      rw [ih]
      show _ = (t (if t _ < t (k + 1) then k + 1 else _), nI (if t _ < t (k + 1) then k + 1 else _))
      by_cases z : t (am_it (fun k is => if t is < t (k + 1) then k + 1 else is) k 0) < t (k + 1)
      · rw [if_pos z, if_pos z]
      · rw [if_neg z, if_neg z]
  unfold t_mo
  rw [key 4]
  rfl
/-- points are not below 0 -/
theorem e_near_9 (v : Int64) : ∃ x, x ≤ 9 ∧ e_near v = nI x := by
  unfold e_near
  split
  · exact ⟨0, by decide, rfl⟩
  · rename_i h0
    split
    · exact ⟨9, by decide, rfl⟩
    · rename_i h9
      have a0 := Int64.not_lt.mp h0
      have a9 := Int64.not_lt.mp h9
      rw [Int64.le_iff_toInt_le] at a0 a9
      have b0 : (0 : Int64).toInt = 0 := by decide
      have b9 : (9 : Int64).toInt = 9 := by decide
      refine ⟨v.toInt.toNat, by omega, ?_⟩
      apply Int32.toInt_inj.mp
      rw [nI_toInt (by omega), Int64.toInt_toInt32]
      have e : ((v.toInt.toNat : Nat) : Int) = v.toInt := by omega
      rw [e, Int.bmod_eq_of_le (by omega) (by omega)]
theorem e_tell_9 (w : Nat → Nat → Int32) {hd : Nat} : ∀ (xs : List Cl) (t : Int32), (∃ x, x ≤ 9 ∧ t = nI x) → ∃ x, x ≤ 9 ∧ e_tell w hd xs t = nI x
  | [], t, h => h
  | c :: cs, t, h => by
    refine e_tell_9 w cs _ ?_
    unfold e_tell1
    split
    · split
      · exact ⟨1, by decide, rfl⟩
      · split
        · split
          · exact e_near_9 _
          · exact h
        · exact h
    · exact h
theorem a_sp_9 {I : Nat → Nat → Int32} {h n l s m b : Nat} {kp : Nat → Int32} {lw : Option (List Cl)} (hr : am_HR I h kp n l s) (hm : m < n) : ∃ x, x ≤ 9 ∧ a_sp kp n lw m b = nI x := by
  obtain ⟨x, h1, h2, h3⟩ := hr.vr m hm
  cases lw with
  | none => exact ⟨x, h2, h3⟩
  | some xs => exact e_tell_9 _ xs _ ⟨x, h2, h3⟩
theorem a_va_9 {I : Nat → Nat → Int32} {h n l s m b : Nat} {kp : Nat → Int32} {lw : Option (List Cl)} (hr : am_HR I h kp n l s) (hm : m < n) (hb : b < 5) : ∃ x, x ≤ 9 ∧ a_va kp n lw m b = nI x := by
  obtain ⟨x, h2, h3⟩ := hr.wr (m * 5 + b) (by omega)
  cases lw with
  | none => exact ⟨x, h2, h3⟩
  | some xs => exact e_tell_9 _ xs _ ⟨x, h2, h3⟩
theorem am_sum_nn {f : Nat → Int32} {c : Nat} : ∀ n, (∀ m, m < n → ∃ x, x ≤ c ∧ f m = nI x) → ∃ x, x ≤ n * c ∧ am_it (fun m acc => acc + f m) n 0 = nI x
  | 0, _ => ⟨0, by omega, rfl⟩
  | n + 1, h => by
    obtain ⟨x, h1, h2⟩ := am_sum_nn n (fun m hm => h m (by omega))
    obtain ⟨y, h3, h4⟩ := h n (by omega)
    refine ⟨x + y, by rw [Nat.add_mul]; omega, ?_⟩
    show am_it (fun m acc => acc + f m) n 0 + f n = _
    rw [h2, h4, nI_add]
theorem t_rk_4 (va : Nat → Int32) (m b : Nat) : ∃ x, x ≤ 5 ∧ t_rk va m b = nI x := by
  obtain ⟨x, h1, h2⟩ := am_sum_nn (c := 1) (f := fun j => if va (m * 5 + j) < va (m * 5 + b) then 1 else 0) 5 (fun j _ => by
    by_cases z : va (m * 5 + j) < va (m * 5 + b)
    · exact ⟨1, by decide, if_pos z⟩
    · exact ⟨0, by decide, if_neg z⟩)
  exact ⟨x, by omega, h2⟩
theorem m_gv_nn {I I0 : Nat → Nat → Int32} {h n l s m b : Nat} {kp : Nat → Int32} {lw : Option (List Cl)} (hr : am_HR I0 h kp n l s) (g : m_ld I kp n lw (n * 5)) (hm : m < n) (hb : b < 5) : ∃ x, x ≤ 45 ∧ m_gv kp (I 140) (I 138) (I 139) m b = nI x := by
  unfold m_gv
  split
  · obtain ⟨x, h1, h2⟩ := t_rk_4 (I 139) m b
    obtain ⟨y, h3, h4⟩ := a_sp_9 (lw := lw) (b := b) hr hm
    refine ⟨x * y, Nat.le_trans (Nat.mul_le_mul h1 h3) (by decide), ?_⟩
    rw [h2, g.sp hb hm, h4, pk_mul]
  · exact ⟨0, by decide, rfl⟩
theorem m_pt_nn {I I0 : Nat → Nat → Int32} {h n l s b : Nat} {kp : Nat → Int32} {lw : Option (List Cl)} (hr : am_HR I0 h kp n l s) (g : m_ld I kp n lw (n * 5)) (hb : b < 5) : ∃ x, x ≤ 315 ∧ m_pt kp (I 140) (I 138) (I 139) n b = nI x := by
  obtain ⟨x, h1, h2⟩ := am_sum_nn (c := 45) n (fun m hm => m_gv_nn hr g hm hb)
  have := hr.n7
  exact ⟨x, Nat.le_trans h1 (by omega), h2⟩
theorem nI_m1lt {x : Nat} (h : x < 2 ^ 31) : -1 < nI x := by
  rw [Int32.lt_iff_toInt_lt, nI_toInt h]
  have : (-1 : Int32).toInt = -1 := by decide
  omega
abbrev m_P (I : Nat → Nat → Int32) (kp : Nat → Int32) (n : Nat) : Nat → Int32 := fun b => m_pt kp (I 140) (I 138) (I 139) n b
def m_f3 (I I' : Nat → Nat → Int32) : Prop := (∀ a, a ≠ 124 → a ≠ 136 → a ≠ 138 → a ≠ 139 → a ≠ 140 → a ≠ 145 → I' a = I a) ∧ ∀ q, (q < 22 ∨ 25 < q) → I' 124 q = I 124 q
theorem m_f3.ps {I I' : Nat → Nat → Int32} (h : m_f3 I I') : am_ps I I' := by
  have e : ∀ a, a ≠ 124 → am_pers a ∨ a = 64 ∨ a = 96 → I' a = I a := fun a z q => h.1 a z (by unfold am_pers at q; omega) (by unfold am_pers at q; omega) (by unfold am_pers at q; omega) (by unfold am_pers at q; omega) (by unfold am_pers at q; omega)
  refine ⟨fun a q => e a (by unfold am_pers at q; omega) (Or.inl q), ?_, ⟨?_, ?_, ?_⟩, h.2 0 (by omega), h.2 6 (by omega), h.2 13 (by omega), h.2 14 (by omega), h.2 35 (by omega), h.2 40 (by omega), h.2 48 (by omega)⟩
  · rw [e 96 (by decide) (by omega)]
  · rw [e 64 (by decide) (by omega)]
  · rw [e 64 (by decide) (by omega)]
  · rw [e 64 (by decide) (by omega)]
theorem m_ld_cg {I I' : Nat → Nat → Int32} {kp : Nat → Int32} {n z : Nat} {lw : Option (List Cl)} (e1 : I' 138 = I 138) (e2 : I' 139 = I 139) (e3 : I' 140 = I 140) (h : m_ld I kp n lw z) : m_ld I' kp n lw z := by
  intro q x hx hz
  rw [e1, e2, e3]
  exact h q x hx hz
section
variable {pr : am_Pr} {d : Nat} {S : List (Nat × Nat)} {I : Nat → Nat → Int32} {J : Nat → Nat → Int64} {P : Nat → Nat → Option Nat} {Q : Option Value → am_H → Prop} {n l s u tp : Nat} {kp : Nat → Int32} {lw : Option (Nat × List Cl)} {lv0 : Option (List Cl)}
/-- mostPoints -/
theorem c276 (L : am_Lay S P) (k : Q (some (.int (nI (s_mp (I 145))))) (S, I, J, P)) : am_ev pr d 276 [.ref 124] (S, I, J, P) Q := by
  show am_wp pr d 276 0 [(0, .ref 124)] [] _ _
  refine w276_0 ?_
  refine w276_1 ?_
  refine w276_2 ?_
  refine w276_3 ?_
  refine am_for (fun b => ∀ is, is = am_it (fun k is => if I 145 is < I 145 (k + 1) then k + 1 else is) b 0 → ∀ lv, am_ld1 lv 0 = some (.ref 124) → am_ld1 lv 1 = some (.int (nI is)) → am_ld1 lv 2 = some (.int (nI (b + 1))) → am_wp pr (d) 276 4 lv [] (S, I, J, P) Q) 4 ?_ ?_ 0 rfl _ rfl rfl rfl
  · intro b hb ih is his lv l0 l1 l2
    have h5 : is < 5 := by have := s_mp_lt (I 145) b; rw [his]; omega
    have ih2 := ih _ rfl
    change ∀ lv, _ → am_ld1 lv 1 = some (.int (nI (if I 145 _ < I 145 (b + 1) then b + 1 else _))) → _ at ih2
    rw [← his] at ih2
    refine w276_4 l2 ?_
    refine w276_5 ?_
    refine w276_6 (fun hQ => absurd hQ (am_nlt (n := 5) (by omega) (by decide))) (fun _ => ?_)
    refine w276_9 l0 ?_
    refine w276_10 (L.2 _ _ _ rfl) ?_
    refine w276_13 l2 ?_
    refine w276_14 (L.sh rfl) (am_in_nI (by omega) (by decide)) ?_
    rw [am_clN (by omega)]
    refine w276_15 l0 ?_
    refine w276_16 (L.2 _ _ _ rfl) ?_
    refine w276_19 l1 ?_
    refine w276_20 (L.sh rfl) (am_in_nI h5 (by decide)) ?_
    rw [am_clN (by omega)]
    refine w276_21 (fun h21 => ?_) (fun h21 => ?_)
    · refine w276_28 l1 ?_
      refine w276_29 ?_
      refine w276_30 l2 ?_
      refine w276_33 ?_
      first | (rw [if_pos h21] at ih2; exact ih2 _ l0 rfl (am_nx (b + 1))) | (rw [if_neg (Int32.not_lt.mpr h21)] at ih2; exact ih2 _ l0 rfl (am_nx (b + 1)))
    · replace h21 := Int32.not_le.mp h21
      refine w276_24 l2 ?_
      refine w276_25 ?_
      refine w276_29 ?_
      refine w276_30 l2 ?_
      refine w276_33 ?_
      first | (rw [if_pos h21] at ih2; exact ih2 _ l0 rfl (am_nx (b + 1))) | (rw [if_neg (Int32.not_lt.mpr h21)] at ih2; exact ih2 _ l0 rfl (am_nx (b + 1)))
  · intro is his lv l0 l1 l2
    refine w276_4 l2 ?_
    refine w276_5 ?_
    refine w276_6 (fun _ => ?_) (fun hQ => absurd (Int32.le_refl _) hQ)
    refine w276_36 l1 ?_
    refine w276_37 ?_
    rw [his]
    exact k
/-- firstNow -/
theorem c275 (L : am_Lay S P) (hk : I 126 = kp) (hn : kp 73 = nI n) (n7 : n ≤ 7) (hlw : m_lw kp lv0) (k : ∀ I2, m_f3 I I2 → m_ld I2 kp n lv0 (n * 5) → Q (some (.int (nI (s_mp (m_P I2 kp n))))) (S, I2, J, P)) : am_ev pr (d + 45) 275 [.ref 124] (S, I, J, P) Q := by
  show am_wp pr (d + 45) 275 0 [(0, .ref 124)] [] _ _
  refine w275_0 rfl ?_
  refine w275_1 (k := c178 L hk hn n7 hlw (fun I1 f1 g => ?_))
  refine w275_4 ?_
  refine w275_5 ?_
  refine am_for (fun b => ∀ I2, (∀ a, a ≠ 145 → I2 a = I1 a) → (∀ j, j < b → I2 145 j = m_P I1 kp n j) → ∀ lv, am_ld1 lv 0 = some (.ref 124) → am_ld1 lv 1 = some (.int (nI b)) → am_wp pr (d + 45) 275 6 lv [] (S, I2, J, P) Q) 5 ?_ ?_ I1 (fun _ _ => rfl) (fun j hj => absurd hj (Nat.not_lt_zero j)) _ rfl rfl
  · intro b hb ih I2 h1 h2 lv l0 l1
    have e126 : I2 126 = kp := by rw [h1 126 (by decide), f1.1 126 (by decide) (by decide) (by decide) (by decide) (by decide)]; exact hk
    have hn2 : I2 126 73 = nI n := by rw [e126]; exact hn
    refine w275_6 l1 ?_
    refine w275_7 ?_
    refine w275_8 (fun hQ => absurd hQ (am_nlt hb (by decide))) (fun _ => ?_)
    refine w275_11 l0 ?_
    refine w275_12 (L.2 _ _ _ rfl) ?_
    refine w275_15 l1 ?_
    refine w275_16 l0 ?_
    refine w275_17 l1 ?_
    refine w275_18 (k := c207 L hn2 n7 hb ?_)
    rw [e126, h1 140 (by decide), h1 138 (by decide), h1 139 (by decide)]
    refine w275_21 (L.sh rfl) (am_inB hb) ?_
    rw [am_clB hb]
    refine w275_22 l1 ?_
    refine w275_25 ?_
    refine ih _ (fun a ha => ?_) (fun j hj => ?_) _ l0 (am_nx b)
    · rw [am_u_ne ha]
      exact h1 a ha
    · by_cases z : j = b
      · subst z
        exact am_u_self
      · rw [am_u_at z]
        exact h2 j (by omega)
  · intro I2 h1 h2 lv l0 l1
    have e : s_mp (I2 145) = s_mp (m_P I2 kp n) := s_mp_c (fun b hb => by rw [h2 b hb]; show m_pt _ _ _ _ _ _ = m_pt _ _ _ _ _ _; rw [h1 140 (by decide), h1 138 (by decide), h1 139 (by decide)])
    refine w275_6 l1 ?_
    refine w275_7 ?_
    refine w275_8 (fun _ => ?_) (fun hQ => absurd (Int32.le_refl _) hQ)
    refine w275_28 l0 ?_
    refine w275_29 (k := c276 L ?_)
    rw [e]
    refine w275_32 ?_
    refine k I2 ⟨fun a a1 a2 a3 a4 a5 a6 => ?_, fun q hq => ?_⟩ (m_ld_cg (h1 138 (by decide)) (h1 139 (by decide)) (h1 140 (by decide)) g)
    · rw [h1 a a6]
      exact f1.1 a a1 a2 a3 a4 a5
    · rw [h1 124 (by decide)]
      exact f1.2 q hq
theorem am_ps115 {I I' : Nat → Nat → Int32} (h : ∀ a, a ≠ 115 → I' a = I a) : am_ps I I' := am_ps_r (fun a q => h a (by unfold am_pers at q; omega))
/-- what the class's leader tells -/
theorem b_lead {I I2 I0 : Nat → Nat → Int32} {h : Nat} (hr : am_HR I0 h kp n l s) (hB : ∀ b, b < 5 → t_B I kp n lv0 b) (g : m_ld I2 kp n lv0 (n * 5)) : (t_mo (fun b => t_pt (I 110) (I 111) (I 113 b) b (-1))).2 = nI (s_mp (m_P I2 kp n)) := by
  rw [t_mo_congr (g := m_P I2 kp n) (fun b hb => b_pt hB g hr.n7 hb)]
  obtain ⟨x, h1, h2⟩ := m_pt_nn (b := 0) hr g (by decide)
  refine t_mo_mp ?_
  show -1 < m_pt _ _ _ _ _ _
  rw [h2]
  exact nI_m1lt (by omega)
/-- first -/
theorem op_27 (r : am_R S I P n l s u tp) : am_op pr (d + 60) S I J P 139 [.ref 64] 274 [.ref 124] := by
  have hr := r.hr
  have n7 := hr.n7
  have L := r.L
  obtain ⟨lw, hx⟩ := r.lw
  refine op_rd r hx (fun I2 => nI (s_mp (m_P I2 (I 126) n))) (fun Q k => ?_) (fun I1 J1 e Q k => ?_)
  · show am_wp pr (d + 60) 139 0 [(0, .ref 64)] [] _ _
    refine w139_0 rfl ?_
    refine w139_1 (k := c34 L hr hx (fun I1 J1 f1 f2 f3 => ?_))
    refine w139_4 rfl ?_
    refine w139_5 (L.2 _ _ _ rfl) ?_
    refine w139_8 (k := c140 L (fun I2 h1 h2 => ?_))
    refine w139_11 ?_
    exact k I2 J1 _ (f1.ps.tr (am_ps115 h1)) (fun I3 g => b_lead hr f3 g)
  · show am_wp pr (d + 60) 274 0 [(0, .ref 124)] [] _ _
    refine w274_0 rfl ?_
    refine w274_1 (k := c275 L e hr.kn n7 (hx.m hr.l6) (fun I2 f2 g => ?_))
    refine w274_4 ?_
    exact k I2 f2.ps g
/-- isSo -/
theorem c283 (L : am_Lay S P) {m : Nat} {f g : Nat → Nat} (hm : m < 7) (hs : I 126 74 = nI s) (hs6 : s ≤ 6) (hf : ∀ i, i < s → f i < 5 ∧ I 126 (58 + 2 * i) = nI (f i)) (hg : ∀ i, i < s → g i < 5 ∧ I 126 (58 + 2 * i + 1) = nI (g i)) (k : Q (some (.int (am_b (∀ i, i < s → m_wv (I 140) (I 139) m (f i) (g i))))) (S, I, J, P)) : am_ev pr (d + 1) 283 [.ref 124, .int (nI m)] (S, I, J, P) Q := by
  show am_wp pr (d + 1) 283 0 [(0, .ref 124), (1, .int (nI m))] [] _ _
  refine w283_0 ?_
  refine w283_1 ?_
  refine w283_2 ?_
  refine w283_3 ?_
  refine am_for (fun j => ∀ lv, am_ld1 lv 0 = some (.ref 124) → am_ld1 lv 1 = some (.int (nI m)) → am_ld1 lv 2 = some (.int (am_b (∀ i, i < j → m_wv (I 140) (I 139) m (f i) (g i)))) → am_ld1 lv 3 = some (.int (nI j)) → am_wp pr (d + 1) 283 4 lv [] (S, I, J, P) Q) s ?_ ?_ _ rfl rfl (by rw [am_b_t (fun i hi => absurd hi (Nat.not_lt_zero i))]; rfl) rfl
  · intro j hj ih lv l0 l1 l2 l3
    obtain ⟨f5, fe⟩ := hf j hj
    obtain ⟨g5, ge⟩ := hg j hj
    have e : (∀ i, i < j + 1 → m_wv (I 140) (I 139) m (f i) (g i)) ↔ ((∀ i, i < j → m_wv (I 140) (I 139) m (f i) (g i)) ∧ m_wv (I 140) (I 139) m (f j) (g j)) := am_all_succ
    rw [am_b_iff e] at ih
    refine w283_4 l3 ?_
    refine w283_5 l0 ?_
    refine w283_6 (L.2 _ _ _ rfl) ?_
    refine w283_9 ?_
    refine w283_11 (L.sh rfl) (by decide) ?_
    rw [tl_74, hs]
    refine w283_12 (fun hQ => absurd hQ (am_nlt hj (by omega))) (fun _ => ?_)
    refine w283_15 l2 ?_
    refine w283_16 (fun h16 => ?_) (fun h16 => ?_)
    · refine w283_55 ?_
      refine w283_56 ?_
      refine w283_57 l3 ?_
      refine w283_60 ?_
      first | (rw [am_b_t ⟨am_b_1 h16, am_b_1 h48⟩] at ih; exact ih _ l0 l1 rfl (am_nx j)) | (rw [am_b_f (fun q => (am_b_0 _).mp h48 q.2)] at ih; exact ih _ l0 l1 rfl (am_nx j)) | (rw [am_b_f (fun q => (am_b_0 _).mp h16 q.1)] at ih; exact ih _ l0 l1 rfl (am_nx j))
    · refine w283_19 l0 ?_
      refine w283_20 l1 ?_
      refine w283_21 l0 ?_
      refine w283_22 (L.2 _ _ _ rfl) ?_
      refine w283_25 ?_
      refine w283_27 ?_
      refine w283_28 l3 ?_
      refine w283_29 ?_
      refine w283_30 ?_
      rw [nz_c2, nz_a58]
      refine w283_31 (L.sh rfl) (am_in_nI (by omega) (by decide)) ?_
      rw [am_clN (by omega), fe]
      refine w283_32 l0 ?_
      refine w283_33 (L.2 _ _ _ rfl) ?_
      refine w283_36 ?_
      refine w283_38 ?_
      refine w283_39 l3 ?_
      refine w283_40 ?_
      refine w283_41 ?_
      refine w283_42 ?_
      refine w283_43 ?_
      rw [nz_c2, nz_a58, nI_1]
      refine w283_44 (L.sh rfl) (am_in_nI (by omega) (by decide)) ?_
      rw [am_clN (by omega), ge]
      refine w283_45 (k := c284 L hm f5 g5 ?_)
      refine w283_48 (fun h48 => ?_) (fun h48 => ?_)
      · refine w283_55 ?_
        refine w283_56 ?_
        refine w283_57 l3 ?_
        refine w283_60 ?_
        first | (rw [am_b_t ⟨am_b_1 h16, am_b_1 h48⟩] at ih; exact ih _ l0 l1 rfl (am_nx j)) | (rw [am_b_f (fun q => (am_b_0 _).mp h48 q.2)] at ih; exact ih _ l0 l1 rfl (am_nx j)) | (rw [am_b_f (fun q => (am_b_0 _).mp h16 q.1)] at ih; exact ih _ l0 l1 rfl (am_nx j))
      · refine w283_51 ?_
        refine w283_52 ?_
        refine w283_56 ?_
        refine w283_57 l3 ?_
        refine w283_60 ?_
        first | (rw [am_b_t ⟨am_b_1 h16, am_b_1 h48⟩] at ih; exact ih _ l0 l1 rfl (am_nx j)) | (rw [am_b_f (fun q => (am_b_0 _).mp h48 q.2)] at ih; exact ih _ l0 l1 rfl (am_nx j)) | (rw [am_b_f (fun q => (am_b_0 _).mp h16 q.1)] at ih; exact ih _ l0 l1 rfl (am_nx j))
  · intro lv l0 l1 l2 l3
    refine w283_4 l3 ?_
    refine w283_5 l0 ?_
    refine w283_6 (L.2 _ _ _ rfl) ?_
    refine w283_9 ?_
    refine w283_11 (L.sh rfl) (by decide) ?_
    rw [tl_74, hs]
    refine w283_12 (fun _ => ?_) (fun hQ => absurd (Int32.le_refl _) hQ)
    refine w283_63 l2 ?_
    refine w283_64 (am_b_n _) ?_
    exact k
/-- those who would have voted so -/
abbrev m_cb (I : Nat → Nat → Int32) (n s : Nat) (f g : Nat → Nat) : Int32 := t_su (fun m => ∀ i, i < s → m_wv (I 140) (I 139) m (f i) (g i)) n
/-- canBe -/
theorem c282 (L : am_Lay S P) {f g : Nat → Nat} (hk : I 126 = kp) (hn : kp 73 = nI n) (n7 : n ≤ 7) (hlw : m_lw kp lv0) (hs : kp 74 = nI s) (hs6 : s ≤ 6) (hf : ∀ i, i < s → f i < 5 ∧ kp (58 + 2 * i) = nI (f i)) (hg : ∀ i, i < s → g i < 5 ∧ kp (58 + 2 * i + 1) = nI (g i)) (k : ∀ I2, m_f2 I I2 → m_ld I2 kp n lv0 (n * 5) → Q (some (.int (m_cb I2 n s f g))) (S, I2, J, P)) : am_ev pr (d + 45) 282 [.ref 124] (S, I, J, P) Q := by
  show am_wp pr (d + 45) 282 0 [(0, .ref 124)] [] _ _
  refine w282_0 rfl ?_
  refine w282_1 (k := c178 L hk hn n7 hlw (fun I1 f1 gl => ?_))
  refine w282_4 ?_
  refine w282_5 ?_
  refine w282_6 ?_
  refine w282_7 ?_
  have e126 : I1 126 = kp := by rw [f1.1 126 (by decide) (by decide) (by decide) (by decide) (by decide)]; exact hk
  have kk := k I1 f1 gl
  refine am_loop (fun m acc => acc ||| (if ∀ i, i < s → m_wv (I1 140) (I1 139) m (f i) (g i) then 1 <<< (nI m &&& 31) else 0)) (fun m acc => ∀ lv, am_ld1 lv 0 = some (.ref 124) → am_ld1 lv 1 = some (.int acc) → am_ld1 lv 2 = some (.int (nI m)) → am_wp pr (d + 45) 282 8 lv [] (S, I1, J, P) Q) n ?_ 0 ?_ _ rfl rfl rfl
  · intro m acc hm ih lv l0 l1 l2
    have hm7 : m < 7 := by omega
    refine w282_8 l2 ?_
    refine w282_9 l0 ?_
    refine w282_10 (k := c171 L ?_)
    rw [e126, hn]
    refine w282_13 (fun hQ => absurd hQ (am_nlt hm (by omega))) (fun _ => ?_)
    refine w282_16 l1 ?_
    refine w282_17 l0 ?_
    refine w282_18 l2 ?_
    refine w282_19 (k := c283 L hm7 (by rw [e126]; exact hs) hs6 (by rw [e126]; exact hf) (by rw [e126]; exact hg) ?_)
    refine w282_22 (fun h22 => ?_) (fun h22 => ?_)
    · refine w282_31 ?_
      refine w282_32 ?_
      refine w282_33 ?_
      refine w282_34 l2 ?_
      refine w282_37 ?_
      first | (rw [if_pos (am_b_1 h22)] at ih; exact ih _ l0 rfl (am_nx m)) | (rw [if_neg ((am_b_0 _).mp h22)] at ih; exact ih _ l0 rfl (am_nx m))
    · refine w282_25 ?_
      refine w282_26 l2 ?_
      refine w282_27 ?_
      refine w282_28 ?_
      refine w282_32 ?_
      refine w282_33 ?_
      refine w282_34 l2 ?_
      refine w282_37 ?_
      first | (rw [if_pos (am_b_1 h22)] at ih; exact ih _ l0 rfl (am_nx m)) | (rw [if_neg ((am_b_0 _).mp h22)] at ih; exact ih _ l0 rfl (am_nx m))
  · intro lv l0 l1 l2
    refine w282_8 l2 ?_
    refine w282_9 l0 ?_
    refine w282_10 (k := c171 L ?_)
    rw [e126, hn]
    refine w282_13 (fun _ => ?_) (fun hQ => absurd (Int32.le_refl _) hQ)
    refine w282_40 l1 ?_
    refine w282_41 ?_
    exact kk
def s_f (kp : Nat → Int32) (i : Nat) : Nat := (kp (58 + 2 * i)).toNatClampNeg
def s_g (kp : Nat → Int32) (i : Nat) : Nat := (kp (58 + 2 * i + 1)).toNatClampNeg
theorem am_HR.sf {h : Nat} (r : am_HR I h kp n l s) : (∀ i, i < s → s_f kp i < 5 ∧ kp (58 + 2 * i) = nI (s_f kp i)) ∧ (∀ i, i < s → s_g kp i < 5 ∧ kp (58 + 2 * i + 1) = nI (s_g kp i)) ∧ (∀ i, i < s → s_f kp i < 5 ∧ I (h + 1 + 5) i = nI (s_f kp i)) ∧ ∀ i, i < s → s_g kp i < 5 ∧ I (h + 1 + 6) i = nI (s_g kp i) := by
  have key : ∀ i, i < s → (s_f kp i < 5 ∧ kp (58 + 2 * i) = nI (s_f kp i) ∧ I (h + 1 + 5) i = nI (s_f kp i)) ∧ (s_g kp i < 5 ∧ kp (58 + 2 * i + 1) = nI (s_g kp i) ∧ I (h + 1 + 6) i = nI (s_g kp i)) := by
    intro i hi
    obtain ⟨a, b, ha, hb, h1, h2, h3, h4⟩ := r.si i hi
    have e1 : s_f kp i = a := by unfold s_f; rw [h2]; exact am_clN (by omega)
    have e2 : s_g kp i = b := by unfold s_g; rw [h4]; exact am_clN (by omega)
    rw [e1, e2]
    exact ⟨⟨ha, h2, h1⟩, hb, h4, h3⟩
  exact ⟨fun i hi => ⟨(key i hi).1.1, (key i hi).1.2.1⟩, fun i hi => ⟨(key i hi).2.1, (key i hi).2.2.1⟩, fun i hi => ⟨(key i hi).1.1, (key i hi).1.2.2⟩, fun i hi => ⟨(key i hi).2.1, (key i hi).2.2.2⟩⟩
theorem b_su {I I2 : Nat → Nat → Int32} {f g : Nat → Nat} (hB : ∀ b, b < 5 → t_B I kp n lv0 b) (gl : m_ld I2 kp n lv0 (n * 5)) (n7 : n ≤ 7) (hf : ∀ i, i < s → f i < 5) (hg : ∀ i, i < s → g i < 5) : t_su (fun m => ∀ i, i < s → t_pf (I 111) (I 112) m (f i) (g i)) n = m_cb I2 n s f g := by
  unfold m_cb t_su
  refine am_it_congr (fun m a hm => ?_) _
  have e : (∀ i, i < s → t_pf (I 111) (I 112) m (f i) (g i)) ↔ (∀ i, i < s → m_wv (I2 140) (I2 139) m (f i) (g i)) := by
    constructor
    · intro z i hi
      exact (b_wv gl (hf i hi) (hg i hi) hm).mpr ((b_pf (hB _ (hf i hi)) (hB _ (hg i hi)) hm n7).mp (z i hi))
    · intro z i hi
      exact (b_pf (hB _ (hf i hi)) (hB _ (hg i hi)) hm n7).mpr ((b_wv gl (hf i hi) (hg i hi) hm).mp (z i hi))
  by_cases z : ∀ i, i < s → t_pf (I 111) (I 112) m (f i) (g i)
  · rw [if_pos z, if_pos (e.mp z)]
  · rw [if_neg z, if_neg (fun q => z (e.mpr q))]
/-- canBe -/
theorem op_31 (r : am_R S I P n l s u tp) : am_op pr (d + 60) S I J P 147 [.ref 64] 282 [.ref 124] := by
  have hr := r.hr
  have n7 := hr.n7
  have L := r.L
  obtain ⟨lw, hx⟩ := r.lw
  obtain ⟨q1, q2, q3, q4⟩ := hr.sf
  refine op_rd r hx (fun I2 => m_cb I2 n s (s_f (I 126)) (s_g (I 126))) (fun Q k => ?_) (fun I1 J1 e Q k => ?_)
  · show am_wp pr (d + 60) 147 0 [(0, .ref 64)] [] _ _
    refine w147_0 rfl ?_
    refine w147_1 (k := c34 L hr hx (fun I1 J1 f1 f2 f3 => ?_))
    have e65 : I1 65 = I 65 := f1 65 (Or.inl (by decide))
    have e71 : I1 71 = I 71 := f1 71 (Or.inl (by decide))
    have e72 : I1 72 = I 72 := f1 72 (Or.inl (by decide))
    refine w147_4 rfl ?_
    refine w147_5 (k := c148 L (by rw [e65]; exact hr.hn) n7 (by rw [e65]; exact hr.hs) hr.s6 (by rw [e71]; exact q3) (by rw [e72]; exact q4) ?_)
    refine w147_8 ?_
    exact k I1 J1 _ f1.ps (fun I2 g => b_su f3 g n7 (fun i hi => (q1 i hi).1) (fun i hi => (q2 i hi).1))
  · exact c282 L e hr.kn n7 (hx.m hr.l6) hr.kss hr.s6 q1 q2 (fun I2 f2 g => k I2 f2.ps g)
end
