/-! both sides' calls: a false order -/
theorem am_sum_wo {g : Nat → Int32} {m : Nat} : ∀ n, m < n → am_it (fun j acc => acc + (if j = m then 0 else g j)) n 0 = am_it (fun j acc => acc + g j) n 0 - g m
  | 0, h => absurd h (Nat.not_lt_zero m)
  | n + 1, h => by
    show am_it (fun j acc => acc + (if j = m then 0 else g j)) n 0 + (if n = m then 0 else g n) = am_it (fun j acc => acc + g j) n 0 + g n - g m
    by_cases z : n = m
    · subst z
      rw [if_pos rfl, Int32.add_zero, Int32.add_sub_cancel]
      exact am_it_congr (fun j a hj => by rw [if_neg (by omega)]) _
    · rw [if_neg z, am_sum_wo n (by omega), Int32.sub_eq_add_neg, Int32.sub_eq_add_neg, Int32.add_assoc, Int32.add_comm (-g m), ← Int32.add_assoc]
def am_ix (q b : Nat) : Nat := (am_perms.getD q []).idxOf b
theorem am_ix_ok : ∀ q, q < 120 → ∀ b, b < 5 → am_ix q b < 5 ∧ am_pm q (am_ix q b) = b := by decide +kernel
theorem am_ix_pm : ∀ q, q < 120 → ∀ i, i < 5 → am_ix q (am_pm q i) = i := by decide +kernel
abbrev m_fp (I : Nat → Nat → Int32) (kp : Nat → Int32) (n m q : Nat) : Nat → Int32 := fun b => m_pt kp (I 140) (I 138) (I 139) n b - m_gv kp (I 140) (I 138) (I 139) m b + (if m_on kp (I 140) m b then nI (4 - am_ix q b) * I 138 (m * 5 + b) else 0)
abbrev m_FW (I : Nat → Nat → Int32) (kp : Nat → Int32) (n m q : Nat) : Prop := I 139 (m * 5 + s_mp (m_P I kp n)) < I 139 (m * 5 + s_mp (m_fp I kp n m q))
def m_fl (I : Nat → Nat → Int32) (kp : Nat → Int32) (n m w : Nat) : Int32 := if (s_ag (m_FW I kp n m) 120).1 = 0 then -1 else if w = 0 then nI (s_mp (m_fp I kp n m (s_ag (m_FW I kp n m) 120).2)) else nI (am_pm (s_ag (m_FW I kp n m) 120).2 (w - 1))
theorem m_fl_no {I : Nat → Nat → Int32} {kp : Nat → Int32} {n m w : Nat} (h : (s_ag (m_FW I kp n m) 120).1 = 0) : m_fl I kp n m w = -1 := if_pos h
theorem m_fl_at {I : Nat → Nat → Int32} {kp : Nat → Int32} {n m w q : Nat} (hq : q < 120) (h0 : (s_ag (m_FW I kp n m) q).1 = 0) (h : m_FW I kp n m q) : m_fl I kp n m w = if w = 0 then nI (s_mp (m_fp I kp n m q)) else nI (am_pm q (w - 1)) := by
  have z1 : s_ag (m_FW I kp n m) (q + 1) = ((s_ag (m_FW I kp n m) q).1 + 1, q) := by
    rw [s_ag_s, if_pos h, if_pos h0]
  have z2 := s_ag_st (m_FW I kp n m) (q + 1) (by rw [z1]; exact Nat.succ_ne_zero _) (119 - q)
  rw [show q + 1 + (119 - q) = 120 by omega, z1] at z2
  unfold m_fl
  rw [if_neg z2.1, z2.2]
section
variable {pr : am_Pr} {d : Nat} {S : List (Nat × Nat)} {I : Nat → Nat → Int32} {J : Nat → Nat → Int64} {P : Nat → Nat → Option Nat} {Q : Option Value → am_H → Prop} {n l s u tp : Nat} {kp : Nat → Int32} {lw : Option (Nat × List Cl)} {lv0 : Option (List Cl)}
theorem b_wo {I I2 : Nat → Nat → Int32} {m b : Nat} (h : ∀ b, b < 5 → t_B I kp n lv0 b) (h' : m_ld I2 kp n lv0 (n * 5)) (n7 : n ≤ 7) (hm : m < n) (hb : b < 5) : t_pt (I 110) (I 111) (I 113 b) b (nI m) = m_pt kp (I2 140) (I2 138) (I2 139) n b - m_gv kp (I2 140) (I2 138) (I2 139) m b := by
  unfold t_pt m_pt
  rw [← am_sum_wo n hm, am_it_congr (g := fun j acc => acc + (if ¬ j = m ∧ am_bit (I 113 b) j = 1 then t_rk (I 111) j b * I 110 (j * 5 + b) else 0)) (fun j a hj => by
    rw [← am_if_add]
    have z : (¬ nI j = nI m ∧ am_bit (I 113 b) j = 1) ↔ (¬ j = m ∧ am_bit (I 113 b) j = 1) := by rw [nI_eq (by omega) (by omega)]
    by_cases y : ¬ j = m ∧ am_bit (I 113 b) j = 1
    · rw [if_pos (z.mpr y), if_pos y]
    · rw [if_neg (fun q => y (z.mp q)), if_neg y])]
  refine am_sum_cut (fun j hj => ?_) 7 n7 (fun j h1 h2 => if_neg (fun z => absurd (((h b hb).2.2 j (by omega)).mp z.2).1 (by omega)))
  by_cases z : j = m
  · rw [if_neg (fun q => q.1 z), if_pos z]
  · rw [if_neg z]
    unfold m_gv
    refine am_if_c ?_ (fun _ => by rw [b_rk h h' hj hb, ((h b hb).1 j hj).1, h'.sp hb hj])
    rw [(h b hb).2.2 j (by omega), h'.on hb hj]
    exact ⟨fun q => q.2.2, fun q => ⟨z, hj, q⟩⟩
theorem m_fp_nn {I I0 : Nat → Nat → Int32} {h m b q : Nat} (hr : am_HR I0 h kp n l s) (g : m_ld I kp n lv0 (n * 5)) (hm : m < n) (hb : b < 5) : ∃ x, x ≤ 1000 ∧ m_fp I kp n m q b = nI x := by
  have n7 := hr.n7
  obtain ⟨x, h1, h2⟩ := am_sum_nn (c := 45) (f := fun j => if j = m then 0 else m_gv kp (I 140) (I 138) (I 139) j b) n (fun j hj => by
    by_cases z : j = m
    · exact ⟨0, by decide, if_pos z⟩
    · obtain ⟨y, y1, y2⟩ := m_gv_nn hr g hj hb
      exact ⟨y, y1, (if_neg z).trans y2⟩)
  have e : m_pt kp (I 140) (I 138) (I 139) n b - m_gv kp (I 140) (I 138) (I 139) m b = nI x := by
    unfold m_pt
    rw [← am_sum_wo n hm]
    exact h2
  have hx : x ≤ 315 := Nat.le_trans h1 (by omega)
  show ∃ y, y ≤ 1000 ∧ _ - _ + _ = nI y
  rw [e]
  split
  · obtain ⟨y, y1, y2⟩ := a_sp_9 (lw := lv0) (b := b) hr hm
    have hz : (4 - am_ix q b) * y ≤ 4 * 9 := Nat.mul_le_mul (by omega) y1
    refine ⟨x + (4 - am_ix q b) * y, by omega, ?_⟩
    rw [g.sp hb hm, y2, pk_mul, nI_add]
  · exact ⟨x, by omega, Int32.add_zero _⟩
/-- firstBy -/
theorem c279 (L : am_Lay S P) {m q : Nat} (hk : I 126 = kp) (hn : kp 73 = nI n) (n7 : n ≤ 7) (hm : m < n) (hq : q < 120) (hv : ∀ i, i < 5 → I 144 i = nI (am_pm q i)) (k : ∀ I2 : Nat → Nat → Int32, (∀ a, a ≠ 145 → I2 a = I a) → Q (some (.int (nI (s_mp (m_fp I kp n m q))))) (S, I2, J, P)) : am_ev pr (d + 45) 279 [.ref 124, .int (nI m)] (S, I, J, P) Q := by
  have hm7 : m < 7 := by omega
  show am_wp pr (d + 45) 279 0 [(0, .ref 124), (1, .int (nI m))] [] _ _
  refine w279_0 ?_
  refine w279_1 ?_
  refine am_for (fun i => ∀ I2 : Nat → Nat → Int32, (∀ a, a ≠ 145 → I2 a = I a) → (∀ j, j < i → I2 145 (am_pm q j) = m_fp I kp n m q (am_pm q j)) → ∀ lv, am_ld1 lv 0 = some (.ref 124) → am_ld1 lv 1 = some (.int (nI m)) → am_ld1 lv 2 = some (.int (nI i)) → am_wp pr (d + 45) 279 2 lv [] (S, I2, J, P) Q) 5 ?_ ?_ I (fun _ _ => rfl) (fun j hj => absurd hj (Nat.not_lt_zero j)) _ rfl rfl rfl
  · intro i hi ih I2 h1 h2 lv l0 l1 l2
    have hb : am_pm q i < 5 := am_pm5 q hq i hi
    have e126 : I2 126 = kp := by rw [h1 126 (by decide)]; exact hk
    have hn2 : I2 126 73 = nI n := by rw [e126]; exact hn
    have ev : I2 144 i = nI (am_pm q i) := by rw [h1 144 (by decide)]; exact hv i hi
    have e4 : (4 : Int32) - nI i = nI (4 - i) := am_nsub (a := 4) (by omega)
    have eix := am_ix_pm q hq i hi
    have nx : ∀ v, v = m_fp I kp n m q (am_pm q i) → (∀ a, a ≠ 145 → am_u I2 145 (am_pm q i) v a = I a) ∧ (∀ j, j < i + 1 → am_u I2 145 (am_pm q i) v 145 (am_pm q j) = m_fp I kp n m q (am_pm q j)) := by
      intro v hv
      refine ⟨fun a ha => by rw [am_u_ne ha]; exact h1 a ha, fun j hj => ?_⟩
      by_cases z : j = i
      · subst z
        rw [am_u_self]
        exact hv
      · rw [am_u_at (fun y => z (am_pm_inj q hq j (by omega) i hi y))]
        exact h2 j (by omega)
    have fr : I2 140 = I 140 ∧ I2 138 = I 138 ∧ I2 139 = I 139 := ⟨h1 140 (by decide), h1 138 (by decide), h1 139 (by decide)⟩
    generalize hbb : am_pm q i = b at *
    have yes : m_on kp (I 140) m b → m_pt kp (I 140) (I 138) (I 139) n b - m_gv kp (I 140) (I 138) (I 139) m b + nI (4 - i) * I 138 (m * 5 + b) = m_fp I kp n m q b := by
      intro z
      show _ = _ - _ + (if m_on kp (I 140) m b then _ else _)
      rw [if_pos z, eix]
    have no : ¬ m_on kp (I 140) m b → m_pt kp (I 140) (I 138) (I 139) n b - m_gv kp (I 140) (I 138) (I 139) m b + 0 = m_fp I kp n m q b := by
      intro z
      show _ = _ - _ + (if m_on kp (I 140) m b then _ else _)
      rw [if_neg z]
    refine w279_2 l2 ?_
    refine w279_3 ?_
    refine w279_4 (fun hQ => absurd hQ (am_nlt hi (by decide))) (fun _ => ?_)
    refine w279_7 l0 ?_
    refine w279_8 (L.2 _ _ _ rfl) ?_
    refine w279_11 l2 ?_
    refine w279_12 (L.sh rfl) (am_in_nI hi (by decide)) ?_
    rw [am_clN (by omega), ev]
    refine w279_13 ?_
    refine w279_14 l0 ?_
    refine w279_15 (L.2 _ _ _ rfl) ?_
    refine w279_18 rfl ?_
    refine w279_19 l0 ?_
    refine w279_20 rfl ?_
    refine w279_21 (k := c207 L hn2 n7 hb ?_)
    rw [e126, fr.1, fr.2.1, fr.2.2]
    refine w279_24 l0 ?_
    refine w279_25 l1 ?_
    refine w279_26 rfl ?_
    refine w279_27 (k := c208 L hm7 hb ?_)
    rw [e126, fr.1, fr.2.1, fr.2.2]
    refine w279_30 ?_
    refine w279_31 l0 ?_
    refine w279_32 l1 ?_
    refine w279_33 rfl ?_
    refine w279_34 (k := c197 L hm7 hb ?_)
    rw [e126, fr.1]
    refine w279_37 (fun h37 => ?_) (fun h37 => ?_)
    · refine w279_57 ?_
      refine w279_58 ?_
      refine w279_59 (L.sh rfl) (am_inB hb) ?_
      rw [am_clB hb]
      refine w279_60 l2 ?_
      refine w279_63 ?_
      first | exact ih _ (nx _ (yes (am_b_1 h37))).1 (nx _ (yes (am_b_1 h37))).2 _ l0 l1 (am_nx i) | exact ih _ (nx _ (no ((am_b_0 _).mp h37))).1 (nx _ (no ((am_b_0 _).mp h37))).2 _ l0 l1 (am_nx i)
    · refine w279_40 ?_
      refine w279_41 l2 ?_
      refine w279_42 ?_
      rw [e4]
      refine w279_43 l0 ?_
      refine w279_44 (L.2 _ _ _ rfl) ?_
      refine w279_47 ?_
      refine w279_48 l1 ?_
      refine w279_49 ?_
      refine w279_50 rfl ?_
      refine w279_51 ?_
      refine w279_52 (L.sh rfl) (am_inb' hm7 hb) ?_
      rw [am_clb' hm7 hb, fr.2.1]
      refine w279_53 ?_
      refine w279_54 ?_
      refine w279_58 ?_
      refine w279_59 (L.sh rfl) (am_inB hb) ?_
      rw [am_clB hb]
      refine w279_60 l2 ?_
      refine w279_63 ?_
      first | exact ih _ (nx _ (yes (am_b_1 h37))).1 (nx _ (yes (am_b_1 h37))).2 _ l0 l1 (am_nx i) | exact ih _ (nx _ (no ((am_b_0 _).mp h37))).1 (nx _ (no ((am_b_0 _).mp h37))).2 _ l0 l1 (am_nx i)
  · intro I2 h1 h2 lv l0 l1 l2
    have e : s_mp (I2 145) = s_mp (m_fp I kp n m q) := s_mp_c (fun b hb => by
      obtain ⟨z1, z2⟩ := am_ix_ok q hq b hb
      have := h2 (am_ix q b) z1
      rw [z2] at this
      exact this)
    refine w279_2 l2 ?_
    refine w279_3 ?_
    refine w279_4 (fun _ => ?_) (fun hQ => absurd (Int32.le_refl _) hQ)
    refine w279_66 l0 ?_
    refine w279_67 (k := c276 L ?_)
    rw [e]
    refine w279_70 ?_
    exact k I2 h1
theorem op_28 (r : am_R S I P n l s u tp) {x y : Int32} : am_op pr (d + 60) S I J P 142 [.ref 64, .int x, .int y] 278 [.ref 124, .int x, .int y] := by
  have hr := r.hr
  have n7 := hr.n7
  have L := r.L
  have hh := L.h65
  obtain ⟨lw, hx⟩ := r.lw
  have bad : (∀ m, m < n → x = nI m → I 126 (35 + m) = 0 ∨ ¬ (0 ≤ y ∧ y ≤ 5)) → am_op pr (d + 60) S I J P 142 [.ref 64, .int x, .int y] 278 [.ref 124, .int x, .int y] := by
    intro hb
    refine op_c r (-1) (fun Q k => ?_) (fun Q k => ?_)
    · show am_wp pr (d + 60) 142 0 [(0, .ref 64), (1, .int x), (2, .int y)] [] _ _
      rcases am_pk7 x n7 with ⟨m, hm, rfl⟩ | hxx
      · have hbit : am_bit (I 65 1) m = 1 ↔ I 126 (35 + m) = 1 := (hr.he m (by omega)).trans ⟨fun q => q.2, fun q => ⟨hm, q⟩⟩
        refine w142_0 rfl ?_
        refine w142_1 (L.2 _ _ _ rfl) ?_
        refine w142_4 rfl ?_
        refine w142_5 (k := c16 hh ?_)
        rw [hr.hn, am_mem7 hm n7]
        refine w142_8 (fun hQ => absurd hQ am_n01) (fun _ => ?_)
        refine w142_11 rfl ?_
        refine w142_12 (L.2 _ _ _ rfl) ?_
        refine w142_15 ?_
        refine w142_18 rfl ?_
        refine w142_19 (k := c17b ?_)
        refine w142_22 (fun h22 => ?_) (fun h22 => ?_)
        · refine w142_34 ?_
          refine w142_35 ?_
          exact k
        · refine w142_25 rfl ?_
          refine w142_26 (fun h26 => ?_) (fun h26 => ?_)
          · refine w142_34 ?_
            refine w142_35 ?_
            exact k
          · replace h26 := Int32.not_lt.mp h26
            refine w142_29 rfl ?_
            refine w142_30 ?_
            refine w142_31 (fun h31 => ?_) (fun h31 => ?_)
            · rcases hb m hm rfl with z | z
              · rw [hbit.mp (am_bit_n1.mp h22)] at z
                exact absurd z (by decide)
              · exact absurd ⟨h26, h31⟩ z
            · replace h31 := Int32.not_le.mp h31
              refine w142_34 ?_
              refine w142_35 ?_
              exact k
      · have h2 : ¬ (0 ≤ x ∧ x < I 65 0 ∧ x < 7) := fun q => hxx ⟨q.1, by rw [← hr.hn]; exact q.2.1⟩
        refine w142_0 rfl ?_
        refine w142_1 (L.2 _ _ _ rfl) ?_
        refine w142_4 rfl ?_
        refine w142_5 (k := c16 hh ?_)
        rw [am_b_f h2]
        refine w142_8 (fun _ => ?_) (fun hQ => absurd rfl hQ)
        refine w142_34 ?_
        refine w142_35 ?_
        exact k
    · show am_wp pr (d + 60) 278 0 [(0, .ref 124), (1, .int x), (2, .int y)] [] _ _
      rcases am_pk7 x n7 with ⟨m, hm, rfl⟩ | hxx
      · refine w278_0 rfl ?_
        refine w278_1 rfl ?_
        refine w278_2 (k := c174 L hr.kn n7 ?_)
        rw [am_memn hm n7]
        refine w278_5 (fun hQ => absurd hQ am_n01) (fun _ => ?_)
        refine w278_8 rfl ?_
        refine w278_9 (L.2 _ _ _ rfl) ?_
        refine w278_12 ?_
        refine w278_14 rfl ?_
        refine w278_15 ?_
        rw [nz_a35]
        refine w278_16 (L.sh rfl) (am_in_nI (by omega) (by decide)) ?_
        rw [am_clN (by omega)]
        refine w278_17 (fun h17 => ?_) (fun h17 => ?_)
        · refine w278_29 ?_
          refine w278_30 ?_
          exact k
        · refine w278_20 rfl ?_
          refine w278_21 ?_
          refine w278_22 ?_
          refine w278_23 (k := c164 ?_)
          refine w278_26 (fun h26 => ?_) (fun h26 => ?_)
          · rcases hb m hm rfl with z | z
            · exact absurd z h17
            · exact absurd (am_b_1 h26) z
          · replace h26 := Decidable.not_not.mp h26
            refine w278_29 ?_
            refine w278_30 ?_
            exact k
      · refine w278_0 rfl ?_
        refine w278_1 rfl ?_
        refine w278_2 (k := c174 L hr.kn n7 ?_)
        rw [am_b_f hxx]
        refine w278_5 (fun _ => ?_) (fun hQ => absurd rfl hQ)
        refine w278_29 ?_
        refine w278_30 ?_
        exact k
  rcases am_pk7 x n7 with ⟨m, hm, rfl⟩ | hxx
  · rcases am_w5 y with ⟨w, hw, rfl⟩ | hyy
    · rcases hr.k01 m hm with h0 | h1
      · exact bad (fun m' hm' e => Or.inl (by rw [← (nI_eq (by omega) (by omega)).mp e]; exact h0))
      · have hm7 : m < 7 := by omega
        have hw5 : (0 ≤ nI w ∧ nI w ≤ 5) := ⟨nI_pos' (by omega), nI_le (b := 5) hw (by decide)⟩
        have hs121 : am_sh S 121 (20, 5) := L.sh rfl
        have hbit : am_bit (I 65 1) m = 1 := (hr.he m (by omega)).mpr ⟨hm, h1⟩
        refine op_rd r hx (fun I2 => m_fl I2 (I 126) n m w) (fun Q k => ?_) (fun I1 J1 e Q k => ?_)
        · show am_wp pr (d + 60) 142 0 [(0, .ref 64), (1, .int (nI m)), (2, .int (nI w))] [] _ _
          refine w142_0 rfl ?_
          refine w142_1 (L.2 _ _ _ rfl) ?_
          refine w142_4 rfl ?_
          refine w142_5 (k := c16 hh ?_)
          rw [hr.hn, am_mem7 hm n7]
          refine w142_8 (fun hQ => absurd hQ am_n01) (fun _ => ?_)
          refine w142_11 rfl ?_
          refine w142_12 (L.2 _ _ _ rfl) ?_
          refine w142_15 ?_
          refine w142_18 rfl ?_
          refine w142_19 (k := c17b ?_)
          rw [hbit]
          refine w142_22 (fun hQ => absurd hQ am_n01) (fun _ => ?_)
          refine w142_25 rfl ?_
          refine w142_26 (fun hQ => absurd hQ (nI_pos (by omega))) (fun _ => ?_)
          refine w142_29 rfl ?_
          refine w142_30 ?_
          refine w142_31 (fun _ => ?_) (fun hQ => absurd (nI_le (b := 5) hw (by decide)) hQ)
          refine w142_36 rfl ?_
          refine w142_37 (k := c34 L hr hx (fun I1 J1 f1 f2 f3 => ?_))
          refine w142_40 rfl ?_
          refine w142_41 (L.2 _ _ _ rfl) ?_
          refine w142_44 rfl ?_
          refine w142_45 rfl ?_
          refine w142_46 (L.2 _ _ _ rfl) ?_
          refine w142_49 (k := c140 L (fun I2 h1 h2 => ?_))
          have hl : ∃ lb, lb < 5 ∧ (t_mo (fun b => t_pt (I1 110) (I1 111) (I1 113 b) b (-1))).2 = nI lb ∧ ∀ I4, m_ld I4 (I 126) n (lw.map Prod.snd) (n * 5) → lb = s_mp (m_P I4 (I 126) n) := by
            by_cases hex : ∃ I4, m_ld I4 (I 126) n (lw.map Prod.snd) (n * 5)
            · obtain ⟨I4, g4⟩ := hex
              refine ⟨s_mp (m_P I4 (I 126) n), s_mp5 _, b_lead hr f3 g4, fun I5 g5 => ?_⟩
              have := (b_lead hr f3 g4).symm.trans (b_lead hr f3 g5)
              exact (nI_eq (by have := s_mp5 (m_P I4 (I 126) n); omega) (by have := s_mp5 (m_P I5 (I 126) n); omega)).mp this
            · exfalso
              refine hex ⟨fun a j => if a = 138 then a_sp (I 126) n (lw.map Prod.snd) (j / 5) (j % 5) else if a = 139 then a_va (I 126) n (lw.map Prod.snd) (j / 5) (j % 5) else am_b (a_ba (I 126) n (lw.map Prod.snd) (j / 5) (j % 5) = 1), fun q z hz _ => ?_⟩
              have e1 : (q * 5 + z) / 5 = q := by omega
              have e2 : (q * 5 + z) % 5 = z := by omega
              simp only [e1, e2]
              exact ⟨rfl, rfl, rfl⟩
          obtain ⟨lb, hlb, elb, hlb2⟩ := hl
          rw [elb]
          have e111 : I2 111 = I1 111 := h1 111 (by decide)
          refine w142_52 (k := c38 L hm7 hlb ?_)
          rw [e111]
          refine w142_55 ?_
          refine w142_56 rfl ?_
          refine w142_57 (L.2 _ _ _ rfl) ?_
          refine w142_60 rfl ?_
          refine w142_61 (k := c143 L hm7 (fun I3 h3 h4 => ?_))
          refine w142_64 rfl ?_
          refine w142_65 (L.2 _ _ _ rfl) ?_
          refine w142_68 (k := c127 hs121 (fun I4 h5 h6 => ?_))
          refine w142_71 ?_
          refine w142_72 ?_
          have eI : ∀ a, a ≠ 115 → a ≠ 116 → a ≠ 117 → a ≠ 121 → I4 a = I1 a := fun a a1 a2 a3 a4 => by rw [h5 a a4, h3 a a2 a3, h1 a a1]
          have hoth : ∀ b, b < 5 → I4 116 b = t_pt (I1 110) (I1 111) (I1 113 b) b (nI m) ∧ I4 117 b = if am_bit (I1 113 b) m = 1 then I1 110 (m * 5 + b) else 0 := by
            intro b hb
            rw [h5 116 (by decide), h5 117 (by decide)]
            have := h4 b hb
            rw [h1 110 (by decide), h1 111 (by decide), h1 113 (by decide)] at this
            exact this
          have psx : ∀ I5 : Nat → Nat → Int32, (∀ a, a ≠ 115 → a ≠ 121 → I5 a = I4 a) → am_ps I I5 := fun I5 g => f1.ps.tr (am_ps_r (fun a q => by rw [g a (by unfold am_pers at q; omega) (by unfold am_pers at q; omega), eI a (by unfold am_pers at q; omega) (by unfold am_pers at q; omega) (by unfold am_pers at q; omega) (by unfold am_pers at q; omega)]))
          have hth : ∀ (I5 : Nat → Nat → Int32) q, q < 120 → (∀ i, i < 5 → I5 115 (am_pm q i) = I4 116 (am_pm q i) + nI (4 - i) * I4 117 (am_pm q i)) → ∀ I6, m_ld I6 (I 126) n (lw.map Prod.snd) (n * 5) → (t_mo (I5 115)).2 = nI (s_mp (m_fp I6 (I 126) n m q)) := by
            intro I5 q hq g I6 g6
            rw [t_mo_congr (g := m_fp I6 (I 126) n m q) (fun b hb => ?_)]
            · obtain ⟨x, x1, x2⟩ := m_fp_nn (q := q) (b := 0) hr g6 hm (by decide)
              refine t_mo_mp ?_
              rw [x2]
              exact nI_m1lt (by omega)
            · obtain ⟨z1, z2⟩ := am_ix_ok q hq b hb
              have z3 := g (am_ix q b) z1
              rw [z2, (hoth b hb).1, (hoth b hb).2, b_wo f3 g6 n7 hm hb] at z3
              rw [z3]
              show _ - _ + _ = _ - _ + _
              congr 1
              have z4 := ((f3 b hb).2.2 m (by omega)).trans ⟨fun q => q.2, fun q => ⟨hm, q⟩⟩
              by_cases z : m_on (I 126) (I6 140) m b
              · rw [if_pos z, if_pos (z4.mpr ((g6.on hb hm).mp z)), ((f3 b hb).1 m hm).1, g6.sp hb hm]
              · rw [if_neg z, if_neg (fun y => z ((g6.on hb hm).mpr (z4.mp y))), Int32.mul_zero]
          have hval : ∀ I6, m_ld I6 (I 126) n (lw.map Prod.snd) (n * 5) → ∀ b, b < 5 → I1 111 (m * 5 + b) = I6 139 (m * 5 + b) := fun I6 g6 b hb => by rw [((f3 b hb).1 m hm).2, g6.va hb hm]
          have hexl : ∃ I6, m_ld I6 (I 126) n (lw.map Prod.snd) (n * 5) := by
            refine ⟨fun a j => if a = 138 then a_sp (I 126) n (lw.map Prod.snd) (j / 5) (j % 5) else if a = 139 then a_va (I 126) n (lw.map Prod.snd) (j / 5) (j % 5) else am_b (a_ba (I 126) n (lw.map Prod.snd) (j / 5) (j % 5) = 1), fun q z hz _ => ?_⟩
            have e1 : (q * 5 + z) / 5 = q := by omega
            have e2 : (q * 5 + z) % 5 = z := by omega
            simp only [e1, e2]
            exact ⟨rfl, rfl, rfl⟩
          obtain ⟨I6, g6⟩ := hexl
          refine am_for (fun q => ∀ I5 : Nat → Nat → Int32, (∀ a, a ≠ 115 → a ≠ 121 → I5 a = I4 a) → (q < 120 → ∀ i, i < 5 → I5 121 i = nI (am_pm q i)) → (∀ I6, m_ld I6 (I 126) n (lw.map Prod.snd) (n * 5) → (s_ag (m_FW I6 (I 126) n m) q).1 = 0) → ∀ lv, am_ld1 lv 0 = some (.ref 64) → am_ld1 lv 1 = some (.int (nI m)) → am_ld1 lv 2 = some (.int (nI w)) → am_ld1 lv 3 = some (.int (I1 111 (m * 5 + lb))) → am_ld1 lv 4 = some (.int (nI q)) → am_wp pr (d + 60) 142 74 lv [] (S, I5, J1, P) Q) 120 ?_ ?_ I4 (fun _ _ _ => rfl) (fun _ i hi => by rw [h6 i hi]; rcases (show i = 0 ∨ i = 1 ∨ i = 2 ∨ i = 3 ∨ i = 4 by omega) with rfl | rfl | rfl | rfl | rfl <;> rfl) (fun _ _ => rfl) _ rfl rfl rfl rfl rfl
          · intro q hq ih I5 k1 k2 k3 lv l0 l1 l2 l3 l4
            refine w142_74 l4 ?_
            refine w142_76 ?_
            refine w142_78 (fun hQ => absurd hQ (am_nlt hq (by decide))) (fun _ => ?_)
            refine w142_81 l0 ?_
            refine w142_82 (L.2 _ _ _ rfl) ?_
            refine w142_85 l0 ?_
            refine w142_86 (L.2 _ _ _ rfl) ?_
            refine w142_89 (k := c144 L hs121 (by decide) (am_pm5 q hq) (am_pm_inj q hq) (k2 hq) (fun I7 k4 k5 => ?_))
            have k6 : ∀ i, i < 5 → I7 115 (am_pm q i) = I4 116 (am_pm q i) + nI (4 - i) * I4 117 (am_pm q i) := fun i hi => by rw [k5 i hi, k1 116 (by decide) (by decide), k1 117 (by decide) (by decide)]
            have k7 := hth I7 q hq k6
            have hthen := k7 I6 g6
            have h5t := s_mp5 (m_fp I6 (I 126) n m q)
            have hI7 : ∀ a, a ≠ 115 → a ≠ 121 → I7 a = I4 a := fun a a1 a2 => (k4 a a1).trans (k1 a a1 a2)
            have e111b : I7 111 = I1 111 := by rw [hI7 111 (by decide) (by decide), eI 111 (by decide) (by decide) (by decide) (by decide)]
            rw [hthen]
            have same : ∀ I8, m_ld I8 (I 126) n (lw.map Prod.snd) (n * 5) → s_mp (m_fp I8 (I 126) n m q) = s_mp (m_fp I6 (I 126) n m q) := fun I8 g8 => (nI_eq (by have := s_mp5 (m_fp I8 (I 126) n m q); omega) (by omega)).mp ((k7 I8 g8).symm.trans hthen)
            have iffW : ∀ I8, m_ld I8 (I 126) n (lw.map Prod.snd) (n * 5) → (m_FW I8 (I 126) n m q ↔ I1 111 (m * 5 + lb) < I1 111 (m * 5 + s_mp (m_fp I6 (I 126) n m q))) := by
              intro I8 g8
              show I8 139 _ < I8 139 _ ↔ _
              rw [same I8 g8, ← hlb2 I8 g8, ← hval I8 g8 lb hlb, ← hval I8 g8 _ h5t]
            generalize s_mp (m_fp I6 (I 126) n m q) = th at *
            have e121 : ∀ i, i < 5 → I7 121 i = nI (am_pm q i) := fun i hi => by rw [k4 121 (by decide)]; exact k2 hq i hi
            by_cases hW : I1 111 (m * 5 + lb) < I1 111 (m * 5 + th)
            · by_cases hw0 : w = 0
              · rw [hw0] at l2
                refine w142_92 ?_
                refine w142_94 l0 ?_
                refine w142_95 (L.2 _ _ _ rfl) ?_
                refine w142_98 l1 ?_
                refine w142_99 rfl ?_
                refine w142_101 (k := c38 L hm7 h5t ?_)
                rw [e111b]
                refine w142_104 l3 ?_
                refine w142_105 (fun hQ => absurd hQ (fun z => absurd hW (Int32.not_lt.mpr z))) (fun _ => ?_)
                refine w142_108 l2 ?_
                refine w142_109 (fun hQ => absurd hQ (fun z => z rfl)) (fun _ => ?_)
                refine w142_112 rfl ?_
                refine w142_114 ?_
                refine w142_125 ?_
                refine k I7 J1 _ (psx I7 hI7) (fun I8 g8 => ?_)
                rw [m_fl_at hq (k3 I8 g8) ((iffW I8 g8).mpr hW), if_pos hw0, same I8 g8]
              · have ew : nI w - 1 = nI (w - 1) := nI_sub1 (by omega)
                refine w142_92 ?_
                refine w142_94 l0 ?_
                refine w142_95 (L.2 _ _ _ rfl) ?_
                refine w142_98 l1 ?_
                refine w142_99 rfl ?_
                refine w142_101 (k := c38 L hm7 h5t ?_)
                rw [e111b]
                refine w142_104 l3 ?_
                refine w142_105 (fun hQ => absurd hQ (fun z => absurd hW (Int32.not_lt.mpr z))) (fun _ => ?_)
                refine w142_108 l2 ?_
                refine w142_109 (fun _ => ?_) (fun hQ => absurd (nI_ne0 (by omega) (by omega)) hQ)
                refine w142_117 l0 ?_
                refine w142_118 (L.2 _ _ _ rfl) ?_
                refine w142_121 l2 ?_
                refine w142_122 ?_
                refine w142_123 ?_
                rw [ew]
                refine w142_124 hs121 (am_in_nI (by omega) (by decide)) ?_
                rw [am_clN (by omega), e121 (w - 1) (by omega)]
                refine w142_125 ?_
                refine k I7 J1 _ (psx I7 hI7) (fun I8 g8 => ?_)
                rw [m_fl_at hq (k3 I8 g8) ((iffW I8 g8).mpr hW), if_neg hw0]
            · refine w142_92 ?_
              refine w142_94 l0 ?_
              refine w142_95 (L.2 _ _ _ rfl) ?_
              refine w142_98 l1 ?_
              refine w142_99 rfl ?_
              refine w142_101 (k := c38 L hm7 h5t ?_)
              rw [e111b]
              refine w142_104 l3 ?_
              refine w142_105 (fun _ => ?_) (fun hQ => absurd (Int32.not_lt.mp hW) hQ)
              refine w142_126 l0 ?_
              refine w142_127 (L.2 _ _ _ rfl) ?_
              refine w142_130 (k := c129 hs121 hq e121 (fun I9 k8 k9 => ?_))
              refine w142_133 l4 ?_
              refine w142_136 ?_
              refine ih I9 (fun a a1 a2 => (k8 a a2).trans (hI7 a a1 a2)) (fun z => k9 (by omega)) (fun I8 g8 => ?_) _ l0 l1 l2 l3 (am_nx q)
              rw [s_ag_s, if_neg (fun z => hW ((iffW I8 g8).mp z))]
              exact k3 I8 g8
          · intro I5 k1 k2 k3 lv l0 l1 l2 l3 l4
            refine w142_74 l4 ?_
            refine w142_76 ?_
            refine w142_78 (fun _ => ?_) (fun hQ => absurd (Int32.le_refl _) hQ)
            refine w142_139 ?_
            refine w142_140 ?_
            exact k I5 J1 _ (psx I5 k1) (fun I8 g8 => (m_fl_no (k3 I8 g8)).symm)
        · have e35 : I1 126 (35 + m) = 1 := by rw [e]; exact h1
          show am_wp pr (d + 60) 278 0 [(0, .ref 124), (1, .int (nI m)), (2, .int (nI w))] [] _ _
          refine w278_0 rfl ?_
          refine w278_1 rfl ?_
          refine w278_2 (k := c174 L (by rw [e]; exact hr.kn) n7 ?_)
          rw [am_memn hm n7]
          refine w278_5 (fun hQ => absurd hQ am_n01) (fun _ => ?_)
          refine w278_8 rfl ?_
          refine w278_9 (L.2 _ _ _ rfl) ?_
          refine w278_12 ?_
          refine w278_14 rfl ?_
          refine w278_15 ?_
          rw [nz_a35]
          refine w278_16 (L.sh rfl) (am_in_nI (by omega) (by decide)) ?_
          rw [am_clN (by omega), e35]
          refine w278_17 (fun hQ => absurd hQ am_n01) (fun _ => ?_)
          refine w278_20 rfl ?_
          refine w278_21 ?_
          refine w278_22 ?_
          refine w278_23 (k := c164 ?_)
          rw [am_b_t hw5]
          refine w278_26 (fun _ => ?_) (fun hQ => absurd am_n01 hQ)
          refine w278_31 rfl ?_
          refine w278_32 (k := c275 L e hr.kn n7 (hx.m hr.l6) (fun I2 f2 g => ?_))
          refine w278_35 ?_
          refine w278_36 ?_
          refine w278_37 ?_
          have e126 : I2 126 = I 126 := by rw [f2.1 126 (by decide) (by decide) (by decide) (by decide) (by decide) (by decide)]; exact e
          have fin : ∀ I5 : Nat → Nat → Int32, (∀ a, a ≠ 144 → a ≠ 145 → I5 a = I2 a) → Q (some (.int (m_fl I2 (I 126) n m w))) (S, I5, J1, P) := by
            intro I5 g1
            have e1 : I5 138 = I2 138 := g1 138 (by decide) (by decide)
            have e2 : I5 139 = I2 139 := g1 139 (by decide) (by decide)
            have e3 : I5 140 = I2 140 := g1 140 (by decide) (by decide)
            have q := k I5 ((f2.f4.tr ⟨fun a _ _ _ a4 => g1 a (by omega) (by omega), fun q _ => by rw [g1 124 (by decide) (by decide)]⟩).ps) (m_ld_cg e1 e2 e3 g)
            have e4 : m_fl I5 (I 126) n m w = m_fl I2 (I 126) n m w := by
              unfold m_fl m_FW m_fp m_P
              simp only [e1, e2, e3]
            rw [e4] at q
            exact q
          clear k
          have hnow := s_mp5 (m_P I2 (I 126) n)
          refine am_for (fun q => ∀ I5 : Nat → Nat → Int32, (∀ a, a ≠ 144 → a ≠ 145 → I5 a = I2 a) → (s_ag (m_FW I2 (I 126) n m) q).1 = 0 → ∀ lv, am_ld1 lv 0 = some (.ref 124) → am_ld1 lv 1 = some (.int (nI m)) → am_ld1 lv 2 = some (.int (nI w)) → am_ld1 lv 3 = some (.int (nI (s_mp (m_P I2 (I 126) n)))) → am_ld1 lv 4 = some (.int (nI q)) → am_wp pr (d + 60) 278 39 lv [] (S, I5, J1, P) Q) 120 ?_ ?_ I2 (fun _ _ _ => rfl) rfl _ rfl rfl rfl rfl rfl
          · intro q hq ih I5 g1 g2 lv l0 l1 l2 l3 l4
            refine w278_39 l4 ?_
            refine w278_41 ?_
            refine w278_43 (fun hQ => absurd hQ (am_nlt hq (by decide))) (fun _ => ?_)
            refine w278_46 l0 ?_
            refine w278_47 l4 ?_
            refine w278_49 (k := c266 L hq (fun I6 g3 g4 => ?_))
            have g5 : ∀ a, a ≠ 144 → a ≠ 145 → I6 a = I2 a := fun a a1 a2 => (g3 a a1).trans (g1 a a1 a2)
            have e1 : I6 138 = I2 138 := g5 138 (by decide) (by decide)
            have e2 : I6 139 = I2 139 := g5 139 (by decide) (by decide)
            have e3 : I6 140 = I2 140 := g5 140 (by decide) (by decide)
            have emp : s_mp (m_fp I6 (I 126) n m q) = s_mp (m_fp I2 (I 126) n m q) := by unfold m_fp; simp only [e1, e2, e3]
            refine w278_52 l0 ?_
            refine w278_53 l1 ?_
            refine w278_54 (k := c279 L (by rw [g5 126 (by decide) (by decide)]; exact e126) hr.kn n7 hm hq g4 (fun I7 g6 => ?_))
            rw [emp]
            refine w278_57 ?_
            have g7 : ∀ a, a ≠ 144 → a ≠ 145 → I7 a = I2 a := fun a a1 a2 => (g6 a a2).trans (g5 a a1 a2)
            have e139 : I7 139 = I2 139 := g7 139 (by decide) (by decide)
            have e144 : ∀ i, i < 5 → I7 144 i = nI (am_pm q i) := fun i hi => by rw [g6 144 (by decide)]; exact g4 i hi
            have h5t := s_mp5 (m_fp I2 (I 126) n m q)
            by_cases hW : m_FW I2 (I 126) n m q
            · have hat := m_fl_at (w := w) hq g2 hW
              have hW2 : I2 139 (m * 5 + s_mp (m_P I2 (I 126) n)) < I2 139 (m * 5 + s_mp (m_fp I2 (I 126) n m q)) := hW
              by_cases hw0 : w = 0
              · rw [if_pos hw0] at hat
                rw [hw0] at l2
                refine w278_59 l0 ?_
                refine w278_60 (L.2 _ _ _ rfl) ?_
                refine w278_63 ?_
                refine w278_64 l1 ?_
                refine w278_65 ?_
                refine w278_66 rfl ?_
                refine w278_68 ?_
                refine w278_69 (L.sh rfl) (am_inb' hm7 h5t) ?_
                rw [am_clb' hm7 h5t, e139]
                refine w278_70 l0 ?_
                refine w278_71 (L.2 _ _ _ rfl) ?_
                refine w278_74 ?_
                refine w278_75 l1 ?_
                refine w278_76 ?_
                refine w278_77 l3 ?_
                refine w278_78 ?_
                refine w278_79 (L.sh rfl) (am_inb' hm7 hnow) ?_
                rw [am_clb' hm7 hnow, e139]
                refine w278_80 (fun hQ => absurd hQ (fun z => absurd hW2 (Int32.not_lt.mpr z))) (fun _ => ?_)
                refine w278_83 l2 ?_
                refine w278_84 (fun hQ => absurd hQ (fun z => z rfl)) (fun _ => ?_)
                refine w278_87 rfl ?_
                refine w278_89 ?_
                refine w278_100 ?_
                rw [← hat]
                exact fin I7 g7
              · rw [if_neg hw0] at hat
                have ew : nI w - 1 = nI (w - 1) := nI_sub1 (by omega)
                refine w278_59 l0 ?_
                refine w278_60 (L.2 _ _ _ rfl) ?_
                refine w278_63 ?_
                refine w278_64 l1 ?_
                refine w278_65 ?_
                refine w278_66 rfl ?_
                refine w278_68 ?_
                refine w278_69 (L.sh rfl) (am_inb' hm7 h5t) ?_
                rw [am_clb' hm7 h5t, e139]
                refine w278_70 l0 ?_
                refine w278_71 (L.2 _ _ _ rfl) ?_
                refine w278_74 ?_
                refine w278_75 l1 ?_
                refine w278_76 ?_
                refine w278_77 l3 ?_
                refine w278_78 ?_
                refine w278_79 (L.sh rfl) (am_inb' hm7 hnow) ?_
                rw [am_clb' hm7 hnow, e139]
                refine w278_80 (fun hQ => absurd hQ (fun z => absurd hW2 (Int32.not_lt.mpr z))) (fun _ => ?_)
                refine w278_83 l2 ?_
                refine w278_84 (fun _ => ?_) (fun hQ => absurd (nI_ne0 (by omega) (by omega)) hQ)
                refine w278_92 l0 ?_
                refine w278_93 (L.2 _ _ _ rfl) ?_
                refine w278_96 l2 ?_
                refine w278_97 ?_
                refine w278_98 ?_
                rw [ew]
                refine w278_99 (L.sh rfl) (am_in_nI (by omega) (by decide)) ?_
                rw [am_clN (by omega), e144 (w - 1) (by omega)]
                refine w278_100 ?_
                rw [← hat]
                exact fin I7 g7
            · have hW2 : I2 139 (m * 5 + s_mp (m_fp I2 (I 126) n m q)) ≤ I2 139 (m * 5 + s_mp (m_P I2 (I 126) n)) := Int32.not_lt.mp hW
              refine w278_59 l0 ?_
              refine w278_60 (L.2 _ _ _ rfl) ?_
              refine w278_63 ?_
              refine w278_64 l1 ?_
              refine w278_65 ?_
              refine w278_66 rfl ?_
              refine w278_68 ?_
              refine w278_69 (L.sh rfl) (am_inb' hm7 h5t) ?_
              rw [am_clb' hm7 h5t, e139]
              refine w278_70 l0 ?_
              refine w278_71 (L.2 _ _ _ rfl) ?_
              refine w278_74 ?_
              refine w278_75 l1 ?_
              refine w278_76 ?_
              refine w278_77 l3 ?_
              refine w278_78 ?_
              refine w278_79 (L.sh rfl) (am_inb' hm7 hnow) ?_
              rw [am_clb' hm7 hnow, e139]
              refine w278_80 (fun _ => ?_) (fun hQ => absurd hW2 hQ)
              refine w278_101 l4 ?_
              refine w278_104 ?_
              exact ih I7 g7 (by rw [s_ag_s, if_neg hW]; exact g2) _ l0 l1 l2 l3 (am_nx q)
          · intro I5 g1 g2 lv l0 l1 l2 l3 l4
            have e0 := m_fl_no (w := w) g2
            refine w278_39 l4 ?_
            refine w278_41 ?_
            refine w278_43 (fun _ => ?_) (fun hQ => absurd (Int32.le_refl _) hQ)
            refine w278_107 ?_
            refine w278_108 ?_
            rw [← e0]
            exact fin I5 g1
    · exact bad (fun _ _ _ => Or.inr hyy)
  · exact bad (fun m hm e => absurd ⟨by rw [e]; exact nI_pos' (by omega), by rw [e]; exact nI_lt hm (by omega)⟩ hxx)
end
