/-! both sides' calls: what is asked of members and bills -/
theorem am_bit_b {x : Int32} {m : Nat} {p : Prop} [Decidable p] (h : am_bit x m = 1 ↔ p) : am_bit x m = am_b p := by
  by_cases z : p
  · rw [h.mpr z, am_b_t z]
  · rw [am_bit_n0.mp (fun q => z (h.mp q)), am_b_f z]
def g6 (a0 a1 a2 a3 a4 a5 z : Int32) : Int32 := if z = 0 then a0 else if z = 1 then a1 else if z = 2 then a2 else if z = 3 then a3 else if z = 4 then a4 else if z = 5 then a5 else -1
theorem g6_n {a0 a1 a2 a3 a4 a5 z : Int32} (h : z.toInt < 0 ∨ 5 < z.toInt) : g6 a0 a1 a2 a3 a4 a5 z = -1 := by
  have e : ∀ c : Int32, 0 ≤ c.toInt ∧ c.toInt ≤ 5 → ¬ z = c := fun c hc e => by rw [e] at h; omega
  unfold g6
  rw [if_neg (e 0 (by decide)), if_neg (e 1 (by decide)), if_neg (e 2 (by decide)), if_neg (e 3 (by decide)), if_neg (e 4 (by decide)), if_neg (e 5 (by decide))]
theorem g6_n4 {a0 a1 a2 a3 a4 z : Int32} (h : z.toInt < 0 ∨ 4 < z.toInt) : g6 a0 a1 a2 a3 a4 (-1) z = -1 := by
  have e : ∀ c : Int32, 0 ≤ c.toInt ∧ c.toInt ≤ 4 → ¬ z = c := fun c hc e => by rw [e] at h; omega
  unfold g6
  rw [if_neg (e 0 (by decide)), if_neg (e 1 (by decide)), if_neg (e 2 (by decide)), if_neg (e 3 (by decide)), if_neg (e 4 (by decide))]
  split <;> rfl
def m_all (n : Nat) : Int32 := 1 <<< (nI n &&& 31) - 1
abbrev m_vF (I : Nat → Nat → Int32) (kp : Nat → Int32) (n b : Nat) : Int32 := m_vo (I 138) n b (m_fa kp (I 140) (I 139) n b (m_all n))
abbrev m_vN (I : Nat → Nat → Int32) (kp : Nat → Int32) (n b : Nat) : Int32 := m_vo (I 138) n b (m_of kp (I 140) n b (m_all n))
abbrev m_ask (I : Nat → Nat → Int32) (kp : Nat → Int32) (m b : Nat) (z : Int32) : Int32 := g6 (I 138 (m * 5 + b)) (I 139 (m * 5 + b)) (I 140 (m * 5 + b)) (am_b (m_on kp (I 140) m b)) (am_b (m_on kp (I 140) m b ∧ 5 ≤ I 139 (m * 5 + b))) (-1) z
abbrev m_bl (I : Nat → Nat → Int32) (kp : Nat → Int32) (n b : Nat) (z : Int32) : Int32 := g6 (am_b (am_bit (kp 42) b = 1)) (m_vF I kp n b) (m_vN I kp n b) (t_nd (kp 72) (m_vN I kp n b)) (am_b (t_nd (kp 72) (m_vN I kp n b) ≤ m_vF I kp n b)) (m_pt kp (I 140) (I 138) (I 139) n b) z
theorem am_R.lw {S : List (Nat × Nat)} {I : Nat → Nat → Int32} {P : Nat → Nat → Option Nat} {n l s u tp : Nat} (r : am_R S I P n l s u tp) : ∃ lw, am_lw S I P (P 70) (I 126) l (I 126 76) lw := am_lw_ex (r 2) r.hr.kf
section
variable {pr : am_Pr} {d : Nat} {S : List (Nat × Nat)} {I : Nat → Nat → Int32} {J : Nat → Nat → Int64} {P : Nat → Nat → Option Nat} {Q : Option Value → am_H → Prop} {n l s u tp : Nat} {kp : Nat → Int32} {lw : Option (Nat × List Cl)} {lv0 : Option (List Cl)}
/-- reading alone, by both -/
theorem op_rd (r : am_R S I P n l s u tp) {mc mm : Nat} {ac am : List Value} (hx : am_lw S I P (P 70) (I 126) l (I 126 76) lw) (F : (Nat → Nat → Int32) → Int32) (hc : ∀ Q : Option Value → am_H → Prop, (∀ I' J' v, am_ps I I' → (∀ I2, m_ld I2 (I 126) n (lw.map Prod.snd) (n * 5) → v = F I2) → Q (some (.int v)) (S, I', J', P)) → am_ev pr d mc ac (S, I, J, P) Q) (hm : ∀ I1 J1, I1 126 = I 126 → ∀ Q : Option Value → am_H → Prop, (∀ I2, am_ps I1 I2 → m_ld I2 (I 126) n (lw.map Prod.snd) (n * 5) → Q (some (.int (F I2))) (S, I2, J1, P)) → am_ev pr d mm am (S, I1, J1, P) Q) : am_op pr d S I J P mc ac mm am := by
  refine hc _ (fun I1 J1 v h1 h2 => ⟨v, rfl, hm I1 J1 (h1.r (by unfold am_pers; omega)) _ (fun I2 h3 h4 => ?_)⟩)
  exact am_oi_0 (am_R_ps r (h1.tr h3)) (h2 I2 h4).symm
/-- both answer the same at once -/
theorem op_c {mc mm : Nat} {ac am : List Value} (r : am_R S I P n l s u tp) (x : Int32) (hc : ∀ Q : Option Value → am_H → Prop, Q (some (.int x)) (S, I, J, P) → am_ev pr d mc ac (S, I, J, P) Q) (hm : ∀ Q : Option Value → am_H → Prop, Q (some (.int x)) (S, I, J, P) → am_ev pr d mm am (S, I, J, P) Q) : am_op pr d S I J P mc ac mm am := hc _ ⟨x, rfl, hm _ (am_oi_0 r rfl)⟩
theorem am_memn {m : Nat} (hm : m < n) (n7 : n ≤ 7) : am_b (0 ≤ nI m ∧ nI m < nI n) = 1 := am_b_t ⟨nI_pos' (by omega), nI_lt hm (by omega)⟩
theorem am_mem7 {m : Nat} (hm : m < n) (n7 : n ≤ 7) : am_b (0 ≤ nI m ∧ nI m < nI n ∧ nI m < 7) = 1 := am_b_t ⟨nI_pos' (by omega), nI_lt hm (by omega), nI_lt (b := 7) (by omega) (by decide)⟩
/-- asks -/
theorem c19 (L : am_Lay S P) {m b : Nat} {z : Int32} (hr : am_HR I 65 kp n l s) (hx : am_lw S I P (P 70) kp l (kp 76) lw) (hm : m < n) (hb : b < 5) (k : ∀ I' J' v, am_ps I I' → (∀ I2, m_ld I2 kp n (lw.map Prod.snd) (n * 5) → v = m_ask I2 kp m b z) → Q (some (.int v)) (S, I', J', P)) : am_ev pr (d + 5) 19 [.ref 64, .int (nI m), .int (nI b), .int z] (S, I, J, P) Q := by
  have hh := L.h65
  have n7 := hr.n7
  have hm7 : m < 7 := by omega
  show am_wp pr (d + 5) 19 0 [(0, .ref 64), (1, .int (nI m)), (2, .int (nI b)), (3, .int z)] [] _ _
  refine w19_0 rfl ?_
  refine w19_1 (L.2 _ _ _ rfl) ?_
  refine w19_4 rfl ?_
  refine w19_5 (k := c16 hh ?_)
  rw [hr.hn, am_mem7 hm n7]
  refine w19_8 (fun hQ => absurd hQ am_n01) (fun _ => ?_)
  refine w19_11 rfl ?_
  refine w19_12 (k := c18b hb ?_)
  refine w19_15 (fun _ => ?_) (fun hQ => absurd am_n01 hQ)
  refine w19_20 rfl ?_
  refine w19_21 rfl ?_
  refine w19_22 (k := c20 L hr hx hb (fun I1 J1 f1 f2 f3 f4 => ?_))
  refine w19_25 rfl ?_
  refine w19_26 ?_
  refine w19_27 ?_
  refine w19_28 rfl ?_
  refine w19_29 ?_
  refine w19_30 ?_
  have kk := k I1 J1
  have e0 := (f3.1 m hm).1
  have e1 := (f3.1 m hm).2
  have e2 : am_bit (I1 112 b) m = am_b (a_ba kp n (lw.map Prod.snd) m b = 1) := am_bit_b ((f3.2.1 m (by omega)).trans ⟨fun q => q.2, fun q => ⟨hm, q⟩⟩)
  have e3 : am_bit (I1 113 b) m = am_b (kp (35 + m) = 1 ∧ ¬ a_ba kp n (lw.map Prod.snd) m b = 1) := am_bit_b ((f3.2.2 m (by omega)).trans ⟨fun q => q.2, fun q => ⟨hm, q⟩⟩)
  have e4 : am_bit (t_fa (I1 111) (I1 113 b) b) m = am_b ((kp (35 + m) = 1 ∧ ¬ a_ba kp n (lw.map Prod.snd) m b = 1) ∧ 5 ≤ a_va kp n (lw.map Prod.snd) m b) := am_bit_b ((t_fa_bit f3 n7 (by omega)).trans ⟨fun q => q.2, fun q => ⟨hm, q⟩⟩)
  have fin : ∀ v, (∀ I2, m_ld I2 kp n (lw.map Prod.snd) (n * 5) → v = m_ask I2 kp m b z) → Q (some (.int v)) (S, I1, J1, P) := fun v q => kk v f1.ps q
  refine w19_32 rfl ?_
  rcases am_sw0_4 z with rfl | rfl | rfl | rfl | rfl | h33
  · refine w19_33_0 ?_
    refine w19_68 rfl ?_
    refine w19_69 (L.2 _ _ _ rfl) ?_
    refine w19_72 (L.2 _ _ _ rfl) ?_
    refine w19_75 rfl ?_
    refine w19_77 (by first | with_reducible assumption | exact L.sh rfl | exact hh.sh rfl | exact hp.2.2) (by first | with_reducible assumption | with_reducible exact am_in_nI (by omega) (by decide) | with_reducible exact am_inb (by omega) (by omega) | with_reducible exact am_inb' (by omega) (by omega) | with_reducible exact am_in35 (by omega) | with_reducible exact am_inw (by omega) (by omega) | with_reducible decide) ?_
    try simp (disch := omega) only [am_clb, am_clb', am_cl35, am_clw, am_clN, tl_0, tl_1, tl_2, tl_3, tl_4, tl_5, tl_6, tl_7, tl_8, tl_9, tl_10, tl_11, tl_12, tl_13, tl_14, tl_15, tl_16, tl_35, tl_42, tl_43, tl_44, tl_51, tl_58, tl_70, tl_71, tl_72, tl_73, tl_74, tl_75, tl_76, tl_77, tl_78, tl_79, tl_80, tl_81, tl_82, tl_83, vb_0, vb_1]
    refine w19_78 ?_
    first | exact fin _ (fun I2 g => by rw [e0]; exact (g.sp hb hm).symm) | exact fin _ (fun I2 g => by rw [e1]; exact (g.va hb hm).symm) | exact fin _ (fun I2 g => by rw [e2]; exact (g m b hb (by omega)).2.2.symm) | exact fin _ (fun I2 g => by rw [e3]; exact am_b_iff (g.on hb hm).symm) | exact fin _ (fun I2 g => by rw [e4, ← g.va hb hm]; exact am_b_iff (and_congr_left' (g.on hb hm).symm)) | exact fin _ (fun I2 g => (g6_n4 h33).symm)
  · refine w19_33_1 ?_
    refine w19_79 rfl ?_
    refine w19_80 (L.2 _ _ _ rfl) ?_
    refine w19_83 (L.2 _ _ _ rfl) ?_
    refine w19_86 rfl ?_
    refine w19_88 (by first | with_reducible assumption | exact L.sh rfl | exact hh.sh rfl | exact hp.2.2) (by first | with_reducible assumption | with_reducible exact am_in_nI (by omega) (by decide) | with_reducible exact am_inb (by omega) (by omega) | with_reducible exact am_inb' (by omega) (by omega) | with_reducible exact am_in35 (by omega) | with_reducible exact am_inw (by omega) (by omega) | with_reducible decide) ?_
    try simp (disch := omega) only [am_clb, am_clb', am_cl35, am_clw, am_clN, tl_0, tl_1, tl_2, tl_3, tl_4, tl_5, tl_6, tl_7, tl_8, tl_9, tl_10, tl_11, tl_12, tl_13, tl_14, tl_15, tl_16, tl_35, tl_42, tl_43, tl_44, tl_51, tl_58, tl_70, tl_71, tl_72, tl_73, tl_74, tl_75, tl_76, tl_77, tl_78, tl_79, tl_80, tl_81, tl_82, tl_83, vb_0, vb_1]
    refine w19_89 ?_
    first | exact fin _ (fun I2 g => by rw [e0]; exact (g.sp hb hm).symm) | exact fin _ (fun I2 g => by rw [e1]; exact (g.va hb hm).symm) | exact fin _ (fun I2 g => by rw [e2]; exact (g m b hb (by omega)).2.2.symm) | exact fin _ (fun I2 g => by rw [e3]; exact am_b_iff (g.on hb hm).symm) | exact fin _ (fun I2 g => by rw [e4, ← g.va hb hm]; exact am_b_iff (and_congr_left' (g.on hb hm).symm)) | exact fin _ (fun I2 g => (g6_n4 h33).symm)
  · refine w19_33_2 ?_
    refine w19_90 rfl ?_
    refine w19_91 (L.2 _ _ _ rfl) ?_
    refine w19_94 (L.2 _ _ _ rfl) ?_
    refine w19_97 rfl ?_
    refine w19_98 (L.sh rfl) (am_inB hb) ?_
    rw [am_clB hb]
    refine w19_99 rfl ?_
    refine w19_100 (k := c17b ?_)
    refine w19_103 ?_
    first | exact fin _ (fun I2 g => by rw [e0]; exact (g.sp hb hm).symm) | exact fin _ (fun I2 g => by rw [e1]; exact (g.va hb hm).symm) | exact fin _ (fun I2 g => by rw [e2]; exact (g m b hb (by omega)).2.2.symm) | exact fin _ (fun I2 g => by rw [e3]; exact am_b_iff (g.on hb hm).symm) | exact fin _ (fun I2 g => by rw [e4, ← g.va hb hm]; exact am_b_iff (and_congr_left' (g.on hb hm).symm)) | exact fin _ (fun I2 g => (g6_n4 h33).symm)
  · refine w19_33_3 ?_
    refine w19_104 rfl ?_
    refine w19_105 (L.2 _ _ _ rfl) ?_
    refine w19_108 (L.2 _ _ _ rfl) ?_
    refine w19_111 rfl ?_
    refine w19_112 (L.sh rfl) (am_inB hb) ?_
    rw [am_clB hb]
    refine w19_113 rfl ?_
    refine w19_114 (k := c17b ?_)
    refine w19_117 ?_
    first | exact fin _ (fun I2 g => by rw [e0]; exact (g.sp hb hm).symm) | exact fin _ (fun I2 g => by rw [e1]; exact (g.va hb hm).symm) | exact fin _ (fun I2 g => by rw [e2]; exact (g m b hb (by omega)).2.2.symm) | exact fin _ (fun I2 g => by rw [e3]; exact am_b_iff (g.on hb hm).symm) | exact fin _ (fun I2 g => by rw [e4, ← g.va hb hm]; exact am_b_iff (and_congr_left' (g.on hb hm).symm)) | exact fin _ (fun I2 g => (g6_n4 h33).symm)
  · refine w19_33_4 ?_
    refine w19_118 rfl ?_
    refine w19_119 (L.2 _ _ _ rfl) ?_
    refine w19_122 rfl ?_
    refine w19_123 (k := c28 L hb ?_)
    refine w19_126 rfl ?_
    refine w19_127 (k := c17b ?_)
    refine w19_130 ?_
    first | exact fin _ (fun I2 g => by rw [e0]; exact (g.sp hb hm).symm) | exact fin _ (fun I2 g => by rw [e1]; exact (g.va hb hm).symm) | exact fin _ (fun I2 g => by rw [e2]; exact (g m b hb (by omega)).2.2.symm) | exact fin _ (fun I2 g => by rw [e3]; exact am_b_iff (g.on hb hm).symm) | exact fin _ (fun I2 g => by rw [e4, ← g.va hb hm]; exact am_b_iff (and_congr_left' (g.on hb hm).symm)) | exact fin _ (fun I2 g => (g6_n4 h33).symm)
  · refine w19_33_d h33 ?_
    refine w19_131 ?_
    refine w19_132 ?_
    first | exact fin _ (fun I2 g => by rw [e0]; exact (g.sp hb hm).symm) | exact fin _ (fun I2 g => by rw [e1]; exact (g.va hb hm).symm) | exact fin _ (fun I2 g => by rw [e2]; exact (g m b hb (by omega)).2.2.symm) | exact fin _ (fun I2 g => by rw [e3]; exact am_b_iff (g.on hb hm).symm) | exact fin _ (fun I2 g => by rw [e4, ← g.va hb hm]; exact am_b_iff (and_congr_left' (g.on hb hm).symm)) | exact fin _ (fun I2 g => (g6_n4 h33).symm)
theorem c19n (L : am_Lay S P) {x y z : Int32} (hr : am_HR I 65 kp n l s) (h : ¬ (0 ≤ x ∧ x < nI n) ∨ ¬ (0 ≤ y ∧ y < 5)) (k : Q (some (.int (-1))) (S, I, J, P)) : am_ev pr (d + 5) 19 [.ref 64, .int x, .int y, .int z] (S, I, J, P) Q := by
  have hh := L.h65
  show am_wp pr (d + 5) 19 0 [(0, .ref 64), (1, .int x), (2, .int y), (3, .int z)] [] _ _
  by_cases hX : 0 ≤ x ∧ x < I 65 0 ∧ x < 7
  · have h2 : ¬ (0 ≤ y ∧ y < 5) := h.elim (fun q => absurd ⟨hX.1, by rw [← hr.hn]; exact hX.2.1⟩ q) id
    refine w19_0 rfl ?_
    refine w19_1 (L.2 _ _ _ rfl) ?_
    refine w19_4 rfl ?_
    refine w19_5 (k := c16 hh ?_)
    rw [am_b_t hX]
    refine w19_8 (fun hQ => absurd hQ am_n01) (fun _ => ?_)
    refine w19_11 rfl ?_
    refine w19_12 (k := c18 ?_)
    rw [am_b_f h2]
    refine w19_15 (fun hQ => absurd hQ (by decide)) (fun _ => ?_)
    refine w19_18 ?_
    refine w19_19 ?_
    exact k
  · refine w19_0 rfl ?_
    refine w19_1 (L.2 _ _ _ rfl) ?_
    refine w19_4 rfl ?_
    refine w19_5 (k := c16 hh ?_)
    rw [am_b_f hX]
    refine w19_8 (fun _ => ?_) (fun hQ => absurd rfl hQ)
    refine w19_18 ?_
    refine w19_19 ?_
    exact k
theorem c176 (L : am_Lay S P) {m b : Nat} {z : Int32} (hk : I 126 = kp) (hn : kp 73 = nI n) (n7 : n ≤ 7) (hlw : m_lw kp lv0) (hm : m < n) (hb : b < 5) (k : ∀ I2, am_ps I I2 → m_ld I2 kp n lv0 (n * 5) → Q (some (.int (m_ask I2 kp m b z))) (S, I2, J, P)) : am_ev pr (d + 45) 176 [.ref 124, .int (nI m), .int (nI b), .int z] (S, I, J, P) Q := by
  have hm7 : m < 7 := by omega
  have hn1 : I 126 73 = nI n := by rw [hk]; exact hn
  show am_wp pr (d + 45) 176 0 [(0, .ref 124), (1, .int (nI m)), (2, .int (nI b)), (3, .int z)] [] _ _
  refine w176_0 rfl ?_
  refine w176_1 rfl ?_
  refine w176_2 (k := c174 L hn1 n7 ?_)
  rw [am_memn hm n7]
  refine w176_5 (fun hQ => absurd hQ am_n01) (fun _ => ?_)
  refine w176_8 rfl ?_
  refine w176_9 (k := c177b hb ?_)
  refine w176_12 (fun _ => ?_) (fun hQ => absurd am_n01 hQ)
  refine w176_17 rfl ?_
  refine w176_18 (k := c178 L hk hn n7 hlw (fun I2 f2 g => ?_))
  have e126 : I2 126 = kp := by rw [f2.1 126 (by decide) (by decide) (by decide) (by decide) (by decide)]; exact hk
  have kk := k I2 f2.ps g
  rw [← e126] at kk
  have hz : ∀ (p : Prop) [Decidable p], am_b p = 0 → am_b p = 0 := fun _ _ q => q
  have b01 := g.b1 hb hm
  refine w176_21 rfl ?_
  rcases am_sw0_4 z with rfl | rfl | rfl | rfl | rfl | h22
  · refine w176_22_0 ?_
    refine w176_56 rfl ?_
    refine w176_57 (L.2 _ _ _ rfl) ?_
    refine w176_60 ?_
    refine w176_61 rfl ?_
    refine w176_62 ?_
    refine w176_63 rfl ?_
    refine w176_64 ?_
    refine w176_65 (by first | with_reducible assumption | exact L.sh rfl | exact hh.sh rfl | exact hp.2.2) (by first | with_reducible assumption | with_reducible exact am_in_nI (by omega) (by decide) | with_reducible exact am_inb (by omega) (by omega) | with_reducible exact am_inb' (by omega) (by omega) | with_reducible exact am_in35 (by omega) | with_reducible exact am_inw (by omega) (by omega) | with_reducible decide) ?_
    try simp (disch := omega) only [am_clb, am_clb', am_cl35, am_clw, am_clN, tl_0, tl_1, tl_2, tl_3, tl_4, tl_5, tl_6, tl_7, tl_8, tl_9, tl_10, tl_11, tl_12, tl_13, tl_14, tl_15, tl_16, tl_35, tl_42, tl_43, tl_44, tl_51, tl_58, tl_70, tl_71, tl_72, tl_73, tl_74, tl_75, tl_76, tl_77, tl_78, tl_79, tl_80, tl_81, tl_82, tl_83, vb_0, vb_1]
    refine w176_66 ?_
    first | exact kk | (rw [show (1 : Int32) = I2 140 (m * 5 + b) from (b01.resolve_left h88).symm]; exact kk) | (rw [show (0 : Int32) = I2 140 (m * 5 + b) from h88.symm]; exact kk) | (rw [show (1 : Int32) = am_b _ from (am_b_t (am_b_1 h103)).symm]; exact kk) | (rw [← h103]; exact kk) | (rw [show (1 : Int32) = am_b _ from (am_b_t (am_b_1 h118)).symm]; exact kk) | (rw [← h118]; exact kk) | (rw [m_ask, g6_n4 h22] at kk; exact kk)
  · refine w176_22_1 ?_
    refine w176_67 rfl ?_
    refine w176_68 (L.2 _ _ _ rfl) ?_
    refine w176_71 ?_
    refine w176_72 rfl ?_
    refine w176_73 ?_
    refine w176_74 rfl ?_
    refine w176_75 ?_
    refine w176_76 (by first | with_reducible assumption | exact L.sh rfl | exact hh.sh rfl | exact hp.2.2) (by first | with_reducible assumption | with_reducible exact am_in_nI (by omega) (by decide) | with_reducible exact am_inb (by omega) (by omega) | with_reducible exact am_inb' (by omega) (by omega) | with_reducible exact am_in35 (by omega) | with_reducible exact am_inw (by omega) (by omega) | with_reducible decide) ?_
    try simp (disch := omega) only [am_clb, am_clb', am_cl35, am_clw, am_clN, tl_0, tl_1, tl_2, tl_3, tl_4, tl_5, tl_6, tl_7, tl_8, tl_9, tl_10, tl_11, tl_12, tl_13, tl_14, tl_15, tl_16, tl_35, tl_42, tl_43, tl_44, tl_51, tl_58, tl_70, tl_71, tl_72, tl_73, tl_74, tl_75, tl_76, tl_77, tl_78, tl_79, tl_80, tl_81, tl_82, tl_83, vb_0, vb_1]
    refine w176_77 ?_
    first | exact kk | (rw [show (1 : Int32) = I2 140 (m * 5 + b) from (b01.resolve_left h88).symm]; exact kk) | (rw [show (0 : Int32) = I2 140 (m * 5 + b) from h88.symm]; exact kk) | (rw [show (1 : Int32) = am_b _ from (am_b_t (am_b_1 h103)).symm]; exact kk) | (rw [← h103]; exact kk) | (rw [show (1 : Int32) = am_b _ from (am_b_t (am_b_1 h118)).symm]; exact kk) | (rw [← h118]; exact kk) | (rw [m_ask, g6_n4 h22] at kk; exact kk)
  · refine w176_22_2 ?_
    refine w176_78 rfl ?_
    refine w176_79 (L.2 _ _ _ rfl) ?_
    refine w176_82 ?_
    refine w176_83 rfl ?_
    refine w176_84 ?_
    refine w176_85 rfl ?_
    refine w176_86 ?_
    first | (refine w176_87Z (by first | with_reducible assumption | exact L.sh rfl | exact hh.sh rfl | exact hp.2.2) (by first | with_reducible assumption | with_reducible exact am_in_nI (by omega) (by decide) | with_reducible exact am_inb (by omega) (by omega) | with_reducible exact am_inb' (by omega) (by omega) | with_reducible exact am_in35 (by omega) | with_reducible exact am_inw (by omega) (by omega) | with_reducible decide) ?_) | (refine w176_87 (by first | with_reducible assumption | exact L.sh rfl | exact hh.sh rfl | exact hp.2.2) (by first | with_reducible assumption | with_reducible exact am_in_nI (by omega) (by decide) | with_reducible exact am_inb (by omega) (by omega) | with_reducible exact am_inb' (by omega) (by omega) | with_reducible exact am_in35 (by omega) | with_reducible exact am_inw (by omega) (by omega) | with_reducible decide) ?_)
    try simp (disch := omega) only [am_clb, am_clb', am_cl35, am_clw, am_clN, tl_0, tl_1, tl_2, tl_3, tl_4, tl_5, tl_6, tl_7, tl_8, tl_9, tl_10, tl_11, tl_12, tl_13, tl_14, tl_15, tl_16, tl_35, tl_42, tl_43, tl_44, tl_51, tl_58, tl_70, tl_71, tl_72, tl_73, tl_74, tl_75, tl_76, tl_77, tl_78, tl_79, tl_80, tl_81, tl_82, tl_83, vb_0, vb_1]
    refine w176_88 (fun h88 => ?_) (fun h88 => ?_)
    · refine w176_95 ?_
      refine w176_96 ?_
      first | exact kk | (rw [show (1 : Int32) = I2 140 (m * 5 + b) from (b01.resolve_left h88).symm]; exact kk) | (rw [show (0 : Int32) = I2 140 (m * 5 + b) from h88.symm]; exact kk) | (rw [show (1 : Int32) = am_b _ from (am_b_t (am_b_1 h103)).symm]; exact kk) | (rw [← h103]; exact kk) | (rw [show (1 : Int32) = am_b _ from (am_b_t (am_b_1 h118)).symm]; exact kk) | (rw [← h118]; exact kk) | (rw [m_ask, g6_n4 h22] at kk; exact kk)
    · refine w176_91 ?_
      refine w176_92 ?_
      refine w176_96 ?_
      first | exact kk | (rw [show (1 : Int32) = I2 140 (m * 5 + b) from (b01.resolve_left h88).symm]; exact kk) | (rw [show (0 : Int32) = I2 140 (m * 5 + b) from h88.symm]; exact kk) | (rw [show (1 : Int32) = am_b _ from (am_b_t (am_b_1 h103)).symm]; exact kk) | (rw [← h103]; exact kk) | (rw [show (1 : Int32) = am_b _ from (am_b_t (am_b_1 h118)).symm]; exact kk) | (rw [← h118]; exact kk) | (rw [m_ask, g6_n4 h22] at kk; exact kk)
  · refine w176_22_3 ?_
    refine w176_97 rfl ?_
    refine w176_98 rfl ?_
    refine w176_99 rfl ?_
    refine w176_100 (k := c197 L hm7 hb ?_)
    refine w176_103 (fun h103 => ?_) (fun h103 => ?_)
    · refine w176_110 ?_
      refine w176_111 ?_
      first | exact kk | (rw [show (1 : Int32) = I2 140 (m * 5 + b) from (b01.resolve_left h88).symm]; exact kk) | (rw [show (0 : Int32) = I2 140 (m * 5 + b) from h88.symm]; exact kk) | (rw [show (1 : Int32) = am_b _ from (am_b_t (am_b_1 h103)).symm]; exact kk) | (rw [← h103]; exact kk) | (rw [show (1 : Int32) = am_b _ from (am_b_t (am_b_1 h118)).symm]; exact kk) | (rw [← h118]; exact kk) | (rw [m_ask, g6_n4 h22] at kk; exact kk)
    · refine w176_106 ?_
      refine w176_107 ?_
      refine w176_111 ?_
      first | exact kk | (rw [show (1 : Int32) = I2 140 (m * 5 + b) from (b01.resolve_left h88).symm]; exact kk) | (rw [show (0 : Int32) = I2 140 (m * 5 + b) from h88.symm]; exact kk) | (rw [show (1 : Int32) = am_b _ from (am_b_t (am_b_1 h103)).symm]; exact kk) | (rw [← h103]; exact kk) | (rw [show (1 : Int32) = am_b _ from (am_b_t (am_b_1 h118)).symm]; exact kk) | (rw [← h118]; exact kk) | (rw [m_ask, g6_n4 h22] at kk; exact kk)
  · refine w176_22_4 ?_
    refine w176_112 rfl ?_
    refine w176_113 rfl ?_
    refine w176_114 rfl ?_
    refine w176_115 (k := c198 L hm7 hb ?_)
    refine w176_118 (fun h118 => ?_) (fun h118 => ?_)
    · refine w176_125 ?_
      refine w176_126 ?_
      first | exact kk | (rw [show (1 : Int32) = I2 140 (m * 5 + b) from (b01.resolve_left h88).symm]; exact kk) | (rw [show (0 : Int32) = I2 140 (m * 5 + b) from h88.symm]; exact kk) | (rw [show (1 : Int32) = am_b _ from (am_b_t (am_b_1 h103)).symm]; exact kk) | (rw [← h103]; exact kk) | (rw [show (1 : Int32) = am_b _ from (am_b_t (am_b_1 h118)).symm]; exact kk) | (rw [← h118]; exact kk) | (rw [m_ask, g6_n4 h22] at kk; exact kk)
    · refine w176_121 ?_
      refine w176_122 ?_
      refine w176_126 ?_
      first | exact kk | (rw [show (1 : Int32) = I2 140 (m * 5 + b) from (b01.resolve_left h88).symm]; exact kk) | (rw [show (0 : Int32) = I2 140 (m * 5 + b) from h88.symm]; exact kk) | (rw [show (1 : Int32) = am_b _ from (am_b_t (am_b_1 h103)).symm]; exact kk) | (rw [← h103]; exact kk) | (rw [show (1 : Int32) = am_b _ from (am_b_t (am_b_1 h118)).symm]; exact kk) | (rw [← h118]; exact kk) | (rw [m_ask, g6_n4 h22] at kk; exact kk)
  · refine w176_22_d h22 ?_
    refine w176_127 ?_
    refine w176_128 ?_
    first | exact kk | (rw [show (1 : Int32) = I2 140 (m * 5 + b) from (b01.resolve_left h88).symm]; exact kk) | (rw [show (0 : Int32) = I2 140 (m * 5 + b) from h88.symm]; exact kk) | (rw [show (1 : Int32) = am_b _ from (am_b_t (am_b_1 h103)).symm]; exact kk) | (rw [← h103]; exact kk) | (rw [show (1 : Int32) = am_b _ from (am_b_t (am_b_1 h118)).symm]; exact kk) | (rw [← h118]; exact kk) | (rw [m_ask, g6_n4 h22] at kk; exact kk)
theorem c176n (L : am_Lay S P) {x y z : Int32} (hn : I 126 73 = nI n) (n7 : n ≤ 7) (h : ¬ (0 ≤ x ∧ x < nI n) ∨ ¬ (0 ≤ y ∧ y < 5)) (k : Q (some (.int (-1))) (S, I, J, P)) : am_ev pr (d + 5) 176 [.ref 124, .int x, .int y, .int z] (S, I, J, P) Q := by
  show am_wp pr (d + 5) 176 0 [(0, .ref 124), (1, .int x), (2, .int y), (3, .int z)] [] _ _
  by_cases hX : 0 ≤ x ∧ x < nI n
  · have h2 : ¬ (0 ≤ y ∧ y ≤ 4) := fun q => h.elim (fun w => w hX) (fun w => w ⟨q.1, by have := q.2; simp only [Int32.lt_iff_toInt_lt, Int32.le_iff_toInt_le, ← Int32.toInt_inj, am_z0, am_z1, am_z2, am_z3, am_z4, am_z5, am_z6, am_z7, am_z8, am_z9, am_z10, am_z12, am_z16, am_z20, am_z99, am_z999, am_zm1, am_zo4, am_zo5, am_zo7] at *; omega⟩)
    refine w176_0 rfl ?_
    refine w176_1 rfl ?_
    refine w176_2 (k := c174 L hn n7 ?_)
    rw [am_b_t hX]
    refine w176_5 (fun hQ => absurd hQ am_n01) (fun _ => ?_)
    refine w176_8 rfl ?_
    refine w176_9 (k := c177 ?_)
    rw [am_b_f h2]
    refine w176_12 (fun hQ => absurd hQ (by decide)) (fun _ => ?_)
    refine w176_15 ?_
    refine w176_16 ?_
    exact k
  · refine w176_0 rfl ?_
    refine w176_1 rfl ?_
    refine w176_2 (k := c174 L hn n7 ?_)
    rw [am_b_f hX]
    refine w176_5 (fun _ => ?_) (fun hQ => absurd rfl hQ)
    refine w176_15 ?_
    refine w176_16 ?_
    exact k
theorem op_2 (r : am_R S I P n l s u tp) {x y z : Int32} : am_op pr (d + 60) S I J P 19 [.ref 64, .int x, .int y, .int z] 176 [.ref 124, .int x, .int y, .int z] := by
  have hr := r.hr
  have n7 := hr.n7
  obtain ⟨lw, hx⟩ := r.lw
  rcases am_pk7 x n7 with ⟨m, hm, rfl⟩ | h
  · rcases am_pk5 y with ⟨b, hb, rfl⟩ | h
    · exact op_rd r hx (fun I2 => m_ask I2 (I 126) m b z) (fun Q k => c19 r.L hr hx hm hb k) (fun I1 J1 e Q k => c176 r.L e hr.kn n7 (hx.m hr.l6) hm hb k)
    · exact op_c r (-1) (fun Q k => c19n r.L hr (Or.inr h) k) (fun Q k => c176n r.L hr.kn n7 (Or.inr h) k)
  · exact op_c r (-1) (fun Q k => c19n r.L hr (Or.inl h) k) (fun Q k => c176n r.L hr.kn n7 (Or.inl h) k)
/-- bill -/
theorem c29 (L : am_Lay S P) {b : Nat} {z : Int32} (hr : am_HR I 65 kp n l s) (hx : am_lw S I P (P 70) kp l (kp 76) lw) (hb : b < 5) (k : ∀ I' J' v, am_ps I I' → (∀ I2, m_ld I2 kp n (lw.map Prod.snd) (n * 5) → v = m_bl I2 kp n b z) → Q (some (.int v)) (S, I', J', P)) : am_ev pr (d + 6) 29 [.ref 64, .int (nI b), .int z] (S, I, J, P) Q := by
  have hh := L.h65
  have n7 := hr.n7
  show am_wp pr (d + 6) 29 0 [(0, .ref 64), (1, .int (nI b)), (2, .int z)] [] _ _
  refine w29_0 rfl ?_
  refine w29_1 (k := c18b hb ?_)
  refine w29_4 (fun _ => ?_) (fun hQ => absurd am_n01 hQ)
  refine w29_9 rfl ?_
  refine w29_10 rfl ?_
  refine w29_11 (k := c20 L hr hx hb (fun I1 J1 f1 f2 f3 f4 => ?_))
  have kk := k I1 J1
  have est : I1 65 2 = kp 42 := by rw [f1 65 (Or.inl (by decide))]; exact hr.st
  have end_ : I1 109 2 = kp 72 := by rw [f2.2.2]; exact hr.tn
  have hr1 : am_HR I1 65 kp n l s := am_HR_cg 65 (fun a h1 h2 => f1 a (Or.inl (by omega))) rfl hr
  have hx1 : am_lw S I1 P (P 70) kp l (kp 76) lw := am_lw_cg hr.l6 (fun a h => f1 a (Or.inr (by omega))) (fun _ _ => rfl) hx
  have fin : ∀ v, (∀ I2, m_ld I2 kp n (lw.map Prod.snd) (n * 5) → v = m_bl I2 kp n b z) → Q (some (.int v)) (S, I1, J1, P) := fun v q => kk v f1.ps q
  have end2 : t_nd (I1 109 2) (t_vo (I1 110) (I1 113 b) b) = t_nd (kp 72) (t_vo (I1 110) (I1 113 b) b) := by rw [end_]
  refine w29_14 rfl ?_
  rcases am_sw0_5 z with rfl | rfl | rfl | rfl | rfl | rfl | h15
  · refine w29_15_0 ?_
    refine w29_52 rfl ?_
    refine w29_53 (L.2 _ _ _ rfl) ?_
    refine w29_56 ?_
    rw [est]
    refine w29_59 rfl ?_
    refine w29_60 (k := c17b ?_)
    refine w29_63 ?_
    exact fin _ (fun I2 g => am_bit_b Iff.rfl)
  · refine w29_15_1 ?_
    refine w29_64 rfl ?_
    refine w29_65 (L.2 _ _ _ rfl) ?_
    refine w29_68 rfl ?_
    refine w29_69 (k := c30 L hb ?_)
    refine w29_72 ?_
    exact fin _ (fun I2 g => b_for f3 g n7 hb)
  · refine w29_15_2 ?_
    refine w29_73 rfl ?_
    refine w29_74 (L.2 _ _ _ rfl) ?_
    refine w29_77 rfl ?_
    refine w29_78 rfl ?_
    refine w29_79 (L.2 _ _ _ rfl) ?_
    refine w29_82 (L.2 _ _ _ rfl) ?_
    refine w29_85 rfl ?_
    refine w29_86 (L.sh rfl) (am_inB hb) ?_
    rw [am_clB hb]
    refine w29_87 (k := c31 L hb ?_)
    refine w29_90 ?_
    exact fin _ (fun I2 g => b_on f3 g n7 hb)
  · refine w29_15_3 ?_
    refine w29_91 rfl ?_
    refine w29_92 (L.2 _ _ _ rfl) ?_
    refine w29_95 rfl ?_
    refine w29_96 rfl ?_
    refine w29_97 (L.2 _ _ _ rfl) ?_
    refine w29_100 (L.2 _ _ _ rfl) ?_
    refine w29_103 rfl ?_
    refine w29_104 (L.sh rfl) (am_inB hb) ?_
    rw [am_clB hb]
    refine w29_105 (k := c32 L hb ?_)
    refine w29_108 ?_
    rw [end2]
    exact fin _ (fun I2 g => congrArg (t_nd (kp 72)) (b_on f3 g n7 hb))
  · refine w29_15_4 ?_
    refine w29_109 rfl ?_
    refine w29_110 (L.2 _ _ _ rfl) ?_
    refine w29_113 rfl ?_
    refine w29_114 (k := c33 L hb ?_)
    rw [end2]
    refine w29_117 (fun h117 => ?_) (fun h117 => ?_)
    · refine w29_124 ?_
      refine w29_125 ?_
      refine fin _ (fun I2 g => ?_)
      have e1 := congrArg (t_nd (kp 72)) (b_on f3 g n7 hb)
      have e2 := b_for f3 g n7 hb
      first | (have q := am_b_1 h117; rw [e1, e2] at q; exact (am_b_t q).symm) | (have q := (am_b_0 _).mp h117; rw [e1, e2] at q; exact (am_b_f q).symm)
    · refine w29_120 ?_
      refine w29_121 ?_
      refine w29_125 ?_
      refine fin _ (fun I2 g => ?_)
      have e1 := congrArg (t_nd (kp 72)) (b_on f3 g n7 hb)
      have e2 := b_for f3 g n7 hb
      first | (have q := am_b_1 h117; rw [e1, e2] at q; exact (am_b_t q).symm) | (have q := (am_b_0 _).mp h117; rw [e1, e2] at q; exact (am_b_f q).symm)
  · refine w29_15_5 ?_
    refine w29_126 rfl ?_
    refine w29_127 (k := c34 L hr1 hx1 (fun I3 J3 g1 g2 g3 => ?_))
    refine w29_130 rfl ?_
    refine w29_131 (L.2 _ _ _ rfl) ?_
    refine w29_134 rfl ?_
    refine w29_135 ?_
    refine w29_136 (k := c36 L hb ?_)
    refine w29_139 ?_
    exact k I3 J3 _ (f1.ps.tr g1.ps) (fun I2 g => b_pt g3 g n7 hb)
  · refine w29_15_d h15 ?_
    refine w29_140 ?_
    refine w29_141 ?_
    exact fin _ (fun I2 g => (g6_n h15).symm)
theorem c199 (L : am_Lay S P) {b : Nat} {z : Int32} (hk : I 126 = kp) (hn : kp 73 = nI n) (n7 : n ≤ 7) (hlw : m_lw kp lv0) (hb : b < 5) (k : ∀ I2, am_ps I I2 → m_ld I2 kp n lv0 (n * 5) → Q (some (.int (m_bl I2 kp n b z))) (S, I2, J, P)) : am_ev pr (d + 45) 199 [.ref 124, .int (nI b), .int z] (S, I, J, P) Q := by
  show am_wp pr (d + 45) 199 0 [(0, .ref 124), (1, .int (nI b)), (2, .int z)] [] _ _
  refine w199_0 rfl ?_
  refine w199_1 (k := c177b hb ?_)
  refine w199_4 (fun _ => ?_) (fun hQ => absurd am_n01 hQ)
  refine w199_9 rfl ?_
  refine w199_10 (k := c178 L hk hn n7 hlw (fun I2 f2 g => ?_))
  have e126 : I2 126 = kp := by rw [f2.1 126 (by decide) (by decide) (by decide) (by decide) (by decide)]; exact hk
  have kk := k I2 f2.ps g
  rw [← e126] at kk
  have hn2 : I2 126 73 = nI n := by rw [e126]; exact hn
  refine w199_13 rfl ?_
  rcases am_sw0_5 z with rfl | rfl | rfl | rfl | rfl | rfl | h14
  · refine w199_14_0 ?_
    refine w199_52 rfl ?_
    refine w199_53 rfl ?_
    refine w199_54 (k := c181 L ?_)
    refine w199_57 (fun h57 => ?_) (fun h57 => ?_)
    · refine w199_64 ?_
      refine w199_65 ?_
      first | exact kk | (rw [show (1 : Int32) = am_b _ from (am_b_t (am_b_1 h57)).symm]; exact kk) | (rw [← h57]; exact kk) | (rw [show (1 : Int32) = am_b _ from (am_b_t (am_b_1 h105)).symm]; exact kk) | (rw [← h105]; exact kk) | (rw [m_bl, g6_n h14] at kk; exact kk)
    · refine w199_60 ?_
      refine w199_61 ?_
      refine w199_65 ?_
      first | exact kk | (rw [show (1 : Int32) = am_b _ from (am_b_t (am_b_1 h57)).symm]; exact kk) | (rw [← h57]; exact kk) | (rw [show (1 : Int32) = am_b _ from (am_b_t (am_b_1 h105)).symm]; exact kk) | (rw [← h105]; exact kk) | (rw [m_bl, g6_n h14] at kk; exact kk)
  · refine w199_14_1 ?_
    refine w199_66 rfl ?_
    refine w199_67 rfl ?_
    refine w199_68 rfl ?_
    refine w199_69 (k := c200 L ?_)
    rw [hn2]
    refine w199_72 (k := c201 L hn2 n7 hb ?_)
    refine w199_75 ?_
    first | exact kk | (rw [show (1 : Int32) = am_b _ from (am_b_t (am_b_1 h57)).symm]; exact kk) | (rw [← h57]; exact kk) | (rw [show (1 : Int32) = am_b _ from (am_b_t (am_b_1 h105)).symm]; exact kk) | (rw [← h105]; exact kk) | (rw [m_bl, g6_n h14] at kk; exact kk)
  · refine w199_14_2 ?_
    refine w199_76 rfl ?_
    refine w199_77 rfl ?_
    refine w199_78 rfl ?_
    refine w199_79 (k := c200 L ?_)
    rw [hn2]
    refine w199_82 (k := c203 L hn2 n7 hb ?_)
    refine w199_85 ?_
    first | exact kk | (rw [show (1 : Int32) = am_b _ from (am_b_t (am_b_1 h57)).symm]; exact kk) | (rw [← h57]; exact kk) | (rw [show (1 : Int32) = am_b _ from (am_b_t (am_b_1 h105)).symm]; exact kk) | (rw [← h105]; exact kk) | (rw [m_bl, g6_n h14] at kk; exact kk)
  · refine w199_14_3 ?_
    refine w199_86 rfl ?_
    refine w199_87 rfl ?_
    refine w199_88 rfl ?_
    refine w199_89 (k := c200 L ?_)
    rw [hn2]
    refine w199_92 (k := c205 L hn2 n7 hb ?_)
    refine w199_95 ?_
    first | exact kk | (rw [show (1 : Int32) = am_b _ from (am_b_t (am_b_1 h57)).symm]; exact kk) | (rw [← h57]; exact kk) | (rw [show (1 : Int32) = am_b _ from (am_b_t (am_b_1 h105)).symm]; exact kk) | (rw [← h105]; exact kk) | (rw [m_bl, g6_n h14] at kk; exact kk)
  · refine w199_14_4 ?_
    refine w199_96 rfl ?_
    refine w199_97 rfl ?_
    refine w199_98 rfl ?_
    refine w199_99 (k := c200 L ?_)
    rw [hn2]
    refine w199_102 (k := c206 L hn2 n7 hb ?_)
    refine w199_105 (fun h105 => ?_) (fun h105 => ?_)
    · refine w199_112 ?_
      refine w199_113 ?_
      first | exact kk | (rw [show (1 : Int32) = am_b _ from (am_b_t (am_b_1 h57)).symm]; exact kk) | (rw [← h57]; exact kk) | (rw [show (1 : Int32) = am_b _ from (am_b_t (am_b_1 h105)).symm]; exact kk) | (rw [← h105]; exact kk) | (rw [m_bl, g6_n h14] at kk; exact kk)
    · refine w199_108 ?_
      refine w199_109 ?_
      refine w199_113 ?_
      first | exact kk | (rw [show (1 : Int32) = am_b _ from (am_b_t (am_b_1 h57)).symm]; exact kk) | (rw [← h57]; exact kk) | (rw [show (1 : Int32) = am_b _ from (am_b_t (am_b_1 h105)).symm]; exact kk) | (rw [← h105]; exact kk) | (rw [m_bl, g6_n h14] at kk; exact kk)
  · refine w199_14_5 ?_
    refine w199_114 rfl ?_
    refine w199_115 rfl ?_
    refine w199_116 (k := c207 L hn2 n7 hb ?_)
    refine w199_119 ?_
    first | exact kk | (rw [show (1 : Int32) = am_b _ from (am_b_t (am_b_1 h57)).symm]; exact kk) | (rw [← h57]; exact kk) | (rw [show (1 : Int32) = am_b _ from (am_b_t (am_b_1 h105)).symm]; exact kk) | (rw [← h105]; exact kk) | (rw [m_bl, g6_n h14] at kk; exact kk)
  · refine w199_14_d h14 ?_
    refine w199_120 ?_
    refine w199_121 ?_
    first | exact kk | (rw [show (1 : Int32) = am_b _ from (am_b_t (am_b_1 h57)).symm]; exact kk) | (rw [← h57]; exact kk) | (rw [show (1 : Int32) = am_b _ from (am_b_t (am_b_1 h105)).symm]; exact kk) | (rw [← h105]; exact kk) | (rw [m_bl, g6_n h14] at kk; exact kk)
theorem op_3 (r : am_R S I P n l s u tp) {y z : Int32} : am_op pr (d + 60) S I J P 29 [.ref 64, .int y, .int z] 199 [.ref 124, .int y, .int z] := by
  have hr := r.hr
  have n7 := hr.n7
  have L := r.L
  obtain ⟨lw, hx⟩ := r.lw
  rcases am_pk5 y with ⟨b, hb, rfl⟩ | h
  · exact op_rd r hx (fun I2 => m_bl I2 (I 126) n b z) (fun Q k => c29 r.L hr hx hb k) (fun I1 J1 e Q k => c199 r.L e hr.kn n7 (hx.m hr.l6) hb k)
  · refine op_c r (-1) (fun Q k => ?_) (fun Q k => ?_)
    · show am_wp pr (d + 60) 29 0 [(0, .ref 64), (1, .int y), (2, .int z)] [] _ _
      refine w29_0 rfl ?_
      refine w29_1 (k := c18 ?_)
      rw [am_b_f h]
      refine w29_4 (fun hQ => absurd hQ (by decide)) (fun _ => ?_)
      refine w29_7 ?_
      refine w29_8 ?_
      exact k
    · have h2 : ¬ (0 ≤ y ∧ y ≤ 4) := fun q => h ⟨q.1, by have := q.2; simp only [Int32.lt_iff_toInt_lt, Int32.le_iff_toInt_le, ← Int32.toInt_inj, am_z0, am_z1, am_z2, am_z3, am_z4, am_z5, am_z6, am_z7, am_z8, am_z9, am_z10, am_z12, am_z16, am_z20, am_z99, am_z999, am_zm1, am_zo4, am_zo5, am_zo7] at *; omega⟩
      show am_wp pr (d + 60) 199 0 [(0, .ref 124), (1, .int y), (2, .int z)] [] _ _
      refine w199_0 rfl ?_
      refine w199_1 (k := c177 ?_)
      rw [am_b_f h2]
      refine w199_4 (fun hQ => absurd hQ (by decide)) (fun _ => ?_)
      refine w199_7 ?_
      refine w199_8 ?_
      exact k
/-- votes -/
theorem op_19 (r : am_R S I P n l s u tp) {y z : Int32} : am_op pr (d + 60) S I J P 117 [.ref 64, .int y, .int z] 259 [.ref 124, .int y, .int z] := by
  have hr := r.hr
  have n7 := hr.n7
  have L := r.L
  obtain ⟨lw, hx⟩ := r.lw
  by_cases hyz : 0 ≤ y ∧ y < 5 ∧ 0 ≤ z ∧ z < 5 ∧ ¬ y = z
  · obtain ⟨a, ha, rfl⟩ := (am_pk5 y).resolve_right (fun q => q ⟨hyz.1, hyz.2.1⟩)
    obtain ⟨b, hb, rfl⟩ := (am_pk5 z).resolve_right (fun q => q ⟨hyz.2.2.1, hyz.2.2.2.1⟩)
    have hab : b ≠ a := fun q => hyz.2.2.2.2 (by rw [q])
    refine op_rd r hx (fun I2 => m_va (I 126) (I2 140) (I2 138) (I2 139) n a b) (fun Q k => ?_) (fun I1 J1 e Q k => ?_)
    · show am_wp pr (d + 60) 117 0 [(0, .ref 64), (1, .int (nI a)), (2, .int (nI b))] [] _ _
      refine w117_0 rfl ?_
      refine w117_1 rfl ?_
      refine w117_2 (k := c118 ?_)
      rw [am_b_t hyz]
      refine w117_5 (fun _ => ?_) (fun hQ => absurd am_n01 hQ)
      refine w117_10 rfl ?_
      refine w117_11 rfl ?_
      refine w117_12 (k := c20 L hr hx ha (fun I1 J1 f1 f2 f3 f4 => ?_))
      have hr1 : am_HR I1 65 (I 126) n l s := am_HR_cg 65 (fun a h1 h2 => f1 a (Or.inl (by omega))) rfl hr
      have hx1 : am_lw S I1 P (P 70) (I 126) l (I 126 76) lw := am_lw_cg hr.l6 (fun a h => f1 a (Or.inr (by omega))) (fun _ _ => rfl) hx
      refine w117_15 rfl ?_
      refine w117_16 rfl ?_
      refine w117_17 (k := c20 L hr1 hx1 hb (fun I2 J2 g1 g2 g3 g4 => ?_))
      refine w117_20 rfl ?_
      refine w117_21 (L.2 _ _ _ rfl) ?_
      refine w117_24 rfl ?_
      refine w117_25 rfl ?_
      have e0 : I2 109 1 = I 65 1 := by rw [g2.2.1, f1 65 (Or.inl (by decide))]
      refine w117_26 (k := c119 L g2.1 n7 ha hb ?_)
      refine w117_29 ?_
      refine k I2 J2 _ (f1.ps.tr g1.ps) (fun I3 g => ?_)
      rw [e0]
      exact b_va (g4 a ha (Ne.symm hab) f3) g3 g n7 ha hb hr.he
    · show am_wp pr (d + 60) 259 0 [(0, .ref 124), (1, .int (nI a)), (2, .int (nI b))] [] _ _
      refine w259_0 rfl ?_
      refine w259_1 (k := c177b ha ?_)
      refine w259_4 (fun hQ => absurd hQ am_n01) (fun _ => ?_)
      refine w259_7 rfl ?_
      refine w259_8 (k := c177b hb ?_)
      refine w259_11 (fun hQ => absurd hQ am_n01) (fun _ => ?_)
      refine w259_14 rfl ?_
      refine w259_15 rfl ?_
      refine w259_16 (fun _ => ?_) (fun hQ => absurd hyz.2.2.2.2 hQ)
      refine w259_21 rfl ?_
      refine w259_22 (k := c178 L e hr.kn n7 (hx.m hr.l6) (fun I2 f2 g => ?_))
      have e126 : I2 126 = I 126 := by rw [f2.1 126 (by decide) (by decide) (by decide) (by decide) (by decide)]; exact e
      have hn2 : I2 126 73 = nI n := by rw [e126]; exact hr.kn
      refine w259_25 rfl ?_
      refine w259_26 rfl ?_
      refine w259_27 rfl ?_
      refine w259_28 (k := c260 L hn2 n7 ha hb ?_)
      rw [e126]
      refine w259_31 ?_
      exact k I2 f2.ps g
  · refine op_c r (-1) (fun Q k => ?_) (fun Q k => ?_)
    · show am_wp pr (d + 60) 117 0 [(0, .ref 64), (1, .int y), (2, .int z)] [] _ _
      refine w117_0 rfl ?_
      refine w117_1 rfl ?_
      refine w117_2 (k := c118 ?_)
      rw [am_b_f hyz]
      refine w117_5 (fun hQ => absurd hQ (by decide)) (fun _ => ?_)
      refine w117_8 ?_
      refine w117_9 ?_
      exact k
    · show am_wp pr (d + 60) 259 0 [(0, .ref 124), (1, .int y), (2, .int z)] [] _ _
      refine w259_0 rfl ?_
      refine w259_1 (k := c177 ?_)
      refine w259_4 (fun h4 => ?_) (fun h4 => ?_)
      · refine w259_19 ?_
        refine w259_20 ?_
        exact k
      · refine w259_7 rfl ?_
        refine w259_8 (k := c177 ?_)
        refine w259_11 (fun h11 => ?_) (fun h11 => ?_)
        · refine w259_19 ?_
          refine w259_20 ?_
          exact k
        · refine w259_14 rfl ?_
          refine w259_15 rfl ?_
          refine w259_16 (fun h16 => ?_) (fun h16 => ?_)
          · have q1 := am_b_1 h4
            have q2 := am_b_1 h11
            exact absurd ⟨q1.1, by have := q1.2; simp only [Int32.lt_iff_toInt_lt, Int32.le_iff_toInt_le, ← Int32.toInt_inj, am_z0, am_z1, am_z2, am_z3, am_z4, am_z5, am_z6, am_z7, am_z8, am_z9, am_z10, am_z12, am_z16, am_z20, am_z99, am_z999, am_zm1, am_zo4, am_zo5, am_zo7] at *; omega, q2.1, by have := q2.2; simp only [Int32.lt_iff_toInt_lt, Int32.le_iff_toInt_le, ← Int32.toInt_inj, am_z0, am_z1, am_z2, am_z3, am_z4, am_z5, am_z6, am_z7, am_z8, am_z9, am_z10, am_z12, am_z16, am_z20, am_z99, am_z999, am_zm1, am_zo4, am_zo5, am_zo7] at *; omega, h16⟩ hyz
          · replace h16 := Decidable.not_not.mp h16
            refine w259_19 ?_
            refine w259_20 ?_
            exact k
end
