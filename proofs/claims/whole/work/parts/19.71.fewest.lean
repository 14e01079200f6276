/-! both sides' calls: the fewest that are enough, that must be sent out -/
def fw_b (s : Nat) : Option Nat → Bool
  | none => true
  | some t => decide (pc s < pc t)
def s_fw (A : Nat → Prop) [DecidablePred A] (N : Nat) : Option Nat := am_it (fun s best => if A s ∧ fw_b s best = true then some s else best) N none
theorem s_fw_s (A : Nat → Prop) [DecidablePred A] (N : Nat) : s_fw A (N + 1) = if A N ∧ fw_b N (s_fw A N) = true then some N else s_fw A N := rfl
theorem s_fw_c {A B : Nat → Prop} [DecidablePred A] [DecidablePred B] {N : Nat} (h : ∀ s, s < N → (A s ↔ B s)) : s_fw A N = s_fw B N := by
  unfold s_fw
  refine am_it_congr (fun s x hs => ?_) _
  by_cases z : A s ∧ fw_b s x = true
  · rw [if_pos z, if_pos ⟨(h s hs).mp z.1, z.2⟩]
  · rw [if_neg z, if_neg (fun y => z ⟨(h s hs).mpr y.1, y.2⟩)]
theorem s_fw_cut {A : Nat → Prop} [DecidablePred A] {N : Nat} : ∀ j, (∀ s, N ≤ s → s < N + j → ¬ A s) → s_fw A (N + j) = s_fw A N
  | 0, _ => rfl
  | j + 1, h => by
    rw [show N + (j + 1) = N + j + 1 by omega, s_fw_s, if_neg (fun y => h (N + j) (by omega) (by omega) y.1)]
    exact s_fw_cut j (fun s h1 h2 => h s h1 (by omega))
theorem s_fw_lt (A : Nat → Prop) [DecidablePred A] : ∀ N t, s_fw A N = some t → t < N
  | 0, t, h => by cases h
  | N + 1, t, h => by
    rw [s_fw_s] at h
    split at h
    · cases h; omega
    · have := s_fw_lt A N t h; omega
def fw_v (w : Nat) : Option Nat → Int32
  | none => -1
  | some t => if w = 1 then nI t else nI (pc t)
/-- whether a set is an answer -/
abbrev m_an (I : Nat → Nat → Int32) (kp : Nat → Int32) (n b o : Nat) (ord : Bool) (s : Nat) : Prop := nI s &&& (nI o ^^^ -1) = 0 ∧ (ord = false ∧ t_nd (kp 72) (m_vN I kp n b) ≤ m_vo (I 138) n b (nI s) ∨ ord = true ∧ t_nd (kp 72) (m_vo (I 138) n b (m_of kp (I 140) n b (m_all n &&& (nI s ^^^ -1)))) ≤ m_vo (I 138) n b (m_fa kp (I 140) (I 139) n b (m_all n &&& (nI s ^^^ -1))))
abbrev t_an (I : Nat → Nat → Int32) (b o : Nat) (ord : Bool) (s : Nat) : Prop := nI s &&& (nI o ^^^ -1) = 0 ∧ (ord = false ∧ t_nd (I 109 2) (t_vo (I 110) (nI o) b) ≤ t_vo (I 110) (nI s) b ∨ ord = true ∧ t_nd (I 109 2) (t_vo (I 110) (nI o &&& (nI s ^^^ -1)) b) ≤ t_vo (I 110) (t_fa (I 111) (nI o) b &&& (nI o &&& (nI s ^^^ -1))) b)
abbrev m_fwN (I : Nat → Nat → Int32) (kp : Nat → Int32) (n b w : Nat) (ord : Bool) : Int32 := fw_v w (s_fw (m_an I kp n b (m_of kp (I 140) n b (m_all n)).toNatClampNeg ord) ((m_of kp (I 140) n b (m_all n)).toNatClampNeg + 1))
section
variable {pr : am_Pr} {d : Nat} {S : List (Nat × Nat)} {I : Nat → Nat → Int32} {J : Nat → Nat → Int64} {P : Nat → Nat → Option Nat} {Q : Option Value → am_H → Prop} {n l s u tp : Nat} {kp : Nat → Int32} {lw : Option (Nat × List Cl)} {lv0 : Option (List Cl)}
theorem b_an {I I2 : Nat → Nat → Int32} {b o z : Nat} {ord : Bool} (h : t_B I kp n lv0 b) (e : I 109 2 = kp 72) (eo : I 113 b = nI o) (g : m_ld I2 kp n lv0 (n * 5)) (n7 : n ≤ 7) (hb : b < 5) : t_an I b o ord z ↔ m_an I2 kp n b o ord z := by
  have hon : ∀ j, j < 32 → (am_bit (nI o) j = 1 ↔ j < n ∧ kp (35 + j) = 1 ∧ ¬ a_ba kp n lv0 j b = 1) := fun j hj => by rw [← eo]; exact h.2.2 j hj
  have hvs : ∀ X Y : Int32, (∀ j, j < 7 → (am_bit X j = 1 ↔ j < n ∧ am_bit Y j = 1)) → t_vo (I 110) X b = m_vo (I2 138) n b Y := fun X Y hX => b_vo n7 (fun q hq => by rw [(h.1 q hq).1, g.sp hb hq]) hX
  have hset : ∀ j, j < 32 → (am_bit (m_all n &&& (nI z ^^^ -1)) j = 1 ↔ j < n ∧ ¬ am_bit (nI z) j = 1) := fun j hj => by
    rw [am_bit_and hj, show nI z ^^^ -1 = ~~~ nI z from Int32.xor_neg_one, am_bit_not hj]
    unfold m_all
    rw [am_bit_all n j n7 hj]
  have hlf : ∀ j, j < 32 → (am_bit (nI o &&& (nI z ^^^ -1)) j = 1 ↔ am_bit (nI o) j = 1 ∧ ¬ am_bit (nI z) j = 1) := fun j hj => by
    rw [am_bit_and hj, show nI z ^^^ -1 = ~~~ nI z from Int32.xor_neg_one, am_bit_not hj]
  have e1 : t_vo (I 110) (nI o) b = m_vN I2 kp n b := by rw [← eo]; exact b_on h g n7 hb
  have e3 : t_vo (I 110) (nI o &&& (nI z ^^^ -1)) b = m_vo (I2 138) n b (m_of kp (I2 140) n b (m_all n &&& (nI z ^^^ -1))) := hvs _ _ (fun j hj => by
    rw [hlf j (by omega), hon j (by omega), m_of_bit g n7 hb (by omega), hset j (by omega)]
    constructor
    · rintro ⟨⟨a1, a2⟩, a3⟩
      exact ⟨a1, a1, ⟨a1, a3⟩, a2⟩
    · rintro ⟨a1, -, ⟨-, a3⟩, a2⟩
      exact ⟨⟨a1, a2⟩, a3⟩)
  have e4 : t_vo (I 110) (t_fa (I 111) (nI o) b &&& (nI o &&& (nI z ^^^ -1))) b = m_vo (I2 138) n b (m_fa kp (I2 140) (I2 139) n b (m_all n &&& (nI z ^^^ -1))) := hvs _ _ (fun j hj => by
    rw [am_bit_and (by omega), hlf j (by omega), hon j (by omega), ← eo, t_fa_bit h n7 (by omega), m_fa_bit g n7 hb (by omega), hset j (by omega)]
    constructor
    · rintro ⟨⟨a1, a2, a3⟩, -, a4⟩
      exact ⟨a1, a1, ⟨a1, a4⟩, a2, a3⟩
    · rintro ⟨a1, -, ⟨-, a4⟩, a2, a3⟩
      exact ⟨⟨a1, a2, a3⟩, ⟨a1, a2⟩, a4⟩)
  refine and_congr_right (fun hsub => ?_)
  have e2 : t_vo (I 110) (nI z) b = m_vo (I2 138) n b (nI z) := hvs _ _ (fun j hj => ⟨fun q => ⟨((hon j (by omega)).mp (sb_bit.mp hsub j (by omega) q)).1, q⟩, fun q => q.2⟩)
  rw [e, e1, e2, e3, e4]
/-- isAnswer -/
theorem c137 (L : am_Lay S P) {b o z : Nat} {ord : Bool} (hb : b < 5) (eo : I 113 b = nI o) (hs : nI z &&& (nI o ^^^ -1) = 0) (k : Q (some (.int (am_b (t_an I b o ord z)))) (S, I, J, P)) : am_ev pr (d + 3) 137 [.ref 64, .int (nI b), .int (nI z), .int (am_b (ord = true))] (S, I, J, P) Q := by
  show am_wp pr (d + 3) 137 0 [(0, .ref 64), (1, .int (nI b)), (2, .int (nI z)), (3, .int (am_b (ord = true)))] [] _ _
  cases ord with
  | true =>
    have kt : t_nd (I 109 2) (t_vo (I 110) (nI o &&& (nI z ^^^ -1)) b) ≤ t_vo (I 110) (t_fa (I 111) (nI o) b &&& (nI o &&& (nI z ^^^ -1))) b → Q (some (.int 1)) (S, I, J, P) := fun q => am_kt k ⟨hs, Or.inr ⟨rfl, q⟩⟩
    have kf : ¬ t_nd (I 109 2) (t_vo (I 110) (nI o &&& (nI z ^^^ -1)) b) ≤ t_vo (I 110) (t_fa (I 111) (nI o) b &&& (nI o &&& (nI z ^^^ -1))) b → Q (some (.int 0)) (S, I, J, P) := fun q => am_kf k (fun y => y.2.elim (fun w => by cases w.1) (fun w => q w.2))
    refine w137_0 rfl ?_
    refine w137_1 (k := c18b hb ?_)
    refine w137_4 (fun _ => ?_) (fun hQ => absurd am_n01 hQ)
    refine w137_9 rfl ?_
    refine w137_10 (L.2 _ _ _ rfl) ?_
    refine w137_13 (L.2 _ _ _ rfl) ?_
    refine w137_16 rfl ?_
    refine w137_17 (L.sh rfl) (am_inB hb) ?_
    rw [am_clB hb, eo]
    refine w137_18 ?_
    refine w137_20 rfl ?_
    refine w137_21 (fun hQ => absurd hQ (by decide)) (fun _ => ?_)
    refine w137_24 rfl ?_
    refine w137_26 rfl ?_
    refine w137_27 ?_
    refine w137_28 ?_
    refine w137_29 ?_
    refine w137_30 ?_
    refine w137_32 rfl ?_
    refine w137_33 (L.2 _ _ _ rfl) ?_
    refine w137_36 rfl ?_
    refine w137_37 rfl ?_
    refine w137_38 (L.2 _ _ _ rfl) ?_
    refine w137_41 rfl ?_
    refine w137_42 (k := c28 L hb ?_)
    rw [eo]
    refine w137_45 rfl ?_
    refine w137_47 ?_
    refine w137_48 (k := c31 L hb ?_)
    refine w137_51 rfl ?_
    refine w137_52 (L.2 _ _ _ rfl) ?_
    refine w137_55 rfl ?_
    refine w137_56 rfl ?_
    refine w137_58 (k := c32 L hb ?_)
    refine w137_61 (fun h61 => ?_) (fun h61 => ?_)
    · refine w137_68 ?_
      refine w137_69 (by first | rfl | exact am_narrow_b _) ?_
      first | exact kt h61 | exact kf (Int32.not_le.mpr h61)
    · replace h61 := Int32.not_lt.mp h61
      refine w137_64 ?_
      refine w137_65 ?_
      refine w137_69 (by first | rfl | exact am_narrow_b _) ?_
      first | exact kt h61 | exact kf (Int32.not_le.mpr h61)
  | false =>
    have kt : t_nd (I 109 2) (t_vo (I 110) (nI o) b) ≤ t_vo (I 110) (nI z) b → Q (some (.int 1)) (S, I, J, P) := fun q => am_kt k ⟨hs, Or.inl ⟨rfl, q⟩⟩
    have kf : ¬ t_nd (I 109 2) (t_vo (I 110) (nI o) b) ≤ t_vo (I 110) (nI z) b → Q (some (.int 0)) (S, I, J, P) := fun q => am_kf k (fun y => y.2.elim (fun w => q w.2) (fun w => by cases w.1))
    refine w137_0 rfl ?_
    refine w137_1 (k := c18b hb ?_)
    refine w137_4 (fun _ => ?_) (fun hQ => absurd am_n01 hQ)
    refine w137_9 rfl ?_
    refine w137_10 (L.2 _ _ _ rfl) ?_
    refine w137_13 (L.2 _ _ _ rfl) ?_
    refine w137_16 rfl ?_
    refine w137_17 (L.sh rfl) (am_inB hb) ?_
    rw [am_clB hb, eo]
    refine w137_18 ?_
    refine w137_20 rfl ?_
    refine w137_21 (fun _ => ?_) (fun hQ => absurd rfl hQ)
    refine w137_70 rfl ?_
    refine w137_71 (L.2 _ _ _ rfl) ?_
    refine w137_74 rfl ?_
    refine w137_75 rfl ?_
    refine w137_76 (k := c31 L hb ?_)
    refine w137_79 rfl ?_
    refine w137_80 (L.2 _ _ _ rfl) ?_
    refine w137_83 rfl ?_
    refine w137_84 rfl ?_
    refine w137_86 (k := c32 L hb ?_)
    refine w137_89 (fun h89 => ?_) (fun h89 => ?_)
    · refine w137_96 ?_
      refine w137_97 (by first | rfl | exact am_narrow_b _) ?_
      first | exact kt h89 | exact kf (Int32.not_le.mpr h89)
    · replace h89 := Int32.not_lt.mp h89
      refine w137_92 ?_
      refine w137_93 ?_
      refine w137_97 (by first | rfl | exact am_narrow_b _) ?_
      first | exact kt h89 | exact kf (Int32.not_le.mpr h89)
def fw_l : Option Nat → Int32
  | none => 8
  | some t => nI (pc t)
theorem fw_bl {z : Nat} {x : Option Nat} (hz : z < 128) (hx : ∀ t, x = some t → t < 128) : fw_b z x = true ↔ nI (pc z) < fw_l x := by
  have h1 := (pc_ok z hz).2
  cases x with
  | none => exact ⟨fun _ => nI_lt (b := 8) (by omega) (by decide), fun _ => rfl⟩
  | some t =>
    have h2 := (pc_ok t (hx t rfl)).2
    show decide _ = true ↔ _
    rw [decide_eq_true_eq]
    exact (nI_ltI (by omega) (by omega)).symm
theorem fw_on {t : Nat} (ht : t < 128) : t_on (fw_v 1 (some t)) = nI (pc t) := am_ones_n ht
/-- fewest -/
theorem c136 (L : am_Lay S P) {b w : Nat} {ord : Bool} (hr : am_HR I 65 kp n l s) (hx : am_lw S I P (P 70) kp l (kp 76) lw) (hb : b < 5) (hw : w ≤ 1) (k : ∀ I' J' v, am_ps I I' → (∀ I2, m_ld I2 kp n (lw.map Prod.snd) (n * 5) → v = m_fwN I2 kp n b w ord) → Q (some (.int v)) (S, I', J', P)) : am_ev pr (d + 6) 136 [.ref 64, .int (nI b), .int (nI w), .int (am_b (ord = true))] (S, I, J, P) Q := by
  have n7 := hr.n7
  show am_wp pr (d + 6) 136 0 [(0, .ref 64), (1, .int (nI b)), (2, .int (nI w)), (3, .int (am_b (ord = true)))] [] _ _
  refine w136_0 rfl ?_
  refine w136_1 (k := c18b hb ?_)
  refine w136_4 (fun hQ => absurd hQ am_n01) (fun _ => ?_)
  refine w136_7 rfl ?_
  refine w136_8 (fun hQ => absurd hQ (nI_pos (by omega))) (fun _ => ?_)
  refine w136_11 rfl ?_
  refine w136_12 ?_
  refine w136_13 (fun _ => ?_) (fun hQ => absurd (nI_le (b := 1) hw (by decide)) hQ)
  refine w136_18 rfl ?_
  refine w136_19 rfl ?_
  refine w136_20 (k := c20 L hr hx hb (fun I1 J1 f1 f2 f3 f4 => ?_))
  obtain ⟨I0, g0⟩ := m_ld_ex kp n (lw.map Prod.snd) (n * 5)
  obtain ⟨o, ho, eo, -⟩ := m_of_o g0 n7 hb (m_all n)
  have e113 : I1 113 b = nI o := (b_onE f3 g0 n7 hb).trans eo
  have hoc : ∀ I2, m_ld I2 kp n (lw.map Prod.snd) (n * 5) → (m_of kp (I2 140) n b (m_all n)).toNatClampNeg = o := fun I2 g => by rw [← b_onE f3 g n7 hb, e113]; exact am_clN (by omega)
  have end_ : I1 109 2 = kp 72 := by rw [f2.2.2]; exact hr.tn
  have hS : ∀ I2, m_ld I2 kp n (lw.map Prod.snd) (n * 5) → s_fw (t_an I1 b o ord) 128 = s_fw (m_an I2 kp n b o ord) (o + 1) := fun I2 g => by
    rw [s_fw_c (B := m_an I2 kp n b o ord) (fun z _ => b_an f3 end_ e113 g n7 hb)]
    have := s_fw_cut (A := m_an I2 kp n b o ord) (N := o + 1) (127 - o) (fun z h1 h2 q => absurd (sb_le z (by omega) o ho q.1) (by omega))
    rw [show o + 1 + (127 - o) = 128 by omega] at this
    exact this
  have fin : ∀ v, v = fw_v w (s_fw (t_an I1 b o ord) 128) → Q (some (.int v)) (S, I1, J1, P) := by
    intro v hv
    refine k I1 J1 v f1.ps (fun I2 g => ?_)
    rw [hv, hS I2 g]
    unfold m_fwN
    rw [hoc I2 g]
  refine w136_23 rfl ?_
  refine w136_24 (L.2 _ _ _ rfl) ?_
  refine w136_27 (L.2 _ _ _ rfl) ?_
  refine w136_30 rfl ?_
  refine w136_31 (L.sh rfl) (am_inB hb) ?_
  rw [am_clB hb, e113]
  refine w136_32 ?_
  refine w136_34 ?_
  refine w136_35 ?_
  refine w136_37 ?_
  refine w136_39 ?_
  refine w136_41 ?_
  refine w136_42 ?_
  refine am_for (fun z => ∀ x, x = s_fw (t_an I1 b o ord) z → ∀ lv, am_ld1 lv 0 = some (.ref 64) → am_ld1 lv 1 = some (.int (nI b)) → am_ld1 lv 2 = some (.int (nI w)) → am_ld1 lv 3 = some (.int (am_b (ord = true))) → am_ld1 lv 4 = some (.int (nI o)) → am_ld1 lv 5 = some (.int (fw_v 1 x)) → am_ld1 lv 6 = some (.int (fw_l x)) → am_ld1 lv 7 = some (.int (nI z)) → am_wp pr (d + 6) 136 44 lv [] (S, I1, J1, P) Q) 128 ?_ ?_ none rfl _ rfl rfl rfl rfl rfl rfl rfl rfl
  · intro z hz ih x hx lv l0 l1 l2 l3 l4 l5 l6 l7
    have hxl : ∀ t, x = some t → t < 128 := fun t ht => by
      have := s_fw_lt (t_an I1 b o ord) z t (by rw [← hx]; exact ht)
      omega
    have nx := s_fw_s (t_an I1 b o ord) z
    rw [← hx] at nx
    have y0 : ¬ (t_an I1 b o ord z ∧ fw_b z x = true) → ∀ lv, am_ld1 lv 0 = some (.ref 64) → am_ld1 lv 1 = some (.int (nI b)) → am_ld1 lv 2 = some (.int (nI w)) → am_ld1 lv 3 = some (.int (am_b (ord = true))) → am_ld1 lv 4 = some (.int (nI o)) → am_ld1 lv 5 = some (.int (fw_v 1 x)) → am_ld1 lv 6 = some (.int (fw_l x)) → am_ld1 lv 7 = some (.int (nI (z + 1))) → am_wp pr (d + 6) 136 44 lv [] (S, I1, J1, P) Q := fun q => ih x (by rw [nx, if_neg q])
    have y1 : (t_an I1 b o ord z ∧ fw_b z x = true) → ∀ lv, am_ld1 lv 0 = some (.ref 64) → am_ld1 lv 1 = some (.int (nI b)) → am_ld1 lv 2 = some (.int (nI w)) → am_ld1 lv 3 = some (.int (am_b (ord = true))) → am_ld1 lv 4 = some (.int (nI o)) → am_ld1 lv 5 = some (.int (nI z)) → am_ld1 lv 6 = some (.int (nI (pc z))) → am_ld1 lv 7 = some (.int (nI (z + 1))) → am_wp pr (d + 6) 136 44 lv [] (S, I1, J1, P) Q := fun q => ih (some z) (by rw [nx, if_pos q])
    by_cases hs : nI z &&& (nI o ^^^ -1) = 0
    · have hfw := fw_bl hz hxl
      refine w136_44 l7 ?_
      refine w136_46 ?_
      refine w136_49 (fun hQ => absurd hQ (am_nlt hz (by decide))) (fun _ => ?_)
      refine w136_52 l7 ?_
      refine w136_54 (k := c23 hz ?_)
      rw [am_ones_n hz]
      refine w136_57 ?_
      refine w136_59 l7 ?_
      refine w136_61 l4 ?_
      refine w136_63 ?_
      refine w136_64 ?_
      refine w136_65 ?_
      refine w136_66 (fun hQ => absurd hQ (fun y => y hs)) (fun _ => ?_)
      refine w136_69 rfl ?_
      refine w136_71 l6 ?_
      refine w136_73 (fun h73 => ?_) (fun h73 => ?_)
      · refine w136_95 l7 ?_
        refine w136_98 ?_
        first | exact y1 ⟨am_b_1 h84, hfw.mpr h73⟩ _ l0 l1 l2 l3 l4 l5 l6 (am_nx z) | exact y0 (fun y => (am_b_0 _).mp h84 y.1) _ l0 l1 l2 l3 l4 l5 l6 (am_nx z) | exact y0 (fun y => absurd (hfw.mp y.2) (Int32.not_lt.mpr h73)) _ l0 l1 l2 l3 l4 l5 l6 (am_nx z)
      · replace h73 := Int32.not_le.mp h73
        refine w136_76 l0 ?_
        refine w136_77 l1 ?_
        refine w136_78 l7 ?_
        refine w136_80 l3 ?_
        refine w136_81 (k := c137 L hb e113 hs ?_)
        refine w136_84 (fun h84 => ?_) (fun h84 => ?_)
        · refine w136_95 l7 ?_
          refine w136_98 ?_
          first | exact y1 ⟨am_b_1 h84, hfw.mpr h73⟩ _ l0 l1 l2 l3 l4 l5 l6 (am_nx z) | exact y0 (fun y => (am_b_0 _).mp h84 y.1) _ l0 l1 l2 l3 l4 l5 l6 (am_nx z) | exact y0 (fun y => absurd (hfw.mp y.2) (Int32.not_lt.mpr h73)) _ l0 l1 l2 l3 l4 l5 l6 (am_nx z)
        · refine w136_87 rfl ?_
          refine w136_89 ?_
          refine w136_91 l7 ?_
          refine w136_93 ?_
          refine w136_95 l7 ?_
          refine w136_98 ?_
          first | exact y1 ⟨am_b_1 h84, hfw.mpr h73⟩ _ l0 l1 l2 l3 l4 rfl rfl (am_nx z) | exact y0 (fun y => (am_b_0 _).mp h84 y.1) _ l0 l1 l2 l3 l4 rfl rfl (am_nx z) | exact y0 (fun y => absurd (hfw.mp y.2) (Int32.not_lt.mpr h73)) _ l0 l1 l2 l3 l4 rfl rfl (am_nx z)
    · refine w136_44 l7 ?_
      refine w136_46 ?_
      refine w136_49 (fun hQ => absurd hQ (am_nlt hz (by decide))) (fun _ => ?_)
      refine w136_52 l7 ?_
      refine w136_54 (k := c23 hz ?_)
      rw [am_ones_n hz]
      refine w136_57 ?_
      refine w136_59 l7 ?_
      refine w136_61 l4 ?_
      refine w136_63 ?_
      refine w136_64 ?_
      refine w136_65 ?_
      refine w136_66 (fun _ => ?_) (fun hQ => absurd hs hQ)
      refine w136_95 l7 ?_
      refine w136_98 ?_
      exact y0 (fun y => hs y.1.1) _ l0 l1 l2 l3 l4 l5 l6 (am_nx z)
  · intro x hx lv l0 l1 l2 l3 l4 l5 l6 l7
    have hxl : ∀ t, x = some t → t < 128 := fun t ht => s_fw_lt (t_an I1 b o ord) 128 t (by rw [← hx]; exact ht)
    rw [← hx] at fin
    cases x with
    | none =>
      refine w136_44 l7 ?_
      refine w136_46 ?_
      refine w136_49 (fun _ => ?_) (fun hQ => absurd (Int32.le_refl _) hQ)
      refine w136_101 l5 ?_
      refine w136_103 ?_
      refine w136_104 (fun _ => ?_) (fun hQ => absurd rfl hQ)
      refine w136_112 l5 ?_
      refine w136_114 ?_
      refine w136_119 ?_
      exact fin _ rfl
    | some t =>
      have ht := hxl t rfl
      rcases (show w = 0 ∨ w = 1 by omega) with rfl | rfl
      · refine w136_44 l7 ?_
        refine w136_46 ?_
        refine w136_49 (fun _ => ?_) (fun hQ => absurd (Int32.le_refl _) hQ)
        refine w136_101 l5 ?_
        refine w136_103 ?_
        refine w136_104 (fun hQ => absurd hQ (nI_nm1 (by omega))) (fun _ => ?_)
        refine w136_107 l2 ?_
        refine w136_108 ?_
        refine w136_109 (fun _ => ?_) (fun hQ => absurd (by decide) hQ)
        refine w136_117 l6 ?_
        refine w136_119 ?_
        exact fin _ rfl
      · refine w136_44 l7 ?_
        refine w136_46 ?_
        refine w136_49 (fun _ => ?_) (fun hQ => absurd (Int32.le_refl _) hQ)
        refine w136_101 l5 ?_
        refine w136_103 ?_
        refine w136_104 (fun hQ => absurd hQ (nI_nm1 (by omega))) (fun _ => ?_)
        refine w136_107 l2 ?_
        refine w136_108 ?_
        refine w136_109 (fun hQ => absurd hQ (fun y => y rfl)) (fun _ => ?_)
        refine w136_112 l5 ?_
        refine w136_114 ?_
        refine w136_119 ?_
        exact fin _ rfl
theorem c136n {x y z : Int32} (h : ¬ (0 ≤ x ∧ x < 5) ∨ ¬ (0 ≤ y ∧ y ≤ 1)) (k : Q (some (.int (-1))) (S, I, J, P)) : am_ev pr (d + 5) 136 [.ref 64, .int x, .int y, .int z] (S, I, J, P) Q := by
  show am_wp pr (d + 5) 136 0 [(0, .ref 64), (1, .int x), (2, .int y), (3, .int z)] [] _ _
  refine w136_0 rfl ?_
  refine w136_1 (k := c18 ?_)
  refine w136_4 (fun h4 => ?_) (fun h4 => ?_)
  · refine w136_16 ?_
    refine w136_17 ?_
    exact k
  · refine w136_7 rfl ?_
    refine w136_8 (fun h8 => ?_) (fun h8 => ?_)
    · refine w136_16 ?_
      refine w136_17 ?_
      exact k
    · replace h8 := Int32.not_lt.mp h8
      refine w136_11 rfl ?_
      refine w136_12 ?_
      refine w136_13 (fun h13 => ?_) (fun h13 => ?_)
      · exact absurd ⟨h8, h13⟩ (h.resolve_left (fun q => q (am_b_1 h4)))
      · replace h13 := Int32.not_le.mp h13
        refine w136_16 ?_
        refine w136_17 ?_
        exact k
theorem c272 (L : am_Lay S P) {b w : Nat} (hk : I 126 = kp) (hn : kp 73 = nI n) (n7 : n ≤ 7) (hlw : m_lw kp lv0) (hb : b < 5) (hw : w ≤ 1) (k : ∀ I2, am_ps I I2 → m_ld I2 kp n lv0 (n * 5) → Q (some (.int (m_fwN I2 kp n b w false))) (S, I2, J, P)) : am_ev pr (d + 45) 272 [.ref 124, .int (nI b), .int (nI w)] (S, I, J, P) Q := by
  show am_wp pr (d + 45) 272 0 [(0, .ref 124), (1, .int (nI b)), (2, .int (nI w))] [] _ _
  have hw1 : (0 ≤ nI w ∧ nI w ≤ 1) := ⟨nI_pos' (by omega), nI_le (b := 1) hw (by decide)⟩
  refine w272_0 rfl ?_
  refine w272_1 (k := c177b hb ?_)
  refine w272_4 (fun hQ => absurd hQ am_n01) (fun _ => ?_)
  refine w272_7 rfl ?_
  refine w272_8 ?_
  refine w272_9 ?_
  refine w272_10 (k := c164 ?_)
  rw [am_b_t hw1]
  refine w272_13 (fun _ => ?_) (fun hQ => absurd am_n01 hQ)
  refine w272_18 rfl ?_
  refine w272_19 (k := c178 L hk hn n7 hlw (fun I2 f2 g => ?_))
  have e126 : I2 126 = kp := by rw [f2.1 126 (by decide) (by decide) (by decide) (by decide) (by decide)]; exact hk
  have hn2 : I2 126 73 = nI n := by rw [e126]; exact hn
  have kk := k I2 f2.ps g
  obtain ⟨o, ho, eo, eoc⟩ := m_of_o g n7 hb (m_all n)
  unfold m_fwN at kk
  rw [eoc] at kk
  refine w272_22 rfl ?_
  refine w272_23 rfl ?_
  refine w272_24 rfl ?_
  refine w272_25 (k := c200 L ?_)
  rw [hn2]
  refine w272_28 (k := c204 L hn2 n7 hb ?_)
  rw [e126, show m_of kp (I2 140) n b (1 <<< (nI n &&& 31) - 1) = nI o from eo]
  refine w272_31 ?_
  refine w272_32 rfl ?_
  refine w272_33 rfl ?_
  refine w272_34 rfl ?_
  refine w272_35 (k := c200 L ?_)
  rw [hn2]
  refine w272_38 (k := c205 L hn2 n7 hb ?_)
  rw [e126]
  refine w272_41 ?_
  refine w272_43 ?_
  refine w272_44 ?_
  refine w272_46 ?_
  refine w272_47 ?_
  generalize hnde : t_nd (kp 72) (m_vo (I2 138) n b (m_of kp (I2 140) n b (1 <<< (nI n &&& 31) - 1))) = nd at *
  have han : ∀ z, m_an I2 kp n b o false z ↔ (nI z &&& (nI o ^^^ -1) = 0 ∧ nd ≤ m_vo (I2 138) n b (nI z)) := fun z => by
    rw [← hnde]
    exact and_congr_right (fun _ => ⟨fun q => q.elim (fun y => y.2) (fun y => by cases y.1), fun q => Or.inl ⟨rfl, q⟩⟩)
  refine am_for (fun z => ∀ x, x = s_fw (m_an I2 kp n b o false) z → ∀ lv, am_ld1 lv 0 = some (.ref 124) → am_ld1 lv 1 = some (.int (nI b)) → am_ld1 lv 2 = some (.int (nI w)) → am_ld1 lv 3 = some (.int (nI o)) → am_ld1 lv 4 = some (.int nd) → am_ld1 lv 5 = some (.int (fw_v 1 x)) → am_ld1 lv 6 = some (.int (nI z)) → am_wp pr (d + 45) 272 49 lv [] (S, I2, J, P) Q) (o + 1) ?_ ?_ none rfl _ rfl rfl rfl rfl rfl rfl rfl
  · intro z hz ih x hx lv l0 l1 l2 l3 l4 l5 l6
    have hz2 : z < 128 := by omega
    have hxl : ∀ t, x = some t → t < 128 := fun t ht => by
      have := s_fw_lt (m_an I2 kp n b o false) z t (by rw [← hx]; exact ht)
      omega
    have nx := s_fw_s (m_an I2 kp n b o false) z
    rw [← hx] at nx
    have y0 : ¬ (m_an I2 kp n b o false z ∧ fw_b z x = true) → ∀ lv, am_ld1 lv 0 = some (.ref 124) → am_ld1 lv 1 = some (.int (nI b)) → am_ld1 lv 2 = some (.int (nI w)) → am_ld1 lv 3 = some (.int (nI o)) → am_ld1 lv 4 = some (.int nd) → am_ld1 lv 5 = some (.int (fw_v 1 x)) → am_ld1 lv 6 = some (.int (nI (z + 1))) → am_wp pr (d + 45) 272 49 lv [] (S, I2, J, P) Q := fun q => ih x (by rw [nx, if_neg q])
    have y1 : (m_an I2 kp n b o false z ∧ fw_b z x = true) → ∀ lv, am_ld1 lv 0 = some (.ref 124) → am_ld1 lv 1 = some (.int (nI b)) → am_ld1 lv 2 = some (.int (nI w)) → am_ld1 lv 3 = some (.int (nI o)) → am_ld1 lv 4 = some (.int nd) → am_ld1 lv 5 = some (.int (nI z)) → am_ld1 lv 6 = some (.int (nI (z + 1))) → am_wp pr (d + 45) 272 49 lv [] (S, I2, J, P) Q := fun q => ih (some z) (by rw [nx, if_pos q])
    by_cases hs : m_an I2 kp n b o false z
    · have hs2 := (han z).mp hs
      cases x with
      | none =>
        refine w272_49 l6 ?_
        refine w272_51 l3 ?_
        refine w272_52 (fun hQ => absurd hQ (nI_nlt (by omega) (by omega))) (fun _ => ?_)
        refine w272_55 l6 ?_
        refine w272_57 l3 ?_
        refine w272_58 ?_
        refine w272_59 ?_
        refine w272_60 ?_
        refine w272_61 (fun hQ => absurd hQ (fun y => y hs2.1)) (fun _ => ?_)
        refine w272_64 l0 ?_
        refine w272_65 l1 ?_
        refine w272_66 l6 ?_
        refine w272_68 (k := c202 L hn2 n7 hb ?_)
        refine w272_71 l4 ?_
        refine w272_73 (fun hQ => absurd hQ (fun y => absurd hs2.2 (Int32.not_le.mpr y))) (fun _ => ?_)
        refine w272_76 l5 ?_
        refine w272_78 ?_
        refine w272_79 (fun _ => ?_) (fun hQ => absurd rfl hQ)
        refine w272_95 l6 ?_
        refine w272_97 ?_
        refine w272_99 l6 ?_
        refine w272_102 ?_
        exact y1 ⟨hs, rfl⟩ _ l0 l1 l2 l3 l4 rfl (am_nx z)
      | some t =>
        have ht := hxl t rfl
        have hfw := fw_bl (x := some t) hz2 hxl
        by_cases hf : fw_b z (some t) = true
        · refine w272_49 l6 ?_
          refine w272_51 l3 ?_
          refine w272_52 (fun hQ => absurd hQ (nI_nlt (by omega) (by omega))) (fun _ => ?_)
          refine w272_55 l6 ?_
          refine w272_57 l3 ?_
          refine w272_58 ?_
          refine w272_59 ?_
          refine w272_60 ?_
          refine w272_61 (fun hQ => absurd hQ (fun y => y hs2.1)) (fun _ => ?_)
          refine w272_64 l0 ?_
          refine w272_65 l1 ?_
          refine w272_66 l6 ?_
          refine w272_68 (k := c202 L hn2 n7 hb ?_)
          refine w272_71 l4 ?_
          refine w272_73 (fun hQ => absurd hQ (fun y => absurd hs2.2 (Int32.not_le.mpr y))) (fun _ => ?_)
          refine w272_76 l5 ?_
          refine w272_78 ?_
          refine w272_79 (fun hQ => absurd hQ (nI_nm1 (by omega))) (fun _ => ?_)
          refine w272_82 l6 ?_
          refine w272_84 (k := c191 ?_)
          rw [am_ones_n hz2]
          refine w272_87 l5 ?_
          refine w272_89 (k := c191 ?_)
          rw [fw_on ht]
          refine w272_92 (fun hQ => absurd hQ (fun y => absurd (hfw.mp hf) (Int32.not_lt.mpr y))) (fun _ => ?_)
          refine w272_95 l6 ?_
          refine w272_97 ?_
          refine w272_99 l6 ?_
          refine w272_102 ?_
          exact y1 ⟨hs, hf⟩ _ l0 l1 l2 l3 l4 rfl (am_nx z)
        · refine w272_49 l6 ?_
          refine w272_51 l3 ?_
          refine w272_52 (fun hQ => absurd hQ (nI_nlt (by omega) (by omega))) (fun _ => ?_)
          refine w272_55 l6 ?_
          refine w272_57 l3 ?_
          refine w272_58 ?_
          refine w272_59 ?_
          refine w272_60 ?_
          refine w272_61 (fun hQ => absurd hQ (fun y => y hs2.1)) (fun _ => ?_)
          refine w272_64 l0 ?_
          refine w272_65 l1 ?_
          refine w272_66 l6 ?_
          refine w272_68 (k := c202 L hn2 n7 hb ?_)
          refine w272_71 l4 ?_
          refine w272_73 (fun hQ => absurd hQ (fun y => absurd hs2.2 (Int32.not_le.mpr y))) (fun _ => ?_)
          refine w272_76 l5 ?_
          refine w272_78 ?_
          refine w272_79 (fun hQ => absurd hQ (nI_nm1 (by omega))) (fun _ => ?_)
          refine w272_82 l6 ?_
          refine w272_84 (k := c191 ?_)
          rw [am_ones_n hz2]
          refine w272_87 l5 ?_
          refine w272_89 (k := c191 ?_)
          rw [fw_on ht]
          refine w272_92 (fun _ => ?_) (fun hQ => absurd (Int32.not_lt.mp (fun y => hf (hfw.mpr y))) hQ)
          refine w272_99 l6 ?_
          refine w272_102 ?_
          exact y0 (fun y => hf y.2) _ l0 l1 l2 l3 l4 l5 (am_nx z)
    · have hs2 := fun q => hs ((han z).mpr q)
      by_cases hs1 : nI z &&& (nI o ^^^ -1) = 0
      · refine w272_49 l6 ?_
        refine w272_51 l3 ?_
        refine w272_52 (fun hQ => absurd hQ (nI_nlt (by omega) (by omega))) (fun _ => ?_)
        refine w272_55 l6 ?_
        refine w272_57 l3 ?_
        refine w272_58 ?_
        refine w272_59 ?_
        refine w272_60 ?_
        refine w272_61 (fun hQ => absurd hQ (fun y => y hs1)) (fun _ => ?_)
        refine w272_64 l0 ?_
        refine w272_65 l1 ?_
        refine w272_66 l6 ?_
        refine w272_68 (k := c202 L hn2 n7 hb ?_)
        refine w272_71 l4 ?_
        refine w272_73 (fun _ => ?_) (fun hQ => absurd (Int32.not_le.mp (fun y => hs2 ⟨hs1, y⟩)) hQ)
        refine w272_99 l6 ?_
        refine w272_102 ?_
        exact y0 (fun y => hs y.1) _ l0 l1 l2 l3 l4 l5 (am_nx z)
      · refine w272_49 l6 ?_
        refine w272_51 l3 ?_
        refine w272_52 (fun hQ => absurd hQ (nI_nlt (by omega) (by omega))) (fun _ => ?_)
        refine w272_55 l6 ?_
        refine w272_57 l3 ?_
        refine w272_58 ?_
        refine w272_59 ?_
        refine w272_60 ?_
        refine w272_61 (fun _ => ?_) (fun hQ => absurd hs1 hQ)
        refine w272_99 l6 ?_
        refine w272_102 ?_
        exact y0 (fun y => hs y.1) _ l0 l1 l2 l3 l4 l5 (am_nx z)
  · intro x hx lv l0 l1 l2 l3 l4 l5 l6
    have hxl : ∀ t, x = some t → t < 128 := fun t ht => by
      have := s_fw_lt (m_an I2 kp n b o false) (o + 1) t (by rw [← hx]; exact ht)
      omega
    rw [← hx] at kk
    cases x with
    | none =>
      refine w272_49 l6 ?_
      refine w272_51 l3 ?_
      refine w272_52 (fun _ => ?_) (fun hQ => absurd (nI_lt (by omega) (by omega)) hQ)
      refine w272_105 l5 ?_
      refine w272_107 ?_
      refine w272_108 (fun _ => ?_) (fun hQ => absurd rfl hQ)
      refine w272_116 l5 ?_
      refine w272_118 ?_
      refine w272_126 ?_
      exact kk
    | some t =>
      have ht := hxl t rfl
      rcases (show w = 0 ∨ w = 1 by omega) with rfl | rfl
      · refine w272_49 l6 ?_
        refine w272_51 l3 ?_
        refine w272_52 (fun _ => ?_) (fun hQ => absurd (nI_lt (by omega) (by omega)) hQ)
        refine w272_105 l5 ?_
        refine w272_107 ?_
        refine w272_108 (fun hQ => absurd hQ (nI_nm1 (by omega))) (fun _ => ?_)
        refine w272_111 l2 ?_
        refine w272_112 ?_
        refine w272_113 (fun _ => ?_) (fun hQ => absurd (by decide) hQ)
        refine w272_121 l5 ?_
        refine w272_123 (k := c191 ?_)
        rw [fw_on ht]
        refine w272_126 ?_
        exact kk
      · refine w272_49 l6 ?_
        refine w272_51 l3 ?_
        refine w272_52 (fun _ => ?_) (fun hQ => absurd (nI_lt (by omega) (by omega)) hQ)
        refine w272_105 l5 ?_
        refine w272_107 ?_
        refine w272_108 (fun hQ => absurd hQ (nI_nm1 (by omega))) (fun _ => ?_)
        refine w272_111 l2 ?_
        refine w272_112 ?_
        refine w272_113 (fun hQ => absurd hQ (fun y => y rfl)) (fun _ => ?_)
        refine w272_116 l5 ?_
        refine w272_118 ?_
        refine w272_126 ?_
        exact kk
theorem c273 (L : am_Lay S P) {b w : Nat} (hk : I 126 = kp) (hn : kp 73 = nI n) (n7 : n ≤ 7) (hlw : m_lw kp lv0) (hb : b < 5) (hw : w ≤ 1) (k : ∀ I2, am_ps I I2 → m_ld I2 kp n lv0 (n * 5) → Q (some (.int (m_fwN I2 kp n b w true))) (S, I2, J, P)) : am_ev pr (d + 45) 273 [.ref 124, .int (nI b), .int (nI w)] (S, I, J, P) Q := by
  show am_wp pr (d + 45) 273 0 [(0, .ref 124), (1, .int (nI b)), (2, .int (nI w))] [] _ _
  have hw1 : (0 ≤ nI w ∧ nI w ≤ 1) := ⟨nI_pos' (by omega), nI_le (b := 1) hw (by decide)⟩
  refine w273_0 rfl ?_
  refine w273_1 (k := c177b hb ?_)
  refine w273_4 (fun hQ => absurd hQ am_n01) (fun _ => ?_)
  refine w273_7 rfl ?_
  refine w273_8 ?_
  refine w273_9 ?_
  refine w273_10 (k := c164 ?_)
  rw [am_b_t hw1]
  refine w273_13 (fun _ => ?_) (fun hQ => absurd am_n01 hQ)
  refine w273_18 rfl ?_
  refine w273_19 (k := c178 L hk hn n7 hlw (fun I2 f2 g => ?_))
  have e126 : I2 126 = kp := by rw [f2.1 126 (by decide) (by decide) (by decide) (by decide) (by decide)]; exact hk
  have hn2 : I2 126 73 = nI n := by rw [e126]; exact hn
  have kk := k I2 f2.ps g
  obtain ⟨o, ho, eo, eoc⟩ := m_of_o g n7 hb (m_all n)
  unfold m_fwN at kk
  rw [eoc] at kk
  refine w273_22 rfl ?_
  refine w273_23 rfl ?_
  refine w273_24 rfl ?_
  refine w273_25 (k := c200 L ?_)
  rw [hn2]
  refine w273_28 (k := c204 L hn2 n7 hb ?_)
  rw [e126, show m_of kp (I2 140) n b (1 <<< (nI n &&& 31) - 1) = nI o from eo]
  refine w273_31 ?_
  refine w273_32 ?_
  refine w273_33 ?_
  refine w273_35 ?_
  refine w273_36 ?_
  have han : ∀ z, m_an I2 kp n b o true z ↔ (nI z &&& (nI o ^^^ -1) = 0 ∧ t_nd (kp 72) (m_vo (I2 138) n b (m_of kp (I2 140) n b (1 <<< (nI n &&& 31) - 1 &&& (nI z ^^^ -1)))) ≤ m_vo (I2 138) n b (m_fa kp (I2 140) (I2 139) n b (1 <<< (nI n &&& 31) - 1 &&& (nI z ^^^ -1)))) := fun z => and_congr_right (fun _ => ⟨fun q => q.elim (fun y => by cases y.1) (fun y => y.2), fun q => Or.inr ⟨rfl, q⟩⟩)
  refine am_for (fun z => ∀ x, x = s_fw (m_an I2 kp n b o true) z → ∀ lv, am_ld1 lv 0 = some (.ref 124) → am_ld1 lv 1 = some (.int (nI b)) → am_ld1 lv 2 = some (.int (nI w)) → am_ld1 lv 3 = some (.int (nI o)) → am_ld1 lv 4 = some (.int (fw_v 1 x)) → am_ld1 lv 5 = some (.int (nI z)) → am_wp pr (d + 45) 273 38 lv [] (S, I2, J, P) Q) (o + 1) ?_ ?_ none rfl _ rfl rfl rfl rfl rfl rfl
  · intro z hz ih x hx lv l0 l1 l2 l3 l4 l5
    have hz2 : z < 128 := by omega
    have hxl : ∀ t, x = some t → t < 128 := fun t ht => by
      have := s_fw_lt (m_an I2 kp n b o true) z t (by rw [← hx]; exact ht)
      omega
    have nx := s_fw_s (m_an I2 kp n b o true) z
    rw [← hx] at nx
    have y0 : ¬ (m_an I2 kp n b o true z ∧ fw_b z x = true) → ∀ lv, am_ld1 lv 0 = some (.ref 124) → am_ld1 lv 1 = some (.int (nI b)) → am_ld1 lv 2 = some (.int (nI w)) → am_ld1 lv 3 = some (.int (nI o)) → am_ld1 lv 4 = some (.int (fw_v 1 x)) → am_ld1 lv 5 = some (.int (nI (z + 1))) → am_wp pr (d + 45) 273 38 lv [] (S, I2, J, P) Q := fun q => ih x (by rw [nx, if_neg q])
    have y1 : (m_an I2 kp n b o true z ∧ fw_b z x = true) → ∀ lv, am_ld1 lv 0 = some (.ref 124) → am_ld1 lv 1 = some (.int (nI b)) → am_ld1 lv 2 = some (.int (nI w)) → am_ld1 lv 3 = some (.int (nI o)) → am_ld1 lv 4 = some (.int (nI z)) → am_ld1 lv 5 = some (.int (nI (z + 1))) → am_wp pr (d + 45) 273 38 lv [] (S, I2, J, P) Q := fun q => ih (some z) (by rw [nx, if_pos q])
    by_cases hs1 : nI z &&& (nI o ^^^ -1) = 0
    · have c72 : ∀ lv, am_ld1 lv 0 = some (.ref 124) → am_ld1 lv 1 = some (.int (nI b)) → am_ld1 lv 2 = some (.int (nI w)) → am_ld1 lv 3 = some (.int (nI o)) → am_ld1 lv 4 = some (.int (fw_v 1 x)) → am_ld1 lv 5 = some (.int (nI z)) → fw_b z x = true → am_wp pr (d + 45) 273 72 lv [] (S, I2, J, P) Q := by
        intro lv l0 l1 l2 l3 l4 l5 hf
        refine w273_72 l0 ?_
        refine w273_73 l1 ?_
        refine w273_74 l0 ?_
        refine w273_75 (k := c200 L ?_)
        rw [hn2]
        refine w273_78 l5 ?_
        refine w273_80 ?_
        refine w273_81 ?_
        refine w273_82 ?_
        refine w273_83 (k := c206 L hn2 n7 hb ?_)
        rw [e126]
        refine w273_86 (fun h86 => ?_) (fun h86 => ?_)
        · refine w273_93 l5 ?_
          refine w273_96 ?_
          first | exact y1 ⟨(han z).mpr ⟨hs1, am_b_1 h86⟩, hf⟩ _ l0 l1 l2 l3 l4 (am_nx z) | exact y0 (fun y => (am_b_0 _).mp h86 ((han z).mp y.1).2) _ l0 l1 l2 l3 l4 (am_nx z)
        · refine w273_89 l5 ?_
          refine w273_91 ?_
          refine w273_93 l5 ?_
          refine w273_96 ?_
          first | exact y1 ⟨(han z).mpr ⟨hs1, am_b_1 h86⟩, hf⟩ _ l0 l1 l2 l3 rfl (am_nx z) | exact y0 (fun y => (am_b_0 _).mp h86 ((han z).mp y.1).2) _ l0 l1 l2 l3 rfl (am_nx z)
      cases x with
      | none =>
        refine w273_38 l5 ?_
        refine w273_40 l3 ?_
        refine w273_41 (fun hQ => absurd hQ (nI_nlt (by omega) (by omega))) (fun _ => ?_)
        refine w273_44 l5 ?_
        refine w273_46 l3 ?_
        refine w273_47 ?_
        refine w273_48 ?_
        refine w273_49 ?_
        refine w273_50 (fun hQ => absurd hQ (fun y => y hs1)) (fun _ => ?_)
        refine w273_53 l4 ?_
        refine w273_55 ?_
        refine w273_56 (fun _ => ?_) (fun hQ => absurd rfl hQ)
        exact c72 _ l0 l1 l2 l3 l4 l5 rfl
      | some t =>
        have ht := hxl t rfl
        have hfw := fw_bl (x := some t) hz2 hxl
        by_cases hf : fw_b z (some t) = true
        · refine w273_38 l5 ?_
          refine w273_40 l3 ?_
          refine w273_41 (fun hQ => absurd hQ (nI_nlt (by omega) (by omega))) (fun _ => ?_)
          refine w273_44 l5 ?_
          refine w273_46 l3 ?_
          refine w273_47 ?_
          refine w273_48 ?_
          refine w273_49 ?_
          refine w273_50 (fun hQ => absurd hQ (fun y => y hs1)) (fun _ => ?_)
          refine w273_53 l4 ?_
          refine w273_55 ?_
          refine w273_56 (fun hQ => absurd hQ (nI_nm1 (by omega))) (fun _ => ?_)
          refine w273_59 l5 ?_
          refine w273_61 (k := c191 ?_)
          rw [am_ones_n hz2]
          refine w273_64 l4 ?_
          refine w273_66 (k := c191 ?_)
          rw [fw_on ht]
          refine w273_69 (fun hQ => absurd hQ (fun y => absurd (hfw.mp hf) (Int32.not_lt.mpr y))) (fun _ => ?_)
          exact c72 _ l0 l1 l2 l3 l4 l5 hf
        · refine w273_38 l5 ?_
          refine w273_40 l3 ?_
          refine w273_41 (fun hQ => absurd hQ (nI_nlt (by omega) (by omega))) (fun _ => ?_)
          refine w273_44 l5 ?_
          refine w273_46 l3 ?_
          refine w273_47 ?_
          refine w273_48 ?_
          refine w273_49 ?_
          refine w273_50 (fun hQ => absurd hQ (fun y => y hs1)) (fun _ => ?_)
          refine w273_53 l4 ?_
          refine w273_55 ?_
          refine w273_56 (fun hQ => absurd hQ (nI_nm1 (by omega))) (fun _ => ?_)
          refine w273_59 l5 ?_
          refine w273_61 (k := c191 ?_)
          rw [am_ones_n hz2]
          refine w273_64 l4 ?_
          refine w273_66 (k := c191 ?_)
          rw [fw_on ht]
          refine w273_69 (fun _ => ?_) (fun hQ => absurd (Int32.not_lt.mp (fun y => hf (hfw.mpr y))) hQ)
          refine w273_93 l5 ?_
          refine w273_96 ?_
          exact y0 (fun y => hf y.2) _ l0 l1 l2 l3 l4 (am_nx z)
    · refine w273_38 l5 ?_
      refine w273_40 l3 ?_
      refine w273_41 (fun hQ => absurd hQ (nI_nlt (by omega) (by omega))) (fun _ => ?_)
      refine w273_44 l5 ?_
      refine w273_46 l3 ?_
      refine w273_47 ?_
      refine w273_48 ?_
      refine w273_49 ?_
      refine w273_50 (fun _ => ?_) (fun hQ => absurd hs1 hQ)
      refine w273_93 l5 ?_
      refine w273_96 ?_
      exact y0 (fun y => hs1 y.1.1) _ l0 l1 l2 l3 l4 (am_nx z)
  · intro x hx lv l0 l1 l2 l3 l4 l5
    have hxl : ∀ t, x = some t → t < 128 := fun t ht => by
      have := s_fw_lt (m_an I2 kp n b o true) (o + 1) t (by rw [← hx]; exact ht)
      omega
    rw [← hx] at kk
    cases x with
    | none =>
      refine w273_38 l5 ?_
      refine w273_40 l3 ?_
      refine w273_41 (fun _ => ?_) (fun hQ => absurd (nI_lt (by omega) (by omega)) hQ)
      refine w273_99 l4 ?_
      refine w273_101 ?_
      refine w273_102 (fun _ => ?_) (fun hQ => absurd rfl hQ)
      refine w273_110 l4 ?_
      refine w273_112 ?_
      refine w273_120 ?_
      exact kk
    | some t =>
      have ht := hxl t rfl
      rcases (show w = 0 ∨ w = 1 by omega) with rfl | rfl
      · refine w273_38 l5 ?_
        refine w273_40 l3 ?_
        refine w273_41 (fun _ => ?_) (fun hQ => absurd (nI_lt (by omega) (by omega)) hQ)
        refine w273_99 l4 ?_
        refine w273_101 ?_
        refine w273_102 (fun hQ => absurd hQ (nI_nm1 (by omega))) (fun _ => ?_)
        refine w273_105 l2 ?_
        refine w273_106 ?_
        refine w273_107 (fun _ => ?_) (fun hQ => absurd (by decide) hQ)
        refine w273_115 l4 ?_
        refine w273_117 (k := c191 ?_)
        rw [fw_on ht]
        refine w273_120 ?_
        exact kk
      · refine w273_38 l5 ?_
        refine w273_40 l3 ?_
        refine w273_41 (fun _ => ?_) (fun hQ => absurd (nI_lt (by omega) (by omega)) hQ)
        refine w273_99 l4 ?_
        refine w273_101 ?_
        refine w273_102 (fun hQ => absurd hQ (nI_nm1 (by omega))) (fun _ => ?_)
        refine w273_105 l2 ?_
        refine w273_106 ?_
        refine w273_107 (fun hQ => absurd hQ (fun y => y rfl)) (fun _ => ?_)
        refine w273_110 l4 ?_
        refine w273_112 ?_
        refine w273_120 ?_
        exact kk
theorem am_w1 (y : Int32) : (∃ w, w ≤ 1 ∧ y = nI w) ∨ ¬ (0 ≤ y ∧ y ≤ 1) := by
  by_cases h : 0 ≤ y ∧ y ≤ 1
  · obtain ⟨j, hj, e⟩ := nI_of2 (M := 1) (n := 1) (by decide) (Int32.not_lt.mpr h.1) h.2
    exact Or.inl ⟨j, hj, e⟩
  · exact Or.inr h
theorem am_ge5 {x : Int32} (h : ¬ (0 ≤ x ∧ x < 5)) : ¬ (0 ≤ x ∧ x ≤ 4) := fun q => h ⟨q.1, by have := q.2; simp only [Int32.lt_iff_toInt_lt, Int32.le_iff_toInt_le, ← Int32.toInt_inj, am_z0, am_z1, am_z2, am_z3, am_z4, am_z5, am_z6, am_z7, am_z8, am_z9, am_z10, am_z12, am_z16, am_z20, am_z99, am_z999, am_zm1, am_zo4, am_zo5, am_zo7] at *; omega⟩
theorem c135 (L : am_Lay S P) {x y : Int32} (h : am_ev pr d 136 [.ref 64, .int x, .int y, .int 0] (S, I, J, P) (fun r τ => ∃ v, r = some (.int v) ∧ Q (some (.int v)) τ)) : am_ev pr (d + 1) 135 [.ref 64, .int x, .int y] (S, I, J, P) Q := by
  show am_wp pr (d + 1) 135 0 [(0, .ref 64), (1, .int x), (2, .int y)] [] _ _
  refine w135_0 rfl ?_
  refine w135_1 rfl ?_
  refine w135_2 rfl ?_
  refine w135_3 ?_
  refine w135_4 (k := am_ev_mono h ?_)
  rintro _ ⟨S', I', J', P'⟩ ⟨v, rfl, h2⟩
  exact w135_7 h2
theorem c138 (L : am_Lay S P) {x y : Int32} (h : am_ev pr d 136 [.ref 64, .int x, .int y, .int 1] (S, I, J, P) (fun r τ => ∃ v, r = some (.int v) ∧ Q (some (.int v)) τ)) : am_ev pr (d + 1) 138 [.ref 64, .int x, .int y] (S, I, J, P) Q := by
  show am_wp pr (d + 1) 138 0 [(0, .ref 64), (1, .int x), (2, .int y)] [] _ _
  refine w138_0 rfl ?_
  refine w138_1 rfl ?_
  refine w138_2 rfl ?_
  refine w138_3 ?_
  refine w138_4 (k := am_ev_mono h ?_)
  rintro _ ⟨S', I', J', P'⟩ ⟨v, rfl, h2⟩
  exact w138_7 h2
theorem op_25 (r : am_R S I P n l s u tp) {x y : Int32} : am_op pr (d + 60) S I J P 135 [.ref 64, .int x, .int y] 272 [.ref 124, .int x, .int y] := by
  have hr := r.hr
  have n7 := hr.n7
  have L := r.L
  obtain ⟨lw, hx⟩ := r.lw
  rcases am_pk5 x with ⟨b, hb, rfl⟩ | hxx
  · rcases am_w1 y with ⟨w, hw, rfl⟩ | hyy
    · exact op_rd r hx (fun I2 => m_fwN I2 (I 126) n b w false) (fun Q k => c135 L (c136 (ord := false) L hr hx hb hw (fun I' J' v h1 h2 => ⟨v, rfl, k I' J' v h1 h2⟩))) (fun I1 J1 e Q k => c272 L e hr.kn n7 (hx.m hr.l6) hb hw k)
    · refine op_c r (-1) (fun Q k => c135 L (c136n (Or.inr hyy) ⟨_, rfl, k⟩)) (fun Q k => ?_)
      show am_wp pr (d + 60) 272 0 [(0, .ref 124), (1, .int (nI b)), (2, .int y)] [] _ _
      refine w272_0 rfl ?_
      refine w272_1 (k := c177b hb ?_)
      refine w272_4 (fun hQ => absurd hQ am_n01) (fun _ => ?_)
      refine w272_7 rfl ?_
      refine w272_8 ?_
      refine w272_9 ?_
      refine w272_10 (k := c164 ?_)
      rw [am_b_f hyy]
      refine w272_13 (fun hQ => absurd hQ (by decide)) (fun _ => ?_)
      refine w272_16 ?_
      refine w272_17 ?_
      exact k
  · refine op_c r (-1) (fun Q k => c135 L (c136n (Or.inl hxx) ⟨_, rfl, k⟩)) (fun Q k => ?_)
    show am_wp pr (d + 60) 272 0 [(0, .ref 124), (1, .int x), (2, .int y)] [] _ _
    refine w272_0 rfl ?_
    refine w272_1 (k := c177 ?_)
    rw [am_b_f (am_ge5 hxx)]
    refine w272_4 (fun _ => ?_) (fun hQ => absurd rfl hQ)
    refine w272_16 ?_
    refine w272_17 ?_
    exact k
theorem op_26 (r : am_R S I P n l s u tp) {x y : Int32} : am_op pr (d + 60) S I J P 138 [.ref 64, .int x, .int y] 273 [.ref 124, .int x, .int y] := by
  have hr := r.hr
  have n7 := hr.n7
  have L := r.L
  obtain ⟨lw, hx⟩ := r.lw
  rcases am_pk5 x with ⟨b, hb, rfl⟩ | hxx
  · rcases am_w1 y with ⟨w, hw, rfl⟩ | hyy
    · exact op_rd r hx (fun I2 => m_fwN I2 (I 126) n b w true) (fun Q k => c138 L (c136 (ord := true) L hr hx hb hw (fun I' J' v h1 h2 => ⟨v, rfl, k I' J' v h1 h2⟩))) (fun I1 J1 e Q k => c273 L e hr.kn n7 (hx.m hr.l6) hb hw k)
    · refine op_c r (-1) (fun Q k => c138 L (c136n (Or.inr hyy) ⟨_, rfl, k⟩)) (fun Q k => ?_)
      show am_wp pr (d + 60) 273 0 [(0, .ref 124), (1, .int (nI b)), (2, .int y)] [] _ _
      refine w273_0 rfl ?_
      refine w273_1 (k := c177b hb ?_)
      refine w273_4 (fun hQ => absurd hQ am_n01) (fun _ => ?_)
      refine w273_7 rfl ?_
      refine w273_8 ?_
      refine w273_9 ?_
      refine w273_10 (k := c164 ?_)
      rw [am_b_f hyy]
      refine w273_13 (fun hQ => absurd hQ (by decide)) (fun _ => ?_)
      refine w273_16 ?_
      refine w273_17 ?_
      exact k
  · refine op_c r (-1) (fun Q k => c138 L (c136n (Or.inl hxx) ⟨_, rfl, k⟩)) (fun Q k => ?_)
    show am_wp pr (d + 60) 273 0 [(0, .ref 124), (1, .int x), (2, .int y)] [] _ _
    refine w273_0 rfl ?_
    refine w273_1 (k := c177 ?_)
    rw [am_b_f (am_ge5 hxx)]
    refine w273_4 (fun _ => ?_) (fun hQ => absurd rfl hQ)
    refine w273_16 ?_
    refine w273_17 ?_
    exact k
end
