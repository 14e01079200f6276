/-! both sides' calls: powers -/
theorem sb_bit {x y : Int32} : x &&& (y ^^^ -1) = 0 ↔ ∀ j, j < 32 → am_bit x j = 1 → am_bit y j = 1 := by
  rw [show y ^^^ -1 = ~~~ y from Int32.xor_neg_one]
  constructor
  · intro h j hj h1
    apply Classical.byContradiction
    intro h2
    have : am_bit (x &&& ~~~ y) j = 1 := (am_bit_and hj).mpr ⟨h1, (am_bit_not hj).mpr h2⟩
    rw [h, am_bit_0] at this
    exact absurd this (by decide)
  · intro h
    apply am_bit_ext
    intro j hj
    rw [am_bit_and hj, am_bit_not hj, am_bit_0]
    exact ⟨fun z => absurd (h j hj z.1) z.2, fun z => absurd z (by decide)⟩
def pc (s : Nat) : Nat := (List.range 7).countP (fun m => decide (am_bit (nI s) m = 1))
theorem pc_ok : ∀ s, s < 128 → t_on (nI s) = nI (pc s) ∧ pc s ≤ 7 := by decide +kernel
theorem pc_le {s o : Nat} (h : ∀ j, j < 32 → am_bit (nI s) j = 1 → am_bit (nI o) j = 1) : pc s ≤ pc o := by
  unfold pc
  refine List.countP_mono_left (fun j hj => ?_)
  rw [List.mem_range] at hj
  intro z
  exact decide_eq_true (h j (by omega) (of_decide_eq_true z))
theorem sb_leb : (List.range 128).all (fun s => (List.range 128).all (fun o => !decide (nI s &&& (nI o ^^^ -1) = 0) || decide (s ≤ o))) = true := by decide +kernel
theorem sb_le (s : Nat) (hs : s < 128) (o : Nat) (ho : o < 128) (h : nI s &&& (nI o ^^^ -1) = 0) : s ≤ o := by
  have q := List.all_eq_true.mp (List.all_eq_true.mp sb_leb s (List.mem_range.mpr hs)) o (List.mem_range.mpr ho)
  rw [decide_eq_true h] at q
  simp only [Bool.not_true, Bool.false_or, decide_eq_true_eq] at q
  exact q
def wo_s (o m : Nat) : Int32 := nI o &&& (1 <<< (nI m &&& 31) ^^^ -1)
theorem pc_wob : (List.range 128).all (fun o => (List.range 7).all (fun m => !decide (am_bit (nI o) m = 1) || (decide ((wo_s o m).toNatClampNeg < 128) && decide (wo_s o m = nI ((wo_s o m).toNatClampNeg)) && decide (pc o = pc ((wo_s o m).toNatClampNeg) + 1)))) = true := by decide +kernel
theorem pc_wo (o : Nat) (ho : o < 128) (m : Nat) (hm : m < 7) (h : am_bit (nI o) m = 1) : ∃ o', o' < 128 ∧ nI o &&& (1 <<< (nI m &&& 31) ^^^ -1) = nI o' ∧ pc o = pc o' + 1 := by
  have q := List.all_eq_true.mp (List.all_eq_true.mp pc_wob o (List.mem_range.mpr ho)) m (List.mem_range.mpr hm)
  rw [decide_eq_true h] at q
  simp only [Bool.not_true, Bool.false_or, Bool.and_eq_true, decide_eq_true_eq] at q
  exact ⟨_, q.1.1, q.1.2, q.2⟩
theorem am_ones_n {s : Nat} (hs : s < 128) : t_on (nI s) = nI (pc s) := (pc_ok s hs).1
theorem t_fc_s : ∀ k, k < 7 → 1 ≤ k → t_fc k * nI (k + 1) = t_fc (k + 1) := by decide +kernel
/-- voices of a set with one more -/
theorem m_vo_1 {sp : Nat → Int32} {n m b : Nat} {X : Int32} (n7 : n ≤ 7) (hm : m < n) (h0 : ¬ am_bit X m = 1) : m_vo sp n b (X ||| 1 <<< (nI m &&& 31)) = m_vo sp n b X + sp (m * 5 + b) := by
  unfold m_vo
  have key := am_sum_wo (g := fun j => if am_bit (X ||| 1 <<< (nI m &&& 31)) j = 1 then sp (j * 5 + b) else 0) n hm
  rw [show am_it (fun j acc => acc + (if am_bit X j = 1 then sp (j * 5 + b) else 0)) n 0 = am_it (fun j acc => acc + (if j = m then 0 else (fun j => if am_bit (X ||| 1 <<< (nI m &&& 31)) j = 1 then sp (j * 5 + b) else 0) j)) n 0 from am_it_congr (fun j a hj => by
    congr 1
    by_cases z : j = m
    · rw [if_pos z, z, if_neg h0]
    · rw [if_neg z]
      refine am_if_c ?_ (fun _ => rfl)
      rw [am_bit_or (by omega), am_bit_sh1 (by omega) (by omega)]
      exact ⟨fun q => Or.inl q, fun q => q.elim id (fun y => absurd y z)⟩) _, key]
  have e : (if am_bit (X ||| 1 <<< (nI m &&& 31)) m = 1 then sp (m * 5 + b) else 0) = sp (m * 5 + b) := if_pos ((am_bit_or (by omega)).mpr (Or.inr ((am_bit_sh1 (by omega) (by omega)).mpr rfl)))
  show am_it _ n 0 = am_it _ n 0 - (if am_bit (X ||| 1 <<< (nI m &&& 31)) m = 1 then sp (m * 5 + b) else 0) + sp (m * 5 + b)
  rw [e]
  exact (Int32.sub_add_cancel _ _).symm
theorem m_vo_0 {sp : Nat → Int32} {n b : Nat} (n7 : n ≤ 7) : m_vo sp n b 0 = 0 := by
  unfold m_vo
  have : ∀ k, am_it (fun m acc => acc + (if am_bit 0 m = 1 then sp (m * 5 + b) else 0)) k 0 = 0 := by
    intro k
    induction k with
    | zero => rfl
    | succ k ih =>
      show am_it _ k 0 + (if am_bit 0 k = 1 then _ else _) = 0
      rw [ih, am_bit_0, if_neg (by decide)]
      rfl
  exact this n
/-- what a set tells of a member's power -/
def w_sw (sp : Nat → Int32) (n m b o : Nat) (ord : Bool) (nd : Int32) (s : Nat) : Int32 := if (nI s &&& (nI o ^^^ -1) = 0 ∧ ¬ am_bit (nI s) m = 1) ∧ m_vo sp n b (nI s) < nd ∧ nd ≤ m_vo sp n b (nI s) + sp (m * 5 + b) then (if ord = true then t_fc (pc s) * t_fc (pc o - 1 - pc s) else 1) else 0
def s_sw (sp : Nat → Int32) (n m b o : Nat) (ord : Bool) (nd : Int32) : Int32 := if am_bit (nI o) m = 1 then am_it (fun s acc => acc + w_sw sp n m b o ord nd s) (o + 1) 0 else 0
abbrev m_sw (I : Nat → Nat → Int32) (kp : Nat → Int32) (n m b : Nat) (ord : Bool) : Int32 := s_sw (I 138) n m b (m_of kp (I 140) n b (m_all n)).toNatClampNeg ord (t_nd (kp 72) (m_vN I kp n b))
theorem m_of_o {I : Nat → Nat → Int32} {kp : Nat → Int32} {n b : Nat} {lw : Option (List Cl)} (g : m_ld I kp n lw (n * 5)) (n7 : n ≤ 7) (hb : b < 5) (set : Int32) : ∃ o, o < 128 ∧ m_of kp (I 140) n b set = nI o ∧ (m_of kp (I 140) n b set).toNatClampNeg = o := by
  obtain ⟨o, h1, h2⟩ := am_set7 (x := m_of kp (I 140) n b set) (fun m q1 q2 => am_bit_n0.mp (fun z => absurd ((m_of_bit g n7 hb q2).mp z).1 (by omega)))
  exact ⟨o, h1, h2, by rw [h2]; exact am_clN (by omega)⟩
section
variable {pr : am_Pr} {d : Nat} {S : List (Nat × Nat)} {I : Nat → Nat → Int32} {J : Nat → Nat → Int64} {P : Nat → Nat → Option Nat} {Q : Option Value → am_H → Prop} {n l s u tp : Nat} {kp : Nat → Int32} {lw : Option (Nat × List Cl)} {lv0 : Option (List Cl)}
theorem b_onE {I I2 : Nat → Nat → Int32} {b : Nat} (h : t_B I kp n lv0 b) (g : m_ld I2 kp n lv0 (n * 5)) (n7 : n ≤ 7) (hb : b < 5) : I 113 b = m_of kp (I2 140) n b (m_all n) := by
  apply am_bit_ext
  intro m hm
  rw [h.2.2 m hm, m_of_bit g n7 hb hm]
  unfold m_all
  rw [am_bit_all n m n7 hm]
  exact ⟨fun z => ⟨z.1, z.1, z.2⟩, fun z => ⟨z.1, z.2.2⟩⟩
theorem m_ld_ex (kp : Nat → Int32) (n : Nat) (lw : Option (List Cl)) (z : Nat) : ∃ I2, m_ld I2 kp n lw z := by
  refine ⟨fun a j => if a = 138 then a_sp kp n lw (j / 5) (j % 5) else if a = 139 then a_va kp n lw (j / 5) (j % 5) else am_b (a_ba kp n lw (j / 5) (j % 5) = 1), fun q z hz _ => ?_⟩
  have e1 : (q * 5 + z) / 5 = q := by omega
  have e2 : (q * 5 + z) % 5 = z := by omega
  simp only [e1, e2]
  exact ⟨rfl, rfl, rfl⟩
/-- allOrders -/
theorem c270 {k0 : Nat} (h : k0 ≤ 7) (k : Q (some (.int (t_fc k0))) (S, I, J, P)) : am_ev pr d 270 [.int (nI k0)] (S, I, J, P) Q := by
  show am_wp pr d 270 0 [(0, .int (nI k0))] [] _ _
  refine w270_0 ?_
  refine w270_1 ?_
  refine w270_2 ?_
  refine w270_3 ?_
  have h1 : k0 ≤ 1 ∨ 2 ≤ k0 := by omega
  rcases h1 with h1 | h1
  · have e : t_fc k0 = 1 := by rcases (show k0 = 0 ∨ k0 = 1 by omega) with rfl | rfl <;> rfl
    rw [e] at k
    refine w270_4 rfl ?_
    refine w270_5 rfl ?_
    refine w270_6 (fun _ => ?_) (fun hQ => absurd (nI_lt (b := 2) (by omega) (by decide)) hQ)
    refine w270_19 rfl ?_
    refine w270_20 ?_
    exact k
  · refine am_for (fun j => ∀ lv, am_ld1 lv 0 = some (.int (nI k0)) → am_ld1 lv 1 = some (.int (t_fc (j + 1))) → am_ld1 lv 2 = some (.int (nI (j + 2))) → am_wp pr (d) 270 4 lv [] (S, I, J, P) Q) (k0 - 1) ?_ ?_ _ rfl rfl rfl
    · intro j hj ih lv l0 l1 l2
      have e := t_fc_s (j + 1) (by omega) (by omega)
      refine w270_4 l2 ?_
      refine w270_5 l0 ?_
      refine w270_6 (fun hQ => absurd hQ (nI_nlt (by omega) (by omega))) (fun _ => ?_)
      refine w270_9 l1 ?_
      refine w270_10 l2 ?_
      refine w270_11 ?_
      rw [e]
      refine w270_12 ?_
      refine w270_13 l2 ?_
      refine w270_16 ?_
      exact ih _ l0 rfl (am_nx (j + 2))
    · intro lv l0 l1 l2
      rw [show k0 - 1 + 1 = k0 by omega] at l1
      rw [show k0 - 1 + 2 = k0 + 1 by omega] at l2
      refine w270_4 l2 ?_
      refine w270_5 l0 ?_
      refine w270_6 (fun _ => ?_) (fun hQ => absurd (nI_lt (by omega) (by omega)) hQ)
      refine w270_19 l1 ?_
      refine w270_20 ?_
      exact k
/-- swings -/
theorem c132 (L : am_Lay S P) {m b : Nat} {ord : Bool} (hr : am_HR I 65 kp n l s) (hx : am_lw S I P (P 70) kp l (kp 76) lw) (hm : m < n) (hb : b < 5) (k : ∀ I' J' v, am_ps I I' → (∀ I2, m_ld I2 kp n (lw.map Prod.snd) (n * 5) → v = m_sw I2 kp n m b ord) → Q (some (.int v)) (S, I', J', P)) : am_ev pr (d + 6) 132 [.ref 64, .int (nI m), .int (nI b), .int (am_b (ord = true))] (S, I, J, P) Q := by
  have hh := L.h65
  have n7 := hr.n7
  have hm7 : m < 7 := by omega
  show am_wp pr (d + 6) 132 0 [(0, .ref 64), (1, .int (nI m)), (2, .int (nI b)), (3, .int (am_b (ord = true)))] [] _ _
  refine w132_0 rfl ?_
  refine w132_1 (L.2 _ _ _ rfl) ?_
  refine w132_4 rfl ?_
  refine w132_5 (k := c16 hh ?_)
  rw [hr.hn, am_mem7 hm n7]
  refine w132_8 (fun hQ => absurd hQ am_n01) (fun _ => ?_)
  refine w132_11 rfl ?_
  refine w132_12 (k := c18b hb ?_)
  refine w132_15 (fun _ => ?_) (fun hQ => absurd am_n01 hQ)
  refine w132_20 rfl ?_
  refine w132_21 rfl ?_
  refine w132_22 (k := c20 L hr hx hb (fun I1 J1 f1 f2 f3 f4 => ?_))
  obtain ⟨I0, g0⟩ := m_ld_ex kp n (lw.map Prod.snd) (n * 5)
  obtain ⟨o, ho, eo, -⟩ := m_of_o g0 n7 hb (m_all n)
  have e113 : I1 113 b = nI o := (b_onE f3 g0 n7 hb).trans eo
  have hoc : ∀ I2, m_ld I2 kp n (lw.map Prod.snd) (n * 5) → (m_of kp (I2 140) n b (m_all n)).toNatClampNeg = o := fun I2 g => by rw [← b_onE f3 g n7 hb, e113]; exact am_clN (by omega)
  have end_ : I1 109 2 = kp 72 := by rw [f2.2.2]; exact hr.tn
  have hvN : ∀ I2, m_ld I2 kp n (lw.map Prod.snd) (n * 5) → t_vo (I1 110) (nI o) b = m_vN I2 kp n b := fun I2 g => by rw [← e113]; exact b_on f3 g n7 hb
  by_cases hbit : am_bit (nI o) m = 1
  · have hmn : ∀ j, am_bit (nI o) j = 1 → j < 32 → j < n := fun j q hj => by rw [← e113] at q; exact ((f3.2.2 j hj).mp q).1
    obtain ⟨o', ho', eo', epc⟩ := pc_wo o ho m hm7 hbit
    have hnd : ∀ I2, m_ld I2 kp n (lw.map Prod.snd) (n * 5) → t_nd (I1 109 2) (t_vo (I1 110) (nI o) b) = t_nd (kp 72) (m_vN I2 kp n b) := fun I2 g => by rw [end_, hvN I2 g]
    have hvs : ∀ I2, m_ld I2 kp n (lw.map Prod.snd) (n * 5) → ∀ X : Int32, (∀ j, j < 7 → am_bit X j = 1 → j < n) → t_vo (I1 110) X b = m_vo (I2 138) n b X := fun I2 g X hX => b_vo n7 (fun q hq => by rw [(f3.1 q hq).1, g.sp hb hq]) (fun j hj => ⟨fun z => ⟨hX j hj z, z⟩, fun z => z.2⟩)
    have hown : ∀ I2, m_ld I2 kp n (lw.map Prod.snd) (n * 5) → t_vo (I1 110) (1 <<< (nI m &&& 31)) b = I2 138 (m * 5 + b) := fun I2 g => by
      rw [hvs I2 g _ (fun j hj z => by rw [am_bit_sh1 (by omega) (by omega)] at z; omega)]
      have := m_vo_1 (sp := I2 138) (b := b) (X := 0) n7 hm (by rw [am_bit_0]; decide)
      rw [Int32.zero_or, m_vo_0 n7, Int32.zero_add] at this
      exact this
    have sub : ∀ z, z < 128 → (nI z &&& (nI o' ^^^ -1) = 0 ↔ nI z &&& (nI o ^^^ -1) = 0 ∧ ¬ am_bit (nI z) m = 1) := by
      intro z hz
      rw [sb_bit, sb_bit]
      have e : ∀ j, j < 32 → (am_bit (nI o') j = 1 ↔ am_bit (nI o) j = 1 ∧ ¬ j = m) := fun j hj => by
        rw [← eo', am_bit_and hj, show (1 <<< (nI m &&& 31) ^^^ -1 : Int32) = ~~~ (1 <<< (nI m &&& 31)) from Int32.xor_neg_one, am_bit_not hj, am_bit_sh1 (by omega) hj]
      constructor
      · intro q
        exact ⟨fun j hj y => ((e j hj).mp (q j hj y)).1, fun y => ((e m (by omega)).mp (q m (by omega) y)).2 rfl⟩
      · rintro ⟨q1, q2⟩ j hj y
        exact (e j hj).mpr ⟨q1 j hj y, fun w => q2 (by rw [← w]; exact y)⟩
    generalize hnde : t_nd (I1 109 2) (t_vo (I1 110) (nI o) b) = nd at *
    generalize howe : t_vo (I1 110) (1 <<< (nI m &&& 31)) b = ow at *
    refine w132_25 rfl ?_
    refine w132_26 (L.2 _ _ _ rfl) ?_
    refine w132_29 (L.2 _ _ _ rfl) ?_
    refine w132_32 rfl ?_
    refine w132_33 (L.sh rfl) (am_inB hb) ?_
    rw [am_clB hb, e113]
    refine w132_34 ?_
    refine w132_36 rfl ?_
    refine w132_38 rfl ?_
    refine w132_39 (k := c17b ?_)
    rw [hbit]
    refine w132_42 (fun _ => ?_) (fun hQ => absurd am_n01 hQ)
    refine w132_47 rfl ?_
    refine w132_49 ?_
    refine w132_50 rfl ?_
    refine w132_51 ?_
    refine w132_52 ?_
    refine w132_53 ?_
    refine w132_54 ?_
    rw [eo']
    refine w132_55 ?_
    refine w132_57 rfl ?_
    refine w132_59 (k := c23 ho' ?_)
    rw [am_ones_n ho']
    refine w132_62 ?_
    refine w132_64 rfl ?_
    refine w132_65 (L.2 _ _ _ rfl) ?_
    refine w132_68 rfl ?_
    refine w132_69 rfl ?_
    refine w132_71 (k := c32 L hb ?_)
    rw [hnde]
    refine w132_74 ?_
    refine w132_76 rfl ?_
    refine w132_77 (L.2 _ _ _ rfl) ?_
    refine w132_80 rfl ?_
    refine w132_81 ?_
    refine w132_82 rfl ?_
    refine w132_83 ?_
    refine w132_84 (k := c31 L hb ?_)
    rw [howe]
    refine w132_87 ?_
    refine w132_89 ?_
    refine w132_90 ?_
    refine w132_92 ?_
    refine w132_93 ?_
    have fin : ∀ v, (∀ I2, m_ld I2 kp n (lw.map Prod.snd) (n * 5) → v = am_it (fun z acc => acc + w_sw (I2 138) n m b o ord nd z) 128 0) → Q (some (.int v)) (S, I1, J1, P) := by
      intro v hv
      refine k I1 J1 v f1.ps (fun I2 g => ?_)
      rw [hv I2 g]
      unfold m_sw
      rw [hoc I2 g, ← hnd I2 g]
      unfold s_sw
      rw [if_pos hbit]
      refine am_sum_cut (fun _ _ => rfl) 128 (by omega) (fun z h1 h2 => if_neg (fun q => ?_))
      exact absurd (sb_le z h2 o ho q.1.1) (by omega)
    refine am_for (fun z => ∀ acc, (∀ I2, m_ld I2 kp n (lw.map Prod.snd) (n * 5) → acc = am_it (fun z acc => acc + w_sw (I2 138) n m b o ord nd z) z 0) → ∀ lv, am_ld1 lv 0 = some (.ref 64) → am_ld1 lv 1 = some (.int (nI m)) → am_ld1 lv 2 = some (.int (nI b)) → am_ld1 lv 3 = some (.int (am_b (ord = true))) → am_ld1 lv 5 = some (.int (nI o')) → am_ld1 lv 6 = some (.int (nI (pc o'))) → am_ld1 lv 7 = some (.int nd) → am_ld1 lv 8 = some (.int ow) → am_ld1 lv 9 = some (.int acc) → am_ld1 lv 10 = some (.int (nI z)) → am_wp pr (d + 6) 132 95 lv [] (S, I1, J1, P) Q) 128 ?_ ?_ 0 (fun _ _ => rfl) _ rfl rfl rfl rfl rfl rfl rfl rfl rfl rfl
    · intro z hz ih acc ha lv l0 l1 l2 l3 l5 l6 l7 l8 l9 l10
      by_cases hs : nI z &&& (nI o' ^^^ -1) = 0
      · have hsub := (sub z hz).mp hs
        have hle : pc z ≤ pc o' := pc_le (sb_bit.mp hs)
        have hp7 := (pc_ok o ho).2
        have hvz := fun I2 g => hvs I2 g (nI z) (fun j hj y => hmn j (sb_bit.mp hsub.1 j (by omega) y) (by omega))
        have yes : t_vo (I1 110) (nI z) b < nd → nd ≤ t_vo (I1 110) (nI z) b + ow → ∀ I2, m_ld I2 kp n (lw.map Prod.snd) (n * 5) → acc + (if ord = true then t_fc (pc z) * t_fc (pc o' - pc z) else 1) = am_it (fun z acc => acc + w_sw (I2 138) n m b o ord nd z) (z + 1) 0 := by
          intro q1 q2 I2 g
          show _ = am_it _ z 0 + w_sw _ _ _ _ _ _ _ z
          have hw : w_sw (I2 138) n m b o ord nd z = (if ord = true then t_fc (pc z) * t_fc (pc o - 1 - pc z) else 1) := if_pos ⟨hsub, by rw [← hvz I2 g]; exact q1, by rw [← hvz I2 g, ← hown I2 g]; exact q2⟩
          rw [← ha I2 g, hw, epc, Nat.add_sub_cancel]
        have no : ¬ (t_vo (I1 110) (nI z) b < nd ∧ nd ≤ t_vo (I1 110) (nI z) b + ow) → ∀ I2, m_ld I2 kp n (lw.map Prod.snd) (n * 5) → acc = am_it (fun z acc => acc + w_sw (I2 138) n m b o ord nd z) (z + 1) 0 := by
          intro q1 I2 g
          show _ = am_it _ z 0 + w_sw _ _ _ _ _ _ _ z
          have hw : w_sw (I2 138) n m b o ord nd z = 0 := if_neg (fun y => q1 ⟨by rw [hvz I2 g]; exact y.2.1, by rw [hvz I2 g, hown I2 g]; exact y.2.2⟩)
          rw [← ha I2 g, hw, Int32.add_zero]
        cases ord with
        | true =>
          refine w132_95 l10 ?_
          refine w132_97 ?_
          refine w132_100 (fun hQ => absurd hQ (am_nlt hz (by decide))) (fun _ => ?_)
          refine w132_103 l10 ?_
          refine w132_105 l5 ?_
          refine w132_107 ?_
          refine w132_108 ?_
          refine w132_109 ?_
          refine w132_110 (fun hQ => absurd hQ (fun y => y hs)) (fun _ => ?_)
          refine w132_113 l0 ?_
          refine w132_114 (L.2 _ _ _ rfl) ?_
          refine w132_117 l2 ?_
          refine w132_118 l10 ?_
          refine w132_120 (k := c31 L hb ?_)
          refine w132_123 ?_
          refine w132_128 ?_
          refine w132_130 rfl ?_
          refine w132_132 l7 ?_
          refine w132_134 (fun h134 => ?_) (fun h134 => ?_)
          · refine w132_170 l10 ?_
            refine w132_173 ?_
            first | exact ih _ (yes h134 h144) _ l0 l1 l2 l3 l5 l6 l7 l8 l9 (am_nx z) | exact ih _ (no (fun y => absurd y.2 (Int32.not_le.mpr h144))) _ l0 l1 l2 l3 l5 l6 l7 l8 l9 (am_nx z) | exact ih _ (no (fun y => absurd y.1 (Int32.not_lt.mpr h134))) _ l0 l1 l2 l3 l5 l6 l7 l8 l9 (am_nx z)
          · replace h134 := Int32.not_le.mp h134
            refine w132_137 rfl ?_
            refine w132_139 l8 ?_
            refine w132_141 ?_
            refine w132_142 l7 ?_
            refine w132_144 (fun h144 => ?_) (fun h144 => ?_)
            · refine w132_170 l10 ?_
              refine w132_173 ?_
              first | exact ih _ (yes h134 h144) _ l0 l1 l2 l3 l5 l6 l7 l8 l9 (am_nx z) | exact ih _ (no (fun y => absurd y.2 (Int32.not_le.mpr h144))) _ l0 l1 l2 l3 l5 l6 l7 l8 l9 (am_nx z) | exact ih _ (no (fun y => absurd y.1 (Int32.not_lt.mpr h134))) _ l0 l1 l2 l3 l5 l6 l7 l8 l9 (am_nx z)
            · replace h144 := Int32.not_lt.mp h144
              refine w132_147 l9 ?_
              refine w132_149 l3 ?_
              refine w132_150 (fun hQ => absurd hQ (by decide)) (fun _ => ?_)
              refine w132_153 l10 ?_
              refine w132_155 (k := c23 hz ?_)
              rw [am_ones_n hz]
              refine w132_158 l6 ?_
              refine w132_160 (k := c133 hle (by omega) ?_)
              refine w132_163 ?_
              refine w132_167 ?_
              refine w132_168 ?_
              refine w132_170 l10 ?_
              refine w132_173 ?_
              first | exact ih _ (yes h134 h144) _ l0 l1 l2 l3 l5 l6 l7 l8 rfl (am_nx z) | exact ih _ (no (fun y => absurd y.2 (Int32.not_le.mpr h144))) _ l0 l1 l2 l3 l5 l6 l7 l8 rfl (am_nx z) | exact ih _ (no (fun y => absurd y.1 (Int32.not_lt.mpr h134))) _ l0 l1 l2 l3 l5 l6 l7 l8 rfl (am_nx z)
        | false =>
          refine w132_95 l10 ?_
          refine w132_97 ?_
          refine w132_100 (fun hQ => absurd hQ (am_nlt hz (by decide))) (fun _ => ?_)
          refine w132_103 l10 ?_
          refine w132_105 l5 ?_
          refine w132_107 ?_
          refine w132_108 ?_
          refine w132_109 ?_
          refine w132_110 (fun hQ => absurd hQ (fun y => y hs)) (fun _ => ?_)
          refine w132_113 l0 ?_
          refine w132_114 (L.2 _ _ _ rfl) ?_
          refine w132_117 l2 ?_
          refine w132_118 l10 ?_
          refine w132_120 (k := c31 L hb ?_)
          refine w132_123 ?_
          refine w132_128 ?_
          refine w132_130 rfl ?_
          refine w132_132 l7 ?_
          refine w132_134 (fun h134 => ?_) (fun h134 => ?_)
          · refine w132_170 l10 ?_
            refine w132_173 ?_
            first | exact ih _ (yes h134 h144) _ l0 l1 l2 l3 l5 l6 l7 l8 l9 (am_nx z) | exact ih _ (no (fun y => absurd y.2 (Int32.not_le.mpr h144))) _ l0 l1 l2 l3 l5 l6 l7 l8 l9 (am_nx z) | exact ih _ (no (fun y => absurd y.1 (Int32.not_lt.mpr h134))) _ l0 l1 l2 l3 l5 l6 l7 l8 l9 (am_nx z)
          · replace h134 := Int32.not_le.mp h134
            refine w132_137 rfl ?_
            refine w132_139 l8 ?_
            refine w132_141 ?_
            refine w132_142 l7 ?_
            refine w132_144 (fun h144 => ?_) (fun h144 => ?_)
            · refine w132_170 l10 ?_
              refine w132_173 ?_
              first | exact ih _ (yes h134 h144) _ l0 l1 l2 l3 l5 l6 l7 l8 l9 (am_nx z) | exact ih _ (no (fun y => absurd y.2 (Int32.not_le.mpr h144))) _ l0 l1 l2 l3 l5 l6 l7 l8 l9 (am_nx z) | exact ih _ (no (fun y => absurd y.1 (Int32.not_lt.mpr h134))) _ l0 l1 l2 l3 l5 l6 l7 l8 l9 (am_nx z)
            · replace h144 := Int32.not_lt.mp h144
              refine w132_147 l9 ?_
              refine w132_149 l3 ?_
              refine w132_150 (fun _ => ?_) (fun hQ => absurd rfl hQ)
              refine w132_166 ?_
              refine w132_167 ?_
              refine w132_168 ?_
              refine w132_170 l10 ?_
              refine w132_173 ?_
              first | exact ih _ (yes h134 h144) _ l0 l1 l2 l3 l5 l6 l7 l8 rfl (am_nx z) | exact ih _ (no (fun y => absurd y.2 (Int32.not_le.mpr h144))) _ l0 l1 l2 l3 l5 l6 l7 l8 rfl (am_nx z) | exact ih _ (no (fun y => absurd y.1 (Int32.not_lt.mpr h134))) _ l0 l1 l2 l3 l5 l6 l7 l8 rfl (am_nx z)
      · have no : ∀ I2, m_ld I2 kp n (lw.map Prod.snd) (n * 5) → acc = am_it (fun z acc => acc + w_sw (I2 138) n m b o ord nd z) (z + 1) 0 := by
          intro I2 g
          show _ = am_it _ z 0 + w_sw _ _ _ _ _ _ _ z
          have hw : w_sw (I2 138) n m b o ord nd z = 0 := if_neg (fun y => hs ((sub z hz).mpr y.1))
          rw [← ha I2 g, hw, Int32.add_zero]
        refine w132_95 l10 ?_
        refine w132_97 ?_
        refine w132_100 (fun hQ => absurd hQ (am_nlt hz (by decide))) (fun _ => ?_)
        refine w132_103 l10 ?_
        refine w132_105 l5 ?_
        refine w132_107 ?_
        refine w132_108 ?_
        refine w132_109 ?_
        refine w132_110 (fun _ => ?_) (fun hQ => absurd hs hQ)
        refine w132_126 l7 ?_
        refine w132_128 ?_
        refine w132_130 rfl ?_
        refine w132_132 l7 ?_
        refine w132_134 (fun _ => ?_) (fun hQ => absurd (Int32.le_refl _) hQ)
        refine w132_170 l10 ?_
        refine w132_173 ?_
        exact ih _ no _ l0 l1 l2 l3 l5 l6 l7 l8 l9 (am_nx z)
    · intro acc ha lv l0 l1 l2 l3 l5 l6 l7 l8 l9 l10
      refine w132_95 l10 ?_
      refine w132_97 ?_
      refine w132_100 (fun _ => ?_) (fun hQ => absurd (Int32.le_refl _) hQ)
      refine w132_176 l9 ?_
      refine w132_178 ?_
      exact fin _ ha
  · refine w132_25 rfl ?_
    refine w132_26 (L.2 _ _ _ rfl) ?_
    refine w132_29 (L.2 _ _ _ rfl) ?_
    refine w132_32 rfl ?_
    refine w132_33 (L.sh rfl) (am_inB hb) ?_
    rw [am_clB hb, e113]
    refine w132_34 ?_
    refine w132_36 rfl ?_
    refine w132_38 rfl ?_
    refine w132_39 (k := c17b ?_)
    rw [am_bit_n0.mp hbit]
    refine w132_42 (fun hQ => absurd hQ (fun y => y rfl)) (fun _ => ?_)
    refine w132_45 ?_
    refine w132_46 ?_
    refine k I1 J1 _ f1.ps (fun I2 g => ?_)
    unfold m_sw s_sw
    rw [hoc I2 g, if_neg hbit]
/-- decides -/
theorem c269 (L : am_Lay S P) {m b : Nat} {ord : Bool} (hk : I 126 = kp) (hn : kp 73 = nI n) (n7 : n ≤ 7) (hlw : m_lw kp lv0) (hm : m < n) (hb : b < 5) (k : ∀ I2, am_ps I I2 → m_ld I2 kp n lv0 (n * 5) → Q (some (.int (m_sw I2 kp n m b ord))) (S, I2, J, P)) : am_ev pr (d + 45) 269 [.ref 124, .int (nI m), .int (nI b), .int (am_b (ord = true))] (S, I, J, P) Q := by
  have hm7 : m < 7 := by omega
  show am_wp pr (d + 45) 269 0 [(0, .ref 124), (1, .int (nI m)), (2, .int (nI b)), (3, .int (am_b (ord = true)))] [] _ _
  refine w269_0 rfl ?_
  refine w269_1 rfl ?_
  refine w269_2 (k := c174 L (by rw [hk]; exact hn) n7 ?_)
  rw [am_memn hm n7]
  refine w269_5 (fun hQ => absurd hQ am_n01) (fun _ => ?_)
  refine w269_8 rfl ?_
  refine w269_9 (k := c177b hb ?_)
  refine w269_12 (fun _ => ?_) (fun hQ => absurd am_n01 hQ)
  refine w269_17 rfl ?_
  refine w269_18 (k := c178 L hk hn n7 hlw (fun I2 f2 g => ?_))
  have e126 : I2 126 = kp := by rw [f2.1 126 (by decide) (by decide) (by decide) (by decide) (by decide)]; exact hk
  have hn2 : I2 126 73 = nI n := by rw [e126]; exact hn
  have kk := k I2 f2.ps g
  obtain ⟨o, ho, eo, eoc⟩ := m_of_o g n7 hb (m_all n)
  unfold m_sw at kk
  rw [eoc] at kk
  have e72 : I2 126 72 = kp 72 := by rw [e126]
  refine w269_21 rfl ?_
  refine w269_22 rfl ?_
  refine w269_23 rfl ?_
  refine w269_24 (k := c200 L ?_)
  rw [hn2]
  refine w269_27 (k := c204 L hn2 n7 hb ?_)
  rw [e126, show m_of kp (I2 140) n b (1 <<< (nI n &&& 31) - 1) = nI o from eo]
  refine w269_30 ?_
  refine w269_32 rfl ?_
  refine w269_33 rfl ?_
  refine w269_34 rfl ?_
  refine w269_35 (k := c200 L ?_)
  rw [hn2]
  refine w269_38 (k := c205 L hn2 n7 hb ?_)
  rw [e126]
  refine w269_41 ?_
  generalize hnde : t_nd (kp 72) (m_vo (I2 138) n b (m_of kp (I2 140) n b (1 <<< (nI n &&& 31) - 1))) = nd at *
  have kk2 : Q (some (.int (s_sw (I2 138) n m b o ord nd))) (S, I2, J, P) := by rw [← hnde]; exact kk
  unfold s_sw at kk2
  by_cases hbit : am_bit (nI o) m = 1
  · rw [if_pos hbit] at kk2
    refine w269_43 rfl ?_
    refine w269_45 rfl ?_
    refine w269_46 (k := c182 ?_)
    rw [am_b_t hbit]
    refine w269_49 (fun _ => ?_) (fun hQ => absurd am_n01 hQ)
    refine w269_54 ?_
    refine w269_55 ?_
    refine w269_57 ?_
    refine w269_58 ?_
    refine am_loop (fun z acc => acc + w_sw (I2 138) n m b o ord nd z) (fun z acc => ∀ lv, am_ld1 lv 0 = some (.ref 124) → am_ld1 lv 1 = some (.int (nI m)) → am_ld1 lv 2 = some (.int (nI b)) → am_ld1 lv 3 = some (.int (am_b (ord = true))) → am_ld1 lv 4 = some (.int (nI o)) → am_ld1 lv 5 = some (.int nd) → am_ld1 lv 6 = some (.int acc) → am_ld1 lv 7 = some (.int (nI z)) → am_wp pr (d + 45) 269 60 lv [] (S, I2, J, P) Q) (o + 1) ?_ 0 ?_ _ rfl rfl rfl rfl rfl rfl rfl rfl
    · intro z acc hz ih lv l0 l1 l2 l3 l4 l5 l6 l7
      have hz2 : z < 128 := by omega
      by_cases hs : nI z &&& (nI o ^^^ -1) = 0 ∧ ¬ am_bit (nI z) m = 1
      · have hp7 := (pc_ok o ho).2
        obtain ⟨o', ho', eo', epc⟩ := pc_wo o ho m hm7 hbit
        have hle : pc z ≤ pc o' := pc_le (fun j hj y => by
          rw [← eo', am_bit_and hj, show (1 <<< (nI m &&& 31) ^^^ -1 : Int32) = ~~~ (1 <<< (nI m &&& 31)) from Int32.xor_neg_one, am_bit_not hj, am_bit_sh1 (by omega) hj]
          exact ⟨sb_bit.mp hs.1 j hj y, fun w => hs.2 (by rw [← w]; exact y)⟩)
        have ev := m_vo_1 (sp := I2 138) (b := b) n7 hm hs.2
        have e1 : nI (pc o) - 1 - nI (pc z) = nI (pc o - 1 - pc z) := by rw [nI_sub1 (by omega), am_nsub (by omega)]
        have yes : m_vo (I2 138) n b (nI z) < nd → nd ≤ m_vo (I2 138) n b (nI z) + I2 138 (m * 5 + b) → w_sw (I2 138) n m b o ord nd z = (if ord = true then t_fc (pc z) * t_fc (pc o - 1 - pc z) else 1) := fun q1 q2 => if_pos ⟨hs, q1, q2⟩
        have no : ¬ (m_vo (I2 138) n b (nI z) < nd ∧ nd ≤ m_vo (I2 138) n b (nI z) + I2 138 (m * 5 + b)) → w_sw (I2 138) n m b o ord nd z = 0 := fun q => if_neg (fun y => q y.2)
        have y1 : m_vo (I2 138) n b (nI z) < nd → nd ≤ m_vo (I2 138) n b (nI z) + I2 138 (m * 5 + b) → ∀ lv, am_ld1 lv 0 = some (.ref 124) → am_ld1 lv 1 = some (.int (nI m)) → am_ld1 lv 2 = some (.int (nI b)) → am_ld1 lv 3 = some (.int (am_b (ord = true))) → am_ld1 lv 4 = some (.int (nI o)) → am_ld1 lv 5 = some (.int nd) → am_ld1 lv 6 = some (.int (acc + (if ord = true then t_fc (pc z) * t_fc (pc o - 1 - pc z) else 1))) → am_ld1 lv 7 = some (.int (nI (z + 1))) → am_wp pr (d + 45) 269 60 lv [] (S, I2, J, P) Q := fun q1 q2 => by rw [yes q1 q2] at ih; exact ih
        have y0 : ¬ (m_vo (I2 138) n b (nI z) < nd ∧ nd ≤ m_vo (I2 138) n b (nI z) + I2 138 (m * 5 + b)) → ∀ lv, am_ld1 lv 0 = some (.ref 124) → am_ld1 lv 1 = some (.int (nI m)) → am_ld1 lv 2 = some (.int (nI b)) → am_ld1 lv 3 = some (.int (am_b (ord = true))) → am_ld1 lv 4 = some (.int (nI o)) → am_ld1 lv 5 = some (.int nd) → am_ld1 lv 6 = some (.int (acc + 0)) → am_ld1 lv 7 = some (.int (nI (z + 1))) → am_wp pr (d + 45) 269 60 lv [] (S, I2, J, P) Q := fun q => by rw [no q] at ih; exact ih
        by_cases q1 : m_vo (I2 138) n b (nI z) < nd
        · by_cases q2 : nd ≤ m_vo (I2 138) n b (nI z) + I2 138 (m * 5 + b)
          · cases ord with
            | true =>
              refine w269_60 l7 ?_
              refine w269_62 l4 ?_
              refine w269_64 (fun hQ => absurd hQ (nI_nlt (by omega) (by omega))) (fun _ => ?_)
              refine w269_67 l7 ?_
              refine w269_69 l4 ?_
              refine w269_71 ?_
              refine w269_72 ?_
              refine w269_73 ?_
              refine w269_74 (fun hQ => absurd hQ (fun y => y hs.1)) (fun _ => ?_)
              refine w269_77 l7 ?_
              refine w269_79 l1 ?_
              refine w269_80 (k := c182 ?_)
              rw [am_b_f hs.2]
              refine w269_83 (fun _ => ?_) (fun hQ => absurd rfl hQ)
              refine w269_89 l0 ?_
              refine w269_90 l2 ?_
              refine w269_91 l7 ?_
              refine w269_93 (k := c202 L hn2 n7 hb ?_)
              refine w269_96 l5 ?_
              refine w269_98 (fun hQ => absurd hQ (fun q => absurd q1 (Int32.not_lt.mpr q))) (fun _ => ?_)
              refine w269_101 l0 ?_
              refine w269_102 l2 ?_
              refine w269_103 l7 ?_
              refine w269_105 ?_
              refine w269_106 l1 ?_
              refine w269_107 ?_
              refine w269_108 ?_
              refine w269_109 (k := c202 L hn2 n7 hb ?_)
              rw [ev]
              refine w269_112 l5 ?_
              refine w269_114 (fun hQ => absurd hQ (fun q => absurd q2 (Int32.not_le.mpr q))) (fun _ => ?_)
              refine w269_117 ?_
              refine w269_118 ?_
              refine w269_122 ?_
              refine w269_124 l3 ?_
              refine w269_125 (fun hQ => absurd hQ (by decide)) (fun _ => ?_)
              refine w269_128 l7 ?_
              refine w269_130 (k := c191 ?_)
              rw [am_ones_n hz2]
              refine w269_133 (k := c270 (by omega) ?_)
              refine w269_136 l4 ?_
              refine w269_138 (k := c191 ?_)
              rw [am_ones_n ho]
              refine w269_141 ?_
              refine w269_142 ?_
              refine w269_143 l7 ?_
              refine w269_145 (k := c191 ?_)
              rw [am_ones_n hz2]
              refine w269_148 ?_
              rw [e1]
              refine w269_149 (k := c270 (by omega) ?_)
              refine w269_152 ?_
              refine w269_153 ?_
              refine w269_157 ?_
              refine w269_159 l6 ?_
              refine w269_161 rfl ?_
              refine w269_163 (fun hQ => absurd hQ (by decide)) (fun _ => ?_)
              refine w269_166 rfl ?_
              refine w269_168 ?_
              refine w269_172 ?_
              refine w269_173 ?_
              refine w269_175 l7 ?_
              refine w269_178 ?_
              exact y1 q1 q2 _ l0 l1 l2 l3 l4 l5 rfl (am_nx z)
            | false =>
              refine w269_60 l7 ?_
              refine w269_62 l4 ?_
              refine w269_64 (fun hQ => absurd hQ (nI_nlt (by omega) (by omega))) (fun _ => ?_)
              refine w269_67 l7 ?_
              refine w269_69 l4 ?_
              refine w269_71 ?_
              refine w269_72 ?_
              refine w269_73 ?_
              refine w269_74 (fun hQ => absurd hQ (fun y => y hs.1)) (fun _ => ?_)
              refine w269_77 l7 ?_
              refine w269_79 l1 ?_
              refine w269_80 (k := c182 ?_)
              rw [am_b_f hs.2]
              refine w269_83 (fun _ => ?_) (fun hQ => absurd rfl hQ)
              refine w269_89 l0 ?_
              refine w269_90 l2 ?_
              refine w269_91 l7 ?_
              refine w269_93 (k := c202 L hn2 n7 hb ?_)
              refine w269_96 l5 ?_
              refine w269_98 (fun hQ => absurd hQ (fun q => absurd q1 (Int32.not_lt.mpr q))) (fun _ => ?_)
              refine w269_101 l0 ?_
              refine w269_102 l2 ?_
              refine w269_103 l7 ?_
              refine w269_105 ?_
              refine w269_106 l1 ?_
              refine w269_107 ?_
              refine w269_108 ?_
              refine w269_109 (k := c202 L hn2 n7 hb ?_)
              rw [ev]
              refine w269_112 l5 ?_
              refine w269_114 (fun hQ => absurd hQ (fun q => absurd q2 (Int32.not_le.mpr q))) (fun _ => ?_)
              refine w269_117 ?_
              refine w269_118 ?_
              refine w269_122 ?_
              refine w269_124 l3 ?_
              refine w269_125 (fun _ => ?_) (fun hQ => absurd rfl hQ)
              refine w269_156 ?_
              refine w269_157 ?_
              refine w269_159 l6 ?_
              refine w269_161 rfl ?_
              refine w269_163 (fun hQ => absurd hQ (by decide)) (fun _ => ?_)
              refine w269_166 rfl ?_
              refine w269_168 ?_
              refine w269_172 ?_
              refine w269_173 ?_
              refine w269_175 l7 ?_
              refine w269_178 ?_
              exact y1 q1 q2 _ l0 l1 l2 l3 l4 l5 rfl (am_nx z)
          · cases ord with
            | true =>
              refine w269_60 l7 ?_
              refine w269_62 l4 ?_
              refine w269_64 (fun hQ => absurd hQ (nI_nlt (by omega) (by omega))) (fun _ => ?_)
              refine w269_67 l7 ?_
              refine w269_69 l4 ?_
              refine w269_71 ?_
              refine w269_72 ?_
              refine w269_73 ?_
              refine w269_74 (fun hQ => absurd hQ (fun y => y hs.1)) (fun _ => ?_)
              refine w269_77 l7 ?_
              refine w269_79 l1 ?_
              refine w269_80 (k := c182 ?_)
              rw [am_b_f hs.2]
              refine w269_83 (fun _ => ?_) (fun hQ => absurd rfl hQ)
              refine w269_89 l0 ?_
              refine w269_90 l2 ?_
              refine w269_91 l7 ?_
              refine w269_93 (k := c202 L hn2 n7 hb ?_)
              refine w269_96 l5 ?_
              refine w269_98 (fun hQ => absurd hQ (fun q => absurd q1 (Int32.not_lt.mpr q))) (fun _ => ?_)
              refine w269_101 l0 ?_
              refine w269_102 l2 ?_
              refine w269_103 l7 ?_
              refine w269_105 ?_
              refine w269_106 l1 ?_
              refine w269_107 ?_
              refine w269_108 ?_
              refine w269_109 (k := c202 L hn2 n7 hb ?_)
              rw [ev]
              refine w269_112 l5 ?_
              refine w269_114 (fun _ => ?_) (fun hQ => absurd (Int32.not_le.mp q2) hQ)
              refine w269_121 ?_
              refine w269_122 ?_
              refine w269_124 l3 ?_
              refine w269_125 (fun hQ => absurd hQ (by decide)) (fun _ => ?_)
              refine w269_128 l7 ?_
              refine w269_130 (k := c191 ?_)
              rw [am_ones_n hz2]
              refine w269_133 (k := c270 (by omega) ?_)
              refine w269_136 l4 ?_
              refine w269_138 (k := c191 ?_)
              rw [am_ones_n ho]
              refine w269_141 ?_
              refine w269_142 ?_
              refine w269_143 l7 ?_
              refine w269_145 (k := c191 ?_)
              rw [am_ones_n hz2]
              refine w269_148 ?_
              rw [e1]
              refine w269_149 (k := c270 (by omega) ?_)
              refine w269_152 ?_
              refine w269_153 ?_
              refine w269_157 ?_
              refine w269_159 l6 ?_
              refine w269_161 rfl ?_
              refine w269_163 (fun _ => ?_) (fun hQ => absurd rfl hQ)
              refine w269_171 ?_
              refine w269_172 ?_
              refine w269_173 ?_
              refine w269_175 l7 ?_
              refine w269_178 ?_
              exact y0 (fun y => q2 y.2) _ l0 l1 l2 l3 l4 l5 rfl (am_nx z)
            | false =>
              refine w269_60 l7 ?_
              refine w269_62 l4 ?_
              refine w269_64 (fun hQ => absurd hQ (nI_nlt (by omega) (by omega))) (fun _ => ?_)
              refine w269_67 l7 ?_
              refine w269_69 l4 ?_
              refine w269_71 ?_
              refine w269_72 ?_
              refine w269_73 ?_
              refine w269_74 (fun hQ => absurd hQ (fun y => y hs.1)) (fun _ => ?_)
              refine w269_77 l7 ?_
              refine w269_79 l1 ?_
              refine w269_80 (k := c182 ?_)
              rw [am_b_f hs.2]
              refine w269_83 (fun _ => ?_) (fun hQ => absurd rfl hQ)
              refine w269_89 l0 ?_
              refine w269_90 l2 ?_
              refine w269_91 l7 ?_
              refine w269_93 (k := c202 L hn2 n7 hb ?_)
              refine w269_96 l5 ?_
              refine w269_98 (fun hQ => absurd hQ (fun q => absurd q1 (Int32.not_lt.mpr q))) (fun _ => ?_)
              refine w269_101 l0 ?_
              refine w269_102 l2 ?_
              refine w269_103 l7 ?_
              refine w269_105 ?_
              refine w269_106 l1 ?_
              refine w269_107 ?_
              refine w269_108 ?_
              refine w269_109 (k := c202 L hn2 n7 hb ?_)
              rw [ev]
              refine w269_112 l5 ?_
              refine w269_114 (fun _ => ?_) (fun hQ => absurd (Int32.not_le.mp q2) hQ)
              refine w269_121 ?_
              refine w269_122 ?_
              refine w269_124 l3 ?_
              refine w269_125 (fun _ => ?_) (fun hQ => absurd rfl hQ)
              refine w269_156 ?_
              refine w269_157 ?_
              refine w269_159 l6 ?_
              refine w269_161 rfl ?_
              refine w269_163 (fun _ => ?_) (fun hQ => absurd rfl hQ)
              refine w269_171 ?_
              refine w269_172 ?_
              refine w269_173 ?_
              refine w269_175 l7 ?_
              refine w269_178 ?_
              exact y0 (fun y => q2 y.2) _ l0 l1 l2 l3 l4 l5 rfl (am_nx z)
        · cases ord with
          | true =>
            refine w269_60 l7 ?_
            refine w269_62 l4 ?_
            refine w269_64 (fun hQ => absurd hQ (nI_nlt (by omega) (by omega))) (fun _ => ?_)
            refine w269_67 l7 ?_
            refine w269_69 l4 ?_
            refine w269_71 ?_
            refine w269_72 ?_
            refine w269_73 ?_
            refine w269_74 (fun hQ => absurd hQ (fun y => y hs.1)) (fun _ => ?_)
            refine w269_77 l7 ?_
            refine w269_79 l1 ?_
            refine w269_80 (k := c182 ?_)
            rw [am_b_f hs.2]
            refine w269_83 (fun _ => ?_) (fun hQ => absurd rfl hQ)
            refine w269_89 l0 ?_
            refine w269_90 l2 ?_
            refine w269_91 l7 ?_
            refine w269_93 (k := c202 L hn2 n7 hb ?_)
            refine w269_96 l5 ?_
            refine w269_98 (fun _ => ?_) (fun hQ => absurd (Int32.not_lt.mp q1) hQ)
            refine w269_121 ?_
            refine w269_122 ?_
            refine w269_124 l3 ?_
            refine w269_125 (fun hQ => absurd hQ (by decide)) (fun _ => ?_)
            refine w269_128 l7 ?_
            refine w269_130 (k := c191 ?_)
            rw [am_ones_n hz2]
            refine w269_133 (k := c270 (by omega) ?_)
            refine w269_136 l4 ?_
            refine w269_138 (k := c191 ?_)
            rw [am_ones_n ho]
            refine w269_141 ?_
            refine w269_142 ?_
            refine w269_143 l7 ?_
            refine w269_145 (k := c191 ?_)
            rw [am_ones_n hz2]
            refine w269_148 ?_
            rw [e1]
            refine w269_149 (k := c270 (by omega) ?_)
            refine w269_152 ?_
            refine w269_153 ?_
            refine w269_157 ?_
            refine w269_159 l6 ?_
            refine w269_161 rfl ?_
            refine w269_163 (fun _ => ?_) (fun hQ => absurd rfl hQ)
            refine w269_171 ?_
            refine w269_172 ?_
            refine w269_173 ?_
            refine w269_175 l7 ?_
            refine w269_178 ?_
            exact y0 (fun y => q1 y.1) _ l0 l1 l2 l3 l4 l5 rfl (am_nx z)
          | false =>
            refine w269_60 l7 ?_
            refine w269_62 l4 ?_
            refine w269_64 (fun hQ => absurd hQ (nI_nlt (by omega) (by omega))) (fun _ => ?_)
            refine w269_67 l7 ?_
            refine w269_69 l4 ?_
            refine w269_71 ?_
            refine w269_72 ?_
            refine w269_73 ?_
            refine w269_74 (fun hQ => absurd hQ (fun y => y hs.1)) (fun _ => ?_)
            refine w269_77 l7 ?_
            refine w269_79 l1 ?_
            refine w269_80 (k := c182 ?_)
            rw [am_b_f hs.2]
            refine w269_83 (fun _ => ?_) (fun hQ => absurd rfl hQ)
            refine w269_89 l0 ?_
            refine w269_90 l2 ?_
            refine w269_91 l7 ?_
            refine w269_93 (k := c202 L hn2 n7 hb ?_)
            refine w269_96 l5 ?_
            refine w269_98 (fun _ => ?_) (fun hQ => absurd (Int32.not_lt.mp q1) hQ)
            refine w269_121 ?_
            refine w269_122 ?_
            refine w269_124 l3 ?_
            refine w269_125 (fun _ => ?_) (fun hQ => absurd rfl hQ)
            refine w269_156 ?_
            refine w269_157 ?_
            refine w269_159 l6 ?_
            refine w269_161 rfl ?_
            refine w269_163 (fun _ => ?_) (fun hQ => absurd rfl hQ)
            refine w269_171 ?_
            refine w269_172 ?_
            refine w269_173 ?_
            refine w269_175 l7 ?_
            refine w269_178 ?_
            exact y0 (fun y => q1 y.1) _ l0 l1 l2 l3 l4 l5 rfl (am_nx z)
      · have e0 : w_sw (I2 138) n m b o ord nd z = 0 := if_neg (fun y => hs y.1)
        rw [e0, Int32.add_zero] at ih
        by_cases hs1 : nI z &&& (nI o ^^^ -1) = 0
        · have hs2 : am_bit (nI z) m = 1 := Decidable.not_not.mp (fun q => hs ⟨hs1, q⟩)
          refine w269_60 l7 ?_
          refine w269_62 l4 ?_
          refine w269_64 (fun hQ => absurd hQ (nI_nlt (by omega) (by omega))) (fun _ => ?_)
          refine w269_67 l7 ?_
          refine w269_69 l4 ?_
          refine w269_71 ?_
          refine w269_72 ?_
          refine w269_73 ?_
          refine w269_74 (fun hQ => absurd hQ (fun y => y hs1)) (fun _ => ?_)
          refine w269_77 l7 ?_
          refine w269_79 l1 ?_
          refine w269_80 (k := c182 ?_)
          rw [am_b_t hs2]
          refine w269_83 (fun hQ => absurd hQ am_n01) (fun _ => ?_)
          refine w269_86 ?_
          refine w269_175 l7 ?_
          refine w269_178 ?_
          exact ih _ l0 l1 l2 l3 l4 l5 l6 (am_nx z)
        · refine w269_60 l7 ?_
          refine w269_62 l4 ?_
          refine w269_64 (fun hQ => absurd hQ (nI_nlt (by omega) (by omega))) (fun _ => ?_)
          refine w269_67 l7 ?_
          refine w269_69 l4 ?_
          refine w269_71 ?_
          refine w269_72 ?_
          refine w269_73 ?_
          refine w269_74 (fun _ => ?_) (fun hQ => absurd hs1 hQ)
          refine w269_175 l7 ?_
          refine w269_178 ?_
          exact ih _ l0 l1 l2 l3 l4 l5 l6 (am_nx z)
    · intro lv l0 l1 l2 l3 l4 l5 l6 l7
      refine w269_60 l7 ?_
      refine w269_62 l4 ?_
      refine w269_64 (fun _ => ?_) (fun hQ => absurd (nI_lt (by omega) (by omega)) hQ)
      refine w269_181 l6 ?_
      refine w269_183 ?_
      exact kk2
  · rw [if_neg hbit] at kk2
    refine w269_43 rfl ?_
    refine w269_45 rfl ?_
    refine w269_46 (k := c182 ?_)
    rw [am_b_f hbit]
    refine w269_49 (fun hQ => absurd hQ (fun y => y rfl)) (fun _ => ?_)
    refine w269_52 ?_
    refine w269_53 ?_
    exact kk2
/-- power, pivot: one of both numbers can't be -/
theorem c132n (L : am_Lay S P) {x y z : Int32} (hr : am_HR I 65 kp n l s) (h : ¬ (0 ≤ x ∧ x < nI n) ∨ ¬ (0 ≤ y ∧ y < 5)) (k : Q (some (.int (-1))) (S, I, J, P)) : am_ev pr (d + 5) 132 [.ref 64, .int x, .int y, .int z] (S, I, J, P) Q := by
  have hh := L.h65
  show am_wp pr (d + 5) 132 0 [(0, .ref 64), (1, .int x), (2, .int y), (3, .int z)] [] _ _
  by_cases hX : 0 ≤ x ∧ x < I 65 0 ∧ x < 7
  · have h2 : ¬ (0 ≤ y ∧ y < 5) := h.elim (fun q => absurd ⟨hX.1, by rw [← hr.hn]; exact hX.2.1⟩ q) id
    refine w132_0 rfl ?_
    refine w132_1 (L.2 _ _ _ rfl) ?_
    refine w132_4 rfl ?_
    refine w132_5 (k := c16 hh ?_)
    rw [am_b_t hX]
    refine w132_8 (fun hQ => absurd hQ am_n01) (fun _ => ?_)
    refine w132_11 rfl ?_
    refine w132_12 (k := c18 ?_)
    rw [am_b_f h2]
    refine w132_15 (fun hQ => absurd hQ (by decide)) (fun _ => ?_)
    refine w132_18 ?_
    refine w132_19 ?_
    exact k
  · refine w132_0 rfl ?_
    refine w132_1 (L.2 _ _ _ rfl) ?_
    refine w132_4 rfl ?_
    refine w132_5 (k := c16 hh ?_)
    rw [am_b_f hX]
    refine w132_8 (fun _ => ?_) (fun hQ => absurd rfl hQ)
    refine w132_18 ?_
    refine w132_19 ?_
    exact k
theorem c269n (L : am_Lay S P) {x y z : Int32} (hn : I 126 73 = nI n) (n7 : n ≤ 7) (h : ¬ (0 ≤ x ∧ x < nI n) ∨ ¬ (0 ≤ y ∧ y < 5)) (k : Q (some (.int (-1))) (S, I, J, P)) : am_ev pr (d + 5) 269 [.ref 124, .int x, .int y, .int z] (S, I, J, P) Q := by
  show am_wp pr (d + 5) 269 0 [(0, .ref 124), (1, .int x), (2, .int y), (3, .int z)] [] _ _
  by_cases hX : 0 ≤ x ∧ x < nI n
  · have h2 : ¬ (0 ≤ y ∧ y ≤ 4) := fun q => h.elim (fun w => w hX) (fun w => w ⟨q.1, by have := q.2; simp only [Int32.lt_iff_toInt_lt, Int32.le_iff_toInt_le, ← Int32.toInt_inj, am_z0, am_z1, am_z2, am_z3, am_z4, am_z5, am_z6, am_z7, am_z8, am_z9, am_z10, am_z12, am_z16, am_z20, am_z99, am_z999, am_zm1, am_zo4, am_zo5, am_zo7] at *; omega⟩)
    refine w269_0 rfl ?_
    refine w269_1 rfl ?_
    refine w269_2 (k := c174 L hn n7 ?_)
    rw [am_b_t hX]
    refine w269_5 (fun hQ => absurd hQ am_n01) (fun _ => ?_)
    refine w269_8 rfl ?_
    refine w269_9 (k := c177 ?_)
    rw [am_b_f h2]
    refine w269_12 (fun hQ => absurd hQ (by decide)) (fun _ => ?_)
    refine w269_15 ?_
    refine w269_16 ?_
    exact k
  · refine w269_0 rfl ?_
    refine w269_1 rfl ?_
    refine w269_2 (k := c174 L hn n7 ?_)
    rw [am_b_f hX]
    refine w269_5 (fun _ => ?_) (fun hQ => absurd rfl hQ)
    refine w269_15 ?_
    refine w269_16 ?_
    exact k
theorem op_23g (r : am_R S I P n l s u tp) {mc mm : Nat} {x y : Int32} {ord : Bool} (wc : ∀ I J (Q : Option Value → am_H → Prop), am_ev pr (d + 59) 132 [.ref 64, .int x, .int y, .int (am_b (ord = true))] (S, I, J, P) (fun r τ => ∃ v, r = some (.int v) ∧ Q (some (.int v)) τ) → am_ev pr (d + 60) mc [.ref 64, .int x, .int y] (S, I, J, P) Q) (wm : ∀ I J (Q : Option Value → am_H → Prop), am_ev pr (d + 59) 269 [.ref 124, .int x, .int y, .int (am_b (ord = true))] (S, I, J, P) (fun r τ => ∃ v, r = some (.int v) ∧ Q (some (.int v)) τ) → am_ev pr (d + 60) mm [.ref 124, .int x, .int y] (S, I, J, P) Q) : am_op pr (d + 60) S I J P mc [.ref 64, .int x, .int y] mm [.ref 124, .int x, .int y] := by
  have hr := r.hr
  have n7 := hr.n7
  obtain ⟨lw, hx⟩ := r.lw
  rcases am_pk7 x n7 with ⟨m, hm, rfl⟩ | h
  · rcases am_pk5 y with ⟨b, hb, rfl⟩ | h
    · exact op_rd r hx (fun I2 => m_sw I2 (I 126) n m b ord) (fun Q k => wc _ _ _ (c132 r.L hr hx hm hb (fun I' J' v h1 h2 => ⟨v, rfl, k I' J' v h1 h2⟩))) (fun I1 J1 e Q k => wm _ _ _ (c269 r.L e hr.kn n7 (hx.m hr.l6) hm hb (fun I2 h1 h2 => ⟨_, rfl, k I2 h1 h2⟩)))
    · exact op_c r (-1) (fun Q k => wc _ _ _ (c132n r.L hr (Or.inr h) ⟨_, rfl, k⟩)) (fun Q k => wm _ _ _ (c269n r.L hr.kn n7 (Or.inr h) ⟨_, rfl, k⟩))
  · exact op_c r (-1) (fun Q k => wc _ _ _ (c132n r.L hr (Or.inl h) ⟨_, rfl, k⟩)) (fun Q k => wm _ _ _ (c269n r.L hr.kn n7 (Or.inl h) ⟨_, rfl, k⟩))
theorem c131 (L : am_Lay S P) {x y : Int32} (h : am_ev pr d 132 [.ref 64, .int x, .int y, .int 0] (S, I, J, P) (fun r τ => ∃ v, r = some (.int v) ∧ Q (some (.int v)) τ)) : am_ev pr (d + 1) 131 [.ref 64, .int x, .int y] (S, I, J, P) Q := by
  show am_wp pr (d + 1) 131 0 [(0, .ref 64), (1, .int x), (2, .int y)] [] _ _
  refine w131_0 rfl ?_
  refine w131_1 rfl ?_
  refine w131_2 rfl ?_
  refine w131_3 ?_
  refine w131_4 (k := am_ev_mono h ?_)
  rintro _ ⟨S', I', J', P'⟩ ⟨v, rfl, h2⟩
  exact w131_7 h2
theorem c134 (L : am_Lay S P) {x y : Int32} (h : am_ev pr d 132 [.ref 64, .int x, .int y, .int 1] (S, I, J, P) (fun r τ => ∃ v, r = some (.int v) ∧ Q (some (.int v)) τ)) : am_ev pr (d + 1) 134 [.ref 64, .int x, .int y] (S, I, J, P) Q := by
  show am_wp pr (d + 1) 134 0 [(0, .ref 64), (1, .int x), (2, .int y)] [] _ _
  refine w134_0 rfl ?_
  refine w134_1 rfl ?_
  refine w134_2 rfl ?_
  refine w134_3 ?_
  refine w134_4 (k := am_ev_mono h ?_)
  rintro _ ⟨S', I', J', P'⟩ ⟨v, rfl, h2⟩
  exact w134_7 h2
theorem c268 (L : am_Lay S P) {x y : Int32} (h : am_ev pr d 269 [.ref 124, .int x, .int y, .int 0] (S, I, J, P) (fun r τ => ∃ v, r = some (.int v) ∧ Q (some (.int v)) τ)) : am_ev pr (d + 1) 268 [.ref 124, .int x, .int y] (S, I, J, P) Q := by
  show am_wp pr (d + 1) 268 0 [(0, .ref 124), (1, .int x), (2, .int y)] [] _ _
  refine w268_0 rfl ?_
  refine w268_1 rfl ?_
  refine w268_2 rfl ?_
  refine w268_3 ?_
  refine w268_4 (k := am_ev_mono h ?_)
  rintro _ ⟨S', I', J', P'⟩ ⟨v, rfl, h2⟩
  exact w268_7 h2
theorem c271 (L : am_Lay S P) {x y : Int32} (h : am_ev pr d 269 [.ref 124, .int x, .int y, .int 1] (S, I, J, P) (fun r τ => ∃ v, r = some (.int v) ∧ Q (some (.int v)) τ)) : am_ev pr (d + 1) 271 [.ref 124, .int x, .int y] (S, I, J, P) Q := by
  show am_wp pr (d + 1) 271 0 [(0, .ref 124), (1, .int x), (2, .int y)] [] _ _
  refine w271_0 rfl ?_
  refine w271_1 rfl ?_
  refine w271_2 rfl ?_
  refine w271_3 ?_
  refine w271_4 (k := am_ev_mono h ?_)
  rintro _ ⟨S', I', J', P'⟩ ⟨v, rfl, h2⟩
  exact w271_7 h2
theorem op_23 (r : am_R S I P n l s u tp) {x y : Int32} : am_op pr (d + 60) S I J P 131 [.ref 64, .int x, .int y] 268 [.ref 124, .int x, .int y] := op_23g (ord := false) r (fun _ _ _ h => c131 r.L h) (fun _ _ _ h => c268 r.L h)
theorem op_24 (r : am_R S I P n l s u tp) {x y : Int32} : am_op pr (d + 60) S I J P 134 [.ref 64, .int x, .int y] 271 [.ref 124, .int x, .int y] := op_23g (ord := true) r (fun _ _ _ h => c134 r.L h) (fun _ _ _ h => c271 r.L h)
end
