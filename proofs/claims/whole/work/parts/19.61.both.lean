/-! what the law tells, by the reference -/
theorem tl_0 : (0 : Int32).toNatClampNeg = 0 := rfl
theorem tl_1 : (1 : Int32).toNatClampNeg = 1 := rfl
theorem tl_2 : (2 : Int32).toNatClampNeg = 2 := rfl
theorem tl_3 : (3 : Int32).toNatClampNeg = 3 := rfl
theorem tl_4 : (4 : Int32).toNatClampNeg = 4 := rfl
theorem tl_5 : (5 : Int32).toNatClampNeg = 5 := rfl
theorem tl_6 : (6 : Int32).toNatClampNeg = 6 := rfl
theorem tl_7 : (7 : Int32).toNatClampNeg = 7 := rfl
theorem tl_8 : (8 : Int32).toNatClampNeg = 8 := rfl
theorem tl_9 : (9 : Int32).toNatClampNeg = 9 := rfl
theorem tl_10 : (10 : Int32).toNatClampNeg = 10 := rfl
theorem tl_11 : (11 : Int32).toNatClampNeg = 11 := rfl
theorem tl_12 : (12 : Int32).toNatClampNeg = 12 := rfl
theorem tl_13 : (13 : Int32).toNatClampNeg = 13 := rfl
theorem tl_14 : (14 : Int32).toNatClampNeg = 14 := rfl
theorem tl_15 : (15 : Int32).toNatClampNeg = 15 := rfl
theorem tl_16 : (16 : Int32).toNatClampNeg = 16 := rfl
theorem tl_35 : (35 : Int32).toNatClampNeg = 35 := rfl
theorem tl_42 : (42 : Int32).toNatClampNeg = 42 := rfl
theorem tl_43 : (43 : Int32).toNatClampNeg = 43 := rfl
theorem tl_44 : (44 : Int32).toNatClampNeg = 44 := rfl
theorem tl_51 : (51 : Int32).toNatClampNeg = 51 := rfl
theorem tl_58 : (58 : Int32).toNatClampNeg = 58 := rfl
theorem tl_70 : (70 : Int32).toNatClampNeg = 70 := rfl
theorem tl_71 : (71 : Int32).toNatClampNeg = 71 := rfl
theorem tl_72 : (72 : Int32).toNatClampNeg = 72 := rfl
theorem tl_73 : (73 : Int32).toNatClampNeg = 73 := rfl
theorem tl_74 : (74 : Int32).toNatClampNeg = 74 := rfl
theorem tl_75 : (75 : Int32).toNatClampNeg = 75 := rfl
theorem tl_76 : (76 : Int32).toNatClampNeg = 76 := rfl
theorem tl_77 : (77 : Int32).toNatClampNeg = 77 := rfl
theorem tl_78 : (78 : Int32).toNatClampNeg = 78 := rfl
theorem tl_79 : (79 : Int32).toNatClampNeg = 79 := rfl
theorem tl_80 : (80 : Int32).toNatClampNeg = 80 := rfl
theorem tl_81 : (81 : Int32).toNatClampNeg = 81 := rfl
theorem tl_82 : (82 : Int32).toNatClampNeg = 82 := rfl
theorem tl_83 : (83 : Int32).toNatClampNeg = 83 := rfl
theorem vb_0 : vp_nar .boolean 0 = 0 := rfl
theorem vb_1 : vp_nar .boolean 1 = 1 := rfl
/-- the reference's rows for going along tokens alone have changed -/
def m_fr (I I' : Nat → Nat → Int32) : Prop := (∀ a, a ≠ 124 → a ≠ 136 → I' a = I a) ∧ ∀ q, (q < 22 ∨ 25 < q) → I' 124 q = I 124 q
theorem m_fr_v {I : Nat → Nat → Int32} {g : Nat} {br : Int32} : m_fr I (v_s I g br) := ⟨fun a h _ => v_s_ne h, fun q hq => v_s_at (by omega) (by omega)⟩
theorem m_fr.tr {I I1 I2 : Nat → Nat → Int32} (h : m_fr I I1) (h2 : m_fr I1 I2) : m_fr I I2 := ⟨fun a q1 q2 => (h2.1 a q1 q2).trans (h.1 a q1 q2), fun q hq => (h2.2 q hq).trans (h.2 q hq)⟩
theorem m_fr_u {I : Nat → Nat → Int32} {q : Nat} {x : Int32} (h : 22 ≤ q ∧ q ≤ 25) : m_fr I (am_u I 124 q x) := ⟨fun a h1 _ => am_u_ne h1, fun q hq => am_u_at (by omega)⟩
theorem v_sE (I : Nat → Nat → Int32) (g : Nat) (x y : Int32) : am_u (am_u (am_u I 124 25 x) 124 22 (nI g)) 124 23 y = v_s (am_u (am_u I 124 25 x) 124 23 y) g (I 124 24) := by
  funext a j
  unfold v_s
  simp only [am_u_get]
  by_cases ha : a = 124
  · subst ha
    by_cases h1 : j = 22
    · subst h1; simp
    · by_cases h2 : j = 23
      · subst h2; simp
      · by_cases h3 : j = 24
        · subst h3; simp
        · simp [h1, h2, h3]
  · simp [ha]
theorem e_near_64 {v : Int64} (h : v.toInt32.toInt64 = v) : (e_near v).toInt64 = if v < 0 then 0 else if 9 < v then 9 else v := by
  unfold e_near
  split
  · rfl
  · split
    · rfl
    · exact h
theorem p_cl_law {T : Tk} {f i lv j lv' : Nat} {c : Cl} (h : p_cl T f i lv = pOk c j lv') (hT : T.2.2 = false) : ∃ te j2 l2, (T.1 i = 3 ∧ c = (3, [], 1, te) ∧ j2 = i + 1 ∨ ∃ a hd, T.1 i = nI hd ∧ (hd = 1 ∨ hd = 2) ∧ c = (hd, [a], 1, te) ∧ p_sum T f 0 (i + 1) lv = pOk a j2 l2) ∧ p_if T f j2 l2 = pOk te j lv' := by
  obtain ⟨hd, j1, l1, h1, h2⟩ := pBind_ok h
  rw [hT, if_neg (by decide)] at h2
  obtain ⟨t, j2, l2, h3, h4⟩ := pBind_ok h2
  obtain ⟨te, j3, l3, h5, h6⟩ := pBind_ok h4
  obtain ⟨rfl, rfl, rfl⟩ := pOk_inj h3
  obtain ⟨rfl, rfl, rfl⟩ := pOk_inj h6
  unfold p_head at h1
  rw [hT, if_neg (by decide)] at h1
  split at h1
  · rename_i z
    obtain ⟨a, h7, rfl⟩ := pMap_ok h1
    exact ⟨te, j1, l1, Or.inr ⟨a, 1, z, Or.inl rfl, rfl, h7⟩, h5⟩
  · split at h1
    · rename_i z
      obtain ⟨a, h7, rfl⟩ := pMap_ok h1
      exact ⟨te, j1, l1, Or.inr ⟨a, 2, z, Or.inr rfl, rfl, h7⟩, h5⟩
    · split at h1
      · rename_i z
        obtain ⟨rfl, rfl, rfl⟩ := pOk_inj h1
        exact ⟨te, i + 1, _, Or.inl ⟨z, rfl, rfl⟩, h5⟩
      · exact (pBad_no h1).elim
theorem p_if_ok {T : Tk} {f i lv j lv' : Nat} {te : Option Te} (h : p_if T f i lv = pOk te j lv') : (T.1 i = 4 ∧ ∃ t, te = some t ∧ p_test T f 0 (i + 1) lv = pOk t j lv') ∨ (¬ T.1 i = 4 ∧ te = none ∧ j = i ∧ lv' = lv) := by
  unfold p_if at h
  split at h
  · rename_i z
    obtain ⟨t, h1, rfl⟩ := pMap_ok h
    exact Or.inl ⟨z, t, rfl, h1⟩
  · rename_i z
    obtain ⟨rfl, rfl, rfl⟩ := pOk_inj h
    exact Or.inr ⟨z, rfl, rfl, rfl⟩
theorem p_if_le {T : Tk} {N : Nat} (h0 : ∀ q, N ≤ q → T.1 q = 0) {f i lv j lv' : Nat} {te : Option Te} (h : p_if T f i lv = pOk te j lv') (hi : i ≤ N) : j ≤ N := by
  rcases p_if_ok h with ⟨h4, t, -, h2⟩ | ⟨-, -, rfl, -⟩
  · exact q_go_le h0 f _ _ _ _ _ _ _ _ h2 (p_lt h0 (by rw [h4]; decide))
  · exact hi
section
variable {pr : am_Pr} {d : Nat} {S : List (Nat × Nat)} {I : Nat → Nat → Int32} {J : Nat → Nat → Int64} {P : Nat → Nat → Option Nat} {Q : Option Value → am_H → Prop} {T : Tk} {base N : Nat} {w : Nat → Nat → Int32}
/-- setsAsked -/
theorem c180 (L : am_Lay S P) {n m b : Nat} {kp : Nat → Int32} (hk : I 126 = kp) (hn : kp 73 = nI n) (n7 : n ≤ 7) (hm : m < 7) (hb : b < 5) (k : ∀ I' : Nat → Nat → Int32, (∀ a, a ≠ 136 → I' a = I a) → (∀ c, 8 ≤ c → c ≤ 16 → I' 136 (c - 8) = a_env kp n m b c 0) → Q none (S, I', J, P)) : am_ev pr (d + 2) 180 [.ref 124, .int (nI m), .int (nI b)] (S, I, J, P) Q := by
  subst hk
  have e126 : ∀ (f : Nat → Nat → Int32) (j : Nat) (x : Int32), am_u f 136 j x 126 = f 126 := fun f j x => am_u_ne (by decide)
  have fin : ∀ x4 : Int32, x4 = am_b (am_bit (I 126 42) b = 1) → Q none (S, am_u (am_u (am_u (am_u (am_u (am_u (am_u (am_u (am_u I 136 0 (nI m)) 136 1 (I 126 (51 + m))) 136 2 (nI b)) 136 3 (I 126 (m * 5 + b))) 136 4 x4) 136 5 (I 126 71)) 136 6 (I 126 (44 + m))) 136 7 (m_hm (I 126) n)) 136 8 (I 126 43), J, P) := by
    intro x4 h4
    subst h4
    refine k _ (fun a ha => ?_) (fun c h1 h2 => ?_)
    · repeat rw [am_u_ne ha]
    · rcases (show c = 8 ∨ c = 9 ∨ c = 10 ∨ c = 11 ∨ c = 12 ∨ c = 13 ∨ c = 14 ∨ c = 15 ∨ c = 16 by omega) with rfl | rfl | rfl | rfl | rfl | rfl | rfl | rfl | rfl <;> rfl
  show am_wp pr (d + 2) 180 0 [(0, .ref 124), (1, .int (nI m)), (2, .int (nI b))] [] _ _
  refine w180_0 rfl ?_
  refine w180_1 (L.2 _ _ _ rfl) ?_
  refine w180_4 ?_
  refine w180_5 rfl ?_
  refine w180_6 (by first | with_reducible assumption | exact L.sh rfl | exact hh.sh rfl | exact hp.2.2) (by first | with_reducible assumption | with_reducible exact am_in_nI (by omega) (by decide) | with_reducible exact am_inb (by omega) (by omega) | with_reducible exact am_inb' (by omega) (by omega) | with_reducible exact am_in35 (by omega) | with_reducible exact am_inw (by omega) (by omega) | with_reducible decide) ?_
  try simp (disch := omega) only [am_clb, am_clb', am_cl35, am_clw, am_clN, tl_0, tl_1, tl_2, tl_3, tl_4, tl_5, tl_6, tl_7, tl_8, tl_9, tl_10, tl_11, tl_12, tl_13, tl_14, tl_15, tl_16, tl_35, tl_42, tl_43, tl_44, tl_51, tl_58, tl_70, tl_71, tl_72, tl_73, tl_74, tl_75, tl_76, tl_77, tl_78, tl_79, tl_80, tl_81, tl_82, tl_83, vb_0, vb_1]
  refine w180_7 rfl ?_
  refine w180_8 (L.2 _ _ _ rfl) ?_
  refine w180_11 ?_
  refine w180_12 rfl ?_
  refine w180_13 (L.2 _ _ _ rfl) ?_
  refine w180_16 ?_
  refine w180_18 rfl ?_
  refine w180_19 ?_
  rw [nz_a51]
  refine w180_20 (L.sh rfl) (am_in_nI (by omega) (by decide)) ?_
  rw [am_clN (by omega), e126]
  refine w180_21 (by first | with_reducible assumption | exact L.sh rfl | exact hh.sh rfl | exact hp.2.2) (by first | with_reducible assumption | with_reducible exact am_in_nI (by omega) (by decide) | with_reducible exact am_inb (by omega) (by omega) | with_reducible exact am_inb' (by omega) (by omega) | with_reducible exact am_in35 (by omega) | with_reducible exact am_inw (by omega) (by omega) | with_reducible decide) ?_
  try simp (disch := omega) only [am_clb, am_clb', am_cl35, am_clw, am_clN, tl_0, tl_1, tl_2, tl_3, tl_4, tl_5, tl_6, tl_7, tl_8, tl_9, tl_10, tl_11, tl_12, tl_13, tl_14, tl_15, tl_16, tl_35, tl_42, tl_43, tl_44, tl_51, tl_58, tl_70, tl_71, tl_72, tl_73, tl_74, tl_75, tl_76, tl_77, tl_78, tl_79, tl_80, tl_81, tl_82, tl_83, vb_0, vb_1]
  refine w180_22 rfl ?_
  refine w180_23 (L.2 _ _ _ rfl) ?_
  refine w180_26 ?_
  refine w180_27 rfl ?_
  refine w180_28 (by first | with_reducible assumption | exact L.sh rfl | exact hh.sh rfl | exact hp.2.2) (by first | with_reducible assumption | with_reducible exact am_in_nI (by omega) (by decide) | with_reducible exact am_inb (by omega) (by omega) | with_reducible exact am_inb' (by omega) (by omega) | with_reducible exact am_in35 (by omega) | with_reducible exact am_inw (by omega) (by omega) | with_reducible decide) ?_
  try simp (disch := omega) only [am_clb, am_clb', am_cl35, am_clw, am_clN, tl_0, tl_1, tl_2, tl_3, tl_4, tl_5, tl_6, tl_7, tl_8, tl_9, tl_10, tl_11, tl_12, tl_13, tl_14, tl_15, tl_16, tl_35, tl_42, tl_43, tl_44, tl_51, tl_58, tl_70, tl_71, tl_72, tl_73, tl_74, tl_75, tl_76, tl_77, tl_78, tl_79, tl_80, tl_81, tl_82, tl_83, vb_0, vb_1]
  refine w180_29 rfl ?_
  refine w180_30 (L.2 _ _ _ rfl) ?_
  refine w180_33 ?_
  refine w180_34 rfl ?_
  refine w180_35 rfl ?_
  refine w180_36 rfl ?_
  refine w180_37 (k := c175 L hm hb ?_)
  rw [e126, e126, e126]
  refine w180_40 (by first | with_reducible assumption | exact L.sh rfl | exact hh.sh rfl | exact hp.2.2) (by first | with_reducible assumption | with_reducible exact am_in_nI (by omega) (by decide) | with_reducible exact am_inb (by omega) (by omega) | with_reducible exact am_inb' (by omega) (by omega) | with_reducible exact am_in35 (by omega) | with_reducible exact am_inw (by omega) (by omega) | with_reducible decide) ?_
  try simp (disch := omega) only [am_clb, am_clb', am_cl35, am_clw, am_clN, tl_0, tl_1, tl_2, tl_3, tl_4, tl_5, tl_6, tl_7, tl_8, tl_9, tl_10, tl_11, tl_12, tl_13, tl_14, tl_15, tl_16, tl_35, tl_42, tl_43, tl_44, tl_51, tl_58, tl_70, tl_71, tl_72, tl_73, tl_74, tl_75, tl_76, tl_77, tl_78, tl_79, tl_80, tl_81, tl_82, tl_83, vb_0, vb_1]
  refine w180_41 rfl ?_
  refine w180_42 (L.2 _ _ _ rfl) ?_
  refine w180_45 ?_
  refine w180_46 rfl ?_
  refine w180_47 rfl ?_
  refine w180_48 (k := c181 L ?_)
  rw [e126, e126, e126, e126]
  refine w180_51 (fun h51 => ?_) (fun h51 => ?_)
  · refine w180_58 ?_
    refine w180_59 (by first | with_reducible assumption | exact L.sh rfl | exact hh.sh rfl | exact hp.2.2) (by first | with_reducible assumption | with_reducible exact am_in_nI (by omega) (by decide) | with_reducible exact am_inb (by omega) (by omega) | with_reducible exact am_inb' (by omega) (by omega) | with_reducible exact am_in35 (by omega) | with_reducible exact am_inw (by omega) (by omega) | with_reducible decide) ?_
    try simp (disch := omega) only [am_clb, am_clb', am_cl35, am_clw, am_clN, tl_0, tl_1, tl_2, tl_3, tl_4, tl_5, tl_6, tl_7, tl_8, tl_9, tl_10, tl_11, tl_12, tl_13, tl_14, tl_15, tl_16, tl_35, tl_42, tl_43, tl_44, tl_51, tl_58, tl_70, tl_71, tl_72, tl_73, tl_74, tl_75, tl_76, tl_77, tl_78, tl_79, tl_80, tl_81, tl_82, tl_83, vb_0, vb_1]
    refine w180_60 rfl ?_
    refine w180_61 (L.2 _ _ _ rfl) ?_
    refine w180_64 ?_
    refine w180_65 rfl ?_
    refine w180_66 (L.2 _ _ _ rfl) ?_
    refine w180_69 ?_
    refine w180_71 (L.sh rfl) (by decide) ?_
    rw [tl_71, e126, e126, e126, e126, e126]
    refine w180_72 (by first | with_reducible assumption | exact L.sh rfl | exact hh.sh rfl | exact hp.2.2) (by first | with_reducible assumption | with_reducible exact am_in_nI (by omega) (by decide) | with_reducible exact am_inb (by omega) (by omega) | with_reducible exact am_inb' (by omega) (by omega) | with_reducible exact am_in35 (by omega) | with_reducible exact am_inw (by omega) (by omega) | with_reducible decide) ?_
    try simp (disch := omega) only [am_clb, am_clb', am_cl35, am_clw, am_clN, tl_0, tl_1, tl_2, tl_3, tl_4, tl_5, tl_6, tl_7, tl_8, tl_9, tl_10, tl_11, tl_12, tl_13, tl_14, tl_15, tl_16, tl_35, tl_42, tl_43, tl_44, tl_51, tl_58, tl_70, tl_71, tl_72, tl_73, tl_74, tl_75, tl_76, tl_77, tl_78, tl_79, tl_80, tl_81, tl_82, tl_83, vb_0, vb_1]
    refine w180_73 rfl ?_
    refine w180_74 (L.2 _ _ _ rfl) ?_
    refine w180_77 ?_
    refine w180_79 rfl ?_
    refine w180_80 (L.2 _ _ _ rfl) ?_
    refine w180_83 ?_
    refine w180_85 rfl ?_
    refine w180_86 ?_
    rw [nz_a44]
    refine w180_87 (L.sh rfl) (am_in_nI (by omega) (by decide)) ?_
    rw [am_clN (by omega), e126, e126, e126, e126, e126, e126]
    refine w180_88 (by first | with_reducible assumption | exact L.sh rfl | exact hh.sh rfl | exact hp.2.2) (by first | with_reducible assumption | with_reducible exact am_in_nI (by omega) (by decide) | with_reducible exact am_inb (by omega) (by omega) | with_reducible exact am_inb' (by omega) (by omega) | with_reducible exact am_in35 (by omega) | with_reducible exact am_inw (by omega) (by omega) | with_reducible decide) ?_
    try simp (disch := omega) only [am_clb, am_clb', am_cl35, am_clw, am_clN, tl_0, tl_1, tl_2, tl_3, tl_4, tl_5, tl_6, tl_7, tl_8, tl_9, tl_10, tl_11, tl_12, tl_13, tl_14, tl_15, tl_16, tl_35, tl_42, tl_43, tl_44, tl_51, tl_58, tl_70, tl_71, tl_72, tl_73, tl_74, tl_75, tl_76, tl_77, tl_78, tl_79, tl_80, tl_81, tl_82, tl_83, vb_0, vb_1]
    refine w180_89 rfl ?_
    refine w180_90 (L.2 _ _ _ rfl) ?_
    refine w180_93 ?_
    refine w180_95 rfl ?_
    refine w180_96 (k := c183 (n := n) L (by rw [e126, e126, e126, e126, e126, e126, e126]; exact hn) n7 ?_)
    rw [e126, e126, e126, e126, e126, e126, e126]
    refine w180_99 (by first | with_reducible assumption | exact L.sh rfl | exact hh.sh rfl | exact hp.2.2) (by first | with_reducible assumption | with_reducible exact am_in_nI (by omega) (by decide) | with_reducible exact am_inb (by omega) (by omega) | with_reducible exact am_inb' (by omega) (by omega) | with_reducible exact am_in35 (by omega) | with_reducible exact am_inw (by omega) (by omega) | with_reducible decide) ?_
    try simp (disch := omega) only [am_clb, am_clb', am_cl35, am_clw, am_clN, tl_0, tl_1, tl_2, tl_3, tl_4, tl_5, tl_6, tl_7, tl_8, tl_9, tl_10, tl_11, tl_12, tl_13, tl_14, tl_15, tl_16, tl_35, tl_42, tl_43, tl_44, tl_51, tl_58, tl_70, tl_71, tl_72, tl_73, tl_74, tl_75, tl_76, tl_77, tl_78, tl_79, tl_80, tl_81, tl_82, tl_83, vb_0, vb_1]
    refine w180_100 rfl ?_
    refine w180_101 (L.2 _ _ _ rfl) ?_
    refine w180_104 ?_
    refine w180_106 rfl ?_
    refine w180_107 (L.2 _ _ _ rfl) ?_
    refine w180_110 ?_
    refine w180_112 (L.sh rfl) (by decide) ?_
    rw [tl_43, e126, e126, e126, e126, e126, e126, e126, e126]
    refine w180_113 (by first | with_reducible assumption | exact L.sh rfl | exact hh.sh rfl | exact hp.2.2) (by first | with_reducible assumption | with_reducible exact am_in_nI (by omega) (by decide) | with_reducible exact am_inb (by omega) (by omega) | with_reducible exact am_inb' (by omega) (by omega) | with_reducible exact am_in35 (by omega) | with_reducible exact am_inw (by omega) (by omega) | with_reducible decide) ?_
    try simp (disch := omega) only [am_clb, am_clb', am_cl35, am_clw, am_clN, tl_0, tl_1, tl_2, tl_3, tl_4, tl_5, tl_6, tl_7, tl_8, tl_9, tl_10, tl_11, tl_12, tl_13, tl_14, tl_15, tl_16, tl_35, tl_42, tl_43, tl_44, tl_51, tl_58, tl_70, tl_71, tl_72, tl_73, tl_74, tl_75, tl_76, tl_77, tl_78, tl_79, tl_80, tl_81, tl_82, tl_83, vb_0, vb_1]
    refine w180_114 ?_
    first | exact fin 1 (am_b_t (am_b_1 h51)).symm | exact fin 0 (am_b_f ((am_b_0 _).mp h51)).symm
  · refine w180_54 ?_
    refine w180_55 ?_
    refine w180_59 (by first | with_reducible assumption | exact L.sh rfl | exact hh.sh rfl | exact hp.2.2) (by first | with_reducible assumption | with_reducible exact am_in_nI (by omega) (by decide) | with_reducible exact am_inb (by omega) (by omega) | with_reducible exact am_inb' (by omega) (by omega) | with_reducible exact am_in35 (by omega) | with_reducible exact am_inw (by omega) (by omega) | with_reducible decide) ?_
    try simp (disch := omega) only [am_clb, am_clb', am_cl35, am_clw, am_clN, tl_0, tl_1, tl_2, tl_3, tl_4, tl_5, tl_6, tl_7, tl_8, tl_9, tl_10, tl_11, tl_12, tl_13, tl_14, tl_15, tl_16, tl_35, tl_42, tl_43, tl_44, tl_51, tl_58, tl_70, tl_71, tl_72, tl_73, tl_74, tl_75, tl_76, tl_77, tl_78, tl_79, tl_80, tl_81, tl_82, tl_83, vb_0, vb_1]
    refine w180_60 rfl ?_
    refine w180_61 (L.2 _ _ _ rfl) ?_
    refine w180_64 ?_
    refine w180_65 rfl ?_
    refine w180_66 (L.2 _ _ _ rfl) ?_
    refine w180_69 ?_
    refine w180_71 (L.sh rfl) (by decide) ?_
    rw [tl_71, e126, e126, e126, e126, e126]
    refine w180_72 (by first | with_reducible assumption | exact L.sh rfl | exact hh.sh rfl | exact hp.2.2) (by first | with_reducible assumption | with_reducible exact am_in_nI (by omega) (by decide) | with_reducible exact am_inb (by omega) (by omega) | with_reducible exact am_inb' (by omega) (by omega) | with_reducible exact am_in35 (by omega) | with_reducible exact am_inw (by omega) (by omega) | with_reducible decide) ?_
    try simp (disch := omega) only [am_clb, am_clb', am_cl35, am_clw, am_clN, tl_0, tl_1, tl_2, tl_3, tl_4, tl_5, tl_6, tl_7, tl_8, tl_9, tl_10, tl_11, tl_12, tl_13, tl_14, tl_15, tl_16, tl_35, tl_42, tl_43, tl_44, tl_51, tl_58, tl_70, tl_71, tl_72, tl_73, tl_74, tl_75, tl_76, tl_77, tl_78, tl_79, tl_80, tl_81, tl_82, tl_83, vb_0, vb_1]
    refine w180_73 rfl ?_
    refine w180_74 (L.2 _ _ _ rfl) ?_
    refine w180_77 ?_
    refine w180_79 rfl ?_
    refine w180_80 (L.2 _ _ _ rfl) ?_
    refine w180_83 ?_
    refine w180_85 rfl ?_
    refine w180_86 ?_
    rw [nz_a44]
    refine w180_87 (L.sh rfl) (am_in_nI (by omega) (by decide)) ?_
    rw [am_clN (by omega), e126, e126, e126, e126, e126, e126]
    refine w180_88 (by first | with_reducible assumption | exact L.sh rfl | exact hh.sh rfl | exact hp.2.2) (by first | with_reducible assumption | with_reducible exact am_in_nI (by omega) (by decide) | with_reducible exact am_inb (by omega) (by omega) | with_reducible exact am_inb' (by omega) (by omega) | with_reducible exact am_in35 (by omega) | with_reducible exact am_inw (by omega) (by omega) | with_reducible decide) ?_
    try simp (disch := omega) only [am_clb, am_clb', am_cl35, am_clw, am_clN, tl_0, tl_1, tl_2, tl_3, tl_4, tl_5, tl_6, tl_7, tl_8, tl_9, tl_10, tl_11, tl_12, tl_13, tl_14, tl_15, tl_16, tl_35, tl_42, tl_43, tl_44, tl_51, tl_58, tl_70, tl_71, tl_72, tl_73, tl_74, tl_75, tl_76, tl_77, tl_78, tl_79, tl_80, tl_81, tl_82, tl_83, vb_0, vb_1]
    refine w180_89 rfl ?_
    refine w180_90 (L.2 _ _ _ rfl) ?_
    refine w180_93 ?_
    refine w180_95 rfl ?_
    refine w180_96 (k := c183 (n := n) L (by rw [e126, e126, e126, e126, e126, e126, e126]; exact hn) n7 ?_)
    rw [e126, e126, e126, e126, e126, e126, e126]
    refine w180_99 (by first | with_reducible assumption | exact L.sh rfl | exact hh.sh rfl | exact hp.2.2) (by first | with_reducible assumption | with_reducible exact am_in_nI (by omega) (by decide) | with_reducible exact am_inb (by omega) (by omega) | with_reducible exact am_inb' (by omega) (by omega) | with_reducible exact am_in35 (by omega) | with_reducible exact am_inw (by omega) (by omega) | with_reducible decide) ?_
    try simp (disch := omega) only [am_clb, am_clb', am_cl35, am_clw, am_clN, tl_0, tl_1, tl_2, tl_3, tl_4, tl_5, tl_6, tl_7, tl_8, tl_9, tl_10, tl_11, tl_12, tl_13, tl_14, tl_15, tl_16, tl_35, tl_42, tl_43, tl_44, tl_51, tl_58, tl_70, tl_71, tl_72, tl_73, tl_74, tl_75, tl_76, tl_77, tl_78, tl_79, tl_80, tl_81, tl_82, tl_83, vb_0, vb_1]
    refine w180_100 rfl ?_
    refine w180_101 (L.2 _ _ _ rfl) ?_
    refine w180_104 ?_
    refine w180_106 rfl ?_
    refine w180_107 (L.2 _ _ _ rfl) ?_
    refine w180_110 ?_
    refine w180_112 (L.sh rfl) (by decide) ?_
    rw [tl_43, e126, e126, e126, e126, e126, e126, e126, e126]
    refine w180_113 (by first | with_reducible assumption | exact L.sh rfl | exact hh.sh rfl | exact hp.2.2) (by first | with_reducible assumption | with_reducible exact am_in_nI (by omega) (by decide) | with_reducible exact am_inb (by omega) (by omega) | with_reducible exact am_inb' (by omega) (by omega) | with_reducible exact am_in35 (by omega) | with_reducible exact am_inw (by omega) (by omega) | with_reducible decide) ?_
    try simp (disch := omega) only [am_clb, am_clb', am_cl35, am_clw, am_clN, tl_0, tl_1, tl_2, tl_3, tl_4, tl_5, tl_6, tl_7, tl_8, tl_9, tl_10, tl_11, tl_12, tl_13, tl_14, tl_15, tl_16, tl_35, tl_42, tl_43, tl_44, tl_51, tl_58, tl_70, tl_71, tl_72, tl_73, tl_74, tl_75, tl_76, tl_77, tl_78, tl_79, tl_80, tl_81, tl_82, tl_83, vb_0, vb_1]
    refine w180_114 ?_
    first | exact fin 1 (am_b_t (am_b_1 h51)).symm | exact fin 0 (am_b_f ((am_b_0 _).mp h51)).symm
/-- a clause is gone through: to its end -/
theorem c179s (E : v_E S I P T base N w) (hT : T.2.2 = false) {f i lvs j lvs' hd : Nat} {c : Cl} (h : p_cl T f i lvs = pOk c j lvs') (hh : hd = 1 ∨ hd = 2 ∨ hd = 3) {told br : Int32} (k : ∀ br', ∀ lv, am_ld1 lv 0 = some (.ref 124) → am_ld1 lv 1 = some (.int (nI hd)) → am_ld2 lv 5 = some (.long (e_tell1 w hd c told).toInt64) → am_wp pr (d + 43) 179 209 lv [] (S, v_s I (base + j) br', J, P) Q) : ∀ lv, am_ld1 lv 0 = some (.ref 124) → am_ld1 lv 1 = some (.int (nI hd)) → am_ld2 lv 5 = some (.long told.toInt64) → am_wp pr (d + 43) 179 69 lv [] (S, v_s I (base + i) br, J, P) Q := by
  have L := E.1
  have hbn := E.2.1
  have h0 := E.2.2.2.2.1
  have e23 := E.2.2.1
  have hd31 : hd < 2 ^ 31 := by rcases hh with z | z | z <;> rw [z] <;> decide
  obtain ⟨te, j2, l2, hA, hB⟩ := p_cl_law h hT
  have hiN : i < N := E.lt (by
    rcases hA with ⟨z, -⟩ | ⟨a, q, z, zz, -⟩
    · rw [z]; decide
    · rcases zz with rfl | rfl <;> rw [z] <;> decide)
  have hj2 : j2 ≤ N := by
    rcases hA with ⟨-, -, rfl⟩ | ⟨a, q, -, -, -, z⟩
    · exact hiN
    · exact p_sum_le h0 z hiN
  have s3 : ∀ (v : Int64) (sb hol br2 : Int32), (sb = 0 ∨ sb = 1) → (hol = 0 ∨ hol = 1) → (br2 = 0 ∨ br2 = 1) → (e_if w te = true ↔ hol = 1 ∧ br2 = 0) → (c.1 = 3 ∧ v = 1 ∧ sb = 0 ∨ ∃ a, c.2.1 = [a] ∧ ¬ c.1 = 3 ∧ k_i32 a ∧ (sb = 0 ∧ a.1 w = some v ∨ sb = 1 ∧ a.1 w = none)) → ∀ lv, am_ld1 lv 0 = some (.ref 124) → am_ld1 lv 1 = some (.int (nI hd)) → am_ld2 lv 5 = some (.long told.toInt64) → am_ld1 lv 7 = some (.int (nI c.1)) → am_ld2 lv 8 = some (.long v) → am_ld1 lv 10 = some (.int sb) → am_ld1 lv 11 = some (.int hol) → am_wp pr (d + 43) 179 156 lv [] (S, v_s I (base + j) br2, J, P) Q := by
    intro v sb hol br2 hsb hhol hbr hif hc lv l0 l1 l5 l7 l8 l10 l11
    have hc4 : c.2.2.2 = te := by
      rcases hA with ⟨-, z, -⟩ | ⟨a, q, -, -, z, -⟩ <;> rw [z]
    have hc1 : c.1 < 4 := by
      rcases hA with ⟨-, z, -⟩ | ⟨a, q, -, q2, z, -⟩ <;> rw [z] <;> show _ < 4 <;> omega
    have no : ¬ (c.1 = hd ∧ e_if w te = true) → e_tell1 w hd c told = told := by
      intro z
      unfold e_tell1
      rw [hc4]
      exact if_neg z
    have nob : sb = 1 → e_tell1 w hd c told = told := by
      intro z
      unfold e_tell1
      rw [hc4]
      split
      · rename_i y
        rcases hc with ⟨-, -, q⟩ | ⟨a, q1, q2, -, q3⟩
        · rw [q] at z
          exact absurd z (by decide)
        · rw [if_neg (by rw [← y.1]; exact q2), q1]
          rcases q3 with ⟨q4, -⟩ | ⟨-, q4⟩
          · rw [q4] at z
            exact absurd z (by decide)
          · dsimp only
            rw [q4]
      · rfl
    have yes : c.1 = hd → e_if w te = true → sb = 0 → (e_tell1 w hd c told).toInt64 = if v < 0 then 0 else if 9 < v then 9 else v := by
      intro z1 z2 z3
      unfold e_tell1
      rw [hc4, if_pos ⟨z1, z2⟩]
      rcases hc with ⟨q1, rfl, -⟩ | ⟨a, q1, q2, q5, q3⟩
      · rw [if_pos (by rw [← z1]; exact q1)]
        rfl
      · rw [if_neg (by rw [← z1]; exact q2), q1]
        rcases q3 with ⟨-, q4⟩ | ⟨q4, -⟩
        · dsimp only
          rw [q4]
          exact e_near_64 (q5 w v q4)
        · rw [q4] at z3
          exact absurd z3 (by decide)
    have kk := k br2
    have c31 : c.1 < 2 ^ 31 := Nat.lt_trans hc1 (by decide)
    by_cases g1 : c.1 = hd
    · rcases hhol with rfl | rfl
      · rw [no (fun z => absurd (hif.mp z.2).1 (by decide))] at kk
        refine w179_156 l7 ?_
        refine w179_158 l1 ?_
        refine w179_159 (fun hQ => absurd hQ (fun z => z (by rw [g1]))) (fun _ => ?_)
        refine w179_162 l11 ?_
        refine w179_164 (fun _ => ?_) (fun hQ => absurd rfl hQ)
        exact kk _ l0 l1 l5
      · rcases hbr with rfl | rfl
        · rcases hsb with rfl | rfl
          · have yy := yes g1 (hif.mpr ⟨rfl, rfl⟩) rfl
            rw [yy] at kk
            by_cases v0 : v < 0
            · rw [if_pos v0] at kk
              refine w179_156 l7 ?_
              refine w179_158 l1 ?_
              refine w179_159 (fun hQ => absurd hQ (fun z => z (by rw [g1]))) (fun _ => ?_)
              refine w179_162 l11 ?_
              refine w179_164 (fun hQ => absurd hQ (by decide)) (fun _ => ?_)
              refine w179_167 l0 ?_
              refine w179_168 ?_
              rw [v_s_br]
              refine w179_171 (fun hQ => absurd hQ (by decide)) (fun _ => ?_)
              refine w179_174 l10 ?_
              refine w179_176 (fun hQ => absurd hQ (by decide)) (fun _ => ?_)
              refine w179_179 l8 ?_
              refine w179_181 ?_
              refine w179_182 ?_
              refine w179_183 (fun hQ => absurd hQ (fun z => absurd ((lg_cmp_ge _ _).mp z) (Int64.not_le.mpr v0))) (fun _ => ?_)
              refine w179_186 ?_
              refine w179_187 ?_
              refine w179_207 ?_
              exact kk _ l0 l1 rfl
            · rw [if_neg v0] at kk
              by_cases v9 : 9 < v
              · rw [if_pos v9] at kk
                refine w179_156 l7 ?_
                refine w179_158 l1 ?_
                refine w179_159 (fun hQ => absurd hQ (fun z => z (by rw [g1]))) (fun _ => ?_)
                refine w179_162 l11 ?_
                refine w179_164 (fun hQ => absurd hQ (by decide)) (fun _ => ?_)
                refine w179_167 l0 ?_
                refine w179_168 ?_
                rw [v_s_br]
                refine w179_171 (fun hQ => absurd hQ (by decide)) (fun _ => ?_)
                refine w179_174 l10 ?_
                refine w179_176 (fun hQ => absurd hQ (by decide)) (fun _ => ?_)
                refine w179_179 l8 ?_
                refine w179_181 ?_
                refine w179_182 ?_
                refine w179_183 (fun _ => ?_) (fun hQ => absurd ((lg_cmp_ge _ _).mpr (Int64.not_lt.mp v0)) hQ)
                refine w179_190 l8 ?_
                refine w179_192 ?_
                refine w179_195 ?_
                refine w179_196 (fun hQ => absurd hQ (fun z => absurd ((lg_cmp_le _ _).mp z) (Int64.not_le.mpr v9))) (fun _ => ?_)
                refine w179_199 ?_
                refine w179_202 ?_
                refine w179_207 ?_
                exact kk _ l0 l1 rfl
              · rw [if_neg v9] at kk
                refine w179_156 l7 ?_
                refine w179_158 l1 ?_
                refine w179_159 (fun hQ => absurd hQ (fun z => z (by rw [g1]))) (fun _ => ?_)
                refine w179_162 l11 ?_
                refine w179_164 (fun hQ => absurd hQ (by decide)) (fun _ => ?_)
                refine w179_167 l0 ?_
                refine w179_168 ?_
                rw [v_s_br]
                refine w179_171 (fun hQ => absurd hQ (by decide)) (fun _ => ?_)
                refine w179_174 l10 ?_
                refine w179_176 (fun hQ => absurd hQ (by decide)) (fun _ => ?_)
                refine w179_179 l8 ?_
                refine w179_181 ?_
                refine w179_182 ?_
                refine w179_183 (fun _ => ?_) (fun hQ => absurd ((lg_cmp_ge _ _).mpr (Int64.not_lt.mp v0)) hQ)
                refine w179_190 l8 ?_
                refine w179_192 ?_
                refine w179_195 ?_
                refine w179_196 (fun _ => ?_) (fun hQ => absurd ((lg_cmp_le _ _).mpr (Int64.not_lt.mp v9)) hQ)
                refine w179_205 l8 ?_
                refine w179_207 ?_
                exact kk _ l0 l1 rfl
          · rw [nob rfl] at kk
            refine w179_156 l7 ?_
            refine w179_158 l1 ?_
            refine w179_159 (fun hQ => absurd hQ (fun z => z (by rw [g1]))) (fun _ => ?_)
            refine w179_162 l11 ?_
            refine w179_164 (fun hQ => absurd hQ (by decide)) (fun _ => ?_)
            refine w179_167 l0 ?_
            refine w179_168 ?_
            rw [v_s_br]
            refine w179_171 (fun hQ => absurd hQ (by decide)) (fun _ => ?_)
            refine w179_174 l10 ?_
            refine w179_176 (fun _ => ?_) (fun hQ => absurd (by decide) hQ)
            exact kk _ l0 l1 l5
        · rw [no (fun z => absurd (hif.mp z.2).2 (by decide))] at kk
          refine w179_156 l7 ?_
          refine w179_158 l1 ?_
          refine w179_159 (fun hQ => absurd hQ (fun z => z (by rw [g1]))) (fun _ => ?_)
          refine w179_162 l11 ?_
          refine w179_164 (fun hQ => absurd hQ (by decide)) (fun _ => ?_)
          refine w179_167 l0 ?_
          refine w179_168 ?_
          rw [v_s_br]
          refine w179_171 (fun _ => ?_) (fun hQ => absurd (by decide) hQ)
          exact kk _ l0 l1 l5
    · rw [no (fun z => g1 z.1)] at kk
      refine w179_156 l7 ?_
      refine w179_158 l1 ?_
      refine w179_159 (fun _ => ?_) (fun hQ => absurd (nI_ne g1 c31 hd31) hQ)
      exact kk _ l0 l1 l5
  have s2 : ∀ (v : Int64) (sb : Int32), (sb = 0 ∨ sb = 1) → (c.1 = 3 ∧ v = 1 ∧ sb = 0 ∨ ∃ a, c.2.1 = [a] ∧ ¬ c.1 = 3 ∧ k_i32 a ∧ (sb = 0 ∧ a.1 w = some v ∨ sb = 1 ∧ a.1 w = none)) → ∀ lv, am_ld1 lv 0 = some (.ref 124) → am_ld1 lv 1 = some (.int (nI hd)) → am_ld2 lv 5 = some (.long told.toInt64) → am_ld1 lv 7 = some (.int (nI c.1)) → am_ld2 lv 8 = some (.long v) → am_ld1 lv 10 = some (.int sb) → am_wp pr (d + 43) 179 133 lv [] (S, v_s I (base + j2) 0, J, P) Q := by
    intro v sb hsb hc lv l0 l1 l5 l7 l8 l10
    rcases p_if_ok hB with ⟨q4, t, rfl, q5⟩ | ⟨q4, rfl, rfl, -⟩
    · have hj3 : j2 < N := E.lt (by rw [q4]; decide)
      have hM : v_M true 1 0 := Or.inl ⟨rfl, rfl, rfl⟩
      refine w179_133 l0 ?_
      refine w179_134 ?_
      refine w179_135 (k := c189 E (by omega) (fun _ => ?_) (fun z => absurd q4 z))
      refine w179_138 (fun hQ => absurd hQ (by decide)) (fun _ => ?_)
      refine w179_141 l0 ?_
      refine w179_142 ?_
      refine w179_143 (k := c193 (d := d) E q5 (by omega) hj3 hM (fun v2 br2 hv2 => ?_))
      have hz := v_R_t hv2
      have hif : e_if w (some t) = true ↔ v2 = true ∧ br2 = 0 := by
        show (t.1 w).getD false = true ↔ _
        rcases hz with ⟨y1, y2⟩ | ⟨y1, y2⟩
        · rw [y2, y1]
          simp
        · rw [y2, y1]
          simp
      cases v2 with
      | true =>
        refine w179_146 (fun hQ => absurd hQ (by decide)) (fun _ => ?_)
        refine w179_149 ?_
        refine w179_150 ?_
        refine w179_154 ?_
        exact s3 v sb 1 br2 hsb (Or.inr rfl) (hz.elim (fun y => Or.inl y.1) (fun y => Or.inr y.1)) (by rw [hif]; simp) hc _ l0 l1 l5 l7 l8 l10 rfl
      | false =>
        refine w179_146 (fun _ => ?_) (fun hQ => absurd rfl hQ)
        refine w179_153 ?_
        refine w179_154 ?_
        exact s3 v sb 0 br2 hsb (Or.inl rfl) (hz.elim (fun y => Or.inl y.1) (fun y => Or.inr y.1)) (by rw [hif]; simp) hc _ l0 l1 l5 l7 l8 l10 rfl
    · refine w179_133 l0 ?_
      refine w179_134 ?_
      refine w179_135 (k := c189 E (by omega) (fun z => absurd z q4) (fun _ => ?_))
      refine w179_138 (fun _ => ?_) (fun hQ => absurd rfl hQ)
      refine w179_149 ?_
      refine w179_150 ?_
      refine w179_154 ?_
      exact s3 v sb 1 0 hsb (Or.inr rfl) (Or.inl rfl) ⟨fun _ => ⟨rfl, rfl⟩, fun _ => rfl⟩ hc _ l0 l1 l5 l7 l8 l10 rfl
  intro lv l0 l1 l5
  rcases hA with ⟨q1, rfl, rfl⟩ | ⟨a, q, q1, q2, rfl, q3⟩
  · refine w179_69 l0 ?_
    refine w179_70 ?_
    rw [v_s_go]
    refine w179_73 l0 ?_
    refine w179_74 ?_
    rw [v_s_at (by decide) (by decide), e23]
    refine w179_77 (fun hQ => absurd hQ (am_nlt (by omega) (by omega))) (fun _ => ?_)
    refine w179_80 l0 ?_
    refine w179_81 l0 ?_
    refine w179_82 ?_
    rw [v_s_go]
    refine w179_85 (k := c184 E (by omega) ?_)
    rw [q1]
    refine w179_88 ?_
    refine w179_90 l0 ?_
    refine w179_91 ?_
    refine w179_92 (by decide) ?_
    rw [v_s_24]
    refine w179_95 l0 ?_
    refine w179_96 rfl ?_
    refine w179_97 ?_
    rw [v_s_go]
    refine w179_100 ?_
    refine w179_101 ?_
    rw [nI_1]
    refine w179_102 ?_
    rw [v_s_22, Nat.add_assoc]
    refine w179_105 rfl ?_
    refine w179_107 ?_
    refine w179_108 (fun hQ => absurd hQ (fun z => z rfl)) (fun _ => ?_)
    refine w179_111 ?_
    refine w179_112 ?_
    refine w179_120 ?_
    refine w179_122 l0 ?_
    refine w179_123 ?_
    rw [v_s_br]
    refine w179_126 ?_
    refine w179_128 l0 ?_
    refine w179_129 ?_
    refine w179_130 (by decide) ?_
    rw [v_s_24]
    exact s2 1 0 (Or.inl rfl) (Or.inl ⟨rfl, rfl, rfl⟩) _ l0 l1 l5 rfl rfl rfl
  · have hM : v_M true 1 0 := Or.inl ⟨rfl, rfl, rfl⟩
    have g := p_sum_good q3
    refine w179_69 l0 ?_
    refine w179_70 ?_
    rw [v_s_go]
    refine w179_73 l0 ?_
    refine w179_74 ?_
    rw [v_s_at (by decide) (by decide), e23]
    refine w179_77 (fun hQ => absurd hQ (am_nlt (by omega) (by omega))) (fun _ => ?_)
    refine w179_80 l0 ?_
    refine w179_81 l0 ?_
    refine w179_82 ?_
    rw [v_s_go]
    refine w179_85 (k := c184 E (by omega) ?_)
    rw [q1]
    refine w179_88 ?_
    refine w179_90 l0 ?_
    refine w179_91 ?_
    refine w179_92 (by decide) ?_
    rw [v_s_24]
    refine w179_95 l0 ?_
    refine w179_96 rfl ?_
    refine w179_97 ?_
    rw [v_s_go]
    refine w179_100 ?_
    refine w179_101 ?_
    rw [nI_1]
    refine w179_102 ?_
    rw [v_s_22, Nat.add_assoc]
    refine w179_105 rfl ?_
    refine w179_107 ?_
    refine w179_108 (fun _ => ?_) (fun hQ => absurd (nI_ne (b := 3) (by omega) (by omega) (by decide)) hQ)
    refine w179_115 l0 ?_
    refine w179_116 ?_
    refine w179_117 (k := c185 (d := d + 12) E q3 (by omega) hiN hM (fun v br1 hv => ?_))
    refine w179_120 ?_
    refine w179_122 l0 ?_
    refine w179_123 ?_
    rw [v_s_br]
    refine w179_126 ?_
    refine w179_128 l0 ?_
    refine w179_129 ?_
    refine w179_130 (by decide) ?_
    rw [v_s_24]
    have hz := v_R_t hv
    exact s2 v br1 (hz.elim (fun y => Or.inl y.1) (fun y => Or.inr y.1)) (Or.inr ⟨a, rfl, by show ¬ q = 3; omega, g.1.2, hz⟩) _ l0 l1 l5 rfl rfl rfl
/-- all clauses -/
theorem c179l (E : v_E S I P T base N w) (hT : T.2.2 = false) {f hd : Nat} (hh : hd = 1 ∨ hd = 2 ∨ hd = 3) : ∀ (r i lvs : Nat) (xs : List Cl) (lvs' : Nat) (told br : Int32), p_list T N f r i lvs = pOk xs N lvs' → (∀ br', ∀ lv, am_ld2 lv 5 = some (.long (e_tell w hd xs told).toInt64) → am_wp pr (d + 43) 179 222 lv [] (S, v_s I (base + N + 1) br', J, P) Q) → ∀ lv, am_ld1 lv 0 = some (.ref 124) → am_ld1 lv 1 = some (.int (nI hd)) → am_ld2 lv 5 = some (.long told.toInt64) → am_wp pr (d + 43) 179 69 lv [] (S, v_s I (base + i) br, J, P) Q
  | 0, _, _, _, _, _, _, h, _ => by cases h
  | r + 1, i, lvs, xs, lvs', told, br, h, k => by
    have L := E.1
    have hbn := E.2.1
    have h0 := E.2.2.2.2.1
    have e23 := E.2.2.1
    unfold p_list at h
    obtain ⟨c, j, l1, h1, h2⟩ := pBind_ok h
    refine c179s E hT h1 hh (fun br' => ?_)
    intro lv l0 l1 l5
    split at h2
    · rename_i hj
      obtain ⟨rfl, -, -⟩ := pOk_inj h2
      subst hj
      refine w179_209 l0 ?_
      refine w179_210 rfl ?_
      refine w179_211 ?_
      rw [v_s_go]
      refine w179_214 ?_
      refine w179_215 ?_
      rw [nI_1]
      refine w179_216 ?_
      rw [v_s_22]
      refine w179_219 ?_
      refine w179_69 l0 ?_
      refine w179_70 ?_
      rw [v_s_go]
      refine w179_73 l0 ?_
      refine w179_74 ?_
      rw [v_s_at (by decide) (by decide), e23]
      refine w179_77 (fun _ => ?_) (fun hQ => absurd (nI_le (by omega) (by omega)) hQ)
      exact k br' _ l5
    · split at h2
      · rename_i hj hs
        obtain ⟨cs, h3, rfl⟩ := pMap_ok h2
        have hjN : j < N := E.lt (by rw [hs]; decide)
        refine w179_209 l0 ?_
        refine w179_210 rfl ?_
        refine w179_211 ?_
        rw [v_s_go]
        refine w179_214 ?_
        refine w179_215 ?_
        rw [nI_1]
        refine w179_216 ?_
        rw [v_s_22, Nat.add_assoc]
        refine w179_219 ?_
        exact c179l E hT hh r (j + 1) _ cs lvs' (e_tell1 w hd c told) br' h3 k _ l0 l1 l5
      · exact (pBad_no h2).elim
/-- the law in force, as the reference has it -/
def m_lw (kp : Nat → Int32) (lw : Option (List Cl)) : Prop := (kp 76 = -1 ∧ lw = none) ∨ ∃ f xs, f < 6 ∧ kp 76 = nI f ∧ lw = some xs ∧ am_TK false kp f xs
def m_te (kp : Nat → Int32) (n : Nat) (lw : Option (List Cl)) (hd m b : Nat) (x : Int32) : Int32 := match lw with | none => x | some xs => e_tell (a_env kp n m b) hd xs x
/-- tells -/
theorem c179 (L : am_Lay S P) {n m b hd : Nat} {kp : Nat → Int32} {lw : Option (List Cl)} {x : Int32} (hk : I 126 = kp) (hn : kp 73 = nI n) (n7 : n ≤ 7) (hm : m < 7) (hb : b < 5) (hlw : m_lw kp lw) (hh : hd = 1 ∨ hd = 2 ∨ hd = 3) (k : ∀ I', m_fr I I' → Q (some (.int (m_te kp n lw hd m b x))) (S, I', J, P)) : am_ev pr (d + 43) 179 [.ref 124, .int (nI hd), .int (nI m), .int (nI b), .int x] (S, I, J, P) Q := by
  subst hk
  show am_wp pr (d + 43) 179 0 [(0, .ref 124), (1, .int (nI hd)), (2, .int (nI m)), (3, .int (nI b)), (4, .int x)] [] _ _
  rcases hlw with ⟨h1, rfl⟩ | ⟨f, xs, hf, h1, rfl, N, lvs, hN, hN0, hz, hp⟩
  · refine w179_0 rfl ?_
    refine w179_1 (L.2 _ _ _ rfl) ?_
    refine w179_4 ?_
    refine w179_6 (L.sh rfl) (by decide) ?_
    rw [tl_76, h1]
    refine w179_7 ?_
    refine w179_8 (fun hQ => absurd hQ (fun z => z rfl)) (fun _ => ?_)
    refine w179_11 rfl ?_
    refine w179_13 ?_
    exact k _ ⟨fun _ _ _ => rfl, fun _ _ => rfl⟩
  · refine w179_0 rfl ?_
    refine w179_1 (L.2 _ _ _ rfl) ?_
    refine w179_4 ?_
    refine w179_6 (L.sh rfl) (by decide) ?_
    rw [tl_76, h1]
    refine w179_7 ?_
    refine w179_8 (fun _ => ?_) (fun hQ => absurd (by exact nI_nm1 (by omega)) hQ)
    refine w179_14 rfl ?_
    refine w179_15 rfl ?_
    refine w179_16 rfl ?_
    refine w179_17 (k := c180 L rfl hn n7 hm hb (fun I1 g1 g2 => ?_))
    have e1 : I1 126 = I 126 := g1 126 (by decide)
    have ef : I1 126 76 = nI f := by rw [e1]; exact h1
    have ez : I1 126 (77 + f) = nI N := by rw [e1]; exact hz
    have E : v_E S (am_u (am_u I1 124 25 0) 124 23 (nI (400 * f + N))) P (k_tk (I 126) false f N) (400 * f) N (a_env (I 126) n m b) := by
      refine ⟨L, by omega, am_u_self, fun i hi => ?_, fun i hi => ?_, Or.inl ⟨rfl, ?_, fun c h1 h2 => ?_⟩⟩
      · rw [am_u_ne (by decide), am_u_ne (by decide), e1]
        show (if i < N then _ else _) = _ ∧ (if i < N then _ else _) = _
        rw [if_pos hi, if_pos hi]
        exact ⟨rfl, rfl⟩
      · show (if i < N then _ else _) = _
        exact if_neg (by omega)
      · rw [am_u_at (by decide)]
        exact am_u_self
      · rw [am_u_ne (by decide), am_u_ne (by decide)]
        exact g2 c h1 h2
    have u126 : ∀ (f : Nat → Nat → Int32) (q : Nat) (x : Int32), am_u f 124 q x 126 = f 126 := fun f q x => am_u_ne (by decide)
    refine w179_20 rfl ?_
    refine w179_21 ?_
    refine w179_22 (by decide) ?_
    refine w179_25 rfl ?_
    refine w179_27 ?_
    refine w179_28 ?_
    refine w179_30 rfl ?_
    refine w179_31 ?_
    refine w179_34 rfl ?_
    refine w179_35 (L.2 _ _ _ rfl) ?_
    refine w179_38 ?_
    refine w179_40 (L.sh rfl) (by decide) ?_
    rw [tl_76, u126, ef]
    refine w179_41 ?_
    rw [nz_c400]
    refine w179_42 ?_
    refine w179_45 rfl ?_
    refine w179_46 rfl ?_
    refine w179_47 ?_
    rw [am_u_self]
    refine w179_50 rfl ?_
    refine w179_51 (L.2 _ _ _ rfl) ?_
    refine w179_54 ?_
    refine w179_56 rfl ?_
    refine w179_57 (L.2 _ _ _ rfl) ?_
    refine w179_60 ?_
    refine w179_62 (L.sh rfl) (by decide) ?_
    rw [tl_76, u126, u126, ef]
    refine w179_63 ?_
    rw [nz_a77]
    refine w179_64 (L.sh rfl) (am_in_nI (by omega) (by decide)) ?_
    rw [am_clN (by omega), u126, u126, ez]
    refine w179_65 ?_
    rw [nI_add]
    refine w179_66 ?_
    rw [v_sE]
    refine c179l E rfl hh 12 0 0 xs lvs x _ hp (fun br' => ?_) _ rfl rfl rfl
    intro lv l5
    refine w179_222 l5 ?_
    refine w179_224 ?_
    refine w179_225 ?_
    rw [Int32.toInt32_toInt64]
    refine k _ ((m_fr.tr ⟨fun a h1 h2 => g1 a h2, fun q _ => by rw [g1 124 (by decide)]⟩ (m_fr_u (by decide))).tr ((m_fr_u (by decide)).tr m_fr_v))
end
