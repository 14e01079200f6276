/-! both sides' calls: counts, what was drawn, how likely so few doze, bytes -/
section
variable {pr : am_Pr} {d : Nat} {S : List (Nat × Nat)} {I I' : Nat → Nat → Int32} {J : Nat → Nat → Int64} {P : Nat → Nat → Option Nat} {Q : Option Value → am_H → Prop} {n l s u tp n' s' u' tp' : Nat} {kp kp' : Nat → Int32}
/-- count -/
theorem op_39 (r : am_R S I P n l s u tp) {x : Int32} : am_op pr (d + 60) S I J P 160 [.ref 64, .int x] 302 [.ref 124, .int x] := by
  have hr := r.hr
  have n7 := hr.n7
  have L := r.L
  obtain ⟨hs, hs1, hs2⟩ := am_here7 n7 hr.he
  have hon := t_on_hm n7 hr.he hr.k01
  rw [hs2] at hon
  rcases am_sw0_12 x with rfl | rfl | rfl | rfl | rfl | rfl | rfl | rfl | rfl | rfl | rfl | rfl | rfl | hx
  · show am_wp pr (d + 60) 160 0 [(0, .ref 64), (1, .int 0)] [] _ _
    refine w160_0 rfl ?_
    refine w160_1_0 ?_
    refine w160_68 rfl ?_
    refine w160_69 (L.2 _ _ _ rfl) ?_
    refine w160_72 ?_
    refine w160_75 ?_
    refine ⟨_, rfl, ?_⟩
    show am_wp pr (d + 60) 302 0 [(0, .ref 124), (1, .int 0)] [] _ _
    refine w302_0 rfl ?_
    refine w302_1_0 ?_
    refine w302_84 rfl ?_
    refine w302_85 (k := c171 L ?_)
    refine w302_88 ?_
    exact am_oi_0 r (hr.kn.trans hr.hn.symm)
  · show am_wp pr (d + 60) 160 0 [(0, .ref 64), (1, .int 1)] [] _ _
    refine w160_0 rfl ?_
    refine w160_1_1 ?_
    refine w160_76 rfl ?_
    refine w160_77 (L.2 _ _ _ rfl) ?_
    refine w160_80 ?_
    rw [hs2]
    refine w160_83 (k := c23 hs1 ?_)
    refine w160_86 ?_
    refine ⟨_, rfl, ?_⟩
    show am_wp pr (d + 60) 302 0 [(0, .ref 124), (1, .int 1)] [] _ _
    refine w302_0 rfl ?_
    refine w302_1_1 ?_
    refine w302_89 rfl ?_
    refine w302_90 (k := c183 L hr.kn n7 ?_)
    refine w302_93 ?_
    exact am_oi_0 r (hon.symm)
  · show am_wp pr (d + 60) 160 0 [(0, .ref 64), (1, .int 2)] [] _ _
    refine w160_0 rfl ?_
    refine w160_1_2 ?_
    refine w160_87 rfl ?_
    refine w160_88 (L.2 _ _ _ rfl) ?_
    refine w160_91 ?_
    refine w160_94 ?_
    refine ⟨_, rfl, ?_⟩
    show am_wp pr (d + 60) 302 0 [(0, .ref 124), (1, .int 2)] [] _ _
    refine w302_0 rfl ?_
    refine w302_1_2 ?_
    refine w302_94 rfl ?_
    refine w302_95 (L.2 _ _ _ rfl) ?_
    refine w302_98 ?_
    refine w302_100 (by first | with_reducible assumption | exact L.sh rfl | exact hh.sh rfl | exact hp.2.2) (by first | with_reducible assumption | with_reducible exact am_in_nI (by omega) (by decide) | with_reducible exact am_inb (by omega) (by omega) | with_reducible exact am_inb' (by omega) (by omega) | with_reducible exact am_in35 (by omega) | with_reducible exact am_inw (by omega) (by omega) | with_reducible decide) ?_
    try simp (disch := omega) only [am_clb, am_clb', am_cl35, am_clw, am_clN, tl_0, tl_1, tl_2, tl_3, tl_4, tl_5, tl_6, tl_7, tl_8, tl_9, tl_10, tl_11, tl_12, tl_13, tl_14, tl_15, tl_16, tl_35, tl_42, tl_43, tl_44, tl_51, tl_58, tl_70, tl_71, tl_72, tl_73, tl_74, tl_75, tl_76, tl_77, tl_78, tl_79, tl_80, tl_81, tl_82, tl_83, vb_0, vb_1]
    refine w302_101 ?_
    exact am_oi_0 r (hr.st.symm)
  · show am_wp pr (d + 60) 160 0 [(0, .ref 64), (1, .int 3)] [] _ _
    refine w160_0 rfl ?_
    refine w160_1_3 ?_
    refine w160_95 rfl ?_
    refine w160_96 (L.2 _ _ _ rfl) ?_
    refine w160_99 ?_
    refine w160_102 ?_
    refine ⟨_, rfl, ?_⟩
    show am_wp pr (d + 60) 302 0 [(0, .ref 124), (1, .int 3)] [] _ _
    refine w302_0 rfl ?_
    refine w302_1_3 ?_
    refine w302_102 rfl ?_
    refine w302_103 (L.2 _ _ _ rfl) ?_
    refine w302_106 ?_
    refine w302_108 (by first | with_reducible assumption | exact L.sh rfl | exact hh.sh rfl | exact hp.2.2) (by first | with_reducible assumption | with_reducible exact am_in_nI (by omega) (by decide) | with_reducible exact am_inb (by omega) (by omega) | with_reducible exact am_inb' (by omega) (by omega) | with_reducible exact am_in35 (by omega) | with_reducible exact am_inw (by omega) (by omega) | with_reducible decide) ?_
    try simp (disch := omega) only [am_clb, am_clb', am_cl35, am_clw, am_clN, tl_0, tl_1, tl_2, tl_3, tl_4, tl_5, tl_6, tl_7, tl_8, tl_9, tl_10, tl_11, tl_12, tl_13, tl_14, tl_15, tl_16, tl_35, tl_42, tl_43, tl_44, tl_51, tl_58, tl_70, tl_71, tl_72, tl_73, tl_74, tl_75, tl_76, tl_77, tl_78, tl_79, tl_80, tl_81, tl_82, tl_83, vb_0, vb_1]
    refine w302_109 ?_
    exact am_oi_0 r (hr.kss.trans hr.hs.symm)
  · show am_wp pr (d + 60) 160 0 [(0, .ref 64), (1, .int 4)] [] _ _
    refine w160_0 rfl ?_
    refine w160_1_4 ?_
    refine w160_103 rfl ?_
    refine w160_104 (L.2 _ _ _ rfl) ?_
    refine w160_107 ?_
    refine w160_110 ?_
    refine ⟨_, rfl, ?_⟩
    show am_wp pr (d + 60) 302 0 [(0, .ref 124), (1, .int 4)] [] _ _
    refine w302_0 rfl ?_
    refine w302_1_4 ?_
    refine w302_110 rfl ?_
    refine w302_111 (L.2 _ _ _ rfl) ?_
    refine w302_114 ?_
    refine w302_116 (by first | with_reducible assumption | exact L.sh rfl | exact hh.sh rfl | exact hp.2.2) (by first | with_reducible assumption | with_reducible exact am_in_nI (by omega) (by decide) | with_reducible exact am_inb (by omega) (by omega) | with_reducible exact am_inb' (by omega) (by omega) | with_reducible exact am_in35 (by omega) | with_reducible exact am_inw (by omega) (by omega) | with_reducible decide) ?_
    try simp (disch := omega) only [am_clb, am_clb', am_cl35, am_clw, am_clN, tl_0, tl_1, tl_2, tl_3, tl_4, tl_5, tl_6, tl_7, tl_8, tl_9, tl_10, tl_11, tl_12, tl_13, tl_14, tl_15, tl_16, tl_35, tl_42, tl_43, tl_44, tl_51, tl_58, tl_70, tl_71, tl_72, tl_73, tl_74, tl_75, tl_76, tl_77, tl_78, tl_79, tl_80, tl_81, tl_82, tl_83, vb_0, vb_1]
    refine w302_117 ?_
    exact am_oi_0 r (hr.kl.trans hr.hl.symm)
  · show am_wp pr (d + 60) 160 0 [(0, .ref 64), (1, .int 5)] [] _ _
    refine w160_0 rfl ?_
    refine w160_1_5 ?_
    refine w160_111 rfl ?_
    refine w160_112 (L.2 _ _ _ rfl) ?_
    refine w160_115 ?_
    refine w160_118 ?_
    refine ⟨_, rfl, ?_⟩
    show am_wp pr (d + 60) 302 0 [(0, .ref 124), (1, .int 5)] [] _ _
    refine w302_0 rfl ?_
    refine w302_1_5 ?_
    refine w302_118 rfl ?_
    refine w302_119 ?_
    refine w302_122 ?_
    exact am_oi_0 r (r.past.2.2.1.trans r.past.2.1.symm)
  · show am_wp pr (d + 60) 160 0 [(0, .ref 64), (1, .int 6)] [] _ _
    refine w160_0 rfl ?_
    refine w160_1_6 ?_
    refine w160_119 rfl ?_
    refine w160_120 (L.2 _ _ _ rfl) ?_
    refine w160_123 ?_
    refine w160_126 ?_
    refine ⟨_, rfl, ?_⟩
    show am_wp pr (d + 60) 302 0 [(0, .ref 124), (1, .int 6)] [] _ _
    refine w302_0 rfl ?_
    refine w302_1_6 ?_
    refine w302_123 rfl ?_
    refine w302_124 ?_
    refine w302_127 ?_
    exact am_oi_0 r (r.tape.2.2.1.trans r.tape.2.1.symm)
  · show am_wp pr (d + 60) 160 0 [(0, .ref 64), (1, .int 7)] [] _ _
    refine w160_0 rfl ?_
    refine w160_1_7 ?_
    refine w160_127 rfl ?_
    refine w160_128 (L.2 _ _ _ rfl) ?_
    refine w160_131 ?_
    refine w160_132 (by first | with_reducible assumption | exact L.sh rfl | exact hh.sh rfl | exact hp.2.2) (by first | with_reducible assumption | with_reducible exact am_in_nI (by omega) (by decide) | with_reducible exact am_inb (by omega) (by omega) | with_reducible exact am_inb' (by omega) (by omega) | with_reducible exact am_in35 (by omega) | with_reducible exact am_inw (by omega) (by omega) | with_reducible decide) ?_
    try simp (disch := omega) only [am_clb, am_clb', am_cl35, am_clw, am_clN, tl_0, tl_1, tl_2, tl_3, tl_4, tl_5, tl_6, tl_7, tl_8, tl_9, tl_10, tl_11, tl_12, tl_13, tl_14, tl_15, tl_16, tl_35, tl_42, tl_43, tl_44, tl_51, tl_58, tl_70, tl_71, tl_72, tl_73, tl_74, tl_75, tl_76, tl_77, tl_78, tl_79, tl_80, tl_81, tl_82, tl_83, vb_0, vb_1]
    refine w160_133 ?_
    refine ⟨_, rfl, ?_⟩
    show am_wp pr (d + 60) 302 0 [(0, .ref 124), (1, .int 7)] [] _ _
    refine w302_0 rfl ?_
    refine w302_1_7 ?_
    refine w302_128 rfl ?_
    refine w302_129 (L.2 _ _ _ rfl) ?_
    refine w302_132 rfl ?_
    refine w302_133 ?_
    refine w302_135 ?_
    refine w302_136 (L.sh rfl) (by decide) ?_
    rw [show ((7 : Int32) - 6).toNatClampNeg = 1 from rfl]
    refine w302_137 ?_
    exact am_oi_0 r (r.i9 1 (by decide)).symm
  · show am_wp pr (d + 60) 160 0 [(0, .ref 64), (1, .int 8)] [] _ _
    refine w160_0 rfl ?_
    refine w160_1_8 ?_
    refine w160_134 rfl ?_
    refine w160_135 (L.2 _ _ _ rfl) ?_
    refine w160_138 ?_
    refine w160_139 (by first | with_reducible assumption | exact L.sh rfl | exact hh.sh rfl | exact hp.2.2) (by first | with_reducible assumption | with_reducible exact am_in_nI (by omega) (by decide) | with_reducible exact am_inb (by omega) (by omega) | with_reducible exact am_inb' (by omega) (by omega) | with_reducible exact am_in35 (by omega) | with_reducible exact am_inw (by omega) (by omega) | with_reducible decide) ?_
    try simp (disch := omega) only [am_clb, am_clb', am_cl35, am_clw, am_clN, tl_0, tl_1, tl_2, tl_3, tl_4, tl_5, tl_6, tl_7, tl_8, tl_9, tl_10, tl_11, tl_12, tl_13, tl_14, tl_15, tl_16, tl_35, tl_42, tl_43, tl_44, tl_51, tl_58, tl_70, tl_71, tl_72, tl_73, tl_74, tl_75, tl_76, tl_77, tl_78, tl_79, tl_80, tl_81, tl_82, tl_83, vb_0, vb_1]
    refine w160_140 ?_
    refine ⟨_, rfl, ?_⟩
    show am_wp pr (d + 60) 302 0 [(0, .ref 124), (1, .int 8)] [] _ _
    refine w302_0 rfl ?_
    refine w302_1_8 ?_
    refine w302_128 rfl ?_
    refine w302_129 (L.2 _ _ _ rfl) ?_
    refine w302_132 rfl ?_
    refine w302_133 ?_
    refine w302_135 ?_
    refine w302_136 (L.sh rfl) (by decide) ?_
    rw [show ((8 : Int32) - 6).toNatClampNeg = 2 from rfl]
    refine w302_137 ?_
    exact am_oi_0 r (r.i9 2 (by decide)).symm
  · show am_wp pr (d + 60) 160 0 [(0, .ref 64), (1, .int 9)] [] _ _
    refine w160_0 rfl ?_
    refine w160_1_9 ?_
    refine w160_141 rfl ?_
    refine w160_142 (L.2 _ _ _ rfl) ?_
    refine w160_145 ?_
    refine w160_146 (by first | with_reducible assumption | exact L.sh rfl | exact hh.sh rfl | exact hp.2.2) (by first | with_reducible assumption | with_reducible exact am_in_nI (by omega) (by decide) | with_reducible exact am_inb (by omega) (by omega) | with_reducible exact am_inb' (by omega) (by omega) | with_reducible exact am_in35 (by omega) | with_reducible exact am_inw (by omega) (by omega) | with_reducible decide) ?_
    try simp (disch := omega) only [am_clb, am_clb', am_cl35, am_clw, am_clN, tl_0, tl_1, tl_2, tl_3, tl_4, tl_5, tl_6, tl_7, tl_8, tl_9, tl_10, tl_11, tl_12, tl_13, tl_14, tl_15, tl_16, tl_35, tl_42, tl_43, tl_44, tl_51, tl_58, tl_70, tl_71, tl_72, tl_73, tl_74, tl_75, tl_76, tl_77, tl_78, tl_79, tl_80, tl_81, tl_82, tl_83, vb_0, vb_1]
    refine w160_147 ?_
    refine ⟨_, rfl, ?_⟩
    show am_wp pr (d + 60) 302 0 [(0, .ref 124), (1, .int 9)] [] _ _
    refine w302_0 rfl ?_
    refine w302_1_9 ?_
    refine w302_128 rfl ?_
    refine w302_129 (L.2 _ _ _ rfl) ?_
    refine w302_132 rfl ?_
    refine w302_133 ?_
    refine w302_135 ?_
    refine w302_136 (L.sh rfl) (by decide) ?_
    rw [show ((9 : Int32) - 6).toNatClampNeg = 3 from rfl]
    refine w302_137 ?_
    exact am_oi_0 r (r.i9 3 (by decide)).symm
  · show am_wp pr (d + 60) 160 0 [(0, .ref 64), (1, .int 10)] [] _ _
    refine w160_0 rfl ?_
    refine w160_1_10 ?_
    refine w160_148 rfl ?_
    refine w160_149 (L.2 _ _ _ rfl) ?_
    refine w160_152 ?_
    refine w160_153 (by first | with_reducible assumption | exact L.sh rfl | exact hh.sh rfl | exact hp.2.2) (by first | with_reducible assumption | with_reducible exact am_in_nI (by omega) (by decide) | with_reducible exact am_inb (by omega) (by omega) | with_reducible exact am_inb' (by omega) (by omega) | with_reducible exact am_in35 (by omega) | with_reducible exact am_inw (by omega) (by omega) | with_reducible decide) ?_
    try simp (disch := omega) only [am_clb, am_clb', am_cl35, am_clw, am_clN, tl_0, tl_1, tl_2, tl_3, tl_4, tl_5, tl_6, tl_7, tl_8, tl_9, tl_10, tl_11, tl_12, tl_13, tl_14, tl_15, tl_16, tl_35, tl_42, tl_43, tl_44, tl_51, tl_58, tl_70, tl_71, tl_72, tl_73, tl_74, tl_75, tl_76, tl_77, tl_78, tl_79, tl_80, tl_81, tl_82, tl_83, vb_0, vb_1]
    refine w160_154 ?_
    refine ⟨_, rfl, ?_⟩
    show am_wp pr (d + 60) 302 0 [(0, .ref 124), (1, .int 10)] [] _ _
    refine w302_0 rfl ?_
    refine w302_1_10 ?_
    refine w302_138 rfl ?_
    refine w302_139 (L.2 _ _ _ rfl) ?_
    refine w302_142 ?_
    refine w302_143 (by first | with_reducible assumption | exact L.sh rfl | exact hh.sh rfl | exact hp.2.2) (by first | with_reducible assumption | with_reducible exact am_in_nI (by omega) (by decide) | with_reducible exact am_inb (by omega) (by omega) | with_reducible exact am_inb' (by omega) (by omega) | with_reducible exact am_in35 (by omega) | with_reducible exact am_inw (by omega) (by omega) | with_reducible decide) ?_
    try simp (disch := omega) only [am_clb, am_clb', am_cl35, am_clw, am_clN, tl_0, tl_1, tl_2, tl_3, tl_4, tl_5, tl_6, tl_7, tl_8, tl_9, tl_10, tl_11, tl_12, tl_13, tl_14, tl_15, tl_16, tl_35, tl_42, tl_43, tl_44, tl_51, tl_58, tl_70, tl_71, tl_72, tl_73, tl_74, tl_75, tl_76, tl_77, tl_78, tl_79, tl_80, tl_81, tl_82, tl_83, vb_0, vb_1]
    refine w302_144 ?_
    exact am_oi_0 r (r.i9 5 (by decide)).symm
  · show am_wp pr (d + 60) 160 0 [(0, .ref 64), (1, .int 11)] [] _ _
    refine w160_0 rfl ?_
    refine w160_1_11 ?_
    refine w160_155 rfl ?_
    refine w160_156 (L.2 _ _ _ rfl) ?_
    refine w160_159 ?_
    refine w160_161 (by first | with_reducible assumption | exact L.sh rfl | exact hh.sh rfl | exact hp.2.2) (by first | with_reducible assumption | with_reducible exact am_in_nI (by omega) (by decide) | with_reducible exact am_inb (by omega) (by omega) | with_reducible exact am_inb' (by omega) (by omega) | with_reducible exact am_in35 (by omega) | with_reducible exact am_inw (by omega) (by omega) | with_reducible decide) ?_
    try simp (disch := omega) only [am_clb, am_clb', am_cl35, am_clw, am_clN, tl_0, tl_1, tl_2, tl_3, tl_4, tl_5, tl_6, tl_7, tl_8, tl_9, tl_10, tl_11, tl_12, tl_13, tl_14, tl_15, tl_16, tl_35, tl_42, tl_43, tl_44, tl_51, tl_58, tl_70, tl_71, tl_72, tl_73, tl_74, tl_75, tl_76, tl_77, tl_78, tl_79, tl_80, tl_81, tl_82, tl_83, vb_0, vb_1]
    refine w160_162 ?_
    refine ⟨_, rfl, ?_⟩
    show am_wp pr (d + 60) 302 0 [(0, .ref 124), (1, .int 11)] [] _ _
    refine w302_0 rfl ?_
    refine w302_1_11 ?_
    refine w302_145 rfl ?_
    refine w302_146 (L.2 _ _ _ rfl) ?_
    refine w302_149 ?_
    refine w302_151 (by first | with_reducible assumption | exact L.sh rfl | exact hh.sh rfl | exact hp.2.2) (by first | with_reducible assumption | with_reducible exact am_in_nI (by omega) (by decide) | with_reducible exact am_inb (by omega) (by omega) | with_reducible exact am_inb' (by omega) (by omega) | with_reducible exact am_in35 (by omega) | with_reducible exact am_inw (by omega) (by omega) | with_reducible decide) ?_
    try simp (disch := omega) only [am_clb, am_clb', am_cl35, am_clw, am_clN, tl_0, tl_1, tl_2, tl_3, tl_4, tl_5, tl_6, tl_7, tl_8, tl_9, tl_10, tl_11, tl_12, tl_13, tl_14, tl_15, tl_16, tl_35, tl_42, tl_43, tl_44, tl_51, tl_58, tl_70, tl_71, tl_72, tl_73, tl_74, tl_75, tl_76, tl_77, tl_78, tl_79, tl_80, tl_81, tl_82, tl_83, vb_0, vb_1]
    refine w302_152 ?_
    exact am_oi_0 r (r.i9 6 (by decide)).symm
  · show am_wp pr (d + 60) 160 0 [(0, .ref 64), (1, .int 12)] [] _ _
    refine w160_0 rfl ?_
    refine w160_1_12 ?_
    refine w160_163 rfl ?_
    refine w160_164 (L.2 _ _ _ rfl) ?_
    refine w160_167 ?_
    refine w160_170 ?_
    refine ⟨_, rfl, ?_⟩
    show am_wp pr (d + 60) 302 0 [(0, .ref 124), (1, .int 12)] [] _ _
    refine w302_0 rfl ?_
    refine w302_1_12 ?_
    refine w302_153 rfl ?_
    refine w302_154 (L.2 _ _ _ rfl) ?_
    refine w302_157 ?_
    refine w302_159 (by first | with_reducible assumption | exact L.sh rfl | exact hh.sh rfl | exact hp.2.2) (by first | with_reducible assumption | with_reducible exact am_in_nI (by omega) (by decide) | with_reducible exact am_inb (by omega) (by omega) | with_reducible exact am_inb' (by omega) (by omega) | with_reducible exact am_in35 (by omega) | with_reducible exact am_inw (by omega) (by omega) | with_reducible decide) ?_
    try simp (disch := omega) only [am_clb, am_clb', am_cl35, am_clw, am_clN, tl_0, tl_1, tl_2, tl_3, tl_4, tl_5, tl_6, tl_7, tl_8, tl_9, tl_10, tl_11, tl_12, tl_13, tl_14, tl_15, tl_16, tl_35, tl_42, tl_43, tl_44, tl_51, tl_58, tl_70, tl_71, tl_72, tl_73, tl_74, tl_75, tl_76, tl_77, tl_78, tl_79, tl_80, tl_81, tl_82, tl_83, vb_0, vb_1]
    refine w302_160 ?_
    exact am_oi_0 r (hr.hf.symm)
  · rcases am_sw13_16 x hx with rfl | rfl | rfl | rfl | hx2
    · show am_wp pr (d + 60) 160 0 [(0, .ref 64), (1, .int 13)] [] _ _
      refine w160_0 rfl ?_
      refine w160_1_d hx ?_
      refine w160_171 rfl ?_
      refine w160_172 ?_
      refine w160_174 (fun hQ => absurd hQ (by decide)) (fun _ => ?_)
      refine w160_177 rfl ?_
      refine w160_178 ?_
      refine w160_180 ?_
      refine w160_183S (by decide) rfl (by decide) ?_
      refine w160_184 ?_
      refine w160_185 (fun hQ => absurd hQ (by decide)) (fun _ => ?_)
      refine w160_188 rfl ?_
      refine w160_189 (L.2 _ _ _ rfl) ?_
      refine w160_192 (L.2 _ _ _ rfl) ?_
      refine w160_195 rfl ?_
      refine w160_196 ?_
      refine w160_198 ?_
      refine w160_199 (L.sh rfl) (by decide) ?_
      rw [show ((13 : Int32) - 13).toNatClampNeg = 0 from rfl]
      refine w160_200 ?_
      refine w160_204 ?_
      refine ⟨_, rfl, ?_⟩
      show am_wp pr (d + 60) 302 0 [(0, .ref 124), (1, .int 13)] [] _ _
      refine w302_0 rfl ?_
      refine w302_1_13 ?_
      refine w302_161 rfl ?_
      refine w302_162 (L.2 _ _ _ rfl) ?_
      refine w302_165 rfl ?_
      refine w302_166 ?_
      refine w302_168 ?_
      refine w302_169 (k := c212 (w := 0) (by decide) ?_)
      refine w302_172 (L.sh rfl) (by decide) ?_
      refine w302_173 ?_
      exact am_oi_0 r (hr.td.symm)
    · show am_wp pr (d + 60) 160 0 [(0, .ref 64), (1, .int 14)] [] _ _
      refine w160_0 rfl ?_
      refine w160_1_d hx ?_
      refine w160_171 rfl ?_
      refine w160_172 ?_
      refine w160_174 (fun hQ => absurd hQ (by decide)) (fun _ => ?_)
      refine w160_177 rfl ?_
      refine w160_178 ?_
      refine w160_180 ?_
      refine w160_183S (by decide) rfl (by decide) ?_
      refine w160_184 ?_
      refine w160_185 (fun hQ => absurd hQ (by decide)) (fun _ => ?_)
      refine w160_188 rfl ?_
      refine w160_189 (L.2 _ _ _ rfl) ?_
      refine w160_192 (L.2 _ _ _ rfl) ?_
      refine w160_195 rfl ?_
      refine w160_196 ?_
      refine w160_198 ?_
      refine w160_199 (L.sh rfl) (by decide) ?_
      rw [show ((14 : Int32) - 13).toNatClampNeg = 1 from rfl]
      refine w160_200 ?_
      refine w160_204 ?_
      refine ⟨_, rfl, ?_⟩
      show am_wp pr (d + 60) 302 0 [(0, .ref 124), (1, .int 14)] [] _ _
      refine w302_0 rfl ?_
      refine w302_1_14 ?_
      refine w302_161 rfl ?_
      refine w302_162 (L.2 _ _ _ rfl) ?_
      refine w302_165 rfl ?_
      refine w302_166 ?_
      refine w302_168 ?_
      refine w302_169 (k := c212 (w := 1) (by decide) ?_)
      refine w302_172 (L.sh rfl) (by decide) ?_
      refine w302_173 ?_
      exact am_oi_0 r (hr.tz.symm)
    · show am_wp pr (d + 60) 160 0 [(0, .ref 64), (1, .int 15)] [] _ _
      refine w160_0 rfl ?_
      refine w160_1_d hx ?_
      refine w160_171 rfl ?_
      refine w160_172 ?_
      refine w160_174 (fun hQ => absurd hQ (by decide)) (fun _ => ?_)
      refine w160_177 rfl ?_
      refine w160_178 ?_
      refine w160_180 ?_
      refine w160_183S (by decide) rfl (by decide) ?_
      refine w160_184 ?_
      refine w160_185 (fun hQ => absurd hQ (by decide)) (fun _ => ?_)
      refine w160_188 rfl ?_
      refine w160_189 (L.2 _ _ _ rfl) ?_
      refine w160_192 (L.2 _ _ _ rfl) ?_
      refine w160_195 rfl ?_
      refine w160_196 ?_
      refine w160_198 ?_
      refine w160_199 (L.sh rfl) (by decide) ?_
      rw [show ((15 : Int32) - 13).toNatClampNeg = 2 from rfl]
      refine w160_200 ?_
      refine w160_204 ?_
      refine ⟨_, rfl, ?_⟩
      show am_wp pr (d + 60) 302 0 [(0, .ref 124), (1, .int 15)] [] _ _
      refine w302_0 rfl ?_
      refine w302_1_15 ?_
      refine w302_161 rfl ?_
      refine w302_162 (L.2 _ _ _ rfl) ?_
      refine w302_165 rfl ?_
      refine w302_166 ?_
      refine w302_168 ?_
      refine w302_169 (k := c212 (w := 2) (by decide) ?_)
      refine w302_172 (L.sh rfl) (by decide) ?_
      refine w302_173 ?_
      exact am_oi_0 r (hr.tm.symm)
    · show am_wp pr (d + 60) 160 0 [(0, .ref 64), (1, .int 16)] [] _ _
      refine w160_0 rfl ?_
      refine w160_1_d hx ?_
      refine w160_171 rfl ?_
      refine w160_172 ?_
      refine w160_174 (fun hQ => absurd hQ (by decide)) (fun _ => ?_)
      refine w160_177 rfl ?_
      refine w160_178 ?_
      refine w160_180 ?_
      refine w160_183S (by decide) rfl (by decide) ?_
      refine w160_184 ?_
      refine w160_185 (fun hQ => absurd hQ (by decide)) (fun _ => ?_)
      refine w160_188 rfl ?_
      refine w160_189 (L.2 _ _ _ rfl) ?_
      refine w160_192 (L.2 _ _ _ rfl) ?_
      refine w160_195 rfl ?_
      refine w160_196 ?_
      refine w160_198 ?_
      refine w160_199 (L.sh rfl) (by decide) ?_
      rw [show ((16 : Int32) - 13).toNatClampNeg = 3 from rfl]
      refine w160_200 ?_
      refine w160_204 ?_
      refine ⟨_, rfl, ?_⟩
      show am_wp pr (d + 60) 302 0 [(0, .ref 124), (1, .int 16)] [] _ _
      refine w302_0 rfl ?_
      refine w302_1_16 ?_
      refine w302_161 rfl ?_
      refine w302_162 (L.2 _ _ _ rfl) ?_
      refine w302_165 rfl ?_
      refine w302_166 ?_
      refine w302_168 ?_
      refine w302_169 (k := c212 (w := 3) (by decide) ?_)
      refine w302_172 (L.sh rfl) (by decide) ?_
      refine w302_173 ?_
      exact am_oi_0 r (hr.tn.symm)
    · show am_wp pr (d + 60) 160 0 [(0, .ref 64), (1, .int x)] [] _ _
      refine w160_0 rfl ?_
      refine w160_1_d hx ?_
      have kk : ∃ v, (some (Value.int (-1)) : Option Value) = some (.int v) ∧ am_ev pr (d + 60) 302 [.ref 124, .int x] (S, I, J, P) (am_oi S (.int v)) := by
        refine ⟨-1, rfl, ?_⟩
        show am_wp pr (d + 60) 302 0 [(0, .ref 124), (1, .int x)] [] _ _
        refine w302_0 rfl ?_
        refine w302_1_d hx2 ?_
        refine w302_174 ?_
        refine w302_175 ?_
        exact am_oi_0 r rfl
      have e17 : ((13 : Int32) + Int32.ofNat 4).toInt = 17 := by decide
      have e13 : (13 : Int32).toInt = 13 := by decide
      refine w160_171 rfl ?_
      refine w160_172 ?_
      refine w160_174 (fun h174 => ?_) (fun h174 => ?_)
      · refine w160_203 ?_
        refine w160_204 ?_
        exact kk
      · replace h174 := Int32.not_lt.mp h174
        refine w160_177 rfl ?_
        refine w160_178 ?_
        refine w160_180 ?_
        refine w160_183S (by decide) rfl (by decide) ?_
        refine w160_184 ?_
        refine w160_185 (fun h185 => ?_) (fun h185 => ?_)
        · refine w160_203 ?_
          refine w160_204 ?_
          exact kk
        · replace h185 := Int32.not_le.mp h185
          exfalso
          rw [Int32.le_iff_toInt_le] at h174
          rw [Int32.lt_iff_toInt_lt] at h185
          omega
/-- drawn -/
theorem op_36 (r : am_R S I P n l s u tp) {x y : Int32} : am_op pr (d + 60) S I J P 157 [.ref 64, .int x, .int y] 301 [.ref 124, .int x, .int y] := by
  have L := r.L
  have hh := L.h81
  have hdr := r.draw
  rcases hdr with ⟨h1, h2⟩ | ⟨m0, h0, h7, h1, h2, h3, h4, h5⟩
  · refine op_c r (-1) (fun Q k => ?_) (fun Q k => ?_)
    · show am_wp pr (d + 60) 157 0 [(0, .ref 64), (1, .int x), (2, .int y)] [] _ _
      refine w157_0 rfl ?_
      refine w157_1 (L.2 _ _ _ rfl) ?_
      refine w157_4 ?_
      refine w157_7 (fun hQ => absurd hQ (fun q => q h2)) (fun _ => ?_)
      refine w157_10 ?_
      refine w157_11 ?_
      exact k
    · show am_wp pr (d + 60) 301 0 [(0, .ref 124), (1, .int x), (2, .int y)] [] _ _
      refine w301_0 rfl ?_
      refine w301_1 ?_
      refine w301_4 ?_
      refine w301_5 (fun _ => ?_) (fun hQ => absurd h1 hQ)
      refine w301_40 ?_
      refine w301_41 ?_
      exact k
  · have hne : ¬ I 81 0 = 0 := by rw [h2]; exact nI_ne0 h0 (by omega)
    have hne2 : ¬ I 124 48 = -1 := by rw [h1]; exact nI_nm1 (by omega)
    have em1 : nI m0 - 1 = nI (m0 - 1) := nI_sub1 h0
    by_cases hy0 : y = 0
    · subst hy0
      by_cases hb : 0 ≤ x ∧ x < 5
      · obtain ⟨b, hb5, rfl⟩ := (am_pk5 x).resolve_right (fun q => q hb)
        refine op_c r (am_bit (I 81 2) b) (fun Q k => ?_) (fun Q k => ?_)
        · show am_wp pr (d + 60) 157 0 [(0, .ref 64), (1, .int (nI b)), (2, .int 0)] [] _ _
          refine w157_0 rfl ?_
          refine w157_1 (L.2 _ _ _ rfl) ?_
          refine w157_4 ?_
          refine w157_7 (fun _ => ?_) (fun hQ => absurd hne hQ)
          refine w157_12 rfl ?_
          refine w157_13 (fun hQ => absurd hQ (fun q => q rfl)) (fun _ => ?_)
          refine w157_16 rfl ?_
          refine w157_17 (k := c18b hb5 ?_)
          refine w157_20 (fun hQ => absurd hQ am_n01) (fun _ => ?_)
          refine w157_23 rfl ?_
          refine w157_24 (L.2 _ _ _ rfl) ?_
          refine w157_27 ?_
          refine w157_30 rfl ?_
          refine w157_31 (k := c17b ?_)
          refine w157_34 ?_
          refine w157_38 ?_
          exact k
        · have e4 : am_b (0 ≤ nI b ∧ nI b ≤ 5 - 1) = 1 := am_b_t ⟨nI_pos' (by omega), nI_le (b := 4) (by omega) (by decide)⟩
          rw [h3] at k
          show am_wp pr (d + 60) 301 0 [(0, .ref 124), (1, .int (nI b)), (2, .int 0)] [] _ _
          refine w301_0 rfl ?_
          refine w301_1 ?_
          refine w301_4 ?_
          refine w301_5 (fun hQ => absurd hQ hne2) (fun _ => ?_)
          refine w301_8 rfl ?_
          refine w301_9 ?_
          refine w301_10 ?_
          refine w301_12 (k := c164 ?_)
          rw [am_b_t (by decide)]
          refine w301_15 (fun hQ => absurd hQ am_n01) (fun _ => ?_)
          refine w301_18 rfl ?_
          refine w301_19 ?_
          refine w301_20 rfl ?_
          refine w301_21 (fun hQ => absurd hQ (fun q => q rfl)) (fun _ => ?_)
          refine w301_24 ?_
          refine w301_25 ?_
          refine w301_32 ?_
          refine w301_33 ?_
          refine w301_34 (k := c164 ?_)
          rw [e4]
          refine w301_37 (fun _ => ?_) (fun hQ => absurd am_n01 hQ)
          refine w301_42 rfl ?_
          refine w301_43 (fun hQ => absurd hQ (fun q => q rfl)) (fun _ => ?_)
          refine w301_46 rfl ?_
          refine w301_47 (L.2 _ _ _ rfl) ?_
          refine w301_50 ?_
          refine w301_52 (by first | with_reducible assumption | exact L.sh rfl | exact hh.sh rfl | exact hp.2.2) (by first | with_reducible assumption | with_reducible exact am_in_nI (by omega) (by decide) | with_reducible exact am_inb (by omega) (by omega) | with_reducible exact am_inb' (by omega) (by omega) | with_reducible exact am_in35 (by omega) | with_reducible exact am_inw (by omega) (by omega) | with_reducible decide) ?_
          try simp (disch := omega) only [am_clb, am_clb', am_cl35, am_clw, am_clN, tl_0, tl_1, tl_2, tl_3, tl_4, tl_5, tl_6, tl_7, tl_8, tl_9, tl_10, tl_11, tl_12, tl_13, tl_14, tl_15, tl_16, tl_35, tl_42, tl_43, tl_44, tl_51, tl_58, tl_70, tl_71, tl_72, tl_73, tl_74, tl_75, tl_76, tl_77, tl_78, tl_79, tl_80, tl_81, tl_82, tl_83, vb_0, vb_1]
          refine w301_53 rfl ?_
          refine w301_54 ?_
          refine w301_55 ?_
          refine w301_56 ?_
          refine w301_57 ?_
          refine w301_91 ?_
          exact k
      · have hb4 : ¬ (0 ≤ x ∧ x ≤ 5 - 1) := am_ge5 hb
        refine op_c r (-1) (fun Q k => ?_) (fun Q k => ?_)
        · show am_wp pr (d + 60) 157 0 [(0, .ref 64), (1, .int x), (2, .int 0)] [] _ _
          refine w157_0 rfl ?_
          refine w157_1 (L.2 _ _ _ rfl) ?_
          refine w157_4 ?_
          refine w157_7 (fun _ => ?_) (fun hQ => absurd hne hQ)
          refine w157_12 rfl ?_
          refine w157_13 (fun hQ => absurd hQ (fun q => q rfl)) (fun _ => ?_)
          refine w157_16 rfl ?_
          refine w157_17 (k := c18 ?_)
          rw [am_b_f hb]
          refine w157_20 (fun _ => ?_) (fun hQ => absurd rfl hQ)
          refine w157_37 ?_
          refine w157_38 ?_
          exact k
        · show am_wp pr (d + 60) 301 0 [(0, .ref 124), (1, .int x), (2, .int 0)] [] _ _
          refine w301_0 rfl ?_
          refine w301_1 ?_
          refine w301_4 ?_
          refine w301_5 (fun hQ => absurd hQ hne2) (fun _ => ?_)
          refine w301_8 rfl ?_
          refine w301_9 ?_
          refine w301_10 ?_
          refine w301_12 (k := c164 ?_)
          rw [am_b_t (by decide)]
          refine w301_15 (fun hQ => absurd hQ am_n01) (fun _ => ?_)
          refine w301_18 rfl ?_
          refine w301_19 ?_
          refine w301_20 rfl ?_
          refine w301_21 (fun hQ => absurd hQ (fun q => q rfl)) (fun _ => ?_)
          refine w301_24 ?_
          refine w301_25 ?_
          refine w301_32 ?_
          refine w301_33 ?_
          refine w301_34 (k := c164 ?_)
          rw [am_b_f hb4]
          refine w301_37 (fun hQ => absurd hQ (by decide)) (fun _ => ?_)
          refine w301_40 ?_
          refine w301_41 ?_
          exact k
    · by_cases hy : 0 ≤ y ∧ y ≤ 6
      · obtain ⟨w, hw, rfl⟩ := nI_of2 (M := 6) (n := 6) (by decide) (Int32.not_lt.mpr hy.1) hy.2
        have hw0 : w ≠ 0 := fun q => hy0 (by rw [q]; rfl)
        rcases am_pk7 x h7 with ⟨m, hm, rfl⟩ | hx
        · have hm7 : m < 7 := by omega
          have e4 : am_b (0 ≤ nI m ∧ nI m ≤ nI (m0 - 1)) = 1 := am_b_t ⟨nI_pos' (by omega), nI_le (by omega) (by omega)⟩
          by_cases hw1 : w = 1
          · subst hw1
            refine op_c r (am_bit (I 81 1) m) (fun Q k => ?_) (fun Q k => ?_)
            · show am_wp pr (d + 60) 157 0 [(0, .ref 64), (1, .int (nI m)), (2, .int (nI 1))] [] _ _
              refine w157_0 rfl ?_
              refine w157_1 (L.2 _ _ _ rfl) ?_
              refine w157_4 ?_
              refine w157_7 (fun _ => ?_) (fun hQ => absurd hne hQ)
              refine w157_12 rfl ?_
              refine w157_13 (fun _ => ?_) (fun hQ => absurd hy0 hQ)
              refine w157_39 rfl ?_
              refine w157_40 (L.2 _ _ _ rfl) ?_
              refine w157_43 rfl ?_
              refine w157_44 (k := c16 hh ?_)
              rw [h2, am_mem7 hm h7]
              refine w157_47 (fun _ => ?_) (fun hQ => absurd am_n01 hQ)
              refine w157_52 rfl ?_
              refine w157_53 ?_
              refine w157_54 (fun hQ => absurd hQ (fun q => q rfl)) (fun _ => ?_)
              refine w157_57 rfl ?_
              refine w157_58 (L.2 _ _ _ rfl) ?_
              refine w157_61 ?_
              refine w157_64 rfl ?_
              refine w157_65 (k := c17b ?_)
              refine w157_68 ?_
              exact k
            · rw [← h4 m hm] at k
              show am_wp pr (d + 60) 301 0 [(0, .ref 124), (1, .int (nI m)), (2, .int (nI 1))] [] _ _
              refine w301_0 rfl ?_
              refine w301_1 ?_
              refine w301_4 ?_
              refine w301_5 (fun hQ => absurd hQ hne2) (fun _ => ?_)
              refine w301_8 rfl ?_
              refine w301_9 ?_
              refine w301_10 ?_
              refine w301_12 (k := c164 ?_)
              rw [am_b_t hy]
              refine w301_15 (fun hQ => absurd hQ am_n01) (fun _ => ?_)
              refine w301_18 rfl ?_
              refine w301_19 ?_
              refine w301_20 rfl ?_
              refine w301_21 (fun _ => ?_) (fun hQ => absurd hy0 hQ)
              refine w301_28 rfl ?_
              refine w301_29 ?_
              rw [h1]
              refine w301_32 ?_
              refine w301_33 ?_
              rw [em1]
              refine w301_34 (k := c164 ?_)
              rw [e4]
              refine w301_37 (fun _ => ?_) (fun hQ => absurd am_n01 hQ)
              refine w301_42 rfl ?_
              refine w301_43 (fun _ => ?_) (fun hQ => absurd hy0 hQ)
              refine w301_60 rfl ?_
              refine w301_61 ?_
              refine w301_62 (fun hQ => absurd hQ (fun q => q rfl)) (fun _ => ?_)
              refine w301_65 rfl ?_
              refine w301_66 (L.2 _ _ _ rfl) ?_
              refine w301_69 ?_
              refine w301_71 rfl ?_
              refine w301_72 ?_
              rw [nz_a35]
              refine w301_73 (L.sh rfl) (am_in_nI (by omega) (by decide)) ?_
              rw [am_clN (by omega)]
              refine w301_74 ?_
              refine w301_91 ?_
              exact k
          · have eb : nI w - 2 = nI (w - 2) := am_nsub (b := 2) (by omega)
            have hb5 : w - 2 < 5 := by omega
            have e5 : nI m * 5 + nI w - 2 = nI (m * 5 + (w - 2)) := by
              rw [show (5 : Int32) = nI 5 from rfl, pk_mul, nI_add, show (2 : Int32) = nI 2 from rfl, am_nsub (by omega)]
              congr 1
              omega
            have e6 : (0 : Int32) + 5 * nI m + nI w - 2 = nI (m * 5 + (w - 2)) := by
              rw [am_0n, show (5 : Int32) = nI 5 from rfl, pk_mul, nI_add, show (2 : Int32) = nI 2 from rfl, am_nsub (by omega)]
              congr 1
              omega
            refine op_c r (I 84 (m * 5 + (w - 2))) (fun Q k => ?_) (fun Q k => ?_)
            · show am_wp pr (d + 60) 157 0 [(0, .ref 64), (1, .int (nI m)), (2, .int (nI w))] [] _ _
              refine w157_0 rfl ?_
              refine w157_1 (L.2 _ _ _ rfl) ?_
              refine w157_4 ?_
              refine w157_7 (fun _ => ?_) (fun hQ => absurd hne hQ)
              refine w157_12 rfl ?_
              refine w157_13 (fun _ => ?_) (fun hQ => absurd hy0 hQ)
              refine w157_39 rfl ?_
              refine w157_40 (L.2 _ _ _ rfl) ?_
              refine w157_43 rfl ?_
              refine w157_44 (k := c16 hh ?_)
              rw [h2, am_mem7 hm h7]
              refine w157_47 (fun _ => ?_) (fun hQ => absurd am_n01 hQ)
              refine w157_52 rfl ?_
              refine w157_53 ?_
              refine w157_54 (fun _ => ?_) (fun hQ => absurd (nI_ne (b := 1) hw1 (by omega) (by decide)) hQ)
              refine w157_69 rfl ?_
              refine w157_70 ?_
              refine w157_71 ?_
              rw [eb]
              refine w157_72 (k := c18b hb5 ?_)
              refine w157_75 (fun hQ => absurd hQ am_n01) (fun _ => ?_)
              refine w157_78 rfl ?_
              refine w157_79 (L.2 _ _ _ rfl) ?_
              refine w157_82 (L.2 _ _ _ rfl) ?_
              refine w157_85 rfl ?_
              refine w157_86 ?_
              refine w157_87 ?_
              refine w157_88 rfl ?_
              refine w157_89 ?_
              refine w157_90 ?_
              refine w157_91 ?_
              rw [e5]
              refine w157_92 (L.sh rfl) (am_in_nI (by omega) (by decide)) ?_
              rw [am_clN (by omega)]
              refine w157_93 ?_
              refine w157_97 ?_
              exact k
            · rw [h5 _ (by omega)] at k
              show am_wp pr (d + 60) 301 0 [(0, .ref 124), (1, .int (nI m)), (2, .int (nI w))] [] _ _
              refine w301_0 rfl ?_
              refine w301_1 ?_
              refine w301_4 ?_
              refine w301_5 (fun hQ => absurd hQ hne2) (fun _ => ?_)
              refine w301_8 rfl ?_
              refine w301_9 ?_
              refine w301_10 ?_
              refine w301_12 (k := c164 ?_)
              rw [am_b_t hy]
              refine w301_15 (fun hQ => absurd hQ am_n01) (fun _ => ?_)
              refine w301_18 rfl ?_
              refine w301_19 ?_
              refine w301_20 rfl ?_
              refine w301_21 (fun _ => ?_) (fun hQ => absurd hy0 hQ)
              refine w301_28 rfl ?_
              refine w301_29 ?_
              rw [h1]
              refine w301_32 ?_
              refine w301_33 ?_
              rw [em1]
              refine w301_34 (k := c164 ?_)
              rw [e4]
              refine w301_37 (fun _ => ?_) (fun hQ => absurd am_n01 hQ)
              refine w301_42 rfl ?_
              refine w301_43 (fun _ => ?_) (fun hQ => absurd hy0 hQ)
              refine w301_60 rfl ?_
              refine w301_61 ?_
              refine w301_62 (fun _ => ?_) (fun hQ => absurd (nI_ne (b := 1) hw1 (by omega) (by decide)) hQ)
              refine w301_77 rfl ?_
              refine w301_78 (L.2 _ _ _ rfl) ?_
              refine w301_81 ?_
              refine w301_82 ?_
              refine w301_83 rfl ?_
              refine w301_84 ?_
              refine w301_85 ?_
              refine w301_86 rfl ?_
              refine w301_87 ?_
              refine w301_88 ?_
              refine w301_89 ?_
              rw [e6]
              refine w301_90 (L.sh rfl) (am_in_nI (by omega) (by decide)) ?_
              rw [am_clN (by omega)]
              refine w301_91 ?_
              exact k
        · have hx2 : ¬ (0 ≤ x ∧ x < I 81 0 ∧ x < 7) := fun q => hx ⟨q.1, by rw [← h2]; exact q.2.1⟩
          have e4 : ¬ (0 ≤ x ∧ x ≤ nI (m0 - 1)) := fun q => hx ⟨q.1, Int32.lt_of_le_of_lt q.2 (nI_lt (by omega) (by omega))⟩
          refine op_c r (-1) (fun Q k => ?_) (fun Q k => ?_)
          · show am_wp pr (d + 60) 157 0 [(0, .ref 64), (1, .int x), (2, .int (nI w))] [] _ _
            refine w157_0 rfl ?_
            refine w157_1 (L.2 _ _ _ rfl) ?_
            refine w157_4 ?_
            refine w157_7 (fun _ => ?_) (fun hQ => absurd hne hQ)
            refine w157_12 rfl ?_
            refine w157_13 (fun _ => ?_) (fun hQ => absurd hy0 hQ)
            refine w157_39 rfl ?_
            refine w157_40 (L.2 _ _ _ rfl) ?_
            refine w157_43 rfl ?_
            refine w157_44 (k := c16 hh ?_)
            rw [am_b_f hx2]
            refine w157_47 (fun hQ => absurd hQ (by decide)) (fun _ => ?_)
            refine w157_50 ?_
            refine w157_51 ?_
            exact k
          · show am_wp pr (d + 60) 301 0 [(0, .ref 124), (1, .int x), (2, .int (nI w))] [] _ _
            refine w301_0 rfl ?_
            refine w301_1 ?_
            refine w301_4 ?_
            refine w301_5 (fun hQ => absurd hQ hne2) (fun _ => ?_)
            refine w301_8 rfl ?_
            refine w301_9 ?_
            refine w301_10 ?_
            refine w301_12 (k := c164 ?_)
            rw [am_b_t hy]
            refine w301_15 (fun hQ => absurd hQ am_n01) (fun _ => ?_)
            refine w301_18 rfl ?_
            refine w301_19 ?_
            refine w301_20 rfl ?_
            refine w301_21 (fun _ => ?_) (fun hQ => absurd hy0 hQ)
            refine w301_28 rfl ?_
            refine w301_29 ?_
            rw [h1]
            refine w301_32 ?_
            refine w301_33 ?_
            rw [em1]
            refine w301_34 (k := c164 ?_)
            rw [am_b_f e4]
            refine w301_37 (fun hQ => absurd hQ (by decide)) (fun _ => ?_)
            refine w301_40 ?_
            refine w301_41 ?_
            exact k
      · have hb : ¬ (0 ≤ y - 2 ∧ y - 2 < 5) := fun q => by
          obtain ⟨b, hb, rfl⟩ := am_bill2 q
          exact hy ⟨nI_pos' (by omega), nI_le (b := 6) (by omega) (by decide)⟩
        have hy1 : ¬ y = 1 := fun q => hy (by rw [q]; decide)
        refine op_c r (-1) (fun Q k => ?_) (fun Q k => ?_)
        · show am_wp pr (d + 60) 157 0 [(0, .ref 64), (1, .int x), (2, .int y)] [] _ _
          refine w157_0 rfl ?_
          refine w157_1 (L.2 _ _ _ rfl) ?_
          refine w157_4 ?_
          refine w157_7 (fun _ => ?_) (fun hQ => absurd hne hQ)
          refine w157_12 rfl ?_
          refine w157_13 (fun _ => ?_) (fun hQ => absurd hy0 hQ)
          refine w157_39 rfl ?_
          refine w157_40 (L.2 _ _ _ rfl) ?_
          refine w157_43 rfl ?_
          refine w157_44 (k := c16 hh ?_)
          refine w157_47 (fun h47 => ?_) (fun h47 => ?_)
          · refine w157_52 rfl ?_
            refine w157_53 ?_
            refine w157_54 (fun _ => ?_) (fun hQ => absurd hy1 hQ)
            refine w157_69 rfl ?_
            refine w157_70 ?_
            refine w157_71 ?_
            refine w157_72 (k := c18 ?_)
            rw [am_b_f hb]
            refine w157_75 (fun _ => ?_) (fun hQ => absurd rfl hQ)
            refine w157_96 ?_
            refine w157_97 ?_
            exact k
          · replace h47 := Decidable.not_not.mp h47
            refine w157_50 ?_
            refine w157_51 ?_
            exact k
        · show am_wp pr (d + 60) 301 0 [(0, .ref 124), (1, .int x), (2, .int y)] [] _ _
          refine w301_0 rfl ?_
          refine w301_1 ?_
          refine w301_4 ?_
          refine w301_5 (fun hQ => absurd hQ hne2) (fun _ => ?_)
          refine w301_8 rfl ?_
          refine w301_9 ?_
          refine w301_10 ?_
          refine w301_12 (k := c164 ?_)
          rw [am_b_f hy]
          refine w301_15 (fun _ => ?_) (fun hQ => absurd rfl hQ)
          refine w301_40 ?_
          refine w301_41 ?_
          exact k
end
