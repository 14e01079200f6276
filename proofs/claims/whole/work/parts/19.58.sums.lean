/-! the reference reckons along the tokens: sums, whole -/
theorem p_opt_some {c : Int32} {op : Nat} (h : p_opt c = some op) : c = 142 ∧ op = 2 ∨ c = 147 ∧ op = 3 ∨ c = 137 ∧ op = 4 := by
  unfold p_opt at h
  split at h
  · rename_i z; cases h; exact Or.inl ⟨z, rfl⟩
  · split at h
    · rename_i z; cases h; exact Or.inr (Or.inl ⟨z, rfl⟩)
    · split at h
      · rename_i z; cases h; exact Or.inr (Or.inr ⟨z, rfl⟩)
      · cases h
theorem p_opt_none {c : Int32} (h : p_opt c = none) : ¬ c = 142 ∧ ¬ c = 147 ∧ ¬ c = 137 := by
  unfold p_opt at h
  split at h
  · cases h
  · rename_i z1
    split at h
    · cases h
    · rename_i z2
      split at h
      · cases h
      · rename_i z3
        exact ⟨z1, z2, z3⟩
theorem p_ops_some {c : Int32} {op : Nat} (h : p_ops c = some op) : c = 143 ∧ op = 0 ∨ c = 145 ∧ op = 1 := by
  unfold p_ops at h
  split at h
  · rename_i z; cases h; exact Or.inl ⟨z, rfl⟩
  · split at h
    · rename_i z; cases h; exact Or.inr ⟨z, rfl⟩
    · cases h
theorem p_ops_none {c : Int32} (h : p_ops c = none) : ¬ c = 143 ∧ ¬ c = 145 := by
  unfold p_ops at h
  split at h
  · cases h
  · rename_i z1
    split at h
    · cases h
    · rename_i z2
      exact ⟨z1, z2⟩
section
variable {pr : am_Pr} {d : Nat} {S : List (Nat × Nat)} {I : Nat → Nat → Int32} {J : Nat → Nat → Int64} {P : Nat → Nat → Option Nat} {Q : Option Value → am_H → Prop} {T : Tk} {base N : Nat} {w : Nat → Nat → Int32}
/-- termOf's tail: two are joined -/
theorem c186t (L : am_Lay S P) {op g : Nat} {v0 v1 : Int64} {live br by0 : Int32} (hop : by0 = 142 ∧ op = 2 ∨ by0 = 147 ∧ op = 3 ∨ by0 = 137 ∧ op = 4) (hl : live = 0 ∨ live = 1) (hb : br = 0 ∨ br = 1) (k : ∀ v br2, (live = 1 → br = 0 → (br2 = 0 ∧ e_op op v0 v1 = some v ∨ br2 = 1 ∧ e_op op v0 v1 = none)) → (¬ (live = 1 ∧ br = 0) → br2 = br) → ∀ lv, am_ld1 lv 0 = some (.ref 124) → am_ld1 lv 1 = some (.int live) → am_ld2 lv 2 = some (.long v) → am_wp pr (d + 1) 186 6 lv [] (S, v_s I g br2, J, P) Q) : ∀ lv, am_ld1 lv 0 = some (.ref 124) → am_ld1 lv 1 = some (.int live) → am_ld2 lv 2 = some (.long v0) → am_ld1 lv 4 = some (.int by0) → am_ld2 lv 5 = some (.long v1) → am_wp pr (d + 1) 186 81 lv [] (S, v_s I g br, J, P) Q := by
  intro lv l0 l1 l2 l4 l5
  rcases hop with ⟨rfl, rfl⟩ | ⟨rfl, rfl⟩ | ⟨rfl, rfl⟩
  · refine w186_81 l4 ?_
    refine w186_83 ?_
    refine w186_85 (k := c188 (y := 142) (by decide) ?_)
    refine w186_88 (fun _ => ?_) (fun h => absurd rfl h)
    refine w186_121 l0 ?_
    refine w186_122 l4 ?_
    refine w186_124 ?_
    refine w186_126 (k := c188 (y := 142) (by decide) ?_)
    refine w186_129 (fun h => absurd h (fun z => z rfl)) (fun _ => ?_)
    refine w186_132 l2 ?_
    refine w186_133 l5 ?_
    refine w186_135 ?_
    refine w186_136 ?_
    refine w186_160 l1 ?_
    refine w186_161 (k := c192 L hl hb (fun x br2 h1 h2 => ?_))
    refine w186_164 ?_
    refine w186_165 ?_
    exact k x br2 h1 h2 _ l0 l1 rfl
  · by_cases hz : v1 = 0
    · have nn : e_op 3 v0 v1 = none := by
        unfold e_op
        simp only [show ¬ (3 = 0) by decide, show ¬ (3 = 1) by decide, show ¬ (3 = 2) by decide, if_false, if_true]
        exact if_pos hz
      have tail : ∀ br', (br' = 0 ∨ br' = 1) → (live = 1 → br' = 1) → (live = 0 → br' = br) → ∀ lv, am_ld1 lv 0 = some (.ref 124) → am_ld1 lv 1 = some (.int live) → am_ld2 lv 2 = some (.long v0) → am_ld1 lv 4 = some (.int 147) → am_ld2 lv 5 = some (.long 1) → am_wp pr (d + 1) 186 121 lv [] (S, v_s I g br', J, P) Q := by
        intro br' q1 q2 q3 lv l0 l1 l2 l4 l5
        refine w186_121 l0 ?_
        refine w186_122 l4 ?_
        refine w186_124 ?_
        refine w186_126 (k := c188 (y := 142) (by decide) ?_)
        refine w186_129 (fun _ => ?_) (fun h => absurd (by decide) h)
        refine w186_139 l4 ?_
        refine w186_141 ?_
        refine w186_143 (k := c188 (y := 147) (by decide) ?_)
        refine w186_146 (fun h => absurd h (fun z => z rfl)) (fun _ => ?_)
        refine w186_149 l2 ?_
        refine w186_150 l5 ?_
        refine w186_152 (by decide) ?_
        refine w186_153 ?_
        refine w186_160 l1 ?_
        refine w186_161 (k := c192 L hl q1 (fun x br2 h1 h2 => ?_))
        refine w186_164 ?_
        refine w186_165 ?_
        refine k x br2 (fun a b => Or.inr ⟨?_, nn⟩) (fun a => ?_) _ l0 l1 rfl
        · rw [h2 (fun z => by rw [q2 a] at z; exact absurd z.2 (by decide)), q2 a]
        · rcases hl with z | z
          · rw [h2 (fun y => by rw [z] at y; exact absurd y.1 (by decide)), q3 z]
          · rw [h2 (fun y => by rw [q2 z] at y; exact absurd y.2 (by decide)), q2 z]
            rcases hb with y | y
            · exact absurd ⟨z, y⟩ a
            · exact y.symm
      rcases hl with rfl | rfl
      · rcases hb with rfl | rfl
        · refine w186_81 l4 ?_
          refine w186_83 ?_
          refine w186_85 (k := c188 (y := 142) (by decide) ?_)
          refine w186_88 (fun h => absurd h (by decide)) (fun _ => ?_)
          refine w186_91 l5 ?_
          refine w186_93 ?_
          refine w186_94 ?_
          refine w186_95 (fun h => absurd h (fun z => z ((lg_cmp_eq _ _).mpr hz))) (fun _ => ?_)
          refine w186_98 l0 ?_
          refine w186_99 l0 ?_
          refine w186_100 ?_
          rw [v_s_br]
          refine w186_103 (fun h => absurd h (fun z => z rfl)) (fun _ => ?_)
          refine w186_106 l1 ?_
          refine w186_107 (fun _ => ?_) (fun h => absurd rfl h)
          refine w186_114 ?_
          refine w186_115 (by decide) ?_
          rw [v_s_24]
          refine w186_118 ?_
          refine w186_119 ?_
          exact tail 0 (by decide) (by decide) (by decide) _ l0 l1 l2 l4 rfl
        · refine w186_81 l4 ?_
          refine w186_83 ?_
          refine w186_85 (k := c188 (y := 142) (by decide) ?_)
          refine w186_88 (fun h => absurd h (by decide)) (fun _ => ?_)
          refine w186_91 l5 ?_
          refine w186_93 ?_
          refine w186_94 ?_
          refine w186_95 (fun h => absurd h (fun z => z ((lg_cmp_eq _ _).mpr hz))) (fun _ => ?_)
          refine w186_98 l0 ?_
          refine w186_99 l0 ?_
          refine w186_100 ?_
          rw [v_s_br]
          refine w186_103 (fun _ => ?_) (fun h => absurd (by decide) h)
          refine w186_110 ?_
          refine w186_111 ?_
          refine w186_115 (by decide) ?_
          rw [v_s_24]
          refine w186_118 ?_
          refine w186_119 ?_
          exact tail 1 (by decide) (by decide) (by decide) _ l0 l1 l2 l4 rfl
      · rcases hb with rfl | rfl
        · refine w186_81 l4 ?_
          refine w186_83 ?_
          refine w186_85 (k := c188 (y := 142) (by decide) ?_)
          refine w186_88 (fun h => absurd h (by decide)) (fun _ => ?_)
          refine w186_91 l5 ?_
          refine w186_93 ?_
          refine w186_94 ?_
          refine w186_95 (fun h => absurd h (fun z => z ((lg_cmp_eq _ _).mpr hz))) (fun _ => ?_)
          refine w186_98 l0 ?_
          refine w186_99 l0 ?_
          refine w186_100 ?_
          rw [v_s_br]
          refine w186_103 (fun h => absurd h (fun z => z rfl)) (fun _ => ?_)
          refine w186_106 l1 ?_
          refine w186_107 (fun h => absurd h (by decide)) (fun _ => ?_)
          refine w186_110 ?_
          refine w186_111 ?_
          refine w186_115 (by decide) ?_
          rw [v_s_24]
          refine w186_118 ?_
          refine w186_119 ?_
          exact tail 1 (by decide) (by decide) (by decide) _ l0 l1 l2 l4 rfl
        · refine w186_81 l4 ?_
          refine w186_83 ?_
          refine w186_85 (k := c188 (y := 142) (by decide) ?_)
          refine w186_88 (fun h => absurd h (by decide)) (fun _ => ?_)
          refine w186_91 l5 ?_
          refine w186_93 ?_
          refine w186_94 ?_
          refine w186_95 (fun h => absurd h (fun z => z ((lg_cmp_eq _ _).mpr hz))) (fun _ => ?_)
          refine w186_98 l0 ?_
          refine w186_99 l0 ?_
          refine w186_100 ?_
          rw [v_s_br]
          refine w186_103 (fun _ => ?_) (fun h => absurd (by decide) h)
          refine w186_110 ?_
          refine w186_111 ?_
          refine w186_115 (by decide) ?_
          rw [v_s_24]
          refine w186_118 ?_
          refine w186_119 ?_
          exact tail 1 (by decide) (by decide) (by decide) _ l0 l1 l2 l4 rfl
    · have nn : e_op 3 v0 v1 = e_bd (v0 / v1) := by
        unfold e_op
        simp only [show ¬ (3 = 0) by decide, show ¬ (3 = 1) by decide, show ¬ (3 = 2) by decide, if_false, if_true]
        exact if_neg hz
      rw [nn] at k
      refine w186_81 l4 ?_
      refine w186_83 ?_
      refine w186_85 (k := c188 (y := 142) (by decide) ?_)
      refine w186_88 (fun h => absurd h (by decide)) (fun _ => ?_)
      refine w186_91 l5 ?_
      refine w186_93 ?_
      refine w186_94 ?_
      refine w186_95 (fun _ => ?_) (fun h => absurd (fun z => hz ((lg_cmp_eq _ _).mp z)) h)
      refine w186_121 l0 ?_
      refine w186_122 l4 ?_
      refine w186_124 ?_
      refine w186_126 (k := c188 (y := 142) (by decide) ?_)
      refine w186_129 (fun _ => ?_) (fun h => absurd (by decide) h)
      refine w186_139 l4 ?_
      refine w186_141 ?_
      refine w186_143 (k := c188 (y := 147) (by decide) ?_)
      refine w186_146 (fun h => absurd h (fun z => z rfl)) (fun _ => ?_)
      refine w186_149 l2 ?_
      refine w186_150 l5 ?_
      refine w186_152 hz ?_
      refine w186_153 ?_
      refine w186_160 l1 ?_
      refine w186_161 (k := c192 L hl hb (fun x br2 h1 h2 => ?_))
      refine w186_164 ?_
      refine w186_165 ?_
      exact k x br2 h1 h2 _ l0 l1 rfl
  · by_cases hz : v1 = 0
    · have nn : e_op 4 v0 v1 = none := by
        unfold e_op
        simp only [show ¬ (4 = 0) by decide, show ¬ (4 = 1) by decide, show ¬ (4 = 2) by decide, show ¬ (4 = 3) by decide, if_false]
        exact if_pos hz
      have tail : ∀ br', (br' = 0 ∨ br' = 1) → (live = 1 → br' = 1) → (live = 0 → br' = br) → ∀ lv, am_ld1 lv 0 = some (.ref 124) → am_ld1 lv 1 = some (.int live) → am_ld2 lv 2 = some (.long v0) → am_ld1 lv 4 = some (.int 137) → am_ld2 lv 5 = some (.long 1) → am_wp pr (d + 1) 186 121 lv [] (S, v_s I g br', J, P) Q := by
        intro br' q1 q2 q3 lv l0 l1 l2 l4 l5
        refine w186_121 l0 ?_
        refine w186_122 l4 ?_
        refine w186_124 ?_
        refine w186_126 (k := c188 (y := 142) (by decide) ?_)
        refine w186_129 (fun _ => ?_) (fun h => absurd (by decide) h)
        refine w186_139 l4 ?_
        refine w186_141 ?_
        refine w186_143 (k := c188 (y := 147) (by decide) ?_)
        refine w186_146 (fun _ => ?_) (fun h => absurd (by decide) h)
        refine w186_156 l2 ?_
        refine w186_157 l5 ?_
        refine w186_159 (by decide) ?_
        refine w186_160 l1 ?_
        refine w186_161 (k := c192 L hl q1 (fun x br2 h1 h2 => ?_))
        refine w186_164 ?_
        refine w186_165 ?_
        refine k x br2 (fun a b => Or.inr ⟨?_, nn⟩) (fun a => ?_) _ l0 l1 rfl
        · rw [h2 (fun z => by rw [q2 a] at z; exact absurd z.2 (by decide)), q2 a]
        · rcases hl with z | z
          · rw [h2 (fun y => by rw [z] at y; exact absurd y.1 (by decide)), q3 z]
          · rw [h2 (fun y => by rw [q2 z] at y; exact absurd y.2 (by decide)), q2 z]
            rcases hb with y | y
            · exact absurd ⟨z, y⟩ a
            · exact y.symm
      rcases hl with rfl | rfl
      · rcases hb with rfl | rfl
        · refine w186_81 l4 ?_
          refine w186_83 ?_
          refine w186_85 (k := c188 (y := 142) (by decide) ?_)
          refine w186_88 (fun h => absurd h (by decide)) (fun _ => ?_)
          refine w186_91 l5 ?_
          refine w186_93 ?_
          refine w186_94 ?_
          refine w186_95 (fun h => absurd h (fun z => z ((lg_cmp_eq _ _).mpr hz))) (fun _ => ?_)
          refine w186_98 l0 ?_
          refine w186_99 l0 ?_
          refine w186_100 ?_
          rw [v_s_br]
          refine w186_103 (fun h => absurd h (fun z => z rfl)) (fun _ => ?_)
          refine w186_106 l1 ?_
          refine w186_107 (fun _ => ?_) (fun h => absurd rfl h)
          refine w186_114 ?_
          refine w186_115 (by decide) ?_
          rw [v_s_24]
          refine w186_118 ?_
          refine w186_119 ?_
          exact tail 0 (by decide) (by decide) (by decide) _ l0 l1 l2 l4 rfl
        · refine w186_81 l4 ?_
          refine w186_83 ?_
          refine w186_85 (k := c188 (y := 142) (by decide) ?_)
          refine w186_88 (fun h => absurd h (by decide)) (fun _ => ?_)
          refine w186_91 l5 ?_
          refine w186_93 ?_
          refine w186_94 ?_
          refine w186_95 (fun h => absurd h (fun z => z ((lg_cmp_eq _ _).mpr hz))) (fun _ => ?_)
          refine w186_98 l0 ?_
          refine w186_99 l0 ?_
          refine w186_100 ?_
          rw [v_s_br]
          refine w186_103 (fun _ => ?_) (fun h => absurd (by decide) h)
          refine w186_110 ?_
          refine w186_111 ?_
          refine w186_115 (by decide) ?_
          rw [v_s_24]
          refine w186_118 ?_
          refine w186_119 ?_
          exact tail 1 (by decide) (by decide) (by decide) _ l0 l1 l2 l4 rfl
      · rcases hb with rfl | rfl
        · refine w186_81 l4 ?_
          refine w186_83 ?_
          refine w186_85 (k := c188 (y := 142) (by decide) ?_)
          refine w186_88 (fun h => absurd h (by decide)) (fun _ => ?_)
          refine w186_91 l5 ?_
          refine w186_93 ?_
          refine w186_94 ?_
          refine w186_95 (fun h => absurd h (fun z => z ((lg_cmp_eq _ _).mpr hz))) (fun _ => ?_)
          refine w186_98 l0 ?_
          refine w186_99 l0 ?_
          refine w186_100 ?_
          rw [v_s_br]
          refine w186_103 (fun h => absurd h (fun z => z rfl)) (fun _ => ?_)
          refine w186_106 l1 ?_
          refine w186_107 (fun h => absurd h (by decide)) (fun _ => ?_)
          refine w186_110 ?_
          refine w186_111 ?_
          refine w186_115 (by decide) ?_
          rw [v_s_24]
          refine w186_118 ?_
          refine w186_119 ?_
          exact tail 1 (by decide) (by decide) (by decide) _ l0 l1 l2 l4 rfl
        · refine w186_81 l4 ?_
          refine w186_83 ?_
          refine w186_85 (k := c188 (y := 142) (by decide) ?_)
          refine w186_88 (fun h => absurd h (by decide)) (fun _ => ?_)
          refine w186_91 l5 ?_
          refine w186_93 ?_
          refine w186_94 ?_
          refine w186_95 (fun h => absurd h (fun z => z ((lg_cmp_eq _ _).mpr hz))) (fun _ => ?_)
          refine w186_98 l0 ?_
          refine w186_99 l0 ?_
          refine w186_100 ?_
          rw [v_s_br]
          refine w186_103 (fun _ => ?_) (fun h => absurd (by decide) h)
          refine w186_110 ?_
          refine w186_111 ?_
          refine w186_115 (by decide) ?_
          rw [v_s_24]
          refine w186_118 ?_
          refine w186_119 ?_
          exact tail 1 (by decide) (by decide) (by decide) _ l0 l1 l2 l4 rfl
    · have nn : e_op 4 v0 v1 = e_bd (v0 - v0 / v1 * v1) := by
        unfold e_op
        simp only [show ¬ (4 = 0) by decide, show ¬ (4 = 1) by decide, show ¬ (4 = 2) by decide, show ¬ (4 = 3) by decide, if_false]
        exact if_neg hz
      rw [nn] at k
      refine w186_81 l4 ?_
      refine w186_83 ?_
      refine w186_85 (k := c188 (y := 142) (by decide) ?_)
      refine w186_88 (fun h => absurd h (by decide)) (fun _ => ?_)
      refine w186_91 l5 ?_
      refine w186_93 ?_
      refine w186_94 ?_
      refine w186_95 (fun _ => ?_) (fun h => absurd (fun z => hz ((lg_cmp_eq _ _).mp z)) h)
      refine w186_121 l0 ?_
      refine w186_122 l4 ?_
      refine w186_124 ?_
      refine w186_126 (k := c188 (y := 142) (by decide) ?_)
      refine w186_129 (fun _ => ?_) (fun h => absurd (by decide) h)
      refine w186_139 l4 ?_
      refine w186_141 ?_
      refine w186_143 (k := c188 (y := 147) (by decide) ?_)
      refine w186_146 (fun _ => ?_) (fun h => absurd (by decide) h)
      refine w186_156 l2 ?_
      refine w186_157 l5 ?_
      refine w186_159 hz ?_
      refine w186_160 l1 ?_
      refine w186_161 (k := c192 L hl hb (fun x br2 h1 h2 => ?_))
      refine w186_164 ?_
      refine w186_165 ?_
      exact k x br2 h1 h2 _ l0 l1 rfl
/-- partOf, of a single part -/
theorem c187l (E : v_E S I P T base N w) {i j lvs lvs' : Nat} {e : Ex} (h : p_leaf T i lvs = pOk e j lvs') (h191 : ¬ T.1 i = 191) (hi : i ≤ N) {al : Bool} {live b0 : Int32} (hM : v_M al live b0) (k : ∀ v br, v_R al b0 (e.1 w) v br → Q (some (.long v)) (S, v_s I (base + j) br, J, P)) : am_ev pr (d + 4) 187 [.ref 124, .int live] (S, v_s I (base + i) b0, J, P) Q := by
  obtain ⟨L, e1, e2, e3, e4, e5⟩ := E
  have E : v_E S I P T base N w := ⟨L, e1, e2, e3, e4, e5⟩
  have fin : ∀ kk : Int32, (live = 1 → b0 = 0 → ∀ lv, am_ld1 lv 0 = some (.ref 124) → am_ld1 lv 2 = some (.int (T.1 i)) → am_ld1 lv 3 = some (.int kk) → am_wp pr (d + 4) 187 107 lv [] (S, v_s I (base + j) 0, J, P) Q) → ∀ lv, am_ld1 lv 0 = some (.ref 124) → am_ld1 lv 1 = some (.int live) → am_ld1 lv 2 = some (.int (T.1 i)) → am_ld1 lv 3 = some (.int kk) → am_wp pr (d + 4) 187 94 lv [] (S, v_s I (base + j) b0, J, P) Q := by
    intro kk kx lv l0 l1 l2 l3
    rcases hM with ⟨rfl, rfl, rfl⟩ | ⟨rfl, ⟨rfl, hb⟩ | ⟨rfl, rfl⟩⟩
    · refine w187_94 l1 ?_
      refine w187_95 (fun h => absurd h (by decide)) (fun _ => ?_)
      refine w187_98 l0 ?_
      refine w187_99 ?_
      rw [v_s_br]
      refine w187_102 (fun _ => ?_) (fun h => absurd rfl h)
      exact kx rfl rfl _ l0 l2 l3
    · refine w187_94 l1 ?_
      refine w187_95 (fun _ => ?_) (fun h => absurd rfl h)
      refine w187_105 ?_
      refine w187_106 ?_
      exact k 0 b0 rfl
    · refine w187_94 l1 ?_
      refine w187_95 (fun h => absurd h (by decide)) (fun _ => ?_)
      refine w187_98 l0 ?_
      refine w187_99 ?_
      rw [v_s_br]
      refine w187_102 (fun h => absurd h (by decide)) (fun _ => ?_)
      refine w187_105 ?_
      refine w187_106 ?_
      exact k 0 1 rfl
  have kA : live = 1 → b0 = 0 → ∀ v, e.1 w = some v → Q (some (.long v)) (S, v_s I (base + j) 0, J, P) := by
    intro q1 q2 v hv
    rcases hM with ⟨rfl, -, -⟩ | ⟨-, z⟩
    · exact k v 0 (Or.inl ⟨rfl, hv⟩)
    · rcases z with ⟨z, -⟩ | ⟨-, z⟩
      · rw [q1] at z
        exact absurd z (by decide)
      · rw [q2] at z
        exact absurd z (by decide)
  show am_wp pr (d + 4) 187 0 [(0, .ref 124), (1, .int live)] [] _ _
  refine w187_0 rfl ?_
  refine w187_1 ?_
  refine w187_3 (k := c188 (y := 191) (by decide) ?_)
  refine w187_6 (k := c189 E (by omega) (fun q => absurd q h191) (fun _ => ?_))
  refine w187_9 (fun _ => ?_) (fun h => absurd rfl h)
  refine w187_30 rfl ?_
  refine w187_31 rfl ?_
  refine w187_32 ?_
  rw [v_s_go]
  refine w187_35 (k := c184 E (by omega) ?_)
  refine w187_38 ?_
  refine w187_39 ?_
  refine w187_40 ?_
  refine w187_41 rfl ?_
  refine w187_42 rfl ?_
  refine w187_43 ?_
  rw [v_s_go]
  refine w187_46 ?_
  refine w187_47 ?_
  rw [nI_1]
  refine w187_48 ?_
  rw [v_s_22, Nat.add_assoc]
  rcases (p_leaf_cases h).2.2 with ⟨hc, rfl, rfl⟩ | ⟨c, kk, hT, hc, hcc, hc1, hv1, hk, rfl, rfl⟩ | ⟨c, hT, hc, hc14, hc20, hk, rfl, rfl⟩ | ⟨c, hT, hc, hc8, hc16, rfl, rfl⟩
  · have hN : i < N := E.lt (by rw [hc]; decide)
    have go94 : ∀ lv, am_ld1 lv 0 = some (.ref 124) → am_ld1 lv 1 = some (.int live) → am_ld1 lv 2 = some (.int (T.1 i)) → am_ld1 lv 3 = some (.int 0) → am_wp pr (d + 4) 187 94 lv [] (S, v_s I (base + (i + 1)) b0, J, P) Q := by
      refine fin 0 (fun q1 q2 lv l0 l2 l3 => ?_)
      refine w187_107 l2 ?_
      rw [hc]
      refine w187_108 ?_
      refine w187_110 (fun h => absurd h (fun z => z rfl)) (fun _ => ?_)
      refine w187_113 l0 ?_
      refine w187_114 (L.2 _ _ _ rfl) ?_
      refine w187_117 ?_
      refine w187_120 l0 ?_
      refine w187_121 ?_
      rw [v_s_go]
      refine w187_124 ?_
      rw [nz_a2884, show 2884 + (base + (i + 1)) = (2884 + base + i) + 1 by omega]
      refine w187_125 ?_
      refine w187_126 ?_
      rw [nI_pred]
      refine w187_127 (L.sh rfl) (am_in_nI (by omega) (by decide)) ?_
      rw [am_clN (by omega), v_s_ne (by decide), ← (e3 i hN).2]
      refine w187_128 ?_
      refine w187_129 ?_
      exact kA q1 q2 _ rfl
    rcases e5 with ⟨-, o0, -⟩ | ⟨-, o1, -⟩
    · refine w187_51 rfl ?_
      refine w187_52 ?_
      rw [v_s_at (by decide) (by decide), o0]
      refine w187_55 (fun _ => ?_) (fun h => absurd rfl h)
      exact go94 _ rfl rfl rfl rfl
    · refine w187_51 rfl ?_
      refine w187_52 ?_
      rw [v_s_at (by decide) (by decide), o1]
      refine w187_55 (fun h => absurd h (by decide)) (fun _ => ?_)
      refine w187_58 rfl ?_
      refine w187_59 ?_
      refine w187_61 (fun h => absurd h (by rw [hc]; decide)) (fun _ => ?_)
      refine w187_64 rfl ?_
      refine w187_65 ?_
      refine w187_67 (fun _ => ?_) (fun h => absurd (by rw [hc]; decide) h)
      exact go94 _ rfl rfl rfl rfl
  · have hN : i + 1 < N := E.lt (by rw [hc1]; decide)
    have c2 : c < 2 ^ 31 := by omega
    have k2 : kk < 100 := by
      unfold k_ok at hk
      rw [if_pos rfl] at hk
      omega
    have hT2 := hT
    have go94 : ∀ lv, am_ld1 lv 0 = some (.ref 124) → am_ld1 lv 1 = some (.int live) → am_ld1 lv 2 = some (.int (T.1 i)) → am_ld1 lv 3 = some (.int (nI kk)) → am_wp pr (d + 4) 187 94 lv [] (S, v_s I (base + (i + 2)) b0, J, P) Q := by
      refine fin (nI kk) (fun q1 q2 lv l0 l2 l3 => ?_)
      rcases e5 with ⟨z, -⟩ | ⟨-, o1, -⟩
      · rw [hT] at z
        exact absurd z (by decide)
      · refine w187_107 l2 ?_
        rw [hc]
        refine w187_108 ?_
        refine w187_110 (fun _ => ?_) (fun h => absurd (nI_ne (b := 50) (by omega) c2 (by decide)) h)
        refine w187_130 l0 ?_
        refine w187_131 ?_
        rw [v_s_at (by decide) (by decide), o1]
        refine w187_134 (fun h => absurd h (by decide)) (fun _ => ?_)
        refine w187_137 l0 ?_
        refine w187_138 l2 ?_
        rw [hc]
        refine w187_139 l3 ?_
        refine w187_140 (k := c190 E hT2 hk ?_)
        refine w187_143 ?_
        refine w187_144 ?_
        refine w187_157 ?_
        exact kA q1 q2 _ rfl
    rcases e5 with ⟨z, -⟩ | ⟨-, o1, -⟩
    · rw [hT] at z
      exact absurd z (by decide)
    · have go70 : ∀ lv, am_ld1 lv 0 = some (.ref 124) → am_ld1 lv 1 = some (.int live) → am_ld1 lv 2 = some (.int (T.1 i)) → am_wp pr (d + 4) 187 70 lv [] (S, v_s I (base + (i + 1)) b0, J, P) Q := by
        intro lv l0 l1 l2
        refine w187_70 l0 ?_
        refine w187_71 (L.2 _ _ _ rfl) ?_
        refine w187_74 ?_
        refine w187_77 l0 ?_
        refine w187_78 ?_
        rw [v_s_go]
        refine w187_81 ?_
        rw [nz_a2884, show 2884 + (base + (i + 1)) = 2884 + base + (i + 1) by omega]
        refine w187_82 (L.sh rfl) (am_in_nI (by omega) (by decide)) ?_
        rw [am_clN (by omega), v_s_ne (by decide), ← (e3 (i + 1) hN).2, hv1]
        refine w187_83 ?_
        refine w187_84 l0 ?_
        refine w187_85 rfl ?_
        refine w187_86 ?_
        rw [v_s_go]
        refine w187_89 ?_
        refine w187_90 ?_
        rw [nI_1]
        refine w187_91 ?_
        rw [v_s_22, show base + (i + 1) + 1 = base + (i + 2) by omega]
        exact go94 _ l0 l1 l2 rfl
      rcases hcc with rfl | rfl
      · refine w187_51 rfl ?_
        refine w187_52 ?_
        rw [v_s_at (by decide) (by decide), o1]
        refine w187_55 (fun h => absurd h (by decide)) (fun _ => ?_)
        refine w187_58 rfl ?_
        refine w187_59 ?_
        refine w187_61 (fun _ => ?_) (fun h => absurd hc h)
        exact go70 _ rfl rfl rfl
      · refine w187_51 rfl ?_
        refine w187_52 ?_
        rw [v_s_at (by decide) (by decide), o1]
        refine w187_55 (fun h => absurd h (by decide)) (fun _ => ?_)
        refine w187_58 rfl ?_
        refine w187_59 ?_
        refine w187_61 (fun h => absurd h (by rw [hc]; decide)) (fun _ => ?_)
        refine w187_64 rfl ?_
        refine w187_65 ?_
        refine w187_67 (fun h => absurd h (fun z => z hc)) (fun _ => ?_)
        exact go70 _ rfl rfl rfl
  · have c2 : c < 2 ^ 31 := by omega
    have hT2 := hT
    rcases e5 with ⟨z, -⟩ | ⟨-, o1, -⟩
    · rw [hT] at z
      exact absurd z (by decide)
    · have go94 : ∀ lv, am_ld1 lv 0 = some (.ref 124) → am_ld1 lv 1 = some (.int live) → am_ld1 lv 2 = some (.int (T.1 i)) → am_ld1 lv 3 = some (.int 0) → am_wp pr (d + 4) 187 94 lv [] (S, v_s I (base + (i + 1)) b0, J, P) Q := by
        refine fin 0 (fun q1 q2 lv l0 l2 l3 => ?_)
        refine w187_107 l2 ?_
        rw [hc]
        refine w187_108 ?_
        refine w187_110 (fun _ => ?_) (fun h => absurd (nI_ne (b := 50) (by omega) c2 (by decide)) h)
        refine w187_130 l0 ?_
        refine w187_131 ?_
        rw [v_s_at (by decide) (by decide), o1]
        refine w187_134 (fun h => absurd h (by decide)) (fun _ => ?_)
        refine w187_137 l0 ?_
        refine w187_138 l2 ?_
        rw [hc]
        refine w187_139 l3 ?_
        refine w187_140 (k := c190 (k0 := 0) E hT2 hk ?_)
        refine w187_143 ?_
        refine w187_144 ?_
        refine w187_157 ?_
        exact kA q1 q2 _ rfl
      refine w187_51 rfl ?_
      refine w187_52 ?_
      rw [v_s_at (by decide) (by decide), o1]
      refine w187_55 (fun h => absurd h (by decide)) (fun _ => ?_)
      refine w187_58 rfl ?_
      refine w187_59 ?_
      refine w187_61 (fun h => absurd h (by rw [hc]; exact nI_ne (b := 14) (by omega) c2 (by decide))) (fun _ => ?_)
      refine w187_64 rfl ?_
      refine w187_65 ?_
      refine w187_67 (fun _ => ?_) (fun h => absurd (by rw [hc]; exact nI_ne (b := 20) (by omega) c2 (by decide)) h)
      exact go94 _ rfl rfl rfl rfl
  · have c2 : c < 2 ^ 31 := by omega
    rcases e5 with ⟨-, o0, hw⟩ | ⟨z, -⟩
    · have go94 : ∀ lv, am_ld1 lv 0 = some (.ref 124) → am_ld1 lv 1 = some (.int live) → am_ld1 lv 2 = some (.int (T.1 i)) → am_ld1 lv 3 = some (.int 0) → am_wp pr (d + 4) 187 94 lv [] (S, v_s I (base + (i + 1)) b0, J, P) Q := by
        refine fin 0 (fun q1 q2 lv l0 l2 l3 => ?_)
        refine w187_107 l2 ?_
        rw [hc]
        refine w187_108 ?_
        refine w187_110 (fun _ => ?_) (fun h => absurd (nI_ne (b := 50) (by omega) c2 (by decide)) h)
        refine w187_130 l0 ?_
        refine w187_131 ?_
        rw [v_s_at (by decide) (by decide), o0]
        refine w187_134 (fun _ => ?_) (fun h => absurd rfl h)
        refine w187_147 l0 ?_
        refine w187_148 (L.2 _ _ _ rfl) ?_
        refine w187_151 l2 ?_
        rw [hc]
        refine w187_152 ?_
        refine w187_154 ?_
        rw [show nI c - 8 = nI (c - 8) from am_nsub (b := 8) hc8]
        refine w187_155 (L.sh rfl) (am_in_nI (by omega) (by decide)) ?_
        rw [am_clN (by omega), v_s_ne (by decide), hw c hc8 hc16]
        refine w187_156 ?_
        refine w187_157 ?_
        exact kA q1 q2 _ rfl
      refine w187_51 rfl ?_
      refine w187_52 ?_
      rw [v_s_at (by decide) (by decide), o0]
      refine w187_55 (fun _ => ?_) (fun h => absurd rfl h)
      exact go94 _ rfl rfl rfl rfl
    · rw [hT] at z
      exact absurd z (by decide)
end
