/-! the class reads: sums -/
theorem p_leaf_50 (T : Tk) (i : Nat) : p_leaf T i 50 = pBad i := by
  unfold p_leaf
  by_cases h : (T.1 i = 50 ∧ T.2.1 i ≤ 1000 ∨ (if T.2.2 = true then 14 else 8) ≤ T.1 i ∧ T.1 i ≤ (if T.2.2 = true then 20 else 16))
  · rw [if_pos h, if_pos rfl]
  · rw [if_neg h]
theorem p_leaf_bad {T : Tk} {i lv : Nat} (h : ¬ (T.1 i = 50 ∧ T.2.1 i ≤ 1000 ∨ (if T.2.2 = true then 14 else 8) ≤ T.1 i ∧ T.1 i ≤ (if T.2.2 = true then 20 else 16))) : p_leaf T i lv = pBad i := by
  unfold p_leaf
  rw [if_neg h]
theorem p_leaf_num {T : Tk} {i lv : Nat} (h1 : T.1 i = 50) (h2 : T.2.1 i ≤ 1000) (hl : ¬ lv = 50) : p_leaf T i lv = pOk (x_num (T.2.1 i)) (i + 1) (lv + 1) := by
  unfold p_leaf
  rw [if_pos (Or.inl ⟨h1, h2⟩), if_neg hl, if_pos h1]
theorem p_leaf_law {T : Tk} {i lv c : Nat} (ho : T.2.2 = false) (h1 : T.1 i = nI c) (h2 : 8 ≤ c) (h3 : c ≤ 16) (hl : ¬ lv = 50) : p_leaf T i lv = pOk (x_word false c 0) (i + 1) (lv + 1) := by
  unfold p_leaf
  rw [ho, h1, if_neg (show ¬ (false = true) by decide), if_neg (show ¬ (false = true) by decide), if_pos (Or.inr ⟨nI_le (a := 8) h2 (by omega), nI_le (b := 16) h3 (by decide)⟩), if_neg hl, if_neg (show ¬ nI c = (50 : Int32) from nI_ne (b := 50) (by omega) (by omega) (by decide)), if_neg (fun q => absurd q.1 (by decide)), am_clN (by omega)]
theorem p_leaf_ord {T : Tk} {i lv c : Nat} (ho : T.2.2 = true) (h1 : T.1 i = nI c) (h2 : 14 < c) (h3 : c < 20) (hl : ¬ lv = 50) : p_leaf T i lv = pOk (x_word true c 0) (i + 1) (lv + 1) := by
  unfold p_leaf
  rw [ho, h1, if_pos rfl, if_pos rfl, if_pos (Or.inr ⟨nI_le (a := 14) (by omega) (by omega), nI_le (b := 20) (by omega) (by decide)⟩), if_neg hl, if_neg (show ¬ nI c = (50 : Int32) from nI_ne (b := 50) (by omega) (by omega) (by decide)), if_neg (fun q => q.2.elim (nI_ne (b := 14) (by omega) (by omega) (by decide)) (nI_ne (b := 20) (by omega) (by omega) (by decide))), am_clN (by omega)]
theorem p_leaf_nb {T : Tk} {i lv c : Nat} (ho : T.2.2 = true) (h1 : T.1 i = nI c) (hc : c = 14 ∨ c = 20) (hl : ¬ lv = 50) : p_leaf T i lv = (if T.1 (i + 1) = 50 ∧ 0 ≤ T.2.1 (i + 1) ∧ T.2.1 (i + 1) ≤ (if c = 14 then 6 else 4) then pOk (x_word true c (T.2.1 (i + 1)).toNatClampNeg) (i + 2) (lv + 1) else pBad (i + 1)) := by
  unfold p_leaf
  rcases hc with rfl | rfl
  · rw [ho, h1, if_pos rfl, if_pos rfl, if_pos (Or.inr ⟨by decide, by decide⟩), if_neg hl, if_neg (by decide), if_pos ⟨rfl, Or.inl rfl⟩, if_pos rfl, show (if nI 14 = (14 : Int32) then (6 : Int32) else 4) = 6 by decide]
    all_goals rfl
  · rw [ho, h1, if_pos rfl, if_pos rfl, if_pos (Or.inr ⟨by decide, by decide⟩), if_neg hl, if_neg (by decide), if_pos ⟨rfl, Or.inr rfl⟩, show (if nI 20 = (14 : Int32) then (6 : Int32) else 4) = 4 by decide, if_neg (show ¬ (20 : Nat) = 14 by decide)]
    all_goals rfl
section
variable {pr : am_Pr} {S : List (Nat × Nat)} {I : Nat → Nat → Int32} {J : Nat → Nat → Int64} {P : Nat → Nat → Option Nat} {Q : Option Value → am_H → Prop} {T : Tk} {N i lv z d : Nat} {C V : Nat → Int32} {pl : Nat → Nat}
/-- what is asked of the rest where a sum was read, where it was not -/
def q_kg (S : List (Nat × Nat)) (J : Nat → Nat → Int64) (P : Nat → Nat → Option Nat) (C V : Nat → Int32) (pl : Nat → Nat) (I : Nat → Nat → Int32) (z : Nat) (R : (Ex × Nat × Nat) ⊕ Nat) (Q : Option Value → am_H → Prop) : Prop := ∀ e' j lv' I', R = .inl (e', j, lv') → q_K I I' z → q_A C V pl I' j lv' (z + e'.2.length) → k_at (I' 106) (I' 107) z e'.2 → k_DX (I' 101 2) e' → Q (some (.int 1)) (S, I', J, P)
def q_kb {α : Type} (S : List (Nat × Nat)) (J : Nat → Nat → Int64) (P : Nat → Nat → Option Nat) (pl : Nat → Nat) (N : Nat) (I : Nat → Nat → Int32) (R : (α × Nat × Nat) ⊕ Nat) (Q : Option Value → am_H → Prop) : Prop := ∀ j I', R = .inr j → j ≤ N → q_F I I' → I' 96 3 = nI (pl j) → Q (some (.int 0)) (S, I', J, P)
theorem c78l (E : q_E S I P T N C V pl) (A : q_A C V pl I i lv z) (hi : i ≤ N) (hl : lv ≤ 50) (hz : z + (N - i) ≤ 479) {R : (Ex × Nat × Nat) ⊕ Nat} (h : p_leaf T i lv = some R) (h191 : ¬ T.1 i = 191) {x : Int32} (kg : q_kg S J P C V pl I z R Q) (kb : q_kb S J P pl N I R Q) : am_ev pr (d + 2) 78 [.ref 96, .int x] (S, I, J, P) Q := by
  have L := E.1
  have tr := E.2.2.1
  have h0 := tr.1
  have ho := E.2.2.2.2.2
  have hC : ¬ C i = nI 91 := fun q => h191 ((tr.2.2.1 i 91 191 (by decide)).mp q)
  have f3 : ∀ I1 : Nat → Nat → Int32, q_F I I1 → ∀ j, R = .inr j → j ≤ N → Q (some (.int 0)) (S, am_u I1 96 3 (nI (pl j)), J, P) := fun I1 hF j hR hj => kb j _ hR hj (hF.tr q_F_3) am_u_self
  show am_wp pr (d + 2) 78 0 [(0, .ref 96), (1, .int x)] [] _ _
  by_cases h50 : lv = 50
  · subst h50
    rw [p_leaf_50] at h
    refine w78_0 rfl ?_
    refine w78_1 ?_
    rw [A.2.1]
    refine w78_4 ?_
    refine w78_6 (fun _ => ?_) (fun hQ => absurd hC hQ)
    refine w78_56 rfl ?_
    refine w78_57 ?_
    rw [A.2.2.2.2.1]
    refine w78_60 ?_
    refine w78_62 (fun hQ => absurd hQ (by decide)) (fun _ => ?_)
    refine w78_65 rfl ?_
    refine w78_66 (k := c74 L A.2.2.2.1 ?_)
    refine w78_69 (by first | rfl | exact am_narrow_b _) ?_
    exact f3 I q_F_0 i (Option.some.inj h).symm hi
  · have S1 : q_S I (am_u I 96 8 (nI (lv + 1))) := ⟨fun a ha => am_u_ne ha, am_u_at (by decide), am_u_at (by decide)⟩
    have A1 : q_A C V pl (am_u I 96 8 (nI (lv + 1))) i (lv + 1) z := by
      obtain ⟨a1, a2, a3, a4, a5, a6⟩ := A
      exact ⟨(am_u_at (by decide)).trans a1, (am_u_at (by decide)).trans a2, (am_u_at (by decide)).trans a3, (am_u_at (by decide)).trans a4, am_u_self, by rw [am_u_ne (by decide)]; exact a6⟩
    have E1 := E.F S1.F
    have ho1 := E1.2.2.2.2.2
    have no : ∀ lvv, am_ld1 lvv 0 = some (.ref 96) → R = .inr i → am_ld1 lvv 3 = some (.int (-1)) → am_wp pr (d + 2) 78 135 lvv [] (S, am_u I 96 8 (nI (lv + 1)), J, P) Q := by
      intro lvv l0 hR l3
      refine w78_135 l3 ?_
      refine w78_136 ?_
      refine w78_137 (fun hQ => absurd hQ (fun q => q rfl)) (fun _ => ?_)
      refine w78_140 l0 ?_
      refine w78_141 (k := c74 L A1.2.2.2.1 ?_)
      refine w78_144 (by first | rfl | exact am_narrow_b _) ?_
      exact f3 _ S1.F i hR hi
    /- the part is one step -/
    have one : ∀ (e : Ex) (c : Nat) (v : Int32) (I2 : Nat → Nat → Int32), e.2 = [(c, v)] → R = .inl (e, i + 1, lv + 1) → i < N → q_S (am_u I 96 8 (nI (lv + 1))) I2 → q_A C V pl I2 (i + 1) (lv + 1) z → (∀ x, k_DX x e) → Q (some (.int 1)) (S, tx_ad I2 z (nI c) v, J, P) := by
      intro e c v I2 he hR hiN s2 A2 hD
      have K2 : q_K I I2 z := (S1.K (z0 := z)).tr s2.K (Nat.le_refl z)
      refine kg e (i + 1) (lv + 1) _ hR (K2.tr (tx_K (Nat.le_refl z)) (Nat.le_refl z)) ?_ ?_ (hD _)
      · rw [he]; exact tx_A A2
      · rw [he]; exact tx_at (l := []) k_at_0 rfl
    refine w78_0 rfl ?_
    refine w78_1 ?_
    rw [A.2.1]
    refine w78_4 ?_
    refine w78_6 (fun _ => ?_) (fun hQ => absurd hC hQ)
    refine w78_56 rfl ?_
    refine w78_57 ?_
    rw [A.2.2.2.2.1]
    refine w78_60 ?_
    refine w78_62 (fun _ => ?_) (fun hQ => absurd (nI_lt (b := 50) (by omega) (by decide)) hQ)
    refine w78_70 rfl ?_
    refine w78_71 rfl ?_
    refine w78_72 ?_
    rw [A.2.2.2.2.1]
    refine w78_75 ?_
    refine w78_76 ?_
    rw [nI_1]
    refine w78_77 ?_
    refine w78_80 rfl ?_
    refine w78_81 ?_
    rw [A1.2.1]
    refine w78_84 ?_
    by_cases hn : C i = nI 256
    · have t50 : T.1 i = 50 := (tr.2.2.1 i 256 50 (by decide)).mp hn
      have hiN : i < N := p_lt h0 (by rw [t50]; decide)
      refine w78_87 (fun q => absurd hn q) (fun _ => ?_)
      refine w78_90 ?_
      refine w78_91 ?_
      refine w78_95 ?_
      refine w78_96 rfl ?_
      refine w78_97 (fun hQ => absurd hQ (by decide)) (fun _ => ?_)
      refine w78_100 rfl ?_
      refine w78_101 ?_
      refine w78_104 (k := c79 (m := 1000) E1 A1 (by decide) (fun v h1 h2 h3 => ?_) (fun hh => ?_))
      · have hv : T.2.1 i ≤ 1000 := by rw [h2]; exact nI_le (b := 1000) h3 (by decide)
        rw [p_leaf_num t50 hv h50] at h
        refine w78_107 ?_
        refine w78_134 ?_
        refine w78_135 rfl ?_
        refine w78_136 ?_
        refine w78_137 (fun _ => ?_) (fun hQ => absurd (nI_nm1 (by omega)) hQ)
        refine w78_145 rfl ?_
        refine w78_146 (k := c70a E1 A1 hiN (fun I2 s2 A2 => ?_))
        have E2 := E1.F s2.F
        have ho2 := E2.2.2.2.2.2
        have k177 : ∀ lvv, am_ld1 lvv 0 = some (.ref 96) → am_ld1 lvv 2 = some (.int 1) → am_ld1 lvv 3 = some (.int (nI v)) → am_wp pr (d + 2) 78 177 lvv [] (S, I2, J, P) Q := by
          intro lvv l0 l2 l3
          refine w78_177 l0 ?_
          refine w78_178 (L.2 _ _ _ rfl) ?_
          refine w78_181 l2 ?_
          refine w78_182 (fun hQ => absurd hQ (by decide)) (fun _ => ?_)
          refine w78_185 ?_
          refine w78_186 ?_
          refine w78_190 l3 ?_
          refine w78_191 (k := c83 L A2.2.2.2.2.2 (by omega) ?_)
          refine w78_194 rfl ?_
          refine w78_195 ?_
          refine w78_196 (by first | rfl | exact am_narrow_b _) ?_
          exact one (x_num (T.2.1 i)) 1 (nI v) I2 (by rw [h2]; rfl) (Option.some.inj h).symm hiN s2 A2 (fun x => k_DX_num x _)
        by_cases o : T.2.2 = true
        · refine w78_149 rfl ?_
          refine w78_150 ?_
          rw [ho2, if_pos o]
          refine w78_153 (fun hQ => absurd hQ (by decide)) (fun _ => ?_)
          refine w78_156 rfl ?_
          refine w78_157 (fun _ => ?_) (fun hQ => absurd (by decide) hQ)
          exact k177 _ rfl rfl rfl
        · refine w78_149 rfl ?_
          refine w78_150 ?_
          rw [ho2, if_neg o]
          refine w78_153 (fun _ => ?_) (fun hQ => absurd rfl hQ)
          exact k177 _ rfl rfl rfl
      · have hb : p_leaf T i lv = pBad i := p_leaf_bad (fun q => by
          rcases q with q | q
          · exact hh q
          · rw [t50] at q
            revert q
            split <;> decide)
        rw [hb] at h
        refine w78_107 ?_
        refine w78_134 ?_
        exact no _ rfl (Option.some.inj h).symm rfl
    · have t50 : ¬ T.1 i = 50 := fun q => hn ((tr.2.2.1 i 256 50 (by decide)).mpr q)
      refine w78_87 (fun _ => ?_) (fun q => absurd hn q)
      refine w78_94 ?_
      refine w78_95 ?_
      refine w78_96 rfl ?_
      refine w78_97 (fun _ => ?_) (fun hQ => absurd rfl hQ)
      refine w78_110 rfl ?_
      refine w78_111 ?_
      rw [ho1]
      by_cases o : T.2.2 = true
      · rw [if_pos o]
        refine w78_114 (fun hQ => absurd hQ (by decide)) (fun _ => ?_)
        refine w78_117 rfl ?_
        refine w78_118 ?_
        rw [A1.2.1]
        refine w78_121 (k := c80 tr (fun c c1 c2 hc => ?_) (fun hh => ?_))
        · have hiN : i < N := p_lt h0 (by rw [hc]; exact nI_ne (b := 0) (by omega) (by omega) (by decide))
          have hw : k_word true c 0 < 17 := by
            rcases (show c = 14 ∨ c = 15 ∨ c = 16 ∨ c = 17 ∨ c = 18 ∨ c = 19 ∨ c = 20 by omega) with rfl | rfl | rfl | rfl | rfl | rfl | rfl <;> decide
          refine w78_124 ?_
          refine w78_134 ?_
          refine w78_135 rfl ?_
          refine w78_136 ?_
          refine w78_137 (fun _ => ?_) (fun hQ => absurd (nI_nm1 (by omega)) hQ)
          refine w78_145 rfl ?_
          refine w78_146 (k := c70a E1 A1 hiN (fun I2 s2 A2 => ?_))
          have E2 := E1.F s2.F
          have ho2 := E2.2.2.2.2.2
          have K2 : q_K I I2 z := (S1.K (z0 := z)).tr s2.K (Nat.le_refl z)
          refine w78_149 rfl ?_
          refine w78_150 ?_
          rw [ho2, if_pos o]
          refine w78_153 (fun hQ => absurd hQ (by decide)) (fun _ => ?_)
          refine w78_156 rfl ?_
          refine w78_157 (fun hQ => absurd hQ (fun q => q rfl)) (fun _ => ?_)
          by_cases hnb : c = 14 ∨ c = 20
          · rw [p_leaf_nb o hc hnb h50] at h
            have k171 : ∀ lvv, am_ld1 lvv 0 = some (.ref 96) → am_ld1 lvv 3 = some (.int (nI (k_word true c 0))) → am_wp pr (d + 2) 78 171 lvv [] (S, I2, J, P) Q := by
              intro lvv l0 l3
              refine w78_171 l0 ?_
              refine w78_172 l3 ?_
              refine w78_173 (k := c82 E2 A2 (by omega) hnb (fun kk q1 q2 q3 I3 K3 A3 s1 s2' s3 => ?_) (fun q => ?_))
              · have hkk : kk ≤ 6 := by revert q3; split <;> omega
                have hiN2 : i + 1 < N := p_lt h0 (by rw [q1]; decide)
                rw [q2, am_clN (by omega), if_pos ⟨q1, nI_pos' (by omega), by
                  rcases hnb with rfl | rfl
                  · exact nI_le (b := 6) q3 (by decide)
                  · exact nI_le (b := 4) q3 (by decide)⟩] at h
                refine w78_176 (by rfl) ?_
                refine kg (x_word true c kk) (i + 2) (lv + 1) I3 (Option.some.inj h).symm (K2.tr K3 (Nat.le_refl z)) A3 (k_at_1 s1 s2') (k_DX_word ⟨fun q => by omega, by omega, fun q => ⟨?_, s3 q⟩⟩)
                rw [if_neg (by omega)] at q3
                omega
              · have hiN2 : i + 1 ≤ N := hiN
                rw [if_neg (fun w => q ⟨w.1, by
                  rcases hnb with rfl | rfl
                  · exact w.2.2
                  · exact w.2.2⟩)] at h
                refine w78_176 (by rfl) ?_
                exact f3 I2 K2.1 (i + 1) (Option.some.inj h).symm hiN2
            rcases hnb with rfl | rfl
            · refine w78_160 rfl ?_
              refine w78_161 ?_
              refine w78_162 (fun hQ => absurd hQ (by decide)) (fun _ => ?_)
              refine w78_165 rfl ?_
              refine w78_166 ?_
              refine w78_168 (fun hQ => absurd hQ (fun q => q rfl)) (fun _ => ?_)
              exact k171 _ rfl rfl
            · refine w78_160 rfl ?_
              refine w78_161 ?_
              exact w78_162 (fun _ => k171 _ rfl rfl) (fun q => absurd rfl q)
          · rw [p_leaf_ord o hc (by omega) (by omega) h50] at h
            have hw5 : ¬ k_word true c 0 = 5 ∧ ¬ k_word true c 0 = 10 := by
              rcases (show c = 15 ∨ c = 16 ∨ c = 17 ∨ c = 18 ∨ c = 19 by omega) with rfl | rfl | rfl | rfl | rfl <;> decide
            refine w78_160 rfl ?_
            refine w78_161 ?_
            refine w78_162 (fun hQ => absurd hQ (nI_ne (b := 5) hw5.1 (by omega) (by decide))) (fun _ => ?_)
            refine w78_165 rfl ?_
            refine w78_166 ?_
            refine w78_168 (fun _ => ?_) (fun hQ => absurd (nI_ne (b := 10) hw5.2 (by omega) (by decide)) hQ)
            refine w78_177 rfl ?_
            refine w78_178 (L.2 _ _ _ rfl) ?_
            refine w78_181 rfl ?_
            refine w78_182 (fun _ => ?_) (fun hQ => absurd rfl hQ)
            refine w78_189 ?_
            refine w78_190 rfl ?_
            refine w78_191 (k := c83 L A2.2.2.2.2.2 (by omega) ?_)
            refine w78_194 rfl ?_
            refine w78_195 ?_
            refine w78_196 (by first | rfl | exact am_narrow_b _) ?_
            exact one (x_word true c 0) 2 _ I2 rfl (Option.some.inj h).symm hiN s2 A2 (fun x => k_DX_word ⟨fun _ => rfl, by omega, fun q => by omega⟩)
        · have hb : p_leaf T i lv = pBad i := p_leaf_bad (fun q => by
            rcases q with q | q
            · exact t50 q.1
            · rw [if_pos o, if_pos o] at q
              exact hh q)
          rw [hb] at h
          refine w78_124 ?_
          refine w78_134 ?_
          exact no _ rfl (Option.some.inj h).symm rfl
      · have of : T.2.2 = false := by cases hb : T.2.2 with
          | true => exact absurd hb o
          | false => rfl
        rw [if_neg o]
        refine w78_114 (fun _ => ?_) (fun hQ => absurd rfl hQ)
        refine w78_127 rfl ?_
        refine w78_128 ?_
        rw [A1.2.1]
        refine w78_131 (k := c81 tr (fun c c1 c2 hc => ?_) (fun hh => ?_))
        · have hiN : i < N := p_lt h0 (by rw [hc]; exact nI_ne (b := 0) (by omega) (by omega) (by decide))
          have hw : k_word false c 0 < 9 := by
            rcases (show c = 8 ∨ c = 9 ∨ c = 10 ∨ c = 11 ∨ c = 12 ∨ c = 13 ∨ c = 14 ∨ c = 15 ∨ c = 16 by omega) with rfl | rfl | rfl | rfl | rfl | rfl | rfl | rfl | rfl <;> decide
          rw [p_leaf_law of hc c1 c2 h50] at h
          refine w78_134 ?_
          refine w78_135 rfl ?_
          refine w78_136 ?_
          refine w78_137 (fun _ => ?_) (fun hQ => absurd (nI_nm1 (by omega)) hQ)
          refine w78_145 rfl ?_
          refine w78_146 (k := c70a E1 A1 hiN (fun I2 s2 A2 => ?_))
          have E2 := E1.F s2.F
          have ho2 := E2.2.2.2.2.2
          refine w78_149 rfl ?_
          refine w78_150 ?_
          rw [ho2, if_neg o]
          refine w78_153 (fun _ => ?_) (fun hQ => absurd rfl hQ)
          refine w78_177 rfl ?_
          refine w78_178 (L.2 _ _ _ rfl) ?_
          refine w78_181 rfl ?_
          refine w78_182 (fun _ => ?_) (fun hQ => absurd rfl hQ)
          refine w78_189 ?_
          refine w78_190 rfl ?_
          refine w78_191 (k := c83 L A2.2.2.2.2.2 (by omega) ?_)
          refine w78_194 rfl ?_
          refine w78_195 ?_
          refine w78_196 (by first | rfl | exact am_narrow_b _) ?_
          exact one (x_word false c 0) 2 _ I2 rfl (Option.some.inj h).symm hiN s2 A2 (fun x => k_DX_word ⟨fun _ => rfl, by omega, fun q => by omega⟩)
        · have hb : p_leaf T i lv = pBad i := p_leaf_bad (fun q => by
            rcases q with q | q
            · exact t50 q.1
            · rw [if_neg o, if_neg o] at q
              exact hh q)
          rw [hb] at h
          refine w78_134 ?_
          exact no _ rfl (Option.some.inj h).symm rfl
def s_G (pr : am_Pr) (S : List (Nat × Nat)) (J : Nat → Nat → Int64) (P : Nat → Nat → Option Nat) (N : Nat) (C V : Nat → Int32) (pl : Nat → Nat) (d : Nat) (Q : Option Value → am_H → Prop) (I : Nat → Nat → Int32) (e : Ex) (i lv dp z m : Nat) : Prop :=
  (m = 0 → q_A C V pl I i lv z → z + (N - i) ≤ 479 → am_ev pr (d + 3) 78 [.ref 96, .int (nI dp)] (S, I, J, P) Q)
  ∧ (m = 1 → q_A C V pl I i lv z → z + (N - i) ≤ 479 → am_ev pr (d + 4) 77 [.ref 96, .int (nI dp)] (S, I, J, P) Q)
  ∧ (m = 2 → q_A C V pl I i lv (z + e.2.length) → z + e.2.length + (N - i) ≤ 479 → k_at (I 106) (I 107) z e.2 → k_DX (I 101 2) e → ∀ r, r < i → ∀ lvv, am_ld1 lvv 0 = some (.ref 96) → am_ld1 lvv 1 = some (.int (nI dp)) → am_ld1 lvv 2 = some (.int 1) → am_ld1 lvv 3 = some (.int (nI r)) → am_wp pr (d + 4) 77 8 lvv [] (S, I, J, P) Q)
  ∧ (m = 3 → q_A C V pl I i lv z → z + (N - i) ≤ 479 → am_ev pr (d + 5) 76 [.ref 96, .int (nI dp)] (S, I, J, P) Q)
  ∧ (4 ≤ m → q_A C V pl I i lv (z + e.2.length) → z + e.2.length + (N - i) ≤ 479 → k_at (I 106) (I 107) z e.2 → k_DX (I 101 2) e → ∀ r, r < i → ∀ lvv, am_ld1 lvv 0 = some (.ref 96) → am_ld1 lvv 1 = some (.int (nI dp)) → am_ld1 lvv 2 = some (.int 1) → am_ld1 lvv 3 = some (.int (nI r)) → am_wp pr (d + 5) 76 8 lvv [] (S, I, J, P) Q)
theorem c77x (k : Q (some (.int 0)) (S, I, J, P)) : ∀ lvv r, am_ld1 lvv 2 = some (.int 0) → am_ld1 lvv 3 = some (.int r) → am_wp pr d 77 8 lvv [] (S, I, J, P) Q := by
  intro lvv r l2 l3
  have fin : am_wp pr d 77 94 lvv [] (S, I, J, P) Q := w77_94 l2 (w77_95 rfl k)
  refine w77_8 l3 ?_
  refine w77_9 ?_
  refine w77_12 (fun _ => fin) (fun _ => ?_)
  refine w77_15 l2 ?_
  exact w77_16 (fun _ => fin) (fun q => absurd rfl q)
theorem c76x (k : Q (some (.int 0)) (S, I, J, P)) : ∀ lvv r, am_ld1 lvv 2 = some (.int 0) → am_ld1 lvv 3 = some (.int r) → am_wp pr d 76 8 lvv [] (S, I, J, P) Q := by
  intro lvv r l2 l3
  have fin : am_wp pr d 76 79 lvv [] (S, I, J, P) Q := w76_79 l2 (w76_80 rfl k)
  refine w76_8 l3 ?_
  refine w76_9 ?_
  refine w76_12 (fun _ => fin) (fun _ => ?_)
  refine w76_15 l2 ?_
  exact w76_16 (fun _ => fin) (fun q => absurd rfl q)
theorem q_kb.tr {α : Type} {I1 : Nat → Nat → Int32} {R : (α × Nat × Nat) ⊕ Nat} (kb : q_kb S J P pl N I R Q) (h : q_F I I1) : q_kb S J P pl N I1 R Q := fun j I' hR hj hF h3 => kb j I' hR hj (h.tr hF) h3
theorem q_kg.tr {I1 : Nat → Nat → Int32} {R : (Ex × Nat × Nat) ⊕ Nat} (kg : q_kg S J P C V pl I z R Q) (h : q_K I I1 z) : q_kg S J P C V pl I1 z R Q := fun e' j lv' I' hR hK hA hk hD => kg e' j lv' I' hR (h.tr hK (Nat.le_refl z)) hA hk hD
theorem s_go : ∀ (f m dp : Nat) (e : Ex) (i lv : Nat) (R : (Ex × Nat × Nat) ⊕ Nat), p_go T f m dp e i lv = some R → dp ≤ 8 → i ≤ N → lv ≤ 50 → ∀ (d z : Nat) (I : Nat → Nat → Int32) (Q : Option Value → am_H → Prop), q_E S I P T N C V pl → q_kg S J P C V pl I z R Q → q_kb S J P pl N I R Q → s_G pr S J P N C V pl (d + 3 * (8 - dp)) Q I e i lv dp z m := by
  intro f
  induction f with
  | zero => intro m dp e i lv R h; cases h
  | succ f ih =>
    intro m dp e i lv R h hdp hi hl d z I Q E kg kb
    have L := E.1
    have hN4 := E.2.1
    have tr := E.2.2.1
    have h0 := tr.1
    unfold p_go at h
    unfold s_G
    split at h
    · rename_i hm
      subst hm
      refine ⟨fun _ A hz => ?_, fun y => absurd y (by decide), fun y => absurd y (by decide), fun y => absurd y (by decide), fun y => absurd y (by decide)⟩
      split at h
      · rename_i h191
        have hi2 : i < N := p_lt h0 (by rw [h191]; decide)
        have hC : C i = nI 91 := (tr.2.2.1 i 91 191 (by decide)).mpr h191
        show am_wp pr _ 78 0 [(0, .ref 96), (1, .int (nI dp))] [] _ _
        split at h
        · rename_i hdp8
          refine w78_0 rfl ?_
          refine w78_1 ?_
          rw [A.2.1]
          refine w78_4 ?_
          refine w78_6 (fun hQ => absurd hQ (fun q => q hC)) (fun _ => ?_)
          refine w78_9 rfl ?_
          refine w78_10 ?_
          refine w78_12 (fun hQ => absurd hQ (by rw [hdp8]; decide)) (fun _ => ?_)
          refine w78_15 rfl ?_
          refine w78_16 (k := c74 L A.2.2.2.1 ?_)
          refine w78_19 (by first | rfl | exact am_narrow_b _) ?_
          exact kb i _ (Option.some.inj h).symm hi q_F_3 am_u_self
        · rename_i hdp8
          rw [show d + 3 * (8 - dp) + 3 = (d + 3 * (8 - (dp + 1)) + 5) + 1 by omega]
          refine w78_0 rfl ?_
          refine w78_1 ?_
          rw [A.2.1]
          refine w78_4 ?_
          refine w78_6 (fun hQ => absurd hQ (fun q => q hC)) (fun _ => ?_)
          refine w78_9 rfl ?_
          refine w78_10 ?_
          refine w78_12 (fun _ => ?_) (fun hQ => absurd (nI_lt (b := 8) (by omega) (by decide)) hQ)
          refine w78_20 rfl ?_
          refine w78_21 (k := c70a E A hi2 (fun I1 s1 A1 => ?_))
          have E1 := E.F s1.F
          refine w78_24 rfl ?_
          refine w78_25 rfl ?_
          refine w78_26 ?_
          refine w78_27 ?_
          rw [nI_1]
          rcases p_must_some h with ⟨a, i2, l2, y1, y2, y3⟩ | ⟨a, i2, l2, y1, y2, y3⟩ | ⟨j2, y1, y2⟩
          · refine w78_28 (k := (ih 3 (dp + 1) e (i + 1) lv _ y1 (by omega) hi2 hl d z I1 _ E1 (fun e' j lv' I2 hR K2 A2 hk hD => ?_) (fun j I2 hR => by cases hR)).2.2.2.1 rfl A1 (by omega))
            first | obtain ⟨rfl, rfl, rfl⟩ := s_inl3 hR | obtain rfl := s_inr hR | cases hR
            have E2 := E1.F K2.1
            refine w78_31 (fun hQ => absurd hQ (by decide)) (fun _ => ?_)
            refine w78_34 rfl ?_
            refine w78_35 ?_
            refine w78_37 (k := c72 (x := 93) (y := 193) E2 A2 (by decide) (fun _ _ I3 s3 A3 => ?_) (fun q => absurd y2 q))
            refine w78_40 (fun _ => ?_) (fun hQ => absurd (by decide) hQ)
            refine w78_50 ?_
            refine w78_51 ?_
            refine w78_55 (by first | rfl | exact am_narrow_b _) ?_
            exact kg e' (j + 1) lv' I3 y3 ((s1.K (z0 := z)).tr (K2.tr s3.K (Nat.le_refl z)) (Nat.le_refl z)) A3 (by rw [s3.1 106 (by decide), s3.1 107 (by decide)]; exact hk) (by rw [s3.1 101 (by decide)]; exact hD)
          · refine w78_28 (k := (ih 3 (dp + 1) e (i + 1) lv _ y1 (by omega) hi2 hl d z I1 _ E1 (fun e' j lv' I2 hR K2 A2 hk hD => ?_) (fun j I2 hR => by cases hR)).2.2.2.1 rfl A1 (by omega))
            first | obtain ⟨rfl, rfl, rfl⟩ := s_inl3 hR | obtain rfl := s_inr hR | cases hR
            have E2 := E1.F K2.1
            have hj := p_go_le h0 f _ _ _ _ _ _ _ _ y1 hi2
            refine w78_31 (fun hQ => absurd hQ (by decide)) (fun _ => ?_)
            refine w78_34 rfl ?_
            refine w78_35 ?_
            refine w78_37 (k := c72 (x := 93) (y := 193) E2 A2 (by decide) (fun q => absurd q y2) (fun q => ?_))
            refine w78_40 (fun hQ => absurd hQ (fun q => q rfl)) (fun _ => ?_)
            refine w78_43 rfl ?_
            refine w78_44 (k := c74 L A2.2.2.2.1 ?_)
            refine w78_47 (fun _ => ?_) (fun hQ => absurd rfl hQ)
            refine w78_54 ?_
            refine w78_55 (by first | rfl | exact am_narrow_b _) ?_
            exact kb j _ y3 hj (s1.F.tr (K2.1.tr q_F_3)) am_u_self
          · refine w78_28 (k := (ih 3 (dp + 1) e (i + 1) lv _ y1 (by omega) hi2 hl d z I1 _ E1 (fun e' j lv' I2 hR => by cases hR) (fun j I2 hR hj hF h3 => ?_)).2.2.2.1 rfl A1 (by omega))
            first | obtain ⟨rfl, rfl, rfl⟩ := s_inl3 hR | obtain rfl := s_inr hR | cases hR
            refine w78_31 (fun _ => ?_) (fun hQ => absurd rfl hQ)
            refine w78_54 ?_
            refine w78_55 (by first | rfl | exact am_narrow_b _) ?_
            exact kb j I2 y2 hj (s1.F.tr hF) h3
      · rename_i h191
        exact c78l E A hi hl hz h h191 kg kb
    · split at h
      · rename_i hm0 hm
        subst hm
        refine ⟨fun y => absurd y (by decide), fun _ A hz => ?_, fun y => absurd y (by decide), fun y => absurd y (by decide), fun y => absurd y (by decide)⟩
        show am_wp pr _ 77 0 [(0, .ref 96), (1, .int (nI dp))] [] _ _
        refine w77_0 rfl ?_
        refine w77_1 rfl ?_
        rcases pBind_some h with ⟨e1, i1, l1, h1, h2⟩ | ⟨j1, h1, h2⟩
        · have hlen := (p_go_len f _ _ _ _ _ _ _ _ h1)
          refine w77_2 (k := (ih 0 dp e i lv _ h1 hdp hi hl d z I _ E (fun e' j lv' I1 hR K1 A1 hk hD => ?_) (fun j I2 hR => by cases hR)).1 rfl A hz)
          first | obtain ⟨rfl, rfl, rfl⟩ := s_inl3 hR | obtain rfl := s_inr hR | cases hR
          have hj := p_go_le h0 f _ _ _ _ _ _ _ _ h1 hi
          have hlen2 := hlen.2.1 (Or.inl rfl)
          refine w77_5 ?_
          refine w77_6 ?_
          refine w77_7 ?_
          exact (ih 2 dp e' j lv' R h2 hdp hj (hlen.2.2.2 hl) d z I1 Q (E.F K1.1) (kg.tr K1) (kb.tr K1.1)).2.2.1 rfl A1 (by omega) hk hD 0 (by omega) _ rfl rfl rfl rfl
        · refine w77_2 (k := (ih 0 dp e i lv _ h1 hdp hi hl d z I _ E (fun e' j lv' I1 hR => by cases hR) (fun j I1 hR hj hF h3 => ?_)).1 rfl A hz)
          first | obtain ⟨rfl, rfl, rfl⟩ := s_inl3 hR | obtain rfl := s_inr hR | cases hR
          refine w77_5 ?_
          refine w77_6 ?_
          refine w77_7 ?_
          exact c77x (kb j I1 h2 hj hF h3) _ _ rfl rfl
      · split at h
        · rename_i hm0 hm1 hm
          subst hm
          refine ⟨fun y => absurd y (by decide), fun y => absurd y (by decide), fun _ A hz hk hD r hr => ?_, fun y => absurd y (by decide), fun y => absurd y (by decide)⟩
          intro lvv l0 l1 l2 l3
          have k61 : ∀ (op : Nat) (I1 : Nat → Nat → Int32) (c : Int32), p_opt (T.1 i) = some op → c = nI (3 + op) → i < N → q_S I I1 → q_A C V pl I1 (i + 1) lv (z + e.2.length) → ∀ lvv, am_ld1 lvv 0 = some (.ref 96) → am_ld1 lvv 1 = some (.int (nI dp)) → am_ld1 lvv 2 = some (.int 1) → am_ld1 lvv 3 = some (.int (nI r)) → am_wp pr (d + 3 * (8 - dp) + 4) 77 61 lvv [.int c] (S, I1, J, P) Q := by
            intro op I1 c hop hc hi2 s1 A1 lvv l0 l1 l2 l3
            have hop5 : op < 5 := p_opt_lt hop
            rw [hop] at h
            rw [hc]
            have E1 := E.F s1.F
            refine w77_61 ?_
            refine w77_63 rfl ?_
            refine w77_65 ?_
            refine w77_66 (fun _ => ?_) (fun hQ => absurd (nI_nm1 (by omega)) hQ)
            refine w77_71 l0 ?_
            refine w77_72 l1 ?_
            rcases pBind_some h with ⟨e1, i1, l1', h1, h2⟩ | ⟨j1, h1, h2⟩
            · have hlen := (p_go_len f _ _ _ _ _ _ _ _ h1)
              have hlen2 := hlen.2.1 (Or.inl rfl)
              refine w77_73 (k := (ih 0 dp e (i + 1) lv _ h1 hdp hi2 hl d (z + e.2.length) I1 _ E1 (fun e' j lv' I2 hR K2 A2 hk2 hD2 => ?_) (fun j I2 hR => by cases hR)).1 rfl A1 (by omega))
              first | obtain ⟨rfl, rfl, rfl⟩ := s_inl3 hR | obtain rfl := s_inr hR | cases hR
              have hj := p_go_le h0 f _ _ _ _ _ _ _ _ h1 hi2
              have K12 : q_K I I2 (z + e.2.length) := (s1.K).tr K2 (Nat.le_refl _)
              have hka := k_at_ap (k_at_K hk K12 (Nat.le_refl _)) hk2
              refine w77_76 ?_
              refine w77_77 l0 ?_
              refine w77_78 (L.2 _ _ _ rfl) ?_
              refine w77_81 rfl ?_
              refine w77_83 ?_
              refine w77_84 (k := c83 L A2.2.2.2.2.2 (by omega) ?_)
              have K3 := K12.tr (tx_K (I := I2) (x := nI (3 + op)) (y := 0) (show z + e.2.length ≤ z + e.2.length + e'.2.length by omega)) (Nat.le_refl _)
              have K30 : q_K I (tx_ad I2 (z + e.2.length + e'.2.length) (nI (3 + op)) 0) z := q_K_0.tr K3 (by omega)
              refine w77_87 rfl ?_
              refine w77_88 l3 ?_
              refine w77_91 ?_
              have hl3 := x_bin_len op e e'
              refine (ih 2 dp (x_bin op e e') j lv' R h2 hdp hj (hlen.2.2.2 hl) d z _ Q (E.F K30.1) (kg.tr K30) (kb.tr K30.1)).2.2.1 rfl ?_ (by omega) ?_ ?_ (r + 1) (by omega) _ l0 l1 rfl (am_nx r)
              · rw [hl3, show z + (e.2.length + e'.2.length + 1) = z + e.2.length + e'.2.length + 1 by omega]
                exact tx_A A2
              · exact tx_at (l := e.2 ++ e'.2) hka (by rw [List.length_append]; omega)
              · have e101 : tx_ad I2 (z + e.2.length + e'.2.length) (nI (3 + op)) 0 101 2 = I2 101 2 := by
                  unfold tx_ad
                  rw [am_u_at (by decide), am_u_ne (by decide), am_u_ne (by decide)]
                rw [e101]
                exact k_DX_bin (k_DX_mo K12.2.1 hD) hD2
            · refine w77_73 (k := (ih 0 dp e (i + 1) lv _ h1 hdp hi2 hl d (z + e.2.length) I1 _ E1 (fun e' j lv' I2 hR => by cases hR) (fun j I2 hR hj hF h3 => ?_)).1 rfl A1 (by omega))
              first | obtain ⟨rfl, rfl, rfl⟩ := s_inl3 hR | obtain rfl := s_inr hR | cases hR
              refine w77_76 ?_
              refine w77_77 l0 ?_
              refine w77_78 (L.2 _ _ _ rfl) ?_
              refine w77_81 rfl ?_
              refine w77_83 ?_
              refine w77_84 (k := c83x L (fun rr I3 f1 f2 => ?_))
              refine w77_87 rfl ?_
              refine w77_88 l3 ?_
              refine w77_91 ?_
              have hF3 : q_F I I3 := (s1.F.tr hF).tr ⟨fun a _ a2 a3 a4 => f1 a a2 a3 a4, by rw [f1 96 (by decide) (by decide) (by decide)], f2⟩
              exact c77x (kb j I3 h2 hj hF3 (by rw [f1 96 (by decide) (by decide) (by decide)]; exact h3)) _ _ rfl rfl
          refine w77_8 l3 ?_
          refine w77_9 ?_
          refine w77_12 (fun q => absurd q (am_nlt (n := 400) ?_ (by decide))) (fun _ => ?_)
          · omega
          refine w77_15 l2 ?_
          refine w77_16 (fun q => absurd q (by decide)) (fun _ => ?_)
          refine w77_19 l0 ?_
          refine w77_20 ?_
          refine w77_22 (k := c72 (x := 42) (y := 142) E A (by decide) (fun q hi2 I1 s1 A1 => ?_) (fun q1 => ?_))
          · refine w77_25 (fun w => absurd w (by decide)) (fun _ => ?_)
            refine w77_28 ?_
            refine w77_29 ?_
            exact k61 2 I1 _ (by unfold p_opt; rw [if_pos (show T.1 i = (142 : Int32) from q)]) rfl hi2 s1 A1 _ l0 l1 l2 l3
          · refine w77_25 (fun _ => ?_) (fun w => absurd rfl w)
            refine w77_32 l0 ?_
            refine w77_33 ?_
            refine w77_35 (k := c72 (x := 47) (y := 147) E A (by decide) (fun q hi2 I1 s1 A1 => ?_) (fun q2 => ?_))
            · refine w77_38 (fun w => absurd w (by decide)) (fun _ => ?_)
              refine w77_41 ?_
              refine w77_43 ?_
              exact k61 3 I1 _ (by unfold p_opt; rw [if_neg (show ¬ T.1 i = (142 : Int32) from q1), if_pos (show T.1 i = (147 : Int32) from q)]) rfl hi2 s1 A1 _ l0 l1 l2 l3
            · refine w77_38 (fun _ => ?_) (fun w => absurd rfl w)
              refine w77_46 l0 ?_
              refine w77_47 ?_
              refine w77_49 (k := c72 (x := 37) (y := 137) E A (by decide) (fun q hi2 I1 s1 A1 => ?_) (fun q3 => ?_))
              · refine w77_52 (fun w => absurd w (by decide)) (fun _ => ?_)
                refine w77_55 ?_
                refine w77_57 ?_
                exact k61 4 I1 _ (by unfold p_opt; rw [if_neg (show ¬ T.1 i = (142 : Int32) from q1), if_neg (show ¬ T.1 i = (147 : Int32) from q2), if_pos (show T.1 i = (137 : Int32) from q)]) rfl hi2 s1 A1 _ l0 l1 l2 l3
              · have hop : p_opt (T.1 i) = none := by unfold p_opt; rw [if_neg (show ¬ T.1 i = (142 : Int32) from q1), if_neg (show ¬ T.1 i = (147 : Int32) from q2), if_neg (show ¬ T.1 i = (137 : Int32) from q3)]
                rw [hop] at h
                refine w77_52 (fun _ => ?_) (fun w => absurd rfl w)
                refine w77_60 ?_
                refine w77_61 ?_
                refine w77_63 rfl ?_
                refine w77_65 ?_
                refine w77_66 (fun hQ => absurd hQ (fun q => q rfl)) (fun _ => ?_)
                refine w77_69 ?_
                refine w77_70 (by first | rfl | exact am_narrow_b _) ?_
                exact kg e i lv I (Option.some.inj h).symm q_K_0 A hk hD
        · split at h
          · rename_i hm0 hm1 hm2 hm
            subst hm
            refine ⟨fun y => absurd y (by decide), fun y => absurd y (by decide), fun y => absurd y (by decide), fun _ A hz => ?_, fun y => absurd y (by decide)⟩
            show am_wp pr _ 76 0 [(0, .ref 96), (1, .int (nI dp))] [] _ _
            refine w76_0 rfl ?_
            refine w76_1 rfl ?_
            rcases pBind_some h with ⟨e1, i1, l1, h1, h2⟩ | ⟨j1, h1, h2⟩
            · have hlen := (p_go_len f _ _ _ _ _ _ _ _ h1)
              refine w76_2 (k := (ih 1 dp e i lv _ h1 hdp hi hl d z I _ E (fun e' j lv' I1 hR K1 A1 hk hD => ?_) (fun j I2 hR => by cases hR)).2.1 rfl A hz)
              first | obtain ⟨rfl, rfl, rfl⟩ := s_inl3 hR | obtain rfl := s_inr hR | cases hR
              have hj := p_go_le h0 f _ _ _ _ _ _ _ _ h1 hi
              have hlen2 := hlen.2.1 (Or.inr (Or.inl rfl))
              refine w76_5 ?_
              refine w76_6 ?_
              refine w76_7 ?_
              exact (ih 4 dp e' j lv' R h2 hdp hj (hlen.2.2.2 hl) d z I1 Q (E.F K1.1) (kg.tr K1) (kb.tr K1.1)).2.2.2.2 (Nat.le_refl 4) A1 (by omega) hk hD 0 (by omega) _ rfl rfl rfl rfl
            · refine w76_2 (k := (ih 1 dp e i lv _ h1 hdp hi hl d z I _ E (fun e' j lv' I1 hR => by cases hR) (fun j I1 hR hj hF h3 => ?_)).2.1 rfl A hz)
              first | obtain ⟨rfl, rfl, rfl⟩ := s_inl3 hR | obtain rfl := s_inr hR | cases hR
              refine w76_5 ?_
              refine w76_6 ?_
              refine w76_7 ?_
              exact c76x (kb j I1 h2 hj hF h3) _ _ rfl rfl
          · rename_i hm0 hm1 hm2 hm3
            refine ⟨fun y => absurd y hm0, fun y => absurd y hm1, fun y => absurd y hm2, fun y => absurd y hm3, fun _ A hz hk hD r hr => ?_⟩
            intro lvv l0 l1 l2 l3
            have k46 : ∀ (op : Nat) (I1 : Nat → Nat → Int32) (c : Int32), p_ops (T.1 i) = some op → c = nI (3 + op) → i < N → q_S I I1 → q_A C V pl I1 (i + 1) lv (z + e.2.length) → ∀ lvv, am_ld1 lvv 0 = some (.ref 96) → am_ld1 lvv 1 = some (.int (nI dp)) → am_ld1 lvv 2 = some (.int 1) → am_ld1 lvv 3 = some (.int (nI r)) → am_wp pr (d + 3 * (8 - dp) + 5) 76 46 lvv [.int c] (S, I1, J, P) Q := by
              intro op I1 c hop hc hi2 s1 A1 lvv l0 l1 l2 l3
              have hop5 : op < 5 := p_ops_lt hop
              rw [hop] at h
              rw [hc]
              have E1 := E.F s1.F
              refine w76_46 ?_
              refine w76_48 rfl ?_
              refine w76_50 ?_
              refine w76_51 (fun _ => ?_) (fun hQ => absurd (nI_nm1 (by omega)) hQ)
              refine w76_56 l0 ?_
              refine w76_57 l1 ?_
              rcases pBind_some h with ⟨e1, i1, l1', h1, h2⟩ | ⟨j1, h1, h2⟩
              · have hlen := (p_go_len f _ _ _ _ _ _ _ _ h1)
                have hlen2 := hlen.2.1 (Or.inr (Or.inl rfl))
                refine w76_58 (k := (ih 1 dp e (i + 1) lv _ h1 hdp hi2 hl d (z + e.2.length) I1 _ E1 (fun e' j lv' I2 hR K2 A2 hk2 hD2 => ?_) (fun j I2 hR => by cases hR)).2.1 rfl A1 (by omega))
                first | obtain ⟨rfl, rfl, rfl⟩ := s_inl3 hR | obtain rfl := s_inr hR | cases hR
                have hj := p_go_le h0 f _ _ _ _ _ _ _ _ h1 hi2
                have K12 : q_K I I2 (z + e.2.length) := (s1.K).tr K2 (Nat.le_refl _)
                have hka := k_at_ap (k_at_K hk K12 (Nat.le_refl _)) hk2
                refine w76_61 ?_
                refine w76_62 l0 ?_
                refine w76_63 (L.2 _ _ _ rfl) ?_
                refine w76_66 rfl ?_
                refine w76_68 ?_
                refine w76_69 (k := c83 L A2.2.2.2.2.2 (by omega) ?_)
                have K3 := K12.tr (tx_K (I := I2) (x := nI (3 + op)) (y := 0) (show z + e.2.length ≤ z + e.2.length + e'.2.length by omega)) (Nat.le_refl _)
                have K30 : q_K I (tx_ad I2 (z + e.2.length + e'.2.length) (nI (3 + op)) 0) z := q_K_0.tr K3 (by omega)
                refine w76_72 rfl ?_
                refine w76_73 l3 ?_
                refine w76_76 ?_
                have hl3 := x_bin_len op e e'
                refine (ih 4 dp (x_bin op e e') j lv' R h2 hdp hj (hlen.2.2.2 hl) d z _ Q (E.F K30.1) (kg.tr K30) (kb.tr K30.1)).2.2.2.2 (Nat.le_refl 4) ?_ (by omega) ?_ ?_ (r + 1) (by omega) _ l0 l1 rfl (am_nx r)
                · rw [hl3, show z + (e.2.length + e'.2.length + 1) = z + e.2.length + e'.2.length + 1 by omega]
                  exact tx_A A2
                · exact tx_at (l := e.2 ++ e'.2) hka (by rw [List.length_append]; omega)
                · have e101 : tx_ad I2 (z + e.2.length + e'.2.length) (nI (3 + op)) 0 101 2 = I2 101 2 := by
                    unfold tx_ad
                    rw [am_u_at (by decide), am_u_ne (by decide), am_u_ne (by decide)]
                  rw [e101]
                  exact k_DX_bin (k_DX_mo K12.2.1 hD) hD2
              · refine w76_58 (k := (ih 1 dp e (i + 1) lv _ h1 hdp hi2 hl d (z + e.2.length) I1 _ E1 (fun e' j lv' I2 hR => by cases hR) (fun j I2 hR hj hF h3 => ?_)).2.1 rfl A1 (by omega))
                first | obtain ⟨rfl, rfl, rfl⟩ := s_inl3 hR | obtain rfl := s_inr hR | cases hR
                refine w76_61 ?_
                refine w76_62 l0 ?_
                refine w76_63 (L.2 _ _ _ rfl) ?_
                refine w76_66 rfl ?_
                refine w76_68 ?_
                refine w76_69 (k := c83x L (fun rr I3 f1 f2 => ?_))
                refine w76_72 rfl ?_
                refine w76_73 l3 ?_
                refine w76_76 ?_
                have hF3 : q_F I I3 := (s1.F.tr hF).tr ⟨fun a _ a2 a3 a4 => f1 a a2 a3 a4, by rw [f1 96 (by decide) (by decide) (by decide)], f2⟩
                exact c76x (kb j I3 h2 hj hF3 (by rw [f1 96 (by decide) (by decide) (by decide)]; exact h3)) _ _ rfl rfl
            refine w76_8 l3 ?_
            refine w76_9 ?_
            refine w76_12 (fun q => absurd q (am_nlt (n := 400) ?_ (by decide))) (fun _ => ?_)
            · omega
            refine w76_15 l2 ?_
            refine w76_16 (fun q => absurd q (by decide)) (fun _ => ?_)
            refine w76_19 l0 ?_
            refine w76_20 ?_
            refine w76_22 (k := c72 (x := 43) (y := 143) E A (by decide) (fun q hi2 I1 s1 A1 => ?_) (fun q1 => ?_))
            · refine w76_25 (fun w => absurd w (by decide)) (fun _ => ?_)
              refine w76_28 ?_
              refine w76_29 ?_
              exact k46 0 I1 _ (by unfold p_ops; rw [if_pos (show T.1 i = (143 : Int32) from q)]) rfl hi2 s1 A1 _ l0 l1 l2 l3
            · refine w76_25 (fun _ => ?_) (fun w => absurd rfl w)
              refine w76_32 l0 ?_
              refine w76_33 ?_
              refine w76_35 (k := c72 (x := 45) (y := 145) E A (by decide) (fun q hi2 I1 s1 A1 => ?_) (fun q2 => ?_))
              · refine w76_38 (fun w => absurd w (by decide)) (fun _ => ?_)
                refine w76_41 ?_
                refine w76_42 ?_
                exact k46 1 I1 _ (by unfold p_ops; rw [if_neg (show ¬ T.1 i = (143 : Int32) from q1), if_pos (show T.1 i = (145 : Int32) from q)]) rfl hi2 s1 A1 _ l0 l1 l2 l3
              · have hop : p_ops (T.1 i) = none := by unfold p_ops; rw [if_neg (show ¬ T.1 i = (143 : Int32) from q1), if_neg (show ¬ T.1 i = (145 : Int32) from q2)]
                rw [hop] at h
                refine w76_38 (fun _ => ?_) (fun w => absurd rfl w)
                refine w76_45 ?_
                refine w76_46 ?_
                refine w76_48 rfl ?_
                refine w76_50 ?_
                refine w76_51 (fun hQ => absurd hQ (fun q => q rfl)) (fun _ => ?_)
                refine w76_54 ?_
                refine w76_55 (by first | rfl | exact am_narrow_b _) ?_
                exact kg e i lv I (Option.some.inj h).symm q_K_0 A hk hD
/-- readSum -/
theorem c76 {f dp : Nat} {R : (Ex × Nat × Nat) ⊕ Nat} (h : p_sum T f dp i lv = some R) (hdp : dp ≤ 8) (hi : i ≤ N) (hl : lv ≤ 50) (E : q_E S I P T N C V pl) (A : q_A C V pl I i lv z) (hz : z + (N - i) ≤ 479) (kg : q_kg S J P C V pl I z R Q) (kb : q_kb S J P pl N I R Q) : am_ev pr (d + 3 * (8 - dp) + 5) 76 [.ref 96, .int (nI dp)] (S, I, J, P) Q := (s_go f 3 dp x_0 i lv R h hdp hi hl d z I Q E kg kb).2.2.2.1 rfl A hz
end
