/-! orders run: the reference goes along a clause, both live and dead -/
section
variable {pr : am_Pr} {d : Nat} {S : List (Nat × Nat)} {I I' M M' : Nat → Nat → Int32} {J : Nat → Nat → Int64} {P : Nat → Nat → Option Nat} {Q : Option Value → am_H → Prop} {n : Nat} {lw : Option (List Cl)} {T : Tk} {N : Nat} {w : Nat → Nat → Int32} {al : Bool} {live : Int32}
/-- a sum -/
theorem c293t (E : v_E S M P T 2400 N w) {q i j lv lv' f : Nat} {m : Int32} {e : Ex} (hq : q < 3) (hg : M 124 22 = nI (2400 + i)) (h : p_sum T f 0 i lv = pOk e j lv') (hi : i ≤ N) (s44 : M 124 44 = 0 ∨ M 124 44 = 1) (hl : live = if al = true then 1 else 0) (k : ∀ M' J', (∀ a, a ≠ 124 → M' a = M a) → (∀ x, x ≠ 22 → x ≠ 24 → x ≠ 44 → M' 124 x = M 124 x) → v_E S M' P T 2400 N w → M' 124 22 = nI (2400 + j) → (∀ x, x ≠ q → J' 147 x = J 147 x) → (al = true → (M' 124 44 = M 124 44 ∧ e.1 w = some (J' 147 q)) ∨ (M' 124 44 = 0 ∧ e.1 w = none)) → (M' 124 44 = 0 ∨ M' 124 44 = 1) → (∀ lvv, am_ld1 lvv 0 = some (.ref 124) → am_ld1 lvv 2 = some (.int live) → am_ld1 lvv 3 = some (.int m) → am_ld1 lvv 4 = some (.int (nI (q + 1))) → am_wp pr (d + 46) 293 84 lvv [] (S, M', J', P) Q)) : ∀ lvv, am_ld1 lvv 0 = some (.ref 124) → am_ld1 lvv 2 = some (.int live) → am_ld1 lvv 3 = some (.int m) → am_ld1 lvv 4 = some (.int (nI q)) → am_wp pr (d + 46) 293 105 lvv [] (S, M, J, P) Q := by
  intro lvv l0 l2 l3 l4
  have L := E.1
  have hM : v_M al live 0 := by
    cases al
    · exact Or.inr ⟨rfl, Or.inl ⟨hl, Or.inl rfl⟩⟩
    · exact Or.inl ⟨rfl, hl, rfl⟩
  have E1 : v_E S (am_u M 124 24 0) P T 2400 N w := v_E_cg (fun a ha => am_u_ne ha) (am_u_at (by decide)) (am_u_at (by decide)) (am_u_at (by decide)) (am_u_at (by decide)) E
  refine w293_105 l0 ?_
  refine w293_106 ?_
  refine w293_107 (Or.inl rfl) ?_
  refine w293_110 l0 ?_
  refine w293_111 (L.2 _ _ _ rfl) ?_
  refine w293_114 l4 ?_
  refine w293_116 l0 ?_
  refine w293_117 l2 ?_
  refine w293_118 (k := c185m (d := d + 15) (b0 := 0) E1 (by rw [am_u_at (by decide)]; exact hg) h hi am_u_self hM (fun v br M2 f2 g2 b2 hv => ?_))
  have s2 : M2 124 44 = M 124 44 := by rw [f2.2 44 (by decide) (by decide), am_u_at (by decide)]
  have hbr : br = 0 ∨ br = 1 := by
    unfold v_R at hv
    cases al
    · rw [if_neg (by decide)] at hv; exact Or.inl hv
    · rw [if_pos rfl] at hv; exact hv.elim (fun z => Or.inl z.1) (fun z => Or.inr z.1)
  have fin : ∀ x : Int32, (x = 0 ∨ x = 1) → (al = true → (x = M 124 44 ∧ e.1 w = some v) ∨ (x = 0 ∧ e.1 w = none)) → ∀ lvv, am_ld1 lvv 0 = some (.ref 124) → am_ld1 lvv 2 = some (.int live) → am_ld1 lvv 3 = some (.int m) → am_ld1 lvv 4 = some (.int (nI q)) → am_wp pr (d + 46) 293 142 lvv [.int x, .ref 124] (S, M2, am_u J 147 q v, P) Q := by
    intro x hx hx2 lvv l0 l2 l3 l4
    refine w293_142 hx ?_
    refine w293_145 l4 ?_
    refine w293_148 ?_
    refine k (am_u M2 124 44 x) (am_u J 147 q v) (fun a ha => by rw [am_u_ne ha, f2.1 a ha, am_u_ne ha]) (fun y y1 y2 y3 => by rw [am_u_at y3, f2.2 y y1 y2, am_u_at y2]) ?_ ?_ (fun y hy => am_u_at hy) (fun z => ?_) ?_ _ l0 l2 l3 (am_nx q)
    · exact v_E_cg (fun a ha => by rw [am_u_ne ha, f2.1 a ha]) (by rw [am_u_at (by decide), f2.2 _ (by decide) (by decide)]) (by rw [am_u_at (by decide), f2.2 _ (by decide) (by decide)]) (by rw [am_u_at (by decide), f2.2 _ (by decide) (by decide)]) (by rw [am_u_at (by decide), f2.2 _ (by decide) (by decide)]) E1
    · rw [am_u_at (by decide)]; exact g2
    · rw [am_u_self, am_u_self]; exact hx2 z
    · rw [am_u_self]; exact hx
  have hx0 : al = true → br = 0 → e.1 w = some v := fun z y => by
    unfold v_R at hv
    rw [if_pos z] at hv
    rcases hv with u | u
    · exact u.2
    · rw [y] at u; exact absurd u.1 (by decide)
  have hx1 : al = true → br = 1 → e.1 w = none := fun z y => by
    unfold v_R at hv
    rw [if_pos z] at hv
    rcases hv with u | u
    · rw [y] at u; exact absurd u.1 (by decide)
    · exact u.2
  rcases s44 with s | s
  · refine w293_121 (L.sh rfl) (am_in_nI (by omega) (by decide)) ?_
    rw [am_clN (by omega)]
    refine w293_122 l0 ?_
    refine w293_123 l0 ?_
    refine w293_124 ?_
    rw [s2, s]
    refine w293_127 (fun _ => ?_) (fun hQ => absurd rfl hQ)
    refine w293_141 ?_
    refine fin 0 (Or.inl rfl) (fun z => ?_) _ l0 l2 l3 l4
    rcases hbr with y | y
    · exact Or.inl ⟨s.symm, hx0 z y⟩
    · exact Or.inr ⟨rfl, hx1 z y⟩
  · rcases hbr with y | y
    · refine w293_121 (L.sh rfl) (am_in_nI (by omega) (by decide)) ?_
      rw [am_clN (by omega)]
      refine w293_122 l0 ?_
      refine w293_123 l0 ?_
      refine w293_124 ?_
      rw [s2, s]
      refine w293_127 (fun hQ => absurd hQ (by decide)) (fun _ => ?_)
      refine w293_130 l0 ?_
      refine w293_131 ?_
      rw [b2, y]
      refine w293_134 (fun hQ => absurd hQ (fun q => q rfl)) (fun _ => ?_)
      refine w293_137 ?_
      refine w293_138 ?_
      exact fin 1 (Or.inr rfl) (fun z => Or.inl ⟨s.symm, hx0 z y⟩) _ l0 l2 l3 l4
    · refine w293_121 (L.sh rfl) (am_in_nI (by omega) (by decide)) ?_
      rw [am_clN (by omega)]
      refine w293_122 l0 ?_
      refine w293_123 l0 ?_
      refine w293_124 ?_
      rw [s2, s]
      refine w293_127 (fun hQ => absurd hQ (by decide)) (fun _ => ?_)
      refine w293_130 l0 ?_
      refine w293_131 ?_
      rw [b2, y]
      refine w293_134 (fun _ => ?_) (fun hQ => absurd (by decide) hQ)
      refine w293_141 ?_
      exact fin 0 (Or.inl rfl) (fun z => Or.inr ⟨rfl, hx1 z y⟩) _ l0 l2 l3 l4
/-- how often, and the test -/
theorem c293u (E : v_E S M P T 2400 N w) {i j2 j3 l1 l2' l3 f t : Nat} {te : Option Te} (hg : M 124 22 = nI (2400 + i)) (ht : p_times T i l1 = pOk t j2 l2') (hif : p_if T f j2 l2' = pOk te j3 l3) (hi : i ≤ N) (hl : live = if al = true then 1 else 0) (k : ∀ M', (∀ a, a ≠ 124 → M' a = M a) → (∀ x, x ≠ 22 → x ≠ 24 → x ≠ 42 → x ≠ 45 → M' 124 x = M 124 x) → M' 124 22 = nI (2400 + (j3 + 1)) → M' 124 42 = nI t → (al = true → M' 124 45 = am_b (e_if w te = true)) → Q none (S, M', J, P)) : ∀ lvv, am_ld1 lvv 0 = some (.ref 124) → am_ld1 lvv 2 = some (.int live) → am_wp pr (d + 46) 293 151 lvv [] (S, M, J, P) Q := by
  intro lvv l0 l2
  have L := E.1
  have N4 : 2400 + N ≤ 2800 := E.2.1
  have hM : v_M al live 0 := by
    cases al
    · exact Or.inr ⟨rfl, Or.inl ⟨hl, Or.inl rfl⟩⟩
    · exact Or.inl ⟨rfl, hl, rfl⟩
  /- the end -/
  have fin : ∀ (M3 : Nat → Nat → Int32) (x br : Int32), (∀ a, a ≠ 124 → M3 a = M a) → (∀ y, y ≠ 22 → y ≠ 24 → y ≠ 42 → M3 124 y = M 124 y) → M3 124 22 = nI (2400 + j3) → M3 124 42 = nI t → M3 124 24 = br → (x = 0 ∨ x = 1) → (br = 0 ∨ br = 1) → (al = true → am_b (e_if w te = true) = if x = 1 ∧ br = 0 then 1 else 0) → ∀ lvv, am_ld1 lvv 0 = some (.ref 124) → am_wp pr (d + 46) 293 219 lvv [.int x, .ref 124] (S, M3, J, P) Q := by
    intro M3 x br f1 f2 g22 g42 g24 hx hbr hv lvv l0
    have en : ∀ y : Int32, (y = 0 ∨ y = 1) → (al = true → y = am_b (e_if w te = true)) → ∀ lvv, am_ld1 lvv 0 = some (.ref 124) → am_wp pr (d + 46) 293 242 lvv [.int y, .ref 124] (S, am_u M3 124 45 x, J, P) Q := by
      intro y hy hy2 lvv l0
      have g22' : am_u (am_u M3 124 45 x) 124 45 y 124 22 = nI (2400 + j3) := by rw [am_u_at (by decide), am_u_at (by decide)]; exact g22
      refine w293_242 hy ?_
      refine w293_245 l0 ?_
      refine w293_246 rfl ?_
      refine w293_247 ?_
      rw [g22']
      refine w293_250 ?_
      refine w293_251 ?_
      rw [nI_1, Nat.add_assoc]
      refine w293_252 ?_
      refine w293_255 ?_
      refine k _ (fun a ha => by rw [am_u_ne ha, am_u_ne ha, am_u_ne ha]; exact f1 a ha) (fun z z1 z2 z3 z4 => by rw [am_u_at z1, am_u_at z4, am_u_at z4]; exact f2 z z1 z2 z3) am_u_self ?_ (fun z => ?_)
      · rw [am_u_at (by decide), am_u_at (by decide), am_u_at (by decide)]; exact g42
      · rw [am_u_at (by decide), am_u_self]; exact hy2 z
    rcases hx with rfl | rfl
    · refine w293_219 (Or.inl rfl) ?_
      refine w293_222 l0 ?_
      refine w293_223 l0 ?_
      refine w293_224 ?_
      rw [am_u_self]
      refine w293_227 (fun _ => ?_) (fun hQ => absurd rfl hQ)
      refine w293_241 ?_
      exact en 0 (Or.inl rfl) (fun z => by rw [hv z, if_neg (fun y => absurd y.1 (by decide))]) _ l0
    · rcases hbr with y | y
      · refine w293_219 (Or.inr rfl) ?_
        refine w293_222 l0 ?_
        refine w293_223 l0 ?_
        refine w293_224 ?_
        rw [am_u_self]
        refine w293_227 (fun hQ => absurd hQ (by decide)) (fun _ => ?_)
        refine w293_230 l0 ?_
        refine w293_231 ?_
        rw [am_u_at (by decide), g24, y]
        refine w293_234 (fun hQ => absurd hQ (fun q => q rfl)) (fun _ => ?_)
        refine w293_237 ?_
        refine w293_238 ?_
        exact en 1 (Or.inr rfl) (fun z => by rw [hv z, if_pos ⟨rfl, y⟩]) _ l0
      · refine w293_219 (Or.inr rfl) ?_
        refine w293_222 l0 ?_
        refine w293_223 l0 ?_
        refine w293_224 ?_
        rw [am_u_self]
        refine w293_227 (fun hQ => absurd hQ (by decide)) (fun _ => ?_)
        refine w293_230 l0 ?_
        refine w293_231 ?_
        rw [am_u_at (by decide), g24, y]
        refine w293_234 (fun _ => ?_) (fun hQ => absurd (by decide) hQ)
        refine w293_241 ?_
        exact en 0 (Or.inl rfl) (fun z => by rw [hv z, if_neg (fun u => by rw [y] at u; exact absurd u.2 (by decide))]) _ l0
  /- the test -/
  have tst : ∀ (M2 : Nat → Nat → Int32), (∀ a, a ≠ 124 → M2 a = M a) → (∀ y, y ≠ 22 → y ≠ 24 → y ≠ 42 → M2 124 y = M 124 y) → M2 124 22 = nI (2400 + j2) → M2 124 42 = nI t → j2 ≤ N → ∀ lvv, am_ld1 lvv 0 = some (.ref 124) → am_ld1 lvv 2 = some (.int live) → am_wp pr (d + 46) 293 192 lvv [] (S, M2, J, P) Q := by
    intro M2 f1 f2 g22 g42 hj2 lvv l0 l2
    have E2 : v_E S (am_u M2 124 24 0) P T 2400 N w := v_E_cg (fun a ha => by rw [am_u_ne ha]; exact f1 a ha) (by rw [am_u_at (by decide)]; exact f2 _ (by decide) (by decide) (by decide)) (by rw [am_u_at (by decide)]; exact f2 _ (by decide) (by decide) (by decide)) (by rw [am_u_at (by decide)]; exact f2 _ (by decide) (by decide) (by decide)) (by rw [am_u_at (by decide)]; exact f2 _ (by decide) (by decide) (by decide)) E
    have g22' : am_u M2 124 24 0 124 22 = nI (2400 + j2) := by rw [am_u_at (by decide)]; exact g22
    unfold p_if at hif
    refine w293_192 l0 ?_
    refine w293_193 ?_
    refine w293_194 (Or.inl rfl) ?_
    refine w293_197 l0 ?_
    refine w293_198 l0 ?_
    refine w293_199 ?_
    refine w293_200 (k := c189m (d := d + 44) E2 g22' (by omega) (fun h4 M3 f3 g3 b3 => ?_) (fun h4 => ?_))
    · rw [if_pos h4] at hif
      obtain ⟨te', hte, hte2⟩ := pMap_ok hif
      have lt : j2 < N := E.lt (by rw [h4]; decide)
      have E3 : v_E S M3 P T 2400 N w := v_E_cg f3.1 (f3.2 _ (by decide) (by decide)) (f3.2 _ (by decide) (by decide)) (f3.2 _ (by decide) (by decide)) (f3.2 _ (by decide) (by decide)) E2
      refine w293_203 (fun hQ => absurd hQ (by decide)) (fun _ => ?_)
      refine w293_206 l0 ?_
      refine w293_207 l2 ?_
      refine w293_208 (k := c193m (d := d + 3) (b0 := 0) E3 g3 hte (by omega) (by rw [b3, am_u_self]) hM (fun v br M4 f4 g4 b4 hv => ?_))
      have hbr : br = 0 ∨ br = 1 := by
        unfold v_R at hv
        cases al
        · rw [if_neg (by decide)] at hv; exact Or.inl hv
        · rw [if_pos rfl] at hv; exact hv.elim (fun z => Or.inl z.1) (fun z => Or.inr z.1)
      have F1 : ∀ a, a ≠ 124 → M4 a = M a := fun a ha => by rw [f4.1 a ha, f3.1 a ha, am_u_ne ha]; exact f1 a ha
      have F2 : ∀ y, y ≠ 22 → y ≠ 24 → y ≠ 42 → M4 124 y = M 124 y := fun y y1 y2 y3 => by rw [f4.2 y y1 y2, f3.2 y y1 y2, am_u_at y2]; exact f2 y y1 y2 y3
      have F42 : M4 124 42 = nI t := by rw [f4.2 42 (by decide) (by decide), f3.2 42 (by decide) (by decide), am_u_at (by decide)]; exact g42
      have hval : al = true → (br = 0 ∧ e_if w te = v) ∨ (br = 1 ∧ e_if w te = false) := fun z => by
        unfold v_R at hv
        rw [if_pos z] at hv
        rw [hte2]
        show (br = 0 ∧ (te'.1 w).getD false = v) ∨ (br = 1 ∧ (te'.1 w).getD false = false)
        rcases hv with u | u
        · rw [u.2]; exact Or.inl ⟨u.1, rfl⟩
        · rw [u.2]; exact Or.inr ⟨u.1, rfl⟩
      cases v with
      | true =>
        rw [am_b_t rfl]
        refine w293_211 (fun hQ => absurd hQ (by decide)) (fun _ => ?_)
        refine w293_214 ?_
        refine w293_215 ?_
        refine fin M4 1 br F1 F2 g4 F42 b4 (Or.inr rfl) hbr (fun z => ?_) _ l0
        rcases hval z with u | u
        · rw [u.2, am_b_t rfl, if_pos ⟨rfl, u.1⟩]
        · rw [u.2, am_b_f (by decide), if_neg (fun q => by rw [u.1] at q; exact absurd q.2 (by decide))]
      | false =>
        rw [am_b_f (by decide)]
        refine w293_211 (fun _ => ?_) (fun hQ => absurd rfl hQ)
        refine w293_218 ?_
        refine fin M4 0 br F1 F2 g4 F42 b4 (Or.inl rfl) hbr (fun z => ?_) _ l0
        rw [if_neg (fun q => absurd q.1 (by decide))]
        rcases hval z with u | u
        · rw [u.2, am_b_f (by decide)]
        · rw [u.2, am_b_f (by decide)]
    · rw [if_neg h4] at hif
      obtain ⟨r1, r2, r3⟩ := pOk_inj hif
      refine w293_203 (fun _ => ?_) (fun hQ => absurd rfl hQ)
      refine w293_214 ?_
      refine w293_215 ?_
      refine fin (am_u M2 124 24 0) 1 0 (fun a ha => by rw [am_u_ne ha]; exact f1 a ha) (fun y y1 y2 y3 => by rw [am_u_at y2]; exact f2 y y1 y2 y3) (by rw [← r2]; exact g22') (by rw [am_u_at (by decide)]; exact g42) am_u_self (Or.inr rfl) (Or.inl rfl) (fun z => ?_) _ l0
      rw [← r1, if_pos ⟨rfl, rfl⟩]
      exact am_b_t rfl
  unfold p_times at ht
  have E1 : v_E S (am_u M 124 42 1) P T 2400 N w := v_E_cg (fun a ha => am_u_ne ha) (am_u_at (by decide)) (am_u_at (by decide)) (am_u_at (by decide)) (am_u_at (by decide)) E
  have g1 : am_u M 124 42 1 124 22 = nI (2400 + i) := by rw [am_u_at (by decide)]; exact hg
  refine w293_151 l0 ?_
  refine w293_152 ?_
  refine w293_153 ?_
  refine w293_156 l0 ?_
  refine w293_157 ?_
  refine w293_159 (k := c189m (d := d + 44) E1 g1 (by omega) (fun h27 M2 f2 g2 b2 => ?_) (fun h27 => ?_))
  · rw [if_pos h27] at ht
    by_cases hc : T.1 (i + 1) = 50 ∧ 1 ≤ T.2.1 (i + 1) ∧ T.2.1 (i + 1) ≤ 20
    · rw [if_pos hc] at ht
      obtain ⟨r1, r2, r3⟩ := pOk_inj ht
      have lt : i + 1 < N := E.lt (by rw [hc.1]; decide)
      obtain ⟨t', t20, et⟩ := nI_of2 (M := 20) (n := 20) (by decide) (Int32.not_lt.mpr (Int32.le_trans (by decide) hc.2.1)) hc.2.2
      have ett : t' = t := by rw [← r1, et, am_clN (by omega)]
      have ev : M2 126 (2884 + (2400 + (i + 1))) = nI t := by
        rw [f2.1 126 (by decide), am_u_ne (by decide), ← ett, ← et, (E.2.2.2.1 (i + 1) lt).2]
        congr 1
        omega
      have g2' : am_u M2 124 42 (nI t) 124 22 = nI (2400 + (i + 1)) := by rw [am_u_at (by decide)]; exact g2
      refine w293_162 (fun hQ => absurd hQ (by decide)) (fun _ => ?_)
      refine w293_165 l0 ?_
      refine w293_166 l0 ?_
      refine w293_167 (L.2 _ _ _ rfl) ?_
      refine w293_170 ?_
      refine w293_173 l0 ?_
      refine w293_174 ?_
      rw [g2]
      refine w293_177 ?_
      rw [show (2884 : Int32) + nI (2400 + (i + 1)) = nI (2884 + (2400 + (i + 1))) from nI_add 2884 _]
      refine w293_178 (L.sh rfl) (am_in_nI (by omega) (by decide)) ?_
      rw [am_clN (by omega), ev]
      refine w293_179 ?_
      refine w293_182 l0 ?_
      refine w293_183 rfl ?_
      refine w293_184 ?_
      rw [g2']
      refine w293_187 ?_
      refine w293_188 ?_
      rw [nI_1, show 2400 + (i + 1) + 1 = 2400 + (i + 2) by omega]
      refine w293_189 ?_
      refine tst _ (fun a ha => by rw [am_u_ne ha, am_u_ne ha, f2.1 a ha, am_u_ne ha]) (fun y y1 y2 y3 => by rw [am_u_at y1, am_u_at y3, f2.2 y y1 y2, am_u_at y3]) (by rw [am_u_self, ← r2]) (by rw [am_u_at (by decide), am_u_self]) (by omega) _ l0 l2
    · rw [if_neg hc] at ht
      exact (pBad_no ht).elim
  · rw [if_neg h27] at ht
    obtain ⟨r1, r2, r3⟩ := pOk_inj ht
    refine w293_162 (fun _ => ?_) (fun hQ => absurd rfl hQ)
    refine tst _ (fun a ha => am_u_ne ha) (fun y y1 y2 y3 => am_u_at y3) (by rw [← r2]; exact g1) (by rw [am_u_self, ← r1]; rfl) (by omega) _ l0 l2
end
