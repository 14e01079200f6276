/-! contracts: the table filled -/
theorem am_sum_cut {f g : Nat → Int32} {n : Nat} (h1 : ∀ m, m < n → f m = g m) : ∀ N, n ≤ N → (∀ m, n ≤ m → m < N → f m = 0) → am_it (fun m acc => acc + f m) N 0 = am_it (fun m acc => acc + g m) n 0
  | 0, hn, _ => by
    have : n = 0 := by omega
    subst this
    rfl
  | N + 1, hn, h2 => by
    by_cases h : n = N + 1
    · subst h
      exact am_it_congr (fun m a hm => by rw [h1 m hm]) 0
    · show am_it (fun m acc => acc + f m) N 0 + f N = _
      rw [h2 N (by omega) (by omega), Int32.add_zero]
      exact am_sum_cut h1 N (by omega) (fun m a b => h2 m a (by omega))
theorem am_or_cut {f g : Nat → Int32} {n : Nat} (h1 : ∀ m, m < n → f m = g m) : ∀ N, n ≤ N → (∀ m, n ≤ m → m < N → f m = 0) → am_it (fun m acc => acc ||| f m) N 0 = am_it (fun m acc => acc ||| g m) n 0
  | 0, hn, _ => by
    have : n = 0 := by omega
    subst this
    rfl
  | N + 1, hn, h2 => by
    by_cases h : n = N + 1
    · subst h
      exact am_it_congr (fun m a hm => by rw [h1 m hm]) 0
    · show am_it (fun m acc => acc ||| f m) N 0 ||| f N = _
      rw [h2 N (by omega) (by omega), Int32.or_zero]
      exact am_or_cut h1 N (by omega) (fun m a b => h2 m a (by omega))
/-- how many are here -/
theorem t_on_hm {x : Int32} {kp : Nat → Int32} {n : Nat} (n7 : n ≤ 7) (he : ∀ m, m < 32 → (am_bit x m = 1 ↔ m < n ∧ kp (35 + m) = 1)) (k01 : ∀ m, m < n → kp (35 + m) = 0 ∨ kp (35 + m) = 1) : t_on x = m_hm kp n := by
  unfold t_on m_hm
  refine am_sum_cut (fun m hm => ?_) 7 n7 (fun m h1 h2 => ?_)
  · have h := he m (by omega)
    rcases k01 m hm with z | z <;> rw [z] at h ⊢
    · exact am_bit_n0.mp (fun q => absurd (h.mp q).2 (by decide))
    · exact h.mpr ⟨hm, rfl⟩
  · exact am_bit_n0.mp (fun q => absurd ((he m (by omega)).mp q).1 (by omega))
theorem am_here7 {x : Int32} {kp : Nat → Int32} {n : Nat} (n7 : n ≤ 7) (he : ∀ m, m < 32 → (am_bit x m = 1 ↔ m < n ∧ kp (35 + m) = 1)) : ∃ s, s < 128 ∧ x = nI s := am_set7 (fun m h1 h2 => am_bit_n0.mp (fun q => absurd ((he m h2).mp q).1 (by omega)))
/-- the table, filled of a bill for m members -/
def t_FB (I I' : Nat → Nat → Int32) (kp : Nat → Int32) (n : Nat) (lw : Option (List Cl)) (h b m : Nat) : Prop :=
  (∀ a, a < 109 ∨ (113 < a ∧ a ≠ 118 ∧ a ≠ 119) → I' a = I a) ∧ (I' 109 0 = nI n ∧ I' 109 1 = I h 1 ∧ I' 109 2 = I (h + 1 + 3) 3) ∧ (∀ j, j % 5 ≠ b → I' 110 j = I 110 j ∧ I' 111 j = I 111 j) ∧ (∀ j, j ≠ b → I' 112 j = I 112 j ∧ I' 113 j = I 113 j) ∧ (∀ q, q < m → I' 110 (q * 5 + b) = a_sp kp n lw q b ∧ I' 111 (q * 5 + b) = a_va kp n lw q b) ∧ (∀ q, q < 32 → (am_bit (I' 112 b) q = 1 ↔ q < m ∧ a_ba kp n lw q b = 1))
theorem t_FB_next {I I' I4 : Nat → Nat → Int32} {kp : Nat → Int32} {n : Nat} {lw : Option (List Cl)} {h b m : Nat} (hb : b < 5) (hm : m < 7) (r : t_FB I I' kp n lw h b m) (fr : ∀ a, a ≠ 110 → a ≠ 111 → a ≠ 112 → a ≠ 118 → a ≠ 119 → I4 a = I' a) (h1 : ∀ j, I4 110 j = if j = m * 5 + b then a_sp kp n lw m b else I' 110 j) (h2 : ∀ j, I4 111 j = if j = m * 5 + b then a_va kp n lw m b else I' 111 j) (h3 : ∀ j, I4 112 j = if j = b then (if a_ba kp n lw m b = 1 then I' 112 b ||| 1 <<< (nI m &&& 31) else I' 112 b) else I' 112 j) : t_FB I I4 kp n lw h b (m + 1) := by
  obtain ⟨r1, r2, r3, r4, r5, r6⟩ := r
  refine ⟨fun a ha => ?_, ?_, fun j hj => ?_, fun j hj => ?_, fun q hq => ?_, fun q hq => ?_⟩
  · rw [fr a (by omega) (by omega) (by omega) (by omega) (by omega)]
    exact r1 a ha
  · rw [fr 109 (by decide) (by decide) (by decide) (by decide) (by decide)]
    exact r2
  · have hz : ¬ j = m * 5 + b := by omega
    rw [h1 j, h2 j, if_neg hz, if_neg hz]
    exact r3 j hj
  · rw [h3 j, if_neg hj, fr 113 (by decide) (by decide) (by decide) (by decide) (by decide)]
    exact r4 j hj
  · rw [h1, h2]
    by_cases z : q = m
    · subst z
      rw [if_pos rfl, if_pos rfl]
      exact ⟨rfl, rfl⟩
    · have hz : ¬ q * 5 + b = m * 5 + b := by omega
      rw [if_neg hz, if_neg hz]
      exact r5 q (by omega)
  · rw [h3 b, if_pos rfl]
    have z := r6 q hq
    by_cases y : a_ba kp n lw m b = 1
    · rw [if_pos y, am_bit_or hq, z, am_bit_sh1 (by omega) hq]
      constructor
      · rintro (q1 | q1)
        · exact ⟨by omega, q1.2⟩
        · rw [q1]
          exact ⟨by omega, y⟩
      · rintro ⟨q1, q2⟩
        by_cases q3 : q = m
        · exact Or.inr q3
        · exact Or.inl ⟨by omega, q2⟩
    · rw [if_neg y, z]
      constructor
      · rintro ⟨q1, q2⟩
        exact ⟨by omega, q2⟩
      · rintro ⟨q1, q2⟩
        refine ⟨?_, q2⟩
        by_cases q3 : q = m
        · rw [q3] at q2
          exact absurd q2 y
        · omega
section
variable {pr : am_Pr} {d : Nat} {S : List (Nat × Nat)} {I : Nat → Nat → Int32} {J : Nat → Nat → Int64} {P : Nat → Nat → Option Nat} {Q : Option Value → am_H → Prop}
/-- fillBill -/
theorem c22 (L : am_Lay S P) {h n l s b : Nat} {kp : Nat → Int32} {lw : Option (Nat × List Cl)} (hh : am_Hs S P h) (hr : am_HR I h kp n l s) (hfar : h + 7 < 109) (hlw : ∀ t xs, lw = some (t, xs) → am_TI S I P t xs ∧ 149 ≤ t ∧ ∀ x ∈ xs, k_cl false x) (hb : b < 5) (k : ∀ I' J', t_FB I I' kp n (lw.map Prod.snd) h b n → I' 113 b = I h 1 &&& (I' 112 b ^^^ -1) → Q none (S, I', J', P)) : am_ev pr (d + 3) 22 [.ref 109, .ref h, va_rf (lw.map Prod.fst), .int (nI b)] (S, I, J, P) Q := by
  have n7 := hr.n7
  have ehn : (if (7 : Int32) < nI n then (7 : Int32) else nI n) = nI n := if_neg (Int32.not_lt.mpr (nI_le (b := 7) n7 (by decide)))
  obtain ⟨hs, hs1, hs2⟩ := am_here7 n7 hr.he
  have hon := t_on_hm n7 hr.he hr.k01
  suffices hw : ∀ lv, am_ld1 lv 0 = some (.ref 109) → am_ld1 lv 1 = some (.ref h) → am_ld1 lv 2 = some (va_rf (lw.map Prod.fst)) → am_ld1 lv 3 = some (.int (nI b)) → am_wp pr (d + 3) 22 0 lv [] (S, I, J, P) Q by
    cases lw <;> exact hw _ rfl rfl rfl rfl
  intro lv l0 l1 l2 l3
  refine w22_0 l3 ?_
  refine w22_1 (k := c18b hb ?_)
  refine w22_4 (fun _ => ?_) (fun h => absurd am_n01 h)
  refine w22_8 l0 ?_
  refine w22_9 l1 ?_
  refine w22_10 ?_
  rw [hr.hn]
  refine w22_13 ?_
  refine w22_15 ?_
  rw [ehn]
  refine w22_18 ?_
  refine w22_21 l0 ?_
  refine w22_22 l1 ?_
  refine w22_23 ?_
  rw [am_u_ne (by omega)]
  refine w22_26 ?_
  refine w22_29 l0 ?_
  refine w22_30 l1 ?_
  refine w22_31 (hh.2.1 3 (by decide)) ?_
  refine w22_34 ?_
  refine w22_35 (hh.sh rfl) (by decide) ?_
  rw [show (3 : Int32).toNatClampNeg = 3 from rfl, am_u_ne (by omega), am_u_ne (by omega)]
  refine w22_36 ?_
  refine w22_39 l0 ?_
  refine w22_40 (L.2 _ _ _ rfl) ?_
  refine w22_43 l3 ?_
  refine w22_44 ?_
  refine w22_45 (L.sh rfl) (am_inB hb) ?_
  rw [am_clB hb]
  refine w22_46 ?_
  refine w22_47 ?_
  refine am_for (fun m => ∀ I' J', t_FB I I' kp n (lw.map Prod.snd) h b m → ∀ lv, am_ld1 lv 0 = some (.ref 109) → am_ld1 lv 1 = some (.ref h) → am_ld1 lv 2 = some (va_rf (lw.map Prod.fst)) → am_ld1 lv 3 = some (.int (nI b)) → am_ld1 lv 4 = some (.int (nI m)) → am_wp pr (d + 3) 22 49 lv [] (S, I', J', P) Q) n ?_ ?_ _ J ?_ _ l0 l1 l2 l3 rfl
  · intro m hm ih I1 J1 r lv l0 l1 l2 l3 l4
    have hm7 : m < 7 := by omega
    have rl : ∀ a, a < 109 → I1 a = I a := fun a ha => r.1 a (Or.inl ha)
    have r109 := r.2.1
    have ev : I1 (h + 1 + 0) m = kp (44 + m) := by rw [rl _ (by omega)]; exact hr.vo m hm
    have esd : I1 (h + 1 + 1) m = kp (51 + m) := by rw [rl _ (by omega)]; exact hr.sd m hm
    have ewa : I1 (h + 1 + 2) (m * 5 + b) = kp (m * 5 + b) := by rw [rl _ (by omega)]; exact hr.wa _ (by omega)
    have est : I1 h 2 = kp 42 := by rw [rl _ (by omega)]; exact hr.st
    have etd : I1 (h + 1 + 3) 0 = kp 43 := by rw [rl _ (by omega)]; exact hr.td
    have etm : I1 (h + 1 + 3) 2 = kp 71 := by rw [rl _ (by omega)]; exact hr.tm
    have ehe : I1 109 1 = nI hs := by rw [r109.2.1]; exact hs2
    have hon2 : t_on (nI hs) = m_hm kp n := by rw [← hs2]; exact hon
    refine w22_49 l4 ?_
    refine w22_51 l0 ?_
    refine w22_52 ?_
    rw [r109.1]
    refine w22_55 (fun h => absurd h (am_nlt hm (by omega))) (fun _ => ?_)
    refine w22_58 l4 ?_
    refine w22_60 ?_
    refine w22_62 (fun h => absurd h (am_nlt (n := 7) hm7 (by decide))) (fun _ => ?_)
    refine w22_65 l4 ?_
    refine w22_67 ?_
    refine w22_68 ?_
    refine w22_69 l3 ?_
    refine w22_70 ?_
    rw [am_seat]
    refine w22_71 ?_
    refine w22_73 l0 ?_
    refine w22_74 (L.2 _ _ _ rfl) ?_
    refine w22_77 rfl ?_
    refine w22_79 l1 ?_
    refine w22_80 (hh.2.1 0 (by decide)) ?_
    refine w22_83 l4 ?_
    refine w22_85 (hh.sh rfl) (am_in_nI hm7 (by decide)) ?_
    rw [am_clN (by omega), ev]
    refine w22_86 (L.sh rfl) (am_in_nI (by omega) (by decide)) ?_
    rw [am_clN (by omega)]
    refine w22_87 l0 ?_
    refine w22_88 (L.2 _ _ _ rfl) ?_
    refine w22_91 rfl ?_
    refine w22_93 l1 ?_
    refine w22_94 (hh.2.1 2 (by decide)) ?_
    refine w22_97 rfl ?_
    refine w22_99 (hh.sh rfl) (am_in_nI (by omega) (by decide)) ?_
    rw [am_clN (by omega), am_u_ne (by omega), ewa]
    refine w22_100 (L.sh rfl) (am_in_nI (by omega) (by decide)) ?_
    rw [am_clN (by omega)]
    cases hlv : lw with
    | none =>
      rw [hlv] at l2 ih r
      have fin : t_FB I (am_u (am_u I1 110 (m * 5 + b) (kp (44 + m))) 111 (m * 5 + b) (kp (m * 5 + b))) kp n none h b (m + 1) := by
        refine t_FB_next hb hm7 r (fun a a1 a2 a3 a4 a5 => by rw [am_u_ne a2, am_u_ne a1]) (fun j => ?_) (fun j => ?_) (fun j => ?_)
        · rw [am_u_ne (by decide), am_u_get]
          by_cases q : j = m * 5 + b
          · rw [if_pos ⟨rfl, q⟩, if_pos q]
            rfl
          · rw [if_neg (fun z => q z.2), if_neg q]
        · rw [am_u_get]
          by_cases q : j = m * 5 + b
          · rw [if_pos ⟨rfl, q⟩, if_pos q]
            rfl
          · rw [if_neg (fun z => q z.2), if_neg q, am_u_ne (by decide)]
        · rw [am_u_ne (by decide), am_u_ne (by decide)]
          by_cases q : j = b
          · rw [if_pos q, q, if_neg (show ¬ a_ba kp n none m b = 1 from (by decide : ¬ (0 : Int32) = 1))]
          · rw [if_neg q]
      refine w22_101N l2 ?_
      refine w22_102N ?_
      refine w22_221 l4 ?_
      refine w22_224 ?_
      exact ih _ _ fin _ l0 l1 l2 l3 (am_nx m)
    | some tx =>
      obtain ⟨t, xs⟩ := tx
      rw [hlv] at l2 ih r
      obtain ⟨hT, h149, hg⟩ := hlw t xs hlv
      refine w22_101 (x := t) l2 ?_
      refine w22_102 ?_
      refine w22_105 l0 ?_
      refine w22_106 (L.2 _ _ _ rfl) ?_
      refine w22_109 ?_
      refine w22_110 l4 ?_
      refine w22_112 (L.sh rfl) (by decide) ?_
      refine w22_113 l0 ?_
      refine w22_114 (L.2 _ _ _ rfl) ?_
      refine w22_117 ?_
      refine w22_118 l1 ?_
      refine w22_119 (hh.2.1 0 (by decide)) ?_
      refine w22_122 l4 ?_
      refine w22_124 (hh.sh rfl) (am_in_nI hm7 (by decide)) ?_
      rw [am_clN (by omega)]; simp (disch := omega) only [am_u_ne]; rw [ev]
      refine w22_125 (L.sh rfl) (by decide) ?_
      refine w22_126 l0 ?_
      refine w22_127 (L.2 _ _ _ rfl) ?_
      refine w22_130 ?_
      refine w22_131 l1 ?_
      refine w22_132 (hh.2.1 1 (by decide)) ?_
      refine w22_135 l4 ?_
      refine w22_137 (hh.sh rfl) (am_in_nI hm7 (by decide)) ?_
      rw [am_clN (by omega)]; simp (disch := omega) only [am_u_ne]; rw [esd]
      refine w22_138 (L.sh rfl) (by decide) ?_
      refine w22_139 l0 ?_
      refine w22_140 (L.2 _ _ _ rfl) ?_
      refine w22_143 ?_
      refine w22_144 l3 ?_
      refine w22_145 (L.sh rfl) (by decide) ?_
      refine w22_146 l0 ?_
      refine w22_147 (L.2 _ _ _ rfl) ?_
      refine w22_150 ?_
      refine w22_151 l1 ?_
      refine w22_152 (hh.2.1 2 (by decide)) ?_
      refine w22_155 rfl ?_
      refine w22_157 (hh.sh rfl) (am_in_nI (by omega) (by decide)) ?_
      rw [am_clN (by omega)]; simp (disch := omega) only [am_u_ne]; rw [ewa]
      refine w22_158 (L.sh rfl) (by decide) ?_
      refine w22_159 l0 ?_
      refine w22_160 (L.2 _ _ _ rfl) ?_
      refine w22_163 ?_
      refine w22_164 l1 ?_
      refine w22_165 ?_
      simp (disch := omega) only [am_u_ne]; rw [est]
      refine w22_168 l3 ?_
      refine w22_169 (k := c17b ?_)
      refine w22_172 (L.sh rfl) (by decide) ?_
      refine w22_173 l0 ?_
      refine w22_174 (L.2 _ _ _ rfl) ?_
      refine w22_177 ?_
      refine w22_179 l0 ?_
      refine w22_180 ?_
      simp (disch := omega) only [am_u_ne]; rw [ehe]
      refine w22_183 (k := c23 hs1 ?_)
      rw [hon2]
      refine w22_186 (L.sh rfl) (by decide) ?_
      refine w22_187 l0 ?_
      refine w22_188 (L.2 _ _ _ rfl) ?_
      refine w22_191 ?_
      refine w22_193 l1 ?_
      refine w22_194 (hh.2.1 3 (by decide)) ?_
      refine w22_197 ?_
      refine w22_198 (hh.sh rfl) (by decide) ?_
      simp (disch := omega) only [am_u_ne]; rw [show (0 : Int32).toNatClampNeg = 0 from rfl, etd]
      refine w22_199 (L.sh rfl) (by decide) ?_
      refine w22_200 l0 ?_
      refine w22_201 (L.2 _ _ _ rfl) ?_
      refine w22_204 ?_
      refine w22_206 l1 ?_
      refine w22_207 (hh.2.1 3 (by decide)) ?_
      refine w22_210 ?_
      refine w22_211 (hh.sh rfl) (by decide) ?_
      simp (disch := omega) only [am_u_ne]; rw [show (2 : Int32).toNatClampNeg = 2 from rfl, etm]
      refine w22_212 (L.sh rfl) (by decide) ?_
      refine w22_213 l0 ?_
      refine w22_214 l2 ?_
      refine w22_215 l4 ?_
      refine w22_217 l3 ?_
      refine w22_218 (k := c24 (w := a_env kp n m b) L (t := t) (xs := xs) ?_ h149 hg hm7 hb ?_ ?_)
      · refine am_TI_cg (fun _ _ q => q) rfl (fun a h1 h2 => ?_) hT
        simp (disch := omega) only [am_u_ne]
        exact r.1 a (Or.inr (by omega))
      · intro c k hk
        unfold k_ok at hk
        rw [if_neg (by decide)] at hk
        rcases (show c = 8 ∨ c = 9 ∨ c = 10 ∨ c = 11 ∨ c = 12 ∨ c = 13 ∨ c = 14 ∨ c = 15 ∨ c = 16 by omega) with rfl | rfl | rfl | rfl | rfl | rfl | rfl | rfl | rfl
        · rfl
        · rfl
        · rfl
        · rfl
        · show am_bit (kp 42) b = am_b (am_bit (kp 42) b = 1)
          rcases am_bit_01 (kp 42) b with q | q <;> rw [q] <;> decide
        · rfl
        · rfl
        · rfl
        · rfl
      · intro I4 J4 hA
        have fin : t_FB I I4 kp n (some xs) h b (m + 1) := by
          obtain ⟨g0, g1, g2, g3⟩ := hA
          refine t_FB_next hb hm7 r (fun a a1 a2 a3 a4 a5 => ?_) (fun j => ?_) (fun j => ?_) (fun j => ?_)
          · rw [g0 a a1 a2 a3 a5]
            simp (disch := assumption) only [am_u_ne]
          · rw [g1 j]
            simp (disch := decide) only [am_u_ne]
            rw [am_u_self, am_u_get]
            by_cases q : j = m * 5 + b
            · rw [if_pos q, if_pos q]
              rfl
            · rw [if_neg q, if_neg q, if_neg (fun z => q z.2)]
          · rw [g2 j]
            simp (disch := decide) only [am_u_ne]
            rw [am_u_self, am_u_get]
            by_cases q : j = m * 5 + b
            · rw [if_pos q, if_pos q]
              rfl
            · rw [if_neg q, if_neg q, if_neg (fun z => q z.2), am_u_ne (by decide)]
          · rw [g3 j]
            simp (disch := decide) only [am_u_ne]
            rfl
        refine w22_221 l4 ?_
        refine w22_224 ?_
        exact ih _ _ fin _ l0 l1 l2 l3 (am_nx m)
  · intro I1 J1 r lv l0 l1 l2 l3 l4
    have r109 := r.2.1
    refine w22_49 l4 ?_
    refine w22_51 l0 ?_
    refine w22_52 ?_
    rw [r109.1]
    refine w22_55 (fun _ => ?_) (fun h => absurd (Int32.le_refl _) h)
    refine w22_227 l0 ?_
    refine w22_228 (L.2 _ _ _ rfl) ?_
    refine w22_231 l3 ?_
    refine w22_232 l0 ?_
    refine w22_233 ?_
    rw [r109.2.1]
    refine w22_236 l0 ?_
    refine w22_237 (L.2 _ _ _ rfl) ?_
    refine w22_240 l3 ?_
    refine w22_241 (L.sh rfl) (am_inB hb) ?_
    rw [am_clB hb]
    refine w22_242 ?_
    refine w22_243 ?_
    refine w22_244 ?_
    refine w22_245 (L.sh rfl) (am_inB hb) ?_
    rw [am_clB hb]
    refine w22_246 ?_
    refine k _ _ ?_ ?_
    · obtain ⟨r1, r2, r3, r4, r5, r6⟩ := r
      refine ⟨fun a ha => ?_, ?_, fun j hj => ?_, fun j hj => ?_, fun q hq => ?_, fun q hq => ?_⟩
      · rw [am_u_ne (by omega)]
        exact r1 a ha
      · rw [am_u_ne (by decide)]
        exact r2
      · rw [am_u_ne (by decide), am_u_ne (by decide)]
        exact r3 j hj
      · rw [am_u_ne (by decide), am_u_at hj]
        exact r4 j hj
      · rw [am_u_ne (by decide), am_u_ne (by decide)]
        exact r5 q hq
      · rw [am_u_ne (by decide)]
        exact r6 q hq
    · rw [am_u_self, am_u_ne (by decide)]
  · refine ⟨fun a ha => ?_, ⟨?_, ?_, ?_⟩, fun j hj => ?_, fun j hj => ?_, fun q hq => absurd hq (Nat.not_lt_zero q), fun q hq => ?_⟩
    · rw [am_u_ne (by omega), am_u_ne (by omega), am_u_ne (by omega), am_u_ne (by omega)]
    · rw [am_u_ne (by decide), am_u_at (by decide), am_u_at (by decide), am_u_self]
    · rw [am_u_ne (by decide), am_u_at (by decide), am_u_self]
    · rw [am_u_ne (by decide), am_u_self]
    · rw [am_u_ne (by decide), am_u_ne (by decide), am_u_ne (by decide), am_u_ne (by decide), am_u_ne (by decide), am_u_ne (by decide), am_u_ne (by decide), am_u_ne (by decide)]
      exact ⟨rfl, rfl⟩
    · rw [am_u_at hj, am_u_ne (by decide), am_u_ne (by decide), am_u_ne (by decide), am_u_ne (by decide), am_u_ne (by decide), am_u_ne (by decide), am_u_ne (by decide)]
      exact ⟨rfl, rfl⟩
    · rw [am_u_self, am_bit_0]
      exact ⟨fun z => absurd z (by decide), fun z => absurd z.1 (Nat.not_lt_zero q)⟩
end
