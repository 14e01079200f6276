/-! contracts: what a law tells, laid into the table -/
theorem e_tell_app (w : Nat → Nat → Int32) (h : Nat) : ∀ (xs ys : List Cl) (t : Int32), e_tell w h (xs ++ ys) t = e_tell w h ys (e_tell w h xs t)
  | [], _, _ => rfl
  | x :: xs, ys, t => e_tell_app w h xs ys (e_tell1 w h x t)
theorem am_take1 {α : Type} {xs : List α} {c : Nat} {x : α} (h : xs[c]? = some x) : xs.take (c + 1) = xs.take c ++ [x] := by
  rw [List.take_succ, h]
  rfl
theorem am_getE {α : Type} {xs : List α} {c : Nat} (h : c < xs.length) : ∃ x, xs[c]? = some x ∧ x ∈ xs := ⟨xs[c], List.getElem?_eq_getElem h, List.getElem_mem h⟩
def t_AL (I I' : Nat → Nat → Int32) (w : Nat → Nat → Int32) (xs : List Cl) (m b : Nat) : Prop :=
  (∀ a, a ≠ 110 → a ≠ 111 → a ≠ 112 → a ≠ 119 → I' a = I a) ∧ (∀ j, I' 110 j = if j = m * 5 + b then e_tell w 1 xs (I 110 (m * 5 + b)) else I 110 j) ∧ (∀ j, I' 111 j = if j = m * 5 + b then e_tell w 2 xs (I 111 (m * 5 + b)) else I 111 j) ∧ (∀ j, I' 112 j = if j = b then (if e_tell w 3 xs 0 = 1 then I 112 b ||| 1 <<< (nI m &&& 31) else I 112 b) else I 112 j)
theorem t_AL_0 (I : Nat → Nat → Int32) (w : Nat → Nat → Int32) (m b : Nat) : t_AL I I w [] m b := by
  refine ⟨fun _ _ _ _ _ => rfl, fun j => ?_, fun j => ?_, fun j => ?_⟩
  · by_cases h : j = m * 5 + b
    · rw [if_pos h, h]; rfl
    · rw [if_neg h]
  · by_cases h : j = m * 5 + b
    · rw [if_pos h, h]; rfl
    · rw [if_neg h]
  · by_cases h : j = b
    · rw [if_pos h, h, if_neg (show ¬ e_tell w 3 [] 0 = 1 from (by decide : ¬ (0 : Int32) = 1))]
    · rw [if_neg h]
theorem t_AL_119 {I I' : Nat → Nat → Int32} {w : Nat → Nat → Int32} {xs : List Cl} {m b : Nat} {v : Int32} (h : t_AL I I' w xs m b) : t_AL I (am_u I' 119 0 v) w xs m b := by
  obtain ⟨h0, h1, h2, h3⟩ := h
  refine ⟨fun a e1 e2 e3 e4 => ?_, fun j => ?_, fun j => ?_, fun j => ?_⟩
  · rw [am_u_ne e4]
    exact h0 a e1 e2 e3 e4
  · rw [am_u_ne (by decide)]
    exact h1 j
  · rw [am_u_ne (by decide)]
    exact h2 j
  · rw [am_u_ne (by decide)]
    exact h3 j
theorem am_or2 (x y : Int32) : x ||| y ||| y = x ||| y := by
  apply am_bit_ext
  intro m hm
  rw [am_bit_or hm, am_bit_or hm]
  constructor
  · rintro (h | h)
    · exact h
    · exact Or.inr h
  · intro h
    exact Or.inl h
theorem e_tell1_3 (w : Nat → Nat → Int32) (x : Cl) (t : Int32) : e_tell1 w 3 x t = 1 ↔ (x.1 = 3 ∧ e_if w x.2.2.2 = true) ∨ t = 1 := by
  unfold e_tell1
  by_cases h : x.1 = 3 ∧ e_if w x.2.2.2 = true
  · rw [if_pos h, if_pos rfl]
    exact ⟨fun _ => Or.inl h, fun _ => rfl⟩
  · rw [if_neg h]
    exact ⟨fun z => Or.inr z, fun z => z.elim (fun q => absurd q h) (fun q => q)⟩
theorem t_AL_st {I I' I2 : Nat → Nat → Int32} {w : Nat → Nat → Int32} {xs : List Cl} {x : Cl} {m b : Nat} (h : t_AL I I' w xs m b) (fr : ∀ a, a ≠ 110 → a ≠ 111 → a ≠ 112 → a ≠ 119 → I2 a = I' a) (h1 : ∀ j, I2 110 j = if j = m * 5 + b then e_tell1 w 1 x (I' 110 (m * 5 + b)) else I' 110 j) (h2 : ∀ j, I2 111 j = if j = m * 5 + b then e_tell1 w 2 x (I' 111 (m * 5 + b)) else I' 111 j) (h3 : ∀ j, I2 112 j = if j = b ∧ x.1 = 3 ∧ e_if w x.2.2.2 = true then I' 112 b ||| 1 <<< (nI m &&& 31) else I' 112 j) : t_AL I I2 w (xs ++ [x]) m b := by
  obtain ⟨g0, g1, g2, g3⟩ := h
  refine ⟨fun a e1 e2 e3 e4 => (fr a e1 e2 e3 e4).trans (g0 a e1 e2 e3 e4), fun j => ?_, fun j => ?_, fun j => ?_⟩
  · rw [h1 j, e_tell_app, g1 (m * 5 + b), if_pos rfl]
    by_cases z : j = m * 5 + b
    · rw [if_pos z, if_pos z]
      rfl
    · rw [if_neg z, if_neg z, g1 j, if_neg z]
  · rw [h2 j, e_tell_app, g2 (m * 5 + b), if_pos rfl]
    by_cases z : j = m * 5 + b
    · rw [if_pos z, if_pos z]
      rfl
    · rw [if_neg z, if_neg z, g2 j, if_neg z]
  · rw [h3 j, e_tell_app]
    show _ = if j = b then (if e_tell1 w 3 x (e_tell w 3 xs 0) = 1 then _ else _) else _
    by_cases z : j = b
    · subst z
      rw [if_pos rfl, g3 j, if_pos rfl]
      by_cases z2 : x.1 = 3 ∧ e_if w x.2.2.2 = true
      · rw [if_pos ⟨rfl, z2⟩, if_pos ((e_tell1_3 w x _).mpr (Or.inl z2))]
        split
        · exact am_or2 _ _
        · rfl
      · rw [if_neg (fun q => z2 q.2)]
        by_cases z3 : e_tell w 3 xs 0 = 1
        · rw [if_pos z3, if_pos ((e_tell1_3 w x _).mpr (Or.inr z3))]
        · rw [if_neg z3, if_neg (fun q => ((e_tell1_3 w x _).mp q).elim z2 z3)]
    · rw [if_neg (fun q => z q.1), if_neg z, g3 j, if_neg z]
theorem e_near_32 {v : Int64} (h : v.toInt32.toInt64 = v) : (if 0 < (if v.toInt32 < 9 then v.toInt32 else 9) then (if v.toInt32 < 9 then v.toInt32 else 9) else 0) = e_near v := by
  unfold e_near
  have e : v.toInt = v.toInt32.toInt := by
    conv => lhs; rw [← h]
    exact Int32.toInt_toInt64 _
  generalize v.toInt32 = y at *
  have a0 : (v < 0) = (y < 0) := by
    rw [Int64.lt_iff_toInt_lt, Int32.lt_iff_toInt_lt, e]
    rfl
  have a9 : (9 < v) = (9 < y) := by
    rw [Int64.lt_iff_toInt_lt, Int32.lt_iff_toInt_lt, e]
    rfl
  simp only [a0, a9]
  have z0 : (0 : Int32).toInt = 0 := by decide
  have z9 : (9 : Int32).toInt = 9 := by decide
  by_cases h9 : y < 9
  · rw [if_pos h9]
    by_cases h0 : 0 < y
    · rw [if_pos h0, if_neg (by rw [Int32.lt_iff_toInt_lt] at *; omega), if_neg (by rw [Int32.lt_iff_toInt_lt] at *; omega)]
    · rw [if_neg h0]
      by_cases h00 : y < 0
      · rw [if_pos h00]
      · rw [if_neg h00, if_neg (by rw [Int32.lt_iff_toInt_lt] at *; omega)]
        rw [Int32.lt_iff_toInt_lt] at h0 h00
        exact Int32.toInt_inj.mp (by omega)
  · rw [if_neg h9, if_pos (by decide), if_neg (by rw [Int32.lt_iff_toInt_lt] at *; omega)]
    by_cases h99 : 9 < y
    · rw [if_pos h99]
    · rw [if_neg h99]
      rw [Int32.lt_iff_toInt_lt] at h9 h99
      exact Int32.toInt_inj.mp (by omega)
theorem nI_nm1 {p : Nat} (h : p < 2 ^ 31) : ¬ nI p = -1 := by
  intro z
  have h1 := nI_toInt h
  rw [z] at h1
  have h2 : (-1 : Int32).toInt = -1 := by decide
  omega
section
variable {pr : am_Pr} {d : Nat} {S : List (Nat × Nat)} {I : Nat → Nat → Int32} {J : Nat → Nat → Int64} {P : Nat → Nat → Option Nat} {Q : Option Value → am_H → Prop}
/-- applyLaw -/
theorem c24 (L : am_Lay S P) {t m b : Nat} {xs : List Cl} {w : Nat → Nat → Int32} (hT : am_TI S I P t xs) (h149 : 149 ≤ t) (hg : ∀ x ∈ xs, k_cl false x) (hm : m < 7) (hb : b < 5) (hw : ∀ c k, k_ok false c k → I 118 (k_word false c k) = w c k) (k : ∀ I' J', t_AL I I' w xs m b → Q none (S, I', J', P)) : am_ev pr (d + 2) 24 [.ref 109, .ref t, .int (nI m), .int (nI b)] (S, I, J, P) Q := by
  obtain ⟨N, z, ht, hN, hlen, h0, hzN, hz, hcl⟩ := hT
  show am_wp pr (d + 2) 24 0 [(0, .ref 109), (1, .ref t), (2, .int (nI m)), (3, .int (nI b))] [] _ _
  refine w24_0 rfl ?_
  refine w24_1 ?_
  refine w24_2 ?_
  refine w24_3 rfl ?_
  refine w24_4 ?_
  rw [am_seat]
  refine w24_5 ?_
  refine w24_7 rfl ?_
  refine w24_9 (fun h => absurd h (nI_pos (by omega))) (fun _ => ?_)
  refine w24_12 rfl ?_
  refine w24_14 ?_
  refine w24_16 (fun h => absurd h (am_nlt (n := 35) (by omega) (by decide))) (fun _ => ?_)
  refine w24_19 rfl ?_
  refine w24_20 (k := c18b hb ?_)
  refine w24_23 (fun _ => ?_) (fun h => absurd am_n01 h)
  refine w24_27 ?_
  refine w24_28 ?_
  refine am_for (fun c => ∀ I' J', t_AL I I' w (xs.take c) m b → ∀ lv, am_ld1 lv 0 = some (.ref 109) → am_ld1 lv 1 = some (.ref t) → am_ld1 lv 2 = some (.int (nI m)) → am_ld1 lv 3 = some (.int (nI b)) → am_ld1 lv 4 = some (.int (nI (m * 5 + b))) → am_ld1 lv 5 = some (.int (nI c)) → am_wp pr (d + 2) 24 30 lv [] (S, I', J', P) Q) xs.length ?_ ?_ I J (t_AL_0 I w m b) _ rfl rfl rfl rfl rfl rfl
  · intro c hc ih
    obtain ⟨x, hx, hxm⟩ := am_getE hc
    rw [am_take1 hx] at ih
    obtain ⟨y1, y2, y3, y4, y5, y6⟩ := hcl c x hx
    obtain ⟨q1, q2, q3, q4⟩ := hg x hxm
    rw [if_neg (by decide)] at q1
    have row : ∀ {I2 : Nat → Nat → Int32}, t_AL I I2 w (xs.take c) m b → ∀ a, 149 ≤ a → I2 a = I a := fun h a ha => h.1 a (by omega) (by omega) (by omega) (by omega)
    have mkE : ∀ {I2 : Nat → Nat → Int32}, t_AL I I2 w (xs.take c) m b → k_E false S (am_u I2 119 0 0) P t 118 z w := by
      intro I2 h
      refine ⟨L, ⟨N, ht, hzN, hN⟩, am_u_self, L.sh rfl, fun c k hk => ?_⟩
      rw [am_u_ne (by decide), h.1 118 (by decide) (by decide) (by decide) (by decide)]
      exact hw c k hk
    have skip : ∀ I2 J2, t_AL I I2 w (xs.take c) m b → (∀ h, h < 4 → ∀ t0, e_tell1 w h x t0 = t0) → ¬ (x.1 = 3 ∧ e_if w x.2.2.2 = true) → ∀ lv, am_ld1 lv 0 = some (.ref 109) → am_ld1 lv 1 = some (.ref t) → am_ld1 lv 2 = some (.int (nI m)) → am_ld1 lv 3 = some (.int (nI b)) → am_ld1 lv 4 = some (.int (nI (m * 5 + b))) → am_ld1 lv 5 = some (.int (nI (c + 1))) → am_wp pr (d + 2) 24 30 lv [] (S, I2, J2, P) Q := by
      intro I2 J2 h e1 e2
      refine ih I2 J2 (t_AL_st h (fun _ _ _ _ _ => rfl) (fun j => ?_) (fun j => ?_) (fun j => ?_))
      · rw [e1 1 (by omega)]
        by_cases q : j = m * 5 + b
        · rw [if_pos q, q]
        · rw [if_neg q]
      · rw [e1 2 (by omega)]
        by_cases q : j = m * 5 + b
        · rw [if_pos q, q]
        · rw [if_neg q]
      · rw [if_neg (fun q => e2 q.2)]
    have key : ∀ (sb : Bool) (I2 : Nat → Nat → Int32) (J2 : Nat → Nat → Int64), sb = e_if w x.2.2.2 → t_AL I I2 w (xs.take c) m b → ∀ lv, am_ld1 lv 0 = some (.ref 109) → am_ld1 lv 1 = some (.ref t) → am_ld1 lv 2 = some (.int (nI m)) → am_ld1 lv 3 = some (.int (nI b)) → am_ld1 lv 4 = some (.int (nI (m * 5 + b))) → am_ld1 lv 5 = some (.int (nI c)) → am_wp pr (d + 2) 24 83 lv [.int (if sb = true then 1 else 0)] (S, I2, J2, P) Q := by
      intro sb I2 J2 hsb h lv l0 l1 l2 l3 l4 l5
      have r0 : I2 (t + 1 + 0) = I (t + 1 + 0) := row h _ (by omega)
      have r2 : I2 (t + 1 + 2) = I (t + 1 + 2) := row h _ (by omega)
      cases sb with
      | false =>
        rw [if_neg (by decide)]
        refine w24_83 ?_
        refine w24_85 rfl ?_
        refine w24_87 (fun _ => ?_) (fun h => absurd rfl h)
        refine w24_116 rfl ?_
        refine w24_118 (fun _ => ?_) (fun h => absurd rfl h)
        refine w24_208 l5 ?_
        refine w24_211 ?_
        exact skip I2 J2 h (fun hd _ t0 => if_neg (fun q => by rw [← hsb] at q; exact absurd q.2 (by decide))) (fun q => by rw [← hsb] at q; exact absurd q.2 (by decide)) _ l0 l1 l2 l3 l4 (am_nx c)
      | true =>
        rw [if_pos rfl]
        rcases q1 with ⟨hx1, hl⟩ | ⟨hx1, hl⟩ | ⟨hx1, hl⟩
        · obtain ⟨e, he⟩ := List.length_eq_one_iff.mp hl
          obtain ⟨p, p1, p2, p3⟩ := y3 0 e (by rw [he]; rfl)
          obtain ⟨g1, g2⟩ := q2 e (by rw [he]; exact List.mem_singleton.mpr rfl)
          have kd : I (t + 1 + 0) c = nI 0 := by rw [y1, hx1]; rfl
          refine w24_83 ?_
          refine w24_85 rfl ?_
          refine w24_87 (fun h => absurd h (by decide)) (fun _ => ?_)
          refine w24_90 l1 ?_
          refine w24_91 (ht.2.1 0 (by decide)) ?_
          refine w24_94 l5 ?_
          refine w24_96 (ht.sh rfl) (am_in_nI (by omega) (by decide)) ?_
          rw [am_clN (by omega), r0, kd]
          refine w24_97 ?_
          refine w24_98 (fun _ => ?_) (fun h => absurd (by decide) h)
          refine w24_116 rfl ?_
          refine w24_118 (fun h => absurd h (by decide)) (fun _ => ?_)
          refine w24_121 l0 ?_
          refine w24_122 (L.2 _ _ _ rfl) ?_
          refine w24_125 l1 ?_
          refine w24_126 l1 ?_
          refine w24_127 (ht.2.1 2 (by decide)) ?_
          refine w24_130 l5 ?_
          refine w24_132 ?_
          refine w24_133 ?_
          rw [nz_d3]
          refine w24_134 (ht.sh rfl) (am_in_nI (by omega) (by decide)) ?_
          rw [am_clN (by omega), r2, show I (t + 1 + 2) (c * 3) = nI p from p1]
          refine w24_135 l0 ?_
          refine w24_136 (L.2 _ _ _ rfl) ?_
          refine w24_139 (k := c25x (o := false) g1.1 (mkE h) (by rw [row h t (by omega)]; exact hz) (by omega) (by rw [row h _ (by omega), row h _ (by omega)]; exact p3) p2 (by omega) (fun v J3 hv => ?_) (fun J3 hv => ?_))
          · have h3 := t_AL_119 (v := 0) h
            have rr : am_u I2 119 0 0 (t + 1 + 0) = I (t + 1 + 0) := row h3 _ (by omega)
            have fin : t_AL I (am_u (am_u I2 119 0 0) 110 (m * 5 + b) (e_near v)) w (xs.take c ++ [x]) m b := by
              refine t_AL_st h3 (fun a a1 a2 a3 a4 => am_u_ne a1) (fun j => ?_) (fun j => ?_) (fun j => ?_)
              · rw [am_u_get]
                by_cases q : j = m * 5 + b
                · rw [if_pos ⟨rfl, q⟩, if_pos q]
                  unfold e_tell1
                  rw [if_pos ⟨hx1, hsb.symm⟩, if_neg (by decide), he]
                  show e_near v = match e.1 w with | some x => e_near x | none => _
                  rw [hv]
                · rw [if_neg (fun z => q z.2), if_neg q]
              · rw [am_u_ne (by decide)]
                by_cases q : j = m * 5 + b
                · rw [if_pos q, q]
                  unfold e_tell1
                  rw [if_neg (fun z => by rw [hx1] at z; exact absurd z.1 (by decide))]
                · rw [if_neg q]
              · rw [am_u_ne (by decide), if_neg (fun z => by rw [hx1] at z; exact absurd z.2.1 (by decide))]
            refine w24_142 ?_
            refine w24_144 ?_
            refine w24_145 ?_
            refine w24_147 rfl ?_
            refine w24_149 ?_
            refine w24_152 ?_
            rw [e_near_32 (g1.2 w v hv)]
            refine w24_155 ?_
            refine w24_157 l0 ?_
            refine w24_158 (L.2 _ _ _ rfl) ?_
            refine w24_161 ?_
            rw [am_u_self]
            refine w24_164 (fun h => absurd h (fun z => z rfl)) (fun _ => ?_)
            refine w24_167 l1 ?_
            refine w24_168 (ht.2.1 0 (by decide)) ?_
            refine w24_171 l5 ?_
            refine w24_173 (ht.sh rfl) (am_in_nI (by omega) (by decide)) ?_
            rw [am_clN (by omega), rr, kd]
            refine w24_174 (fun h => absurd h (fun z => z rfl)) (fun _ => ?_)
            refine w24_177 l0 ?_
            refine w24_178 (L.2 _ _ _ rfl) ?_
            refine w24_181 l4 ?_
            refine w24_183 rfl ?_
            refine w24_185 (L.sh rfl) (am_in_nI (by omega) (by decide)) ?_
            rw [am_clN (by omega)]
            refine w24_186 ?_
            refine w24_208 l5 ?_
            refine w24_211 ?_
            exact ih _ _ fin _ l0 l1 l2 l3 l4 (am_nx c)
          · have h3 := t_AL_119 (v := 1) h
            refine w24_142 ?_
            refine w24_144 ?_
            refine w24_145 ?_
            refine w24_147 rfl ?_
            refine w24_149 ?_
            refine w24_152 ?_
            refine w24_155 ?_
            refine w24_157 l0 ?_
            refine w24_158 (L.2 _ _ _ rfl) ?_
            refine w24_161 ?_
            rw [am_u_self]
            refine w24_164 (fun _ => ?_) (fun h => absurd (by decide) h)
            refine w24_189 l0 ?_
            refine w24_190 (L.2 _ _ _ rfl) ?_
            refine w24_193 ?_
            rw [am_u_self]
            refine w24_196 (fun _ => ?_) (fun h => absurd (by decide) h)
            refine w24_208 l5 ?_
            refine w24_211 ?_
            refine skip _ _ h3 (fun hd _ t0 => ?_) (fun q => by rw [hx1] at q; exact absurd q.1 (by decide)) _ l0 l1 l2 l3 l4 (am_nx c)
            unfold e_tell1
            by_cases z : x.1 = hd ∧ e_if w x.2.2.2 = true
            · rw [if_pos z, if_neg (by rw [← z.1, hx1]; decide), he]
              show (match e.1 w with | some x => e_near x | none => t0) = t0
              rw [hv]
            · rw [if_neg z]
        · obtain ⟨e, he⟩ := List.length_eq_one_iff.mp hl
          obtain ⟨p, p1, p2, p3⟩ := y3 0 e (by rw [he]; rfl)
          obtain ⟨g1, g2⟩ := q2 e (by rw [he]; exact List.mem_singleton.mpr rfl)
          have kd : I (t + 1 + 0) c = nI 1 := by rw [y1, hx1]; rfl
          refine w24_83 ?_
          refine w24_85 rfl ?_
          refine w24_87 (fun h => absurd h (by decide)) (fun _ => ?_)
          refine w24_90 l1 ?_
          refine w24_91 (ht.2.1 0 (by decide)) ?_
          refine w24_94 l5 ?_
          refine w24_96 (ht.sh rfl) (am_in_nI (by omega) (by decide)) ?_
          rw [am_clN (by omega), r0, kd]
          refine w24_97 ?_
          refine w24_98 (fun _ => ?_) (fun h => absurd (by decide) h)
          refine w24_116 rfl ?_
          refine w24_118 (fun h => absurd h (by decide)) (fun _ => ?_)
          refine w24_121 l0 ?_
          refine w24_122 (L.2 _ _ _ rfl) ?_
          refine w24_125 l1 ?_
          refine w24_126 l1 ?_
          refine w24_127 (ht.2.1 2 (by decide)) ?_
          refine w24_130 l5 ?_
          refine w24_132 ?_
          refine w24_133 ?_
          rw [nz_d3]
          refine w24_134 (ht.sh rfl) (am_in_nI (by omega) (by decide)) ?_
          rw [am_clN (by omega), r2, show I (t + 1 + 2) (c * 3) = nI p from p1]
          refine w24_135 l0 ?_
          refine w24_136 (L.2 _ _ _ rfl) ?_
          refine w24_139 (k := c25x (o := false) g1.1 (mkE h) (by rw [row h t (by omega)]; exact hz) (by omega) (by rw [row h _ (by omega), row h _ (by omega)]; exact p3) p2 (by omega) (fun v J3 hv => ?_) (fun J3 hv => ?_))
          · have h3 := t_AL_119 (v := 0) h
            have rr : am_u I2 119 0 0 (t + 1 + 0) = I (t + 1 + 0) := row h3 _ (by omega)
            have fin : t_AL I (am_u (am_u I2 119 0 0) 111 (m * 5 + b) (e_near v)) w (xs.take c ++ [x]) m b := by
              refine t_AL_st h3 (fun a a1 a2 a3 a4 => am_u_ne a2) (fun j => ?_) (fun j => ?_) (fun j => ?_)
              · rw [am_u_ne (by decide)]
                by_cases q : j = m * 5 + b
                · rw [if_pos q, q]
                  unfold e_tell1
                  rw [if_neg (fun z => by rw [hx1] at z; exact absurd z.1 (by decide))]
                · rw [if_neg q]
              · rw [am_u_get]
                by_cases q : j = m * 5 + b
                · rw [if_pos ⟨rfl, q⟩, if_pos q]
                  unfold e_tell1
                  rw [if_pos ⟨hx1, hsb.symm⟩, if_neg (by decide), he]
                  show e_near v = match e.1 w with | some x => e_near x | none => _
                  rw [hv]
                · rw [if_neg (fun z => q z.2), if_neg q]
              · rw [am_u_ne (by decide), if_neg (fun z => by rw [hx1] at z; exact absurd z.2.1 (by decide))]
            refine w24_142 ?_
            refine w24_144 ?_
            refine w24_145 ?_
            refine w24_147 rfl ?_
            refine w24_149 ?_
            refine w24_152 ?_
            rw [e_near_32 (g1.2 w v hv)]
            refine w24_155 ?_
            refine w24_157 l0 ?_
            refine w24_158 (L.2 _ _ _ rfl) ?_
            refine w24_161 ?_
            rw [am_u_self]
            refine w24_164 (fun h => absurd h (fun z => z rfl)) (fun _ => ?_)
            refine w24_167 l1 ?_
            refine w24_168 (ht.2.1 0 (by decide)) ?_
            refine w24_171 l5 ?_
            refine w24_173 (ht.sh rfl) (am_in_nI (by omega) (by decide)) ?_
            rw [am_clN (by omega), rr, kd]
            refine w24_174 (fun _ => ?_) (fun h => absurd (by decide) h)
            refine w24_189 l0 ?_
            refine w24_190 (L.2 _ _ _ rfl) ?_
            refine w24_193 ?_
            rw [am_u_self]
            refine w24_196 (fun h => absurd h (fun z => z rfl)) (fun _ => ?_)
            refine w24_199 l0 ?_
            refine w24_200 (L.2 _ _ _ rfl) ?_
            refine w24_203 l4 ?_
            refine w24_205 rfl ?_
            refine w24_207 (L.sh rfl) (am_in_nI (by omega) (by decide)) ?_
            rw [am_clN (by omega)]
            refine w24_208 l5 ?_
            refine w24_211 ?_
            exact ih _ _ fin _ l0 l1 l2 l3 l4 (am_nx c)
          · have h3 := t_AL_119 (v := 1) h
            refine w24_142 ?_
            refine w24_144 ?_
            refine w24_145 ?_
            refine w24_147 rfl ?_
            refine w24_149 ?_
            refine w24_152 ?_
            refine w24_155 ?_
            refine w24_157 l0 ?_
            refine w24_158 (L.2 _ _ _ rfl) ?_
            refine w24_161 ?_
            rw [am_u_self]
            refine w24_164 (fun _ => ?_) (fun h => absurd (by decide) h)
            refine w24_189 l0 ?_
            refine w24_190 (L.2 _ _ _ rfl) ?_
            refine w24_193 ?_
            rw [am_u_self]
            refine w24_196 (fun _ => ?_) (fun h => absurd (by decide) h)
            refine w24_208 l5 ?_
            refine w24_211 ?_
            refine skip _ _ h3 (fun hd _ t0 => ?_) (fun q => by rw [hx1] at q; exact absurd q.1 (by decide)) _ l0 l1 l2 l3 l4 (am_nx c)
            unfold e_tell1
            by_cases z : x.1 = hd ∧ e_if w x.2.2.2 = true
            · rw [if_pos z, if_neg (by rw [← z.1, hx1]; decide), he]
              show (match e.1 w with | some x => e_near x | none => t0) = t0
              rw [hv]
            · rw [if_neg z]
        · have kd : I (t + 1 + 0) c = nI 2 := by rw [y1, hx1]; rfl
          have fin : t_AL I (am_u I2 112 b (I2 112 b ||| 1 <<< (nI m &&& 31))) w (xs.take c ++ [x]) m b := by
            refine t_AL_st h (fun a a1 a2 a3 a4 => am_u_ne a3) (fun j => ?_) (fun j => ?_) (fun j => ?_)
            · rw [am_u_ne (by decide)]
              by_cases q : j = m * 5 + b
              · rw [if_pos q, q]
                unfold e_tell1
                rw [if_neg (fun z => by rw [hx1] at z; exact absurd z.1 (by decide))]
              · rw [if_neg q]
            · rw [am_u_ne (by decide)]
              by_cases q : j = m * 5 + b
              · rw [if_pos q, q]
                unfold e_tell1
                rw [if_neg (fun z => by rw [hx1] at z; exact absurd z.1 (by decide))]
              · rw [if_neg q]
            · rw [am_u_get]
              by_cases q : j = b
              · rw [if_pos ⟨rfl, q⟩, if_pos ⟨q, hx1, hsb.symm⟩]
              · rw [if_neg (fun z => q z.2), if_neg (fun z => q z.1)]
          refine w24_83 ?_
          refine w24_85 rfl ?_
          refine w24_87 (fun h => absurd h (by decide)) (fun _ => ?_)
          refine w24_90 l1 ?_
          refine w24_91 (ht.2.1 0 (by decide)) ?_
          refine w24_94 l5 ?_
          refine w24_96 (ht.sh rfl) (am_in_nI (by omega) (by decide)) ?_
          rw [am_clN (by omega), r0, kd]
          refine w24_97 ?_
          refine w24_98 (fun h => absurd h (fun z => z rfl)) (fun _ => ?_)
          refine w24_101 l0 ?_
          refine w24_102 (L.2 _ _ _ rfl) ?_
          refine w24_105 l3 ?_
          refine w24_106 ⟨rfl, rfl⟩ ?_
          refine w24_107 (L.sh rfl) (am_inB hb) ?_
          rw [am_clB hb]
          refine w24_108 ?_
          refine w24_109 l2 ?_
          refine w24_110 ?_
          refine w24_111 ?_
          refine w24_112 (L.sh rfl) (am_inB hb) ?_
          rw [am_clB hb]
          refine w24_113 ?_
          refine w24_208 l5 ?_
          refine w24_211 ?_
          exact ih _ _ fin _ l0 l1 l2 l3 l4 (am_nx c)
    intro I1 J1 h lv l0 l1 l2 l3 l4 l5
    have rt : I1 t 0 = nI xs.length := by rw [row h t (by omega)]; exact h0
    have r3 : I1 (t + 1 + 3) = I (t + 1 + 3) := row h _ (by omega)
    cases hte : x.2.2.2 with
    | none =>
      have ta : I (t + 1 + 3) c = -1 := y6 hte
      refine w24_30 l5 ?_
      refine w24_32 l1 ?_
      refine w24_33 ?_
      rw [rt]
      refine w24_36 (fun h => absurd h (am_nlt hc (by omega))) (fun _ => ?_)
      refine w24_39 l5 ?_
      refine w24_41 ?_
      refine w24_43 (fun h => absurd h (am_nlt (n := 12) (by omega) (by decide))) (fun _ => ?_)
      refine w24_46 l1 ?_
      refine w24_47 (ht.2.1 3 (by decide)) ?_
      refine w24_50 l5 ?_
      refine w24_52 (ht.sh rfl) (am_in_nI (by omega) (by decide)) ?_
      rw [am_clN (by omega), r3, ta]
      refine w24_53 ?_
      refine w24_55 rfl ?_
      refine w24_57 ?_
      refine w24_58 (fun _ => ?_) (fun h => absurd rfl h)
      refine w24_78 ?_
      refine w24_79 ?_
      exact key true I1 J1 (by rw [hte]; rfl) h _ l0 l1 l2 l3 l4 l5
    | some te =>
      obtain ⟨p, p1, p2, p3⟩ := y5 te hte
      obtain ⟨g1, g2⟩ := q4 te hte
      refine w24_30 l5 ?_
      refine w24_32 l1 ?_
      refine w24_33 ?_
      rw [rt]
      refine w24_36 (fun h => absurd h (am_nlt hc (by omega))) (fun _ => ?_)
      refine w24_39 l5 ?_
      refine w24_41 ?_
      refine w24_43 (fun h => absurd h (am_nlt (n := 12) (by omega) (by decide))) (fun _ => ?_)
      refine w24_46 l1 ?_
      refine w24_47 (ht.2.1 3 (by decide)) ?_
      refine w24_50 l5 ?_
      refine w24_52 (ht.sh rfl) (am_in_nI (by omega) (by decide)) ?_
      rw [am_clN (by omega), r3, p1]
      refine w24_53 ?_
      refine w24_55 rfl ?_
      refine w24_57 ?_
      refine w24_58 (fun h => absurd h (nI_nm1 (by omega))) (fun _ => ?_)
      refine w24_61 l0 ?_
      refine w24_62 (L.2 _ _ _ rfl) ?_
      refine w24_65 l1 ?_
      refine w24_66 rfl ?_
      refine w24_68 l0 ?_
      refine w24_69 (L.2 _ _ _ rfl) ?_
      have dp := g2 p
      refine w24_72 (k := c25t (o := false) g1 (mkE h) (by rw [row h t (by omega)]; exact hz) (by omega) (by rw [row h _ (by omega), row h _ (by omega)]; exact p3) p2 (by omega) (fun v J3 hv => ?_) (fun J3 hv => ?_))
      · have h3 := t_AL_119 (v := 0) h
        cases v with
        | true =>
          refine w24_75 (fun h => absurd h (by decide)) (fun _ => ?_)
          refine w24_78 ?_
          refine w24_79 ?_
          exact key true _ J3 (by rw [hte]; show true = (te.1 w).getD false; rw [hv]; rfl) h3 _ l0 l1 l2 l3 l4 l5
        | false =>
          refine w24_75 (fun _ => ?_) (fun h => absurd rfl h)
          refine w24_82 ?_
          exact key false _ J3 (by rw [hte]; show false = (te.1 w).getD false; rw [hv]; rfl) h3 _ l0 l1 l2 l3 l4 l5
      · have h3 := t_AL_119 (v := 1) h
        refine w24_75 (fun _ => ?_) (fun h => absurd rfl h)
        refine w24_82 ?_
        exact key false _ J3 (by rw [hte]; show false = (te.1 w).getD false; rw [hv]; rfl) h3 _ l0 l1 l2 l3 l4 l5
  · intro I1 J1 h lv l0 l1 l2 l3 l4 l5
    rw [List.take_length] at h
    have rt : I1 t 0 = nI xs.length := by rw [h.1 t (by omega) (by omega) (by omega) (by omega)]; exact h0
    refine w24_30 l5 ?_
    refine w24_32 l1 ?_
    refine w24_33 ?_
    rw [rt]
    refine w24_36 (fun _ => ?_) (fun h => absurd (Int32.le_refl _) h)
    refine w24_214 ?_
    exact k _ _ h
end
