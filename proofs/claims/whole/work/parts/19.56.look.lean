/-! contracts: looking at a bill, at all of them -/
def tb_fr (I I' : Nat → Nat → Int32) : Prop := ∀ a, a < 109 ∨ (113 < a ∧ a ≠ 118 ∧ a ≠ 119) → I' a = I a
def t_hd (I I' : Nat → Nat → Int32) (h n : Nat) : Prop := I' 109 0 = nI n ∧ I' 109 1 = I h 1 ∧ I' 109 2 = I (h + 1 + 3) 3
/-- a bill's part of the table tells what the law does -/
def t_B (I : Nat → Nat → Int32) (kp : Nat → Int32) (n : Nat) (lw : Option (List Cl)) (b : Nat) : Prop :=
  (∀ q, q < n → I 110 (q * 5 + b) = a_sp kp n lw q b ∧ I 111 (q * 5 + b) = a_va kp n lw q b) ∧ (∀ q, q < 32 → (am_bit (I 112 b) q = 1 ↔ q < n ∧ a_ba kp n lw q b = 1)) ∧ (∀ q, q < 32 → (am_bit (I 113 b) q = 1 ↔ q < n ∧ kp (35 + q) = 1 ∧ ¬ a_ba kp n lw q b = 1))
/-- the law in force, or none -/
def am_lw (S : List (Nat × Nat)) (I : Nat → Nat → Int32) (P : Nat → Nat → Option Nat) (p : Nat → Option Nat) (kp : Nat → Int32) (l : Nat) (x : Int32) (lw : Option (Nat × List Cl)) : Prop :=
  (x = -1 ∧ lw = none) ∨ ∃ f t xs, f < l ∧ x = nI f ∧ lw = some (t, xs) ∧ p f = some t ∧ 149 ≤ t ∧ am_TI S I P t xs ∧ am_TK false kp f xs
theorem am_lw_ex {S : List (Nat × Nat)} {I : Nat → Nat → Int32} {P : Nat → Nat → Option Nat} {p : Nat → Option Nat} {kp : Nat → Int32} {l : Nat} {x : Int32} (hW : am_LW S I P p kp l) (hx : x = -1 ∨ ∃ f, f < l ∧ x = nI f) : ∃ lw, am_lw S I P p kp l x lw := by
  rcases hx with h | ⟨f, hf, h⟩
  · exact ⟨none, Or.inl ⟨h, rfl⟩⟩
  · obtain ⟨t, xs, h1, h2, h3, h4⟩ := hW f hf
    exact ⟨some (t, xs), Or.inr ⟨f, t, xs, hf, h, rfl, h1, h2, h3, h4⟩⟩
theorem am_lw.good {S : List (Nat × Nat)} {I : Nat → Nat → Int32} {P : Nat → Nat → Option Nat} {p : Nat → Option Nat} {kp : Nat → Int32} {l : Nat} {x : Int32} {lw : Option (Nat × List Cl)} (h : am_lw S I P p kp l x lw) : ∀ t xs, lw = some (t, xs) → am_TI S I P t xs ∧ 149 ≤ t ∧ ∀ x ∈ xs, k_cl false x := by
  intro t xs e
  rcases h with ⟨-, h2⟩ | ⟨f, t1, xs1, h1, h2, h3, h4, h5, h6, h7⟩
  · rw [h2] at e
    cases e
  · rw [h3] at e
    cases e
    obtain ⟨N, lv, g1, g2, g3, g4⟩ := h7
    exact ⟨h6, h5, (p_read_good g4).1⟩
theorem am_lw_cg {S : List (Nat × Nat)} {I I' : Nat → Nat → Int32} {P : Nat → Nat → Option Nat} {p : Nat → Option Nat} {kp kp' : Nat → Int32} {l : Nat} {x : Int32} {lw : Option (Nat × List Cl)} (hl : l ≤ 6) (e : ∀ a, 149 ≤ a → I' a = I a) (ek : ∀ j, 77 ≤ j → kp' j = kp j) (h : am_lw S I P p kp l x lw) : am_lw S I' P p kp' l x lw := by
  rcases h with h | ⟨f, t, xs, h1, h2, h3, h4, h5, h6, h7⟩
  · exact Or.inl h
  · exact Or.inr ⟨f, t, xs, h1, h2, h3, h4, h5, am_TI_cg (fun _ _ z => z) rfl (fun a h _ => e a (by omega)) h6, am_TK_cg (by omega) ek h7⟩
section
variable {pr : am_Pr} {d : Nat} {S : List (Nat × Nat)} {I : Nat → Nat → Int32} {J : Nat → Nat → Int64} {P : Nat → Nat → Option Nat} {Q : Option Value → am_H → Prop}
theorem c22b (L : am_Lay S P) {h n l s b : Nat} {kp : Nat → Int32} {lw : Option (Nat × List Cl)} (hh : am_Hs S P h) (hr : am_HR I h kp n l s) (hfar : h + 7 < 109) (hlw : ∀ t xs, lw = some (t, xs) → am_TI S I P t xs ∧ 149 ≤ t ∧ ∀ x ∈ xs, k_cl false x) (hb : b < 5) (k : ∀ I' J', tb_fr I I' → t_hd I I' h n → t_B I' kp n (lw.map Prod.snd) b → (∀ b', b' < 5 → b' ≠ b → t_B I kp n (lw.map Prod.snd) b' → t_B I' kp n (lw.map Prod.snd) b') → Q none (S, I', J', P)) : am_ev pr (d + 3) 22 [.ref 109, .ref h, va_rf (lw.map Prod.fst), .int (nI b)] (S, I, J, P) Q := by
  refine c22 L hh hr hfar hlw hb (fun I' J' r e => k I' J' r.1 r.2.1 ⟨r.2.2.2.2.1, r.2.2.2.2.2, fun q hq => ?_⟩ (fun b' h5 hne z => ?_))
  · rw [e, am_bit_and hq, hr.he q hq, show I' 112 b ^^^ -1 = ~~~ (I' 112 b) from Int32.xor_neg_one, am_bit_not hq, r.2.2.2.2.2 q hq]
    constructor
    · rintro ⟨⟨z1, z2⟩, z3⟩
      exact ⟨z1, z2, fun y => z3 ⟨z1, y⟩⟩
    · rintro ⟨z1, z2, z3⟩
      exact ⟨⟨z1, z2⟩, fun y => z3 y.2⟩
  · obtain ⟨r1, r2, r3, r4, r5, r6⟩ := r
    refine ⟨fun q hq => ?_, ?_, ?_⟩
    · have := r3 (q * 5 + b') (by omega)
      rw [this.1, this.2]
      exact z.1 q hq
    · rw [(r4 b' hne).1]
      exact z.2.1
    · rw [(r4 b' hne).2]
      exact z.2.2
/-- lawAt, as it stands -/
theorem c21L {h n l s : Nat} {kp : Nat → Int32} {x : Int32} {lw : Option (Nat × List Cl)} (hh : am_Hs S P h) (hr : am_HR I h kp n l s) (hx : am_lw S I P (P (h + 1 + 4)) kp l x lw) (k : Q (some (va_rf (lw.map Prod.fst))) (S, I, J, P)) : am_ev pr d 21 [.ref h, .int x] (S, I, J, P) Q := by
  have l6 := hr.l6
  refine c21 hh (fun h1 => ?_) (fun h1 => ?_)
  · rcases hx with ⟨e, -⟩ | ⟨f, t, xs, e1, e2, e3, e4, -⟩
    · rw [e] at h1
      exact absurd h1.1 (by decide)
    · rw [e2, am_clN (by omega), e4]
      rw [e3] at k
      exact k
  · rcases hx with ⟨e, e2⟩ | ⟨f, t, xs, e1, e2, e3, e4, -⟩
    · rw [e2] at k
      exact k
    · refine absurd ⟨?_, ?_, ?_⟩ h1
      · rw [e2]
        exact nI_pos' (by omega)
      · rw [e2, hr.hl]
        exact nI_lt e1 (by omega)
      · rw [e2]
        exact nI_lt (b := 6) (by omega) (by decide)
/-- fillAll -/
theorem c35 (L : am_Lay S P) {h n l s : Nat} {kp : Nat → Int32} {lw : Option (Nat × List Cl)} (hh : am_Hs S P h) (hr : am_HR I h kp n l s) (hfar : h + 7 < 109) (hlw : ∀ t xs, lw = some (t, xs) → am_TI S I P t xs ∧ 149 ≤ t ∧ ∀ x ∈ xs, k_cl false x) (k : ∀ I' J', tb_fr I I' → t_hd I I' h n → (∀ b, b < 5 → t_B I' kp n (lw.map Prod.snd) b) → Q none (S, I', J', P)) : am_ev pr (d + 4) 35 [.ref 109, .ref h, va_rf (lw.map Prod.fst)] (S, I, J, P) Q := by
  suffices hw : ∀ lv, am_ld1 lv 0 = some (.ref 109) → am_ld1 lv 1 = some (.ref h) → am_ld1 lv 2 = some (va_rf (lw.map Prod.fst)) → am_wp pr (d + 4) 35 0 lv [] (S, I, J, P) Q by
    cases lw <;> exact hw _ rfl rfl rfl
  intro lv l0 l1 l2
  refine w35_0 ?_
  refine w35_1 ?_
  refine am_for (fun b => ∀ I' J', tb_fr I I' → (0 < b → t_hd I I' h n) → (∀ b', b' < b → t_B I' kp n (lw.map Prod.snd) b') → ∀ lv, am_ld1 lv 0 = some (.ref 109) → am_ld1 lv 1 = some (.ref h) → am_ld1 lv 2 = some (va_rf (lw.map Prod.fst)) → am_ld1 lv 3 = some (.int (nI b)) → am_wp pr (d + 4) 35 2 lv [] (S, I', J', P) Q) 5 ?_ ?_ I J (fun _ _ => rfl) (fun z => absurd z (Nat.not_lt_zero 0)) (fun b' hb' => absurd hb' (Nat.not_lt_zero b')) _ l0 l1 l2 rfl
  · intro b hb ih I1 J1 f1 f2 f3 lv l0 l1 l2 l3
    have hr1 : am_HR I1 h kp n l s := am_HR_cg h (fun a h1 h2 => f1 a (Or.inl (by omega))) rfl hr
    have hlw1 : ∀ t xs, lw = some (t, xs) → am_TI S I1 P t xs ∧ 149 ≤ t ∧ ∀ x ∈ xs, k_cl false x := by
      intro t xs e
      obtain ⟨g1, g2, g3⟩ := hlw t xs e
      exact ⟨am_TI_cg (fun _ _ z => z) rfl (fun a h1 h2 => f1 a (Or.inr (by omega))) g1, g2, g3⟩
    have go : ∀ lv, am_ld1 lv 0 = some (.ref 109) → am_ld1 lv 1 = some (.ref h) → am_ld1 lv 2 = some (va_rf (lw.map Prod.fst)) → am_ld1 lv 3 = some (.int (nI b)) → am_wp pr (d + 4) 35 10 lv [va_rf (lw.map Prod.fst), .ref h, .ref 109] (S, I1, J1, P) Q := by
      intro lv l0 l1 l2 l3
      refine w35_10 l3 ?_
      refine w35_11 (k := c22b L hh hr1 hfar hlw1 hb (fun I2 J2 g1 g2 g3 g4 => ?_))
      have e1 : tb_fr I I2 := fun a ha => (g1 a ha).trans (f1 a ha)
      have e2 : t_hd I I2 h n := by
        unfold t_hd at g2 ⊢
        rw [f1 h (Or.inl (by omega)), f1 (h + 1 + 3) (Or.inl (by omega))] at g2
        exact g2
      have e3 : ∀ b', b' < b + 1 → t_B I2 kp n (lw.map Prod.snd) b' := by
        intro b' hb'
        by_cases z : b' = b
        · rw [z]
          exact g3
        · exact g4 b' (by omega) z (f3 b' (by omega))
      refine w35_14 l3 ?_
      refine w35_17 ?_
      exact ih I2 J2 e1 (fun _ => e2) e3 _ l0 l1 l2 (am_nx b)
    refine w35_2 l3 ?_
    refine w35_3 ?_
    refine w35_4 (fun h => absurd h (am_nlt hb (by decide))) (fun _ => ?_)
    refine w35_7 l0 ?_
    refine w35_8 l1 ?_
    cases hlv : lw with
    | none =>
      rw [hlv] at go l2
      refine w35_9N l2 ?_
      exact go _ l0 l1 l2 l3
    | some tx =>
      rw [hlv] at go l2
      refine w35_9 (x := tx.1) l2 ?_
      exact go _ l0 l1 l2 l3
  · intro I1 J1 f1 f2 f3 lv l0 l1 l2 l3
    refine w35_2 l3 ?_
    refine w35_3 ?_
    refine w35_4 (fun _ => ?_) (fun h => absurd (Int32.le_refl _) h)
    refine w35_20 ?_
    exact k _ _ f1 (f2 (by decide)) f3
/-- look -/
theorem c20 (L : am_Lay S P) {n l s b : Nat} {kp : Nat → Int32} {lw : Option (Nat × List Cl)} (hr : am_HR I 65 kp n l s) (hx : am_lw S I P (P 70) kp l (kp 76) lw) (hb : b < 5) (k : ∀ I' J', tb_fr I I' → t_hd I I' 65 n → t_B I' kp n (lw.map Prod.snd) b → (∀ b', b' < 5 → b' ≠ b → t_B I kp n (lw.map Prod.snd) b' → t_B I' kp n (lw.map Prod.snd) b') → Q none (S, I', J', P)) : am_ev pr (d + 4) 20 [.ref 64, .int (nI b)] (S, I, J, P) Q := by
  have hh := L.h65
  show am_wp pr (d + 4) 20 0 [(0, .ref 64), (1, .int (nI b))] [] _ _
  refine w20_0 rfl ?_
  refine w20_1 (L.2 _ _ _ rfl) ?_
  refine w20_4 rfl ?_
  refine w20_5 (L.2 _ _ _ rfl) ?_
  refine w20_8 rfl ?_
  refine w20_9 (L.2 _ _ _ rfl) ?_
  refine w20_12 rfl ?_
  refine w20_13 (L.2 _ _ _ rfl) ?_
  refine w20_16 ?_
  rw [hr.hf]
  refine w20_19 (k := c21L hh hr hx ?_)
  refine w20_22 rfl ?_
  refine w20_23 (hv1 := am_rf_cat _) (k := c22b L hh hr (by decide) hx.good hb (fun I2 J2 g1 g2 g3 g4 => ?_))
  refine w20_26 ?_
  exact k _ _ g1 g2 g3 g4
theorem c34 (L : am_Lay S P) {n l s : Nat} {kp : Nat → Int32} {lw : Option (Nat × List Cl)} (hr : am_HR I 65 kp n l s) (hx : am_lw S I P (P 70) kp l (kp 76) lw) (k : ∀ I' J', tb_fr I I' → t_hd I I' 65 n → (∀ b, b < 5 → t_B I' kp n (lw.map Prod.snd) b) → Q none (S, I', J', P)) : am_ev pr (d + 5) 34 [.ref 64] (S, I, J, P) Q := by
  have hh := L.h65
  show am_wp pr (d + 5) 34 0 [(0, .ref 64)] [] _ _
  refine w34_0 rfl ?_
  refine w34_1 (L.2 _ _ _ rfl) ?_
  refine w34_4 rfl ?_
  refine w34_5 (L.2 _ _ _ rfl) ?_
  refine w34_8 rfl ?_
  refine w34_9 (L.2 _ _ _ rfl) ?_
  refine w34_12 rfl ?_
  refine w34_13 (L.2 _ _ _ rfl) ?_
  refine w34_16 ?_
  rw [hr.hf]
  refine w34_19 (k := c21L hh hr hx ?_)
  refine w34_22 (hv1 := am_rf_cat _) (k := c35 L hh hr (by decide) hx.good (fun I2 J2 g1 g2 g3 => ?_))
  refine w34_25 ?_
  exact k _ _ g1 g2 g3
end
