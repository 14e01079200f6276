/-! new things: rows that are made and laid into an object's fields -/
section
variable {pr : am_Pr} {d : Nat} {S S' : List (Nat × Nat)} {I I' : Nat → Nat → Int32} {J J' : Nat → Nat → Int64} {P P' : Nat → Nat → Option Nat} {Q : Option Value → am_H → Prop} {n l s u tp : Nat} {kp lf kp' : Nat → Int32}
theorem am_sh_lt {a : Nat} {q : Nat × Nat} (h : am_sh S a q) : a < S.length := (List.getElem?_eq_some_iff.mp h.2).1
theorem am_sh_app {W : List (Nat × Nat)} {a : Nat} {q : Nat × Nat} (h : am_sh S a q) : am_sh (S ++ W) a q := ⟨h.1, by rw [List.getElem?_append_left (am_sh_lt h)]; exact h.2⟩
/-- i of the rows w are made behind the object at h and lie in its fields from o on -/
def nw_G (S : List (Nat × Nat)) (I : Nat → Nat → Int32) (P : Nat → Nat → Option Nat) (h o : Nat) (w : List (Nat × Nat)) (i : Nat) (S' : List (Nat × Nat)) (I' : Nat → Nat → Int32) (P' : Nat → Nat → Option Nat) : Prop :=
  S' = S ++ w.take i ∧ (∀ a, a ≤ h → I' a = I a) ∧ (∀ j, j < i → I' (h + 1 + j) = fun _ => 0) ∧ (∀ a, a < h → P' a = P a) ∧ (∀ k, (k < o ∨ o + i ≤ k) → P' h k = P h k) ∧ (∀ j, j < i → P' h (o + j) = some (h + 1 + j)) ∧ ∀ j, j < i → P' (h + 1 + j) = fun _ => none
theorem nw_G_0 {h o : Nat} {w : List (Nat × Nat)} : nw_G S I P h o w 0 S I P := ⟨by rw [List.take_zero, List.append_nil], fun _ _ => rfl, fun j hj => absurd hj (Nat.not_lt_zero j), fun _ _ => rfl, fun _ _ => rfl, fun j hj => absurd hj (Nat.not_lt_zero j), fun j hj => absurd hj (Nat.not_lt_zero j)⟩
theorem nw_G.sh {h o i a : Nat} {w : List (Nat × Nat)} {q : Nat × Nat} (g : nw_G S I P h o w i S' I' P') (hs : am_sh S a q) : am_sh S' a q := by
  rw [g.1]
  exact am_sh_app hs
theorem nw_G_s {h o i : Nat} {w : List (Nat × Nat)} {q : Nat × Nat} (hS : S.length = h + 1) (hi : w[i]? = some q) (g : nw_G S I P h o w i S' I' P') : nw_G S I P h o w (i + 1) (S' ++ [q]) (am_row I' S'.length (fun _ => 0)) (am_u (am_row P' S'.length (fun _ => none)) h (o + i) (some S'.length)) := by
  obtain ⟨g1, g2, g3, g4, g5, g6, g7⟩ := g
  have hw : i < w.length := (List.getElem?_eq_some_iff.mp hi).1
  have hl : S'.length = h + 1 + i := by
    rw [g1, List.length_append, List.length_take, hS, Nat.min_eq_left (by omega)]
  rw [hl]
  refine ⟨?_, fun a ha => ?_, fun j hj => ?_, fun a ha => ?_, fun k hk => ?_, fun j hj => ?_, fun j hj => ?_⟩
  · rw [g1, List.append_assoc, List.take_succ, hi]
    rfl
  · rw [am_row_ne (by omega)]
    exact g2 a ha
  · by_cases z : j = i
    · rw [z, am_row_self]
    · rw [am_row_ne (by omega)]
      exact g3 j (by omega)
  · rw [am_u_ne (by omega), am_row_ne (by omega)]
    exact g4 a ha
  · rw [am_u_at (by omega), am_row_ne (by omega)]
    exact g5 k (by omega)
  · by_cases z : j = i
    · rw [z, am_u_self]
    · rw [am_u_at (by omega), am_row_ne (by omega)]
      exact g6 j (by omega)
  · by_cases z : j = i
    · rw [z, am_u_ne (by omega), am_row_self]
    · rw [am_u_ne (by omega), am_row_ne (by omega)]
      exact g7 j (by omega)
theorem nw_G_u {h o i : Nat} {w : List (Nat × Nat)} {q : Nat × Nat} {mi pc dd : Nat} {lv : List (Nat × Value)} {st : List Value} (hS : S.length = h + 1) (hi : w[i]? = some q) (g : nw_G S I P h o w i S' I' P') (k : ∀ S2 I2 J2 P2, nw_G S I P h o w (i + 1) S2 I2 P2 → am_wp pr dd mi pc lv st (S2, I2, J2, P2) Q) : am_wp pr dd mi pc lv st (S' ++ [q], am_row I' S'.length (fun _ => 0), J', am_u (am_row P' S'.length (fun _ => none)) h (o + i) (some S'.length)) Q := k _ _ _ _ (nw_G_s hS hi g)
/-- House: made -/
theorem c1 {h : Nat} (hS : S.length = h + 1) (hs : am_sh S h (0, 13)) (k : ∀ I' J' P', (∀ a, a < h → I' a = I a) → (∀ j, j ≠ 4 → I' h j = I h j) → I' h 4 = -1 → (∀ j, j < 7 → ∀ i, I' (h + 1 + j) i = if j = 3 ∧ i = 1 then 1 else 0) → (∀ a, a < h → P' a = P a) → am_Hs (S ++ am_hq) P' h → (∀ j, j < 7 → ∀ i, P' (h + 1 + j) i = none) → Q none (S ++ am_hq, I', J', P')) : am_ev pr (d + 1) 1 [.ref h] (S, I, J, P) Q := by
  show am_wp pr (d + 1) 1 0 [(0, .ref h)] [] _ _
  have g0 : nw_G S I P h 6 am_hq 0 S I P := nw_G_0
  refine w1_0 rfl ?_
  refine w1_1 ?_
  refine w1_4 rfl ?_
  refine w1_5 ?_
  refine w1_7 ⟨by decide, by decide⟩ ?_
  refine w1_9 ?_ (am_sh_app (g0.sh hs))
  refine nw_G_u (q := (20, 7)) hS rfl g0 (fun S1 I1 J1 P1 g1 => ?_)
  refine w1_12 rfl ?_
  refine w1_13 ?_
  refine w1_15 ⟨by decide, by decide⟩ ?_
  refine w1_17 ?_ (am_sh_app (g1.sh hs))
  refine nw_G_u (q := (20, 7)) hS rfl g1 (fun S2 I2 J2 P2 g2 => ?_)
  refine w1_20 rfl ?_
  refine w1_21 ?_
  refine w1_23 ⟨by decide, by decide⟩ ?_
  refine w1_25 ?_ (am_sh_app (g2.sh hs))
  refine nw_G_u (q := (20, 35)) hS rfl g2 (fun S3 I3 J3 P3 g3 => ?_)
  refine w1_28 rfl ?_
  refine w1_29 ?_
  refine w1_32S (by decide) rfl (by decide) ?_
  refine w1_33 ⟨by decide, by decide⟩ ?_
  refine w1_35 ?_ (am_sh_app (g3.sh hs))
  refine nw_G_u (q := (20, 4)) hS rfl g3 (fun S4 I4 J4 P4 g4 => ?_)
  refine w1_38 rfl ?_
  refine w1_39 ?_
  refine w1_41 ⟨by decide, by decide⟩ ?_
  refine w1_44 ?_ (am_sh_app (g4.sh hs))
  refine nw_G_u (q := (25, 6)) hS rfl g4 (fun S5 I5 J5 P5 g5 => ?_)
  refine w1_47 rfl ?_
  refine w1_48 ?_
  refine w1_50 ⟨by decide, by decide⟩ ?_
  refine w1_52 ?_ (am_sh_app (g5.sh hs))
  refine nw_G_u (q := (20, 6)) hS rfl g5 (fun S6 I6 J6 P6 g6 => ?_)
  refine w1_55 rfl ?_
  refine w1_56 ?_
  refine w1_58 ⟨by decide, by decide⟩ ?_
  refine w1_60 ?_ (am_sh_app (g6.sh hs))
  refine nw_G_u (q := (20, 6)) hS rfl g6 (fun S7 I7 J7 P7 g7 => ?_)
  obtain ⟨x1, x2, x3, x4, x5, x6, x7⟩ := g7
  rw [show am_hq.take (6 + 1) = am_hq from rfl] at x1
  subst x1
  have h64 : 64 ≤ h := hs.1
  have hs7 : am_sh (S ++ am_hq) h (0, 13) := am_sh_app hs
  have hH : am_Hs (S ++ am_hq) P7 h := by
    refine ⟨hs7, fun j hj => x6 j (by omega), fun j q hq => ⟨by omega, ?_⟩⟩
    rw [List.getElem?_append_right (by omega), hS, show h + 1 + j - (h + 1) = j by omega]
    exact hq
  refine w1_63 rfl ?_
  refine w1_64 ?_
  refine w1_65 ?_
  refine w1_68 rfl ?_
  refine w1_69 (hH.2.1 3 (by decide)) ?_
  refine w1_72 ?_
  refine w1_73 ?_
  refine w1_74 (hH.sh (k := 3) rfl) (by decide) ?_
  refine w1_75 ?_
  refine k _ _ _ (fun a ha => ?_) (fun j hj => ?_) ?_ (fun j hj i => ?_) x4 hH (fun j hj i => ?_)
  · rw [am_u_ne (by omega), am_u_ne (by omega)]
    exact x2 a (by omega)
  · rw [am_u_ne (by omega), am_u_at hj, x2 h (by omega)]
  · rw [am_u_ne (by omega), am_u_self]
  · by_cases z : j = 3 ∧ i = 1
    · rw [if_pos z, z.1, z.2]
      exact am_u_self
    · rw [if_neg z, am_u_get, if_neg (fun q => z ⟨by omega, q.2⟩), am_u_ne (by omega), x3 j (by omega)]
  · rw [x7 j (by omega)]
/-- all but the image q as it must be; the image's house lies at h -/
def am_RX (S : List (Nat × Nat)) (I : Nat → Nat → Int32) (P : Nat → Nat → Option Nat) (n l s u tp q h : Nat) : Prop :=
  (∀ c, c ≠ 4 → am_Rf S I P n l s u tp c) ∧ (∀ p, p < 2 → p ≠ q → am_IM S I P p) ∧ P 89 q = some h ∧ 149 ≤ h ∧ h + 7 < S.length ∧ am_Hs S P h ∧ am_LS S P (P (h + 1 + 4))
theorem am_ptr_lt {a k b : Nat} (h : am_ptr a k = some b) : a < 149 ∧ a ≠ 89 := by
  refine ⟨?_, ?_⟩
  · refine Nat.lt_of_not_le (fun z => ?_)
    unfold am_ptr at h
    rw [if_neg (by omega), List.getElem?_eq_none (show am_pts.length ≤ a - 64 from by rw [show am_pts.length = 85 from rfl]; omega)] at h
    cases h
  · rintro rfl
    exact absurd h (by unfold am_ptr; simp [am_pts])
theorem am_Lay.len (L : am_Lay S P) : 149 ≤ S.length := am_sh_lt (L.sh (a := 148) (q := (20, 44)) rfl)
theorem am_Lay_gr {W : List (Nat × Nat)} (L : am_Lay S P) (e : ∀ a, a < 149 → a ≠ 89 → P' a = P a) : am_Lay (S ++ W) P' := by
  refine ⟨fun a q h => (am_sh_app (W := W) (L.sh h)).2, fun a k b h => ?_⟩
  obtain ⟨h1, h2⟩ := am_ptr_lt h
  rw [e a h1 h2]
  exact L.2 a k b h
theorem am_TI_gr {W : List (Nat × Nat)} {t : Nat} {xs : List Cl} (h6 : t + 6 < S.length) (eI : ∀ a, a < S.length → I' a = I a) (eP : P' t = P t) (r : am_TI S I P t xs) : am_TI (S ++ W) I' P' t xs := am_TI_cg (fun _ _ z => am_sh_app z) eP (fun a _ h2 => eI a (by omega)) r
theorem am_LW_gr {W : List (Nat × Nat)} {p : Nat → Option Nat} (eI : ∀ a, a < S.length → I' a = I a) (eP : ∀ a, 149 ≤ a → a < S.length → P' a = P a) (ls : am_LS S P p) (r : am_LW S I P p kp l) : am_LW (S ++ W) I' P' p kp l := by
  intro i hi
  obtain ⟨t, xs, h1, h2, h3, h4⟩ := r i hi
  have h6 := (ls i t h1).2.1
  exact ⟨t, xs, h1, h2, am_TI_gr h6 eI (eP t h2 (by omega)) h3, h4⟩
theorem am_LS_gr {W : List (Nat × Nat)} {p : Nat → Option Nat} {q : Nat} (eP : ∀ p, p ≠ q → P' 89 p = P 89 p) (e : P' 89 q = some S.length) (ls : am_LS S P p) : am_LS (S ++ W) P' p := by
  intro i t h
  obtain ⟨h1, h2, h3⟩ := ls i t h
  refine ⟨am_sh_app h1, by rw [List.length_append]; omega, fun q' h' hq' hh' => ?_⟩
  by_cases z : q' = q
  · rw [z, e] at hh'
    cases hh'
    exact Or.inl h2
  · rw [eP q' z] at hh'
    exact h3 q' h' hq' hh'
theorem am_Hs_gr {W : List (Nat × Nat)} {h : Nat} (e : P' h = P h) (hh : am_Hs S P h) : am_Hs (S ++ W) P' h := ⟨am_sh_app hh.1, fun k hk => by rw [e]; exact hh.2.1 k hk, fun k q hq => am_sh_app (hh.2.2 k q hq)⟩
/-- a new house for the image q -/
theorem am_RX_new {W : List (Nat × Nat)} {q : Nat} (hq : q < 2) (r : am_R S I P n l s u tp) (hW : 7 < W.length) (eI : ∀ a, a < S.length → I' a = I a) (eP : ∀ a, a < S.length → a ≠ 89 → P' a = P a) (eQ : ∀ p, p ≠ q → P' 89 p = P 89 p) (e : P' 89 q = some S.length) (hh : am_Hs (S ++ W) P' S.length) (h4 : ∀ i, P' (S.length + 1 + 4) i = none) : am_RX (S ++ W) I' P' n l s u tp q S.length := by
  have hL := r.L.len
  have eP' : ∀ a, 149 ≤ a → a < S.length → P' a = P a := fun a h1 h2 => eP a h2 (by omega)
  have L' : am_Lay (S ++ W) P' := am_Lay_gr r.L (fun a h1 h2 => eP a (by omega) h2)
  have e70 : P' 70 = P 70 := eP 70 (by omega) (by decide)
  have e126 : I' 126 = I 126 := eI 126 (by omega)
  refine ⟨fun c hc => ?_, fun p hp hpq => ?_, e, hL, by rw [List.length_append]; omega, hh, fun i t z => ?_⟩
  · match c, hc with
    | 0, _ => exact L'
    | 1, _ => exact am_HR_cg 65 (fun a h1 h2 => eI a (by omega)) e126 (r 1)
    | 2, _ =>
      show am_LW (S ++ W) I' P' (P' 70) (I' 126) l
      rw [e126, e70]
      exact am_LW_gr eI eP' (r 3) (r 2)
    | 3, _ =>
      show am_LS (S ++ W) P' (P' 70)
      rw [e70]
      exact am_LS_gr eQ e (r 3)
    | 5, _ =>
      intro h0 h1 z0 z1
      have im : ∀ p h', p < 2 → p ≠ q → P' 89 p = some h' → h' + 7 < S.length := by
        intro p h' hp hpq hh'
        rw [eQ p hpq] at hh'
        rcases (r 4 : ∀ q, q < 2 → am_IM S I P q) p hp with ⟨_, y⟩ | ⟨_, h2, _, _, _, y1, _, y3, _⟩
        · rw [y] at hh'; cases hh'
        · rw [y1] at hh'; cases hh'; exact y3
      rcases (show q = 0 ∨ q = 1 by omega) with rfl | rfl
      · rw [e] at z0
        cases z0
        have := im 1 h1 (by decide) (by decide) z1
        omega
      · rw [e] at z1
        cases z1
        have := im 0 h0 (by decide) (by decide) z0
        omega
    | 6, _ =>
      show u ≤ 16 ∧ I' 90 0 = nI u ∧ I' 124 35 = nI u ∧ am_PA (I' 91) (I' 141) (I' 126) n u
      rw [eI 90 (by omega), eI 124 (by omega), eI 91 (by omega), eI 141 (by omega), e126]
      exact r 6
    | 7, _ =>
      show tp ≤ 400 ∧ I' 94 0 = nI tp ∧ I' 124 13 = nI tp ∧ ∀ k, k < tp → (I' 95 k = I' 131 k &&& 255 ∧ (I' 131 k).toInt8.toInt32 = I' 131 k)
      rw [eI 94 (by omega), eI 124 (by omega), eI 95 (by omega), eI 131 (by omega)]
      exact r 7
    | 8, _ =>
      show I' 96 3 = I' 124 14 ∧ I' 64 13 = I' 124 40 ∧ I' 64 14 = I' 124 6 ∧ I' 64 16 = I' 124 0
      rw [eI 96 (by omega), eI 124 (by omega), eI 64 (by omega)]
      exact r 8
    | 9, _ =>
      show ∀ k, k < 7 → I' 123 k = I' 125 k
      rw [eI 123 (by omega), eI 125 (by omega)]
      exact r 9
    | 10, _ =>
      show am_DR (I' 81) (I' 84) (I' 148) (I' 124 48)
      rw [eI 81 (by omega), eI 84 (by omega), eI 148 (by omega), eI 124 (by omega)]
      exact r 10
    | 11, _ =>
      show ∀ k x, am_wds[k]? = some x → I' 130 k = nI x
      rw [eI 130 (by omega)]
      exact r 11
    | c + 12, _ => exact trivial
  · unfold am_IM
    rw [eQ p hpq, eI 128 (by omega), eI 127 (by omega)]
    rcases (r 4 : ∀ q, q < 2 → am_IM S I P q) p hp with y | ⟨y, h', n2, l2, s2, y1, y2, y3, y4, y5, y6, y7⟩
    · exact Or.inl y
    · refine Or.inr ⟨y, h', n2, l2, s2, y1, y2, by rw [List.length_append]; omega, am_Hs_gr (eP' h' y2 (by omega)) y4, am_HR_cg h' (fun a b1 b2 => eI a (by omega)) rfl y5, ?_, ?_⟩
      · rw [eP' (h' + 1 + 4) (by omega) (by omega)]
        exact am_LW_gr eI eP' y7 y6
      · rw [eP' (h' + 1 + 4) (by omega) (by omega)]
        exact am_LS_gr eQ e y7
  · rw [h4 i] at z
    cases z
end
