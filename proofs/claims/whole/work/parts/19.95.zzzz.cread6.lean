/-! the class reads: whole texts -/
section
variable {pr : am_Pr} {S : List (Nat × Nat)} {I I0 I1 I2 I' : Nat → Nat → Int32} {J : Nat → Nat → Int64} {P : Nat → Nat → Option Nat} {Q : Option Value → am_H → Prop} {T : Tk} {N i lv z z0 z1 d f c m t : Nat} {C V : Nat → Int32} {pl : Nat → Nat} {kd : Int32} {es : List Ex}
/-- Text: clear -/
theorem c69 (L : am_Lay S P) (k : ∀ I', (∀ a, a ≠ 101 → a ≠ 103 → a ≠ 104 → a ≠ 105 → I' a = I a) → I' 101 0 = 0 → I' 101 1 = 0 → I' 101 2 = 0 → (∀ j, j < 12 → I' 103 j = 1 ∧ I' 105 j = -1) → (∀ j, j < 36 → I' 104 j = -1) → Q none (S, I', J, P)) : am_ev pr d 69 [.ref 101] (S, I, J, P) Q := by
  show am_wp pr d 69 0 [(0, .ref 101)] [] _ _
  refine w69_0 rfl ?_
  refine w69_1 ?_
  refine w69_2 ?_
  refine w69_5 rfl ?_
  refine w69_6 ?_
  refine w69_7 ?_
  refine w69_10 rfl ?_
  refine w69_11 ?_
  refine w69_12 ?_
  refine w69_15 ?_
  refine w69_16 ?_
  refine am_for (fun b => ∀ I' : Nat → Nat → Int32, (∀ a, a ≠ 103 → a ≠ 105 → I' a = am_u (am_u (am_u I 101 0 0) 101 1 0) 101 2 0 a) → (∀ j, j < b → I' 103 j = 1 ∧ I' 105 j = -1) → ∀ lvv, am_ld1 lvv 0 = some (.ref 101) → am_ld1 lvv 1 = some (.int (nI b)) → am_wp pr (d) 69 17 lvv [] (S, I', J, P) Q) 12 ?_ ?_ _ (fun _ _ _ => rfl) (fun j hj => absurd hj (Nat.not_lt_zero j)) _ rfl rfl
  · intro b hb ih I' f1 f2 lvv l0 l1
    refine w69_17 l1 ?_
    refine w69_18 ?_
    refine w69_20 (fun hQ => absurd hQ (am_nlt (n := 12) hb (by decide))) (fun _ => ?_)
    refine w69_23 l0 ?_
    refine w69_24 (L.2 _ _ _ rfl) ?_
    refine w69_27 l1 ?_
    refine w69_28 ?_
    refine w69_29 (L.sh rfl) (am_in_nI hb (by decide)) ?_
    rw [am_clN (by omega)]
    refine w69_30 l0 ?_
    refine w69_31 (L.2 _ _ _ rfl) ?_
    refine w69_34 l1 ?_
    refine w69_35 ?_
    refine w69_36 (L.sh rfl) (am_in_nI hb (by decide)) ?_
    rw [am_clN (by omega)]
    refine w69_37 l1 ?_
    refine w69_40 ?_
    refine ih _ (fun a a1 a2 => by rw [am_u_ne a2, am_u_ne a1]; exact f1 a a1 a2) (fun j hj => ?_) _ l0 (am_nx b)
    by_cases q : j = b
    · subst q
      exact ⟨by rw [am_u_ne (by decide), am_u_self], am_u_self⟩
    · have w := f2 j (by omega)
      exact ⟨by rw [am_u_ne (by decide), am_u_at q]; exact w.1, by rw [am_u_at q, am_u_ne (by decide)]; exact w.2⟩
  · intro I1 f1 f2 lvv l0 l1
    refine w69_17 l1 ?_
    refine w69_18 ?_
    refine w69_20 (fun _ => ?_) (fun hQ => absurd (Int32.le_refl _) hQ)
    refine w69_43 ?_
    refine w69_44 ?_
    refine am_for (fun b => ∀ I' : Nat → Nat → Int32, (∀ a, a ≠ 104 → I' a = I1 a) → (∀ j, j < b → I' 104 j = -1) → ∀ lvv, am_ld1 lvv 0 = some (.ref 101) → am_ld1 lvv 1 = some (.int (nI b)) → am_wp pr (d) 69 45 lvv [] (S, I', J, P) Q) 36 ?_ ?_ I1 (fun _ _ => rfl) (fun j hj => absurd hj (Nat.not_lt_zero j)) _ l0 rfl
    · intro b hb ih I' g1 g2 lvv l0 l1
      refine w69_45 l1 ?_
      refine w69_46 ?_
      refine w69_48 (fun hQ => absurd hQ (am_nlt (n := 36) hb (by decide))) (fun _ => ?_)
      refine w69_51 l0 ?_
      refine w69_52 (L.2 _ _ _ rfl) ?_
      refine w69_55 l1 ?_
      refine w69_56 ?_
      refine w69_57 (L.sh rfl) (am_in_nI hb (by decide)) ?_
      rw [am_clN (by omega)]
      refine w69_58 l1 ?_
      refine w69_61 ?_
      refine ih _ (fun a a1 => by rw [am_u_ne a1]; exact g1 a a1) (fun j hj => ?_) _ l0 (am_nx b)
      by_cases q : j = b
      · subst q
        exact am_u_self
      · rw [am_u_at q]
        exact g2 j (by omega)
    · intro I' g1 g2 lvv l0 l1
      have e101 : I' 101 = am_u (am_u (am_u I 101 0 0) 101 1 0) 101 2 0 101 := by rw [g1 101 (by decide), f1 101 (by decide) (by decide)]
      refine w69_45 l1 ?_
      refine w69_46 ?_
      refine w69_48 (fun _ => ?_) (fun hQ => absurd (Int32.le_refl _) hQ)
      refine w69_64 ?_
      refine k I' (fun a a1 a2 a3 a4 => ?_) ?_ ?_ ?_ (fun j hj => ?_) g2
      · rw [g1 a a3, f1 a a2 a4, am_u_ne a1, am_u_ne a1, am_u_ne a1]
      · rw [e101, am_u_at (by decide), am_u_at (by decide), am_u_self]
      · rw [e101, am_u_at (by decide), am_u_self]
      · rw [e101, am_u_self]
      · rw [g1 103 (by decide), g1 105 (by decide)]
        exact f2 j hj
/-- take, of the end -/
theorem c72e (E : q_E S I P T N C V pl) (A : q_A C V pl I i lv z) (hi : i ≤ N) (k1 : i = N → Q (some (.int 1)) (S, I, J, P)) (k0 : i < N → Q (some (.int 0)) (S, I, J, P)) : am_ev pr (d + 1) 72 [.ref 96, .int 257] (S, I, J, P) Q := by
  have L := E.1
  have m := E.2.2.1.2.1 i
  show am_wp pr (d + 1) 72 0 [(0, .ref 96), (1, .int 257)] [] _ _
  by_cases q : i = N
  · have hC : C i = 257 := m.mpr (by omega)
    have hn : I 96 4 = nI (N + 1) := by rw [A.1, q]
    refine w72_0 rfl ?_
    refine w72_1 ?_
    rw [A.2.1]
    refine w72_4 rfl ?_
    refine w72_5 (fun _ => ?_) (fun hQ => absurd hC hQ)
    refine w72_10 rfl ?_
    refine w72_11 (k := c70e E hn ?_)
    refine w72_14 ?_
    refine w72_15 (by first | rfl | exact am_narrow_b _) ?_
    exact k1 q
  · have hC : ¬ C i = 257 := fun w => q (by have := m.mp w; omega)
    refine w72_0 rfl ?_
    refine w72_1 ?_
    rw [A.2.1]
    refine w72_4 rfl ?_
    refine w72_5 (fun hQ => absurd hQ hC) (fun _ => ?_)
    refine w72_8 ?_
    refine w72_9 (by first | rfl | exact am_narrow_b _) ?_
    exact k0 (by omega)
/-- clauses read so far -/
def q_X (I : Nat → Nat → Int32) (z c : Nat) (xs : List Cl) : Prop := xs.length = c ∧ (∀ (q : Nat) (x : Cl), xs[q]? = some x → am_TC (I 102) (I 103) (I 104) (I 105) (I 106) (I 107) z q x ∧ k_DC (I 101 2) x ∧ x.2.1.length ≤ 3) ∧ (∀ q, c ≤ q → q < 12 → I 103 q = 1 ∧ I 105 q = -1) ∧ ∀ q, c * 3 ≤ q → q < 36 → I 104 q = -1
theorem am_TC_L {q : Nat} {x : Cl} (h : q_L c I I' z) (hq : q < c) (hz : z ≤ z1) (h3 : x.2.1.length ≤ 3) (k : am_TC (I 102) (I 103) (I 104) (I 105) (I 106) (I 107) z q x) : am_TC (I' 102) (I' 103) (I' 104) (I' 105) (I' 106) (I' 107) z1 q x := by
  obtain ⟨a1, a2, a3, a4, a5, a6⟩ := k
  obtain ⟨-, -, -, b4, b5, b6⟩ := h
  obtain ⟨c1, c2, c3⟩ := b4 q (by omega)
  have one : [((0 : Nat), (0 : Int32))].length = 1 := rfl
  refine ⟨c1.trans a1, c2.trans a2, fun j e hj => ?_, fun j j1 j2 => ?_, fun t ht => ?_, fun ht => c3.trans (a6 ht)⟩
  · obtain ⟨p, p1, p2, p3⟩ := a3 j e hj
    have hj3 : j < x.2.1.length := (List.getElem?_eq_some_iff.mp hj).1
    exact ⟨p, (b5 _ (by omega)).trans p1, by omega, k_at_cg (fun k k1 k2 => b6 k (by rw [List.length_append, one] at k2; omega)) p3⟩
  · exact (b5 _ (by omega)).trans (a4 j j1 j2)
  · obtain ⟨p, p1, p2, p3⟩ := a5 t ht
    exact ⟨p, c3.trans p1, by omega, k_at_cg (fun k k1 k2 => b6 k (by rw [List.length_append, one] at k2; omega)) p3⟩
theorem q_X_C {x : Cl} {xs : List Cl} (X : q_X I z c xs) (h : q_C c z I I' z1 x) (h3 : x.2.1.length ≤ 3) : q_X I' z1 (c + 1) (xs ++ [x]) := by
  obtain ⟨x1, x2, x3, x4⟩ := X
  obtain ⟨hL, hz, hT, hD⟩ := h
  refine ⟨by rw [List.length_append, x1]; rfl, fun q y hq => ?_, fun q q1 q2 => ?_, fun q q1 q2 => ?_⟩
  · rcases Nat.lt_or_ge q xs.length with w | w
    · rw [List.getElem?_append_left w] at hq
      obtain ⟨y1, y2, y3⟩ := x2 q y hq
      exact ⟨am_TC_L hL (by omega) hz y3 y1, ⟨fun j e he => k_DX_mo hL.2.2.1 (y2.1 j e he), fun t ht => k_DT_mo hL.2.2.1 (y2.2 t ht)⟩, y3⟩
    · have w2 : q = xs.length := by
        have := (List.getElem?_eq_some_iff.mp hq).1
        rw [List.length_append] at this
        have : [x].length = 1 := rfl
        omega
      rw [w2, List.getElem?_append_right (Nat.le_refl _), Nat.sub_self] at hq
      cases hq
      rw [w2, x1]
      exact ⟨hT, hD, h3⟩
  · obtain ⟨-, c2, c3⟩ := hL.2.2.2.1 q (by omega)
    rw [c2, c3]
    exact x3 q (by omega) q2
  · rw [hL.2.2.2.2.1 q (by omega)]
    exact x4 q (by omega) q2
theorem q_X_0 {xs : List Cl} {v : Int32} (X : q_X I z c xs) : q_X (am_u I 101 0 v) z c xs := by
  obtain ⟨x1, x2, x3, x4⟩ := X
  unfold q_X
  rw [am_u_ne (show (102 : Nat) ≠ 101 by decide), am_u_ne (show (103 : Nat) ≠ 101 by decide), am_u_ne (show (104 : Nat) ≠ 101 by decide), am_u_ne (show (105 : Nat) ≠ 101 by decide), am_u_ne (show (106 : Nat) ≠ 101 by decide), am_u_ne (show (107 : Nat) ≠ 101 by decide), am_u_at (show (2 : Nat) ≠ 0 by decide)]
  exact ⟨x1, x2, x3, x4⟩
theorem p_cl_3 {x : Cl} {j lv' : Nat} (h : p_cl T f i lv = pOk x j lv') : x.2.1.length ≤ 3 := by
  obtain ⟨hd, j1, l1, h1, h2⟩ := pBind_ok h
  obtain ⟨t, j2, l2, h3, h4⟩ := pBind_ok h2
  obtain ⟨te, j3, l3, h5, h6⟩ := pBind_ok h4
  obtain ⟨rfl, -, -⟩ := pOk_inj h6
  show hd.2.length ≤ 3
  have one : ∀ k : Nat, pMap (fun a => (k, [a])) (p_sum T f 0 (i + 1) lv) = pOk hd j1 l1 → hd.2.length ≤ 3 := by
    intro k hk
    obtain ⟨a, -, rfl⟩ := pMap_ok hk
    show 1 ≤ 3
    omega
  unfold p_head at h1
  split at h1
  · split at h1
    · obtain ⟨a, ja, la, y1, y2⟩ := pBind_ok h1
      obtain ⟨b, jb, lb, y3, y4⟩ := pBind_ok y2
      obtain ⟨c, jc, lc, y5, y6⟩ := pBind_ok y4
      obtain ⟨rfl, -, -⟩ := pOk_inj y6
      show 3 ≤ 3
      omega
    · split at h1
      · exact one _ h1
      · split at h1
        · exact one _ h1
        · split at h1
          · obtain ⟨rfl, -, -⟩ := pOk_inj h1
            show 0 ≤ 3
            omega
          · exact (pBad_no h1).elim
  · split at h1
    · exact one _ h1
    · split at h1
      · exact one _ h1
      · split at h1
        · obtain ⟨rfl, -, -⟩ := pOk_inj h1
          show 0 ≤ 3
          omega
        · exact (pBad_no h1).elim
/-- the loop over clauses -/
theorem c49l : ∀ (r c i lv z : Nat) (xs : List Cl) (I1 : Nat → Nat → Int32) (R : (List Cl × Nat × Nat) ⊕ Nat), c + r = 12 → p_list T N f r i lv = some R → i ≤ N → lv ≤ 50 → z ≤ i + 4 * c → q_E S I1 P T N C V pl → q_A C V pl I1 i lv z → q_X I1 z c xs → I1 96 3 = -1 → q_W I0 I1 → (∀ ys lv' z' I', R = .inl (ys, N, lv') → q_W I0 I' → I' 96 3 = -1 → I' 101 0 = nI (xs ++ ys).length → I' 101 1 = nI z' → z' ≤ 480 → q_X I' z' (xs ++ ys).length (xs ++ ys) → (xs ++ ys).length ≤ 12 → Q (some (.int 1)) (S, I', J, P)) → (∀ j I', R = .inr j → j ≤ N → q_W I0 I' → I' 96 3 = nI (pl j) → Q (some (.int 0)) (S, I', J, P)) → ∀ lvv, am_ld1 lvv 0 = some (.ref 96) → am_ld1 lvv 3 = some (.int (nI c)) → am_wp pr (d + 44) 49 46 lvv [] (S, I1, J, P) Q := by
  intro r
  induction r with
  | zero =>
    intro c i lv z xs I1 R hc hR hi hl hz E A X h3 W kg kb lvv l0 l3
    have L := E.1
    have e : c = 12 := by omega
    refine w49_46 l3 ?_
    refine w49_47 ?_
    refine w49_49 (fun _ => ?_) (fun hQ => absurd (by rw [e]; exact Int32.le_refl _) hQ)
    refine w49_122 l0 ?_
    refine w49_123 (k := c74 L A.2.2.2.1 ?_)
    refine w49_126 (by first | rfl | exact am_narrow_b _) ?_
    exact kb i _ (Option.some.inj hR).symm hi (W.tr q_F_3.W) am_u_self
  | succ r ih =>
    intro c i lv z xs I1 R hc hR hi hl hz E A X h3 W kg kb lvv l0 l3
    have L := E.1
    have hN4 := E.2.1
    have tr := E.2.2.1
    have h0 := tr.1
    have ho := E.2.2.2.2.2
    have H : q_H c z I1 I1 z (I1 102 c) [] 1 := by
      obtain ⟨x1, x2, x3, x4⟩ := X
      obtain ⟨y1, y2⟩ := x3 c (Nat.le_refl c) (by omega)
      exact ⟨q_L_0, Nat.le_refl z, rfl, y1, y2, fun j e hj => (by cases hj), fun j _ hj => x4 _ (by omega) (by omega)⟩
    rw [p_list_eq] at hR
    /- behind the clause -/
    have k80 : ∀ x j lv' z' I2, p_next T N f r x j lv' = some R → p_cl T f i lv = pOk x j lv' → q_C c z I1 I2 z' x → q_A C V pl I2 j lv' z' → z' ≤ j + (4 * c + 4) → ∀ lvv, am_ld1 lvv 0 = some (.ref 96) → am_ld1 lvv 3 = some (.int (nI c)) → am_wp pr (d + 44) 49 80 lvv [] (S, I2, J, P) Q := by
      intro x j lv' z' I2 hn hcl hC A2 hz' lvv l0 l3
      obtain ⟨cl1, cl2, cl3⟩ := p_cl_le h0 hcl
      have E2 := E.L hC.1
      have A3 : q_A C V pl (am_u I2 101 0 (nI (c + 1))) j lv' z' := by
        obtain ⟨a1, a2, a3, a4, a5, a6⟩ := A2
        unfold q_A
        rw [am_u_ne (show (96 : Nat) ≠ 101 by decide), am_u_at (show (1 : Nat) ≠ 0 by decide)]
        exact ⟨a1, a2, a3, a4, a5, a6⟩
      have E3 : q_E S (am_u I2 101 0 (nI (c + 1))) P T N C V pl := by
        obtain ⟨h1, h2, h3, h4, h5, h6⟩ := E2
        refine ⟨h1, h2, h3, ?_, fun i hi => ?_, ?_⟩
        · rw [am_u_ne (by decide)]; exact h4
        · rw [am_u_ne (by decide), am_u_ne (by decide), am_u_ne (by decide)]; exact h5 i hi
        · rw [am_u_ne (by decide)]; exact h6
      have X3 : q_X (am_u I2 101 0 (nI (c + 1))) z' (c + 1) (xs ++ [x]) := q_X_0 (q_X_C X hC (p_cl_3 hcl))
      have W3 : q_W I0 (am_u I2 101 0 (nI (c + 1))) := W.tr (hC.1.W.tr (fun a _ a2 => am_u_ne (by omega)))
      have h33 : am_u I2 101 0 (nI (c + 1)) 96 3 = -1 := by rw [am_u_ne (by decide), hC.1.2.1.2.1]; exact h3
      refine w49_80 l0 ?_
      refine w49_81 (L.2 _ _ _ rfl) ?_
      refine w49_84 l3 ?_
      refine w49_85 ?_
      refine w49_86 ?_
      rw [nI_1]
      refine w49_87 ?_
      refine w49_90 l0 ?_
      refine w49_91 ?_
      generalize hI3 : am_u I2 101 0 (nI (c + 1)) = I3 at *
      have e0 : I3 101 0 = nI (c + 1) := by rw [← hI3, am_u_self]
      unfold p_next at hn
      refine w49_94 (k := c72e E3 A3 cl2 (fun q => ?_) (fun q => ?_))
      · rw [if_pos q] at hn
        have hl1 := X3.1
        subst q
        refine w49_97 (fun hQ => absurd hQ (by decide)) (fun _ => ?_)
        refine w49_100 ?_
        refine w49_101 (by first | rfl | exact am_narrow_b _) ?_
        exact kg [x] lv' z' I3 (Option.some.inj hn).symm W3 h33 (by rw [hl1]; exact e0) A3.2.2.2.2.2 (by omega) (by rw [hl1]; exact X3) (by rw [hl1]; omega)
      · rw [if_neg (by omega)] at hn
        refine w49_97 (fun _ => ?_) (fun w => absurd rfl w)
        refine w49_102 l0 ?_
        refine w49_103 ?_
        refine w49_105 (k := c72 (x := 59) (y := 159) E3 A3 (by decide) (fun y hj2 I4 s4 A4 => ?_) (fun y => ?_))
        · rw [if_pos (show T.1 j = 159 from y)] at hn
          have hne : p_list T N f r (j + 1) lv' ≠ none := fun w => by rw [w] at hn; cases hn
          obtain ⟨R2, h2⟩ := Option.ne_none_iff_exists'.mp hne
          rw [h2] at hn
          have X4 : q_X I4 z' (c + 1) (xs ++ [x]) := by
            unfold q_X
            rw [s4.1 101 (by decide), s4.1 102 (by decide), s4.1 103 (by decide), s4.1 104 (by decide), s4.1 105 (by decide), s4.1 106 (by decide), s4.1 107 (by decide)]
            exact X3
          refine w49_108 (fun _ => ?_) (fun w => absurd (by decide) w)
          refine w49_116 l3 ?_
          refine w49_119 ?_
          refine ih (c + 1) (j + 1) lv' z' (xs ++ [x]) I4 R2 (by omega) h2 hj2 (cl3 hl) (by omega) (E3.F s4.F) A4 X4 (by rw [s4.2.2]; exact h33) (W3.tr s4.F.W) (fun ys lw z2 I' hR2 W' h3' h0' h1' hz2 X' hl' => ?_) (fun j2 I' hR2 hj W' h3' => ?_) _ l0 (am_nx c)
          · rw [hR2] at hn
            have e2 : xs ++ [x] ++ ys = xs ++ (x :: ys) := by rw [List.append_assoc]; rfl
            rw [e2] at h0' X' hl'
            exact kg (x :: ys) lw z2 I' (Option.some.inj hn).symm W' h3' h0' h1' hz2 X' hl'
          · rw [hR2] at hn
            exact kb j2 I' (Option.some.inj hn).symm hj W' h3'
        · rw [if_neg (show ¬ T.1 j = 159 from y)] at hn
          refine w49_108 (fun w => absurd rfl w) (fun _ => ?_)
          refine w49_111 l0 ?_
          refine w49_112 (k := c74 L A3.2.2.2.1 ?_)
          refine w49_115 (by first | rfl | exact am_narrow_b _) ?_
          exact kb j _ (Option.some.inj hn).symm cl2 (W3.tr q_F_3.W) am_u_self
    have hne : p_cl T f i lv ≠ none := fun w => by rw [w] at hR; cases hR
    obtain ⟨R1, h1⟩ := Option.ne_none_iff_exists'.mp hne
    have kg1 : ∀ x j lv' z' I2, R1 = .inl (x, j, lv') → q_C c z I1 I2 z' x → q_A C V pl I2 j lv' z' → z' ≤ j + (4 * c + 4) → ∀ lvv, am_ld1 lvv 0 = some (.ref 96) → am_ld1 lvv 3 = some (.int (nI c)) → am_wp pr (d + 44) 49 80 lvv [] (S, I2, J, P) Q := by
      intro x j lv' z' I2 h2 hC A2 hz' lvv l0 l3
      rw [h2] at h1
      rw [h1] at hR
      exact k80 x j lv' z' I2 hR h1 hC A2 hz' lvv l0 l3
    have kb1 : ∀ j I', R1 = .inr j → j ≤ N → q_W I1 I' → I' 96 3 = nI (pl j) → Q (some (.int 0)) (S, I', J, P) := by
      intro j I' h2 hj W' h3'
      rw [h1, h2] at hR
      exact kb j I' (Option.some.inj hR).symm hj (W.tr W') h3'
    by_cases o : T.2.2 = true
    · refine w49_46 l3 ?_
      refine w49_47 ?_
      refine w49_49 (fun hQ => absurd hQ (am_nlt (n := 12) (by omega) (by decide))) (fun _ => ?_)
      refine w49_52 l0 ?_
      refine w49_53 ?_
      rw [ho, if_pos o]
      refine w49_56 (fun hQ => absurd hQ (by decide)) (fun _ => ?_)
      refine w49_59 l0 ?_
      refine w49_60 l3 ?_
      refine w49_61 (k := c71 (m := 4 * c) (d := d) o h1 (by omega) hi hl E A H hz (by omega) (fun x j lv' z' I2 h2 hC A2 hz' => ?_) (fun j I' h2 hj W' h3' => ?_))
      · refine w49_64 (fun hQ => absurd hQ (by decide)) (fun _ => ?_)
        refine w49_67 ?_
        exact kg1 x j lv' z' I2 h2 hC A2 hz' _ l0 l3
      · refine w49_64 (fun _ => ?_) (fun hQ => absurd rfl hQ)
        refine w49_78 ?_
        refine w49_79 (by first | rfl | exact am_narrow_b _) ?_
        exact kb1 j I' h2 hj W' h3'
    · have of : T.2.2 = false := by cases hb : T.2.2 with
        | true => exact absurd hb o
        | false => rfl
      refine w49_46 l3 ?_
      refine w49_47 ?_
      refine w49_49 (fun hQ => absurd hQ (am_nlt (n := 12) (by omega) (by decide))) (fun _ => ?_)
      refine w49_52 l0 ?_
      refine w49_53 ?_
      rw [ho, if_neg o]
      refine w49_56 (fun _ => ?_) (fun hQ => absurd rfl hQ)
      refine w49_70 l0 ?_
      refine w49_71 l3 ?_
      refine w49_72 (k := c91 (m := 4 * c) (d := d) of h1 (by omega) hi hl E A H hz (by omega) (fun x j lv' z' I2 h2 hC A2 hz' => ?_) (fun j I' h2 hj W' h3' => ?_))
      · refine w49_75 (fun _ => ?_) (fun w => absurd (by decide) w)
        exact kg1 x j lv' z' I2 h2 hC A2 hz' _ l0 l3
      · refine w49_75 (fun hQ => absurd hQ (fun q => q rfl)) (fun _ => ?_)
        refine w49_78 ?_
        refine w49_79 (by first | rfl | exact am_narrow_b _) ?_
        exact kb1 j I' h2 hj W' h3'
/-- what reading a text leaves alone -/
def q_V (I I' : Nat → Nat → Int32) : Prop := (∀ a, a ≠ 94 → (a < 96 ∨ 107 < a) → I' a = I a) ∧ I' 94 0 = 0 ∧ ∀ j, j ≠ 0 → I' 94 j = I 94 j
theorem am_Lay.t101 (L : am_Lay S P) : am_Ts S P 101 480 := ⟨L.sh rfl, fun k hk => by
  rcases (show k = 0 ∨ k = 1 ∨ k = 2 ∨ k = 3 ∨ k = 4 ∨ k = 5 by omega) with rfl | rfl | rfl | rfl | rfl | rfl <;> exact L.2 _ _ _ rfl, fun k q hq => by
  match k with
  | 0 => cases hq; exact L.sh rfl
  | 1 => cases hq; exact L.sh rfl
  | 2 => cases hq; exact L.sh rfl
  | 3 => cases hq; exact L.sh rfl
  | 4 => cases hq; exact L.sh rfl
  | 5 => cases hq; exact L.sh rfl
  | k + 6 => cases hq⟩
/-- readText -/
theorem c49 (L : am_Lay S P) {b : Nat → Nat} {zt : Nat} (z400 : zt ≤ 400) (hz : I 94 0 = nI zt) (hb : ∀ j, j < zt → I 95 j = nI (b j)) (hb2 : ∀ j, j < zt → b j < 256) {o : Bool} {ts : List (Nat × Nat)} (hts : ts = sc b zt (zt + 1) 0) {R : (List Cl × Nat × Nat) ⊕ Nat} (hR : p_read (x_T b ts o) ts.length = some R) (kg : ∀ xs lv' I', R = .inl (xs, ts.length, lv') → q_V I I' → I' 96 3 = -1 → am_TI S I' P 101 xs → (∀ (q : Nat) (x : Cl), xs[q]? = some x → k_DC (I' 101 2) x) → Q (some (.int 1)) (S, I', J, P)) (kb : ∀ j I', R = .inr j → j ≤ ts.length → q_V I I' → I' 96 3 = nI (t_P zt ts j) → Q (some (.int 0)) (S, I', J, P)) : am_ev pr (d + 44) 49 [.ref 96, .ref 94, .int (if o = true then 1 else 0)] (S, I, J, P) Q := by
  have hN : ts.length ≤ 400 := by
    have q := sc_len (b := b) (z := zt) (zt + 1) 0 (by omega)
    rw [← hts] at q
    omega
  have tr := tk_R_of (o := o) hb2 hts
  have h01 : (if o = true then (1 : Int32) else 0) = 0 ∨ (if o = true then (1 : Int32) else 0) = 1 := by cases o <;> simp
  show am_wp pr (d + 44) 49 0 [(0, .ref 96), (1, .ref 94), (2, .int (if o = true then 1 else 0))] [] _ _
  refine w49_0 rfl ?_
  refine w49_1 (L.2 _ _ _ rfl) ?_
  refine w49_4 rfl ?_
  refine w49_5 (k := c50 (d := d + 37) L hz z400 hb hb2 (fun I2 f2 sc2 => ?_))
  rw [← hts] at sc2
  obtain ⟨s1, s2, s3, s4, s5⟩ := sc2
  rw [Nat.zero_add] at s2 s3 s4 s5
  refine w49_8 rfl ?_
  refine w49_9 ?_
  refine w49_10 ?_
  refine w49_13 rfl ?_
  refine w49_14 (L.2 _ _ _ rfl) ?_
  refine w49_17 (k := c69 L (fun I3 g1 g2 g3 g4 g5 g6 => ?_))
  refine w49_20 rfl ?_
  refine w49_21 rfl ?_
  refine w49_22 h01 ?_
  refine w49_25 rfl ?_
  refine w49_26 ?_
  refine w49_27 ?_
  refine w49_30 rfl ?_
  refine w49_31 ?_
  refine w49_32 ?_
  refine w49_35 rfl ?_
  refine w49_36 ?_
  refine w49_37 ?_
  refine w49_40 rfl ?_
  have fr : ∀ a, a ≠ 96 → a ≠ 101 → a ≠ 103 → a ≠ 104 → a ≠ 105 → a ≠ 94 → am_u (am_u (am_u (am_u I3 96 2 (if o = true then 1 else 0)) 96 3 (-1)) 96 8 0) 96 4 0 a = I2 a := fun a a1 a2 a3 a4 a5 a6 => by rw [am_u_ne a1, am_u_ne a1, am_u_ne a1, am_u_ne a1, g1 a a2 a3 a4 a5, am_u_ne a6]
  have fr3 : ∀ a, a ≠ 96 → am_u (am_u (am_u (am_u I3 96 2 (if o = true then 1 else 0)) 96 3 (-1)) 96 8 0) 96 4 0 a = I3 a := fun a a1 => by rw [am_u_ne a1, am_u_ne a1, am_u_ne a1, am_u_ne a1]
  have v2 : am_u (am_u (am_u (am_u I3 96 2 (if o = true then 1 else 0)) 96 3 (-1)) 96 8 0) 96 4 0 96 2 = (if o = true then 1 else 0) := by rw [am_u_at (by decide), am_u_at (by decide), am_u_at (by decide), am_u_self]
  have v3 : am_u (am_u (am_u (am_u I3 96 2 (if o = true then 1 else 0)) 96 3 (-1)) 96 8 0) 96 4 0 96 3 = -1 := by rw [am_u_at (by decide), am_u_at (by decide), am_u_self]
  have v8 : am_u (am_u (am_u (am_u I3 96 2 (if o = true then 1 else 0)) 96 3 (-1)) 96 8 0) 96 4 0 96 8 = 0 := by rw [am_u_at (by decide), am_u_self]
  have v4 : am_u (am_u (am_u (am_u I3 96 2 (if o = true then 1 else 0)) 96 3 (-1)) 96 8 0) 96 4 0 96 4 = nI 0 := am_u_self
  generalize am_u (am_u (am_u (am_u I3 96 2 (if o = true then 1 else 0)) 96 3 (-1)) 96 8 0) 96 4 0 = I4 at *
  have E4 : q_E S I4 P (x_T b ts o) ts.length (t_C b ts) (t_N b ts) (t_P zt ts) := by
    refine ⟨L, hN, tr, ?_, fun i hi => ?_, v2⟩
    · rw [fr 97 (by decide) (by decide) (by decide) (by decide) (by decide) (by decide)]; exact s2
    · rw [fr 98 (by decide) (by decide) (by decide) (by decide) (by decide) (by decide), fr 99 (by decide) (by decide) (by decide) (by decide) (by decide) (by decide), fr 100 (by decide) (by decide) (by decide) (by decide) (by decide) (by decide)]
      unfold t_C t_N t_P
      cases hc : ts[i]? with
      | none =>
        have q : ts.length ≤ i := List.getElem?_eq_none_iff.mp hc
        have q2 : i = ts.length := by omega
        rw [q2]
        exact ⟨s4, s5, s3, z400⟩
      | some q =>
        obtain ⟨p, e⟩ := q
        have q1 := s1 i p e hc
        rw [Nat.zero_add] at q1
        refine ⟨q1.2.1, q1.2.2, q1.1, ?_⟩
        have m := List.mem_of_getElem? hc
        rw [hts] at m
        have q2 := sc_b _ _ _ m
        show p ≤ 400
        have q3 : p < zt := q2.2.1
        omega
  refine w49_41 (k := c70 E4 v4 (Nat.zero_le _) (fun I5 s5' k4 k5 k6 k7 k8 => ?_))
  have A5 : q_A (t_C b ts) (t_N b ts) (t_P zt ts) I5 0 0 0 := ⟨k4, k5, k6, k7, k8.trans v8, by rw [s5'.1 101 (by decide), fr3 101 (by decide)]; exact g3⟩
  have X5 : q_X I5 0 0 [] := by
    unfold q_X
    rw [s5'.1 103 (by decide), s5'.1 104 (by decide), s5'.1 105 (by decide), fr3 103 (by decide), fr3 104 (by decide), fr3 105 (by decide)]
    exact ⟨rfl, fun q x hq => (by cases hq), fun q _ hq => g5 q hq, fun q _ hq => g6 q hq⟩
  have V : ∀ I', q_W I5 I' → q_V I I' := by
    intro I' W
    have e : ∀ a, a ≠ 94 → (a < 96 ∨ 107 < a) → I' a = I a := fun a a1 a2 => by rw [W a (by omega) (by omega), s5'.1 a (by omega), fr a (by omega) (by omega) (by omega) (by omega) (by omega) a1, f2 a (by omega) (by omega) (by omega) (by omega)]
    have e94 : I' 94 = am_u I2 94 0 0 94 := by rw [W 94 (by decide) (by decide), s5'.1 94 (by decide), fr3 94 (by decide), g1 94 (by decide) (by decide) (by decide) (by decide)]
    refine ⟨e, ?_, fun j hj => ?_⟩
    · rw [e94, am_u_self]
    · rw [e94, am_u_at hj, f2 94 (by decide) (by decide) (by decide) (by decide)]
  refine w49_44 ?_
  refine w49_45 ?_
  refine c49l (I0 := I5) (d := d) 12 0 0 0 0 [] I5 R (by omega) hR (Nat.zero_le _) (by omega) (by omega) (E4.F s5'.F) A5 X5 (s5'.2.2.trans v3) (fun _ _ _ => rfl) (fun ys lv' z' I' h1 W' h3' h0' h1' hz' X' hl' => ?_) (fun j I' h1 hj W' h3' => ?_) _ rfl rfl
  · refine kg ys lv' I' h1 (V I' W') h3' ⟨480, z', L.t101, Nat.le_refl _, hl', h0', hz', h1', fun c x hx => (X'.2.1 c x hx).1⟩ (fun q x hx => (X'.2.1 q x hx).2.1)
  · exact kb j I' h1 hj (V I' W') h3'
end
