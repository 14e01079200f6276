/-! a law's text: made, copied, kept -/
section
variable {pr : am_Pr} {d : Nat} {S S' : List (Nat × Nat)} {I I' : Nat → Nat → Int32} {J J' : Nat → Nat → Int64} {P P' : Nat → Nat → Option Nat} {Q : Option Value → am_H → Prop} {n l s u tp : Nat} {kp lf kp' : Nat → Int32}
/-- Text: made -/
theorem c6 {h z : Nat} (hS : S.length = h + 1) (hs : am_sh S h (6, 9)) (hz : z ≤ 480) (k : ∀ I' J' P', (∀ a, a ≤ h → I' a = I a) → (∀ a, a < h → P' a = P a) → am_Ts (S ++ am_tq z) P' h z → Q none (S ++ am_tq z, I', J', P')) : am_ev pr (d + 1) 6 [.ref h, .int (nI z)] (S, I, J, P) Q := by
  show am_wp pr (d + 1) 6 0 [(0, .ref h), (1, .int (nI z))] [] _ _
  have g0 : nw_G S I P h 3 (am_tq z) 0 S I P := nw_G_0
  have mx : (if nI z < 0 then (0 : Int32) else nI z) = nI z := if_neg (nI_pos (by omega))
  have hn : ¬ nI z < 0 ∧ (nI z).toNatClampNeg * 8 ≤ 536870912 := ⟨nI_pos (by omega), by rw [am_clN (by omega)]; omega⟩
  refine w6_0 rfl ?_
  refine w6_1 ?_
  refine w6_4 rfl ?_
  refine w6_5 ?_
  refine w6_7 ⟨by decide, by decide⟩ ?_
  refine w6_9 ?_ (am_sh_app (g0.sh hs))
  refine nw_G_u (q := (20, 12)) hS rfl g0 (fun S1 I1 J1 P1 g1 => ?_)
  refine w6_12 rfl ?_
  refine w6_13 ?_
  refine w6_15 ⟨by decide, by decide⟩ ?_
  refine w6_17 ?_ (am_sh_app (g1.sh hs))
  refine nw_G_u (q := (20, 12)) hS rfl g1 (fun S2 I2 J2 P2 g2 => ?_)
  refine w6_20 rfl ?_
  refine w6_21 ?_
  refine w6_23 ⟨by decide, by decide⟩ ?_
  refine w6_25 ?_ (am_sh_app (g2.sh hs))
  refine nw_G_u (q := (20, 36)) hS rfl g2 (fun S3 I3 J3 P3 g3 => ?_)
  refine w6_28 rfl ?_
  refine w6_29 ?_
  refine w6_31 ⟨by decide, by decide⟩ ?_
  refine w6_33 ?_ (am_sh_app (g3.sh hs))
  refine nw_G_u (q := (20, 12)) hS rfl g3 (fun S4 I4 J4 P4 g4 => ?_)
  refine w6_36 rfl ?_
  refine w6_37 rfl ?_
  refine w6_38 ?_
  refine w6_39 ?_
  rw [mx]
  refine w6_42 hn ?_
  rw [am_clN (by omega)]
  refine w6_44 ?_ (am_sh_app (g4.sh hs))
  refine nw_G_u (q := (20, z)) hS rfl g4 (fun S5 I5 J5 P5 g5 => ?_)
  refine w6_47 rfl ?_
  refine w6_48 rfl ?_
  refine w6_49 ?_
  refine w6_50 ?_
  rw [mx]
  refine w6_53 hn ?_
  rw [am_clN (by omega)]
  refine w6_55 ?_ (am_sh_app (g5.sh hs))
  refine nw_G_u (q := (20, z)) hS rfl g5 (fun S6 I6 J6 P6 g6 => ?_)
  obtain ⟨x1, x2, x3, x4, x5, x6, x7⟩ := g6
  rw [show (am_tq z).take (5 + 1) = am_tq z from rfl] at x1
  subst x1
  have h64 : 64 ≤ h := hs.1
  refine w6_58 ?_
  refine k _ _ _ x2 x4 ⟨am_sh_app hs, fun j hj => x6 j (by omega), fun j q hq => ⟨by omega, ?_⟩⟩
  rw [List.getElem?_append_right (by omega), hS, show h + 1 + j - (h + 1) = j by omega]
  exact hq
/-- Text: copyFrom -/
theorem c92 {t z : Nat} (L : am_Lay S P) (ht : am_Ts S P t z) (far : 107 < t) (hz : z ≤ 480) (h1 : I 101 1 = nI z) (k : ∀ I', (∀ a, (a < t ∨ t + 6 < a) → I' a = I a) → I' t 0 = I 101 0 → I' t 1 = nI z → (∀ j, j < 12 → I' (t + 1 + 0) j = I 102 j) → (∀ j, j < 12 → I' (t + 1 + 1) j = I 103 j) → (∀ j, j < 36 → I' (t + 1 + 2) j = I 104 j) → (∀ j, j < 12 → I' (t + 1 + 3) j = I 105 j) → (∀ j, j < z → I' (t + 1 + 4) j = I 106 j) → (∀ j, j < z → I' (t + 1 + 5) j = I 107 j) → Q none (S, I', J, P)) : am_ev pr (d + 1) 92 [.ref t, .ref 101] (S, I, J, P) Q := by
  have ne : 101 ≠ t := by omega
  have mn : (if Int32.ofNat z < nI z then Int32.ofNat z else nI z) = nI z := by split <;> rfl
  have cz : (nI z).toNatClampNeg = z := am_clN (by omega)
  show am_wp pr (d + 1) 92 0 [(0, .ref t), (1, .ref 101)] [] _ _
  refine w92_0 rfl ?_
  refine w92_1 rfl ?_
  refine w92_2 ?_
  refine w92_5 ?_
  refine w92_8 rfl ?_
  refine w92_9 rfl ?_
  refine w92_10 ?_
  rw [am_u_ne ne, h1]
  refine w92_13 rfl ?_
  refine w92_14 (ht.2.1 4 (by decide)) ?_
  refine w92_17 (ht.sh rfl) (by decide) ?_
  refine w92_18 ?_
  rw [mn]
  refine w92_21 ?_
  refine w92_24 rfl ?_
  refine w92_25 rfl ?_
  refine w92_26 ?_
  rw [am_u_ne ne, am_u_ne ne]
  refine w92_29 ?_
  generalize hI1 : am_u (am_u (am_u I t 0 (I 101 0)) t 1 (nI z)) t 2 (I 101 2) = I1
  have er : ∀ a, a ≠ t → I1 a = I a := fun a ha => by rw [← hI1, am_u_ne ha, am_u_ne ha, am_u_ne ha]
  have e0 : I1 t 0 = I 101 0 := by rw [← hI1, am_u_at (by decide), am_u_at (by decide), am_u_self]
  have e1 : I1 t 1 = nI z := by rw [← hI1, am_u_at (by decide), am_u_self]
  refine w92_32 rfl ?_
  refine w92_33 (L.2 _ _ _ rfl) ?_
  refine w92_36 ?_
  refine w92_37 rfl ?_
  refine w92_38 (ht.2.1 0 (by decide)) ?_
  refine w92_41 ?_
  refine w92_42 ?_
  refine w92_44 (L.sh rfl) (ht.sh rfl) (by decide) (by decide) (by decide) (by decide) (by decide) ?_
  generalize hI2 : am_row I1 (t + 1 + 0) (va_cpy (I1 102) (I1 (t + 1 + 0)) (Int32.toNatClampNeg 0) (Int32.toNatClampNeg 0) (Int32.toNatClampNeg 12)) = I2
  obtain ⟨a1, b1⟩ := cp_st (m := 12) rfl hI2
  refine w92_47 rfl ?_
  refine w92_48 (L.2 _ _ _ rfl) ?_
  refine w92_51 ?_
  refine w92_52 rfl ?_
  refine w92_53 (ht.2.1 1 (by decide)) ?_
  refine w92_56 ?_
  refine w92_57 ?_
  refine w92_59 (L.sh rfl) (ht.sh rfl) (by decide) (by decide) (by decide) (by decide) (by decide) ?_
  generalize hI3 : am_row I2 (t + 1 + 1) (va_cpy (I2 103) (I2 (t + 1 + 1)) (Int32.toNatClampNeg 0) (Int32.toNatClampNeg 0) (Int32.toNatClampNeg 12)) = I3
  obtain ⟨a2, b2⟩ := cp_st (m := 12) rfl hI3
  refine w92_62 rfl ?_
  refine w92_63 (L.2 _ _ _ rfl) ?_
  refine w92_66 ?_
  refine w92_67 rfl ?_
  refine w92_68 (ht.2.1 2 (by decide)) ?_
  refine w92_71 ?_
  refine w92_72 ?_
  refine w92_74 (L.sh rfl) (ht.sh rfl) (by decide) (by decide) (by decide) (by decide) (by decide) ?_
  generalize hI4 : am_row I3 (t + 1 + 2) (va_cpy (I3 104) (I3 (t + 1 + 2)) (Int32.toNatClampNeg 0) (Int32.toNatClampNeg 0) (Int32.toNatClampNeg 36)) = I4
  obtain ⟨a3, b3⟩ := cp_st (m := 36) rfl hI4
  refine w92_77 rfl ?_
  refine w92_78 (L.2 _ _ _ rfl) ?_
  refine w92_81 ?_
  refine w92_82 rfl ?_
  refine w92_83 (ht.2.1 3 (by decide)) ?_
  refine w92_86 ?_
  refine w92_87 ?_
  refine w92_89 (L.sh rfl) (ht.sh rfl) (by decide) (by decide) (by decide) (by decide) (by decide) ?_
  generalize hI5 : am_row I4 (t + 1 + 3) (va_cpy (I4 105) (I4 (t + 1 + 3)) (Int32.toNatClampNeg 0) (Int32.toNatClampNeg 0) (Int32.toNatClampNeg 12)) = I5
  obtain ⟨a4, b4⟩ := cp_st (m := 12) rfl hI5
  have t5 : I5 t 1 = nI z := by rw [a4 t (by omega), a3 t (by omega), a2 t (by omega), a1 t (by omega)]; exact e1
  have lz : ∀ m, z ≤ m → Int32.toNatClampNeg 0 + (nI z).toNatClampNeg ≤ m := fun m hm => by rw [cz]; show 0 + z ≤ m; omega
  refine w92_92 rfl ?_
  refine w92_93 (L.2 _ _ _ rfl) ?_
  refine w92_96 ?_
  refine w92_97 rfl ?_
  refine w92_98 (ht.2.1 4 (by decide)) ?_
  refine w92_101 ?_
  refine w92_102 rfl ?_
  refine w92_103 ?_
  rw [t5]
  refine w92_106 (L.sh rfl) (ht.sh rfl) (by decide) (by decide) (nI_pos (by omega)) (lz 480 hz) (lz z (Nat.le_refl z)) ?_
  generalize hI6 : am_row I5 (t + 1 + 4) (va_cpy (I5 106) (I5 (t + 1 + 4)) (Int32.toNatClampNeg 0) (Int32.toNatClampNeg 0) (nI z).toNatClampNeg) = I6
  obtain ⟨a5, b5⟩ := cp_st (m := z) cz hI6
  have t6 : I6 t 1 = nI z := by rw [a5 t (by omega)]; exact t5
  refine w92_109 rfl ?_
  refine w92_110 (L.2 _ _ _ rfl) ?_
  refine w92_113 ?_
  refine w92_114 rfl ?_
  refine w92_115 (ht.2.1 5 (by decide)) ?_
  refine w92_118 ?_
  refine w92_119 rfl ?_
  refine w92_120 ?_
  rw [t6]
  refine w92_123 (L.sh rfl) (ht.sh rfl) (by decide) (by decide) (nI_pos (by omega)) (lz 480 hz) (lz z (Nat.le_refl z)) ?_
  generalize hI7 : am_row I6 (t + 1 + 5) (va_cpy (I6 107) (I6 (t + 1 + 5)) (Int32.toNatClampNeg 0) (Int32.toNatClampNeg 0) (nI z).toNatClampNeg) = I7
  obtain ⟨a6, b6⟩ := cp_st (m := z) cz hI7
  refine w92_126 ?_
  refine k I7 (fun a ha => ?_) ?_ ?_ (fun j hj => ?_) (fun j hj => ?_) (fun j hj => ?_) (fun j hj => ?_) (fun j hj => ?_) (fun j hj => ?_)
  · rw [a6 a (by omega), a5 a (by omega), a4 a (by omega), a3 a (by omega), a2 a (by omega), a1 a (by omega), er a (by omega)]
  · rw [a6 t (by omega), a5 t (by omega), a4 t (by omega), a3 t (by omega), a2 t (by omega), a1 t (by omega)]; exact e0
  · rw [a6 t (by omega)]; exact t6
  · rw [a6 _ (by omega), a5 _ (by omega), a4 _ (by omega), a3 _ (by omega), a2 _ (by omega), b1 j hj, er _ (by omega)]
  · rw [a6 _ (by omega), a5 _ (by omega), a4 _ (by omega), a3 _ (by omega), b2 j hj, a1 _ (by omega), er _ (by omega)]
  · rw [a6 _ (by omega), a5 _ (by omega), a4 _ (by omega), b3 j hj, a2 _ (by omega), a1 _ (by omega), er _ (by omega)]
  · rw [a6 _ (by omega), a5 _ (by omega), b4 j hj, a3 _ (by omega), a2 _ (by omega), a1 _ (by omega), er _ (by omega)]
  · rw [a6 _ (by omega), b5 j hj, a4 _ (by omega), a3 _ (by omega), a2 _ (by omega), a1 _ (by omega), er _ (by omega)]
  · rw [b6 j hj, a5 _ (by omega), a4 _ (by omega), a3 _ (by omega), a2 _ (by omega), a1 _ (by omega), er _ (by omega)]
/-- House: addLaw -/
theorem c93b (L : am_Lay S P) {t : Nat} (hl : I 65 3 = nI l) (l6 : l < 6) (ht : am_sh S t (6, 9)) (k : Q (some (.int (nI l))) (S, am_u I 65 3 (nI (l + 1)), J, am_u P 70 l (some t))) : am_ev pr d 93 [.ref 65, .ref t] (S, I, J, P) Q := by
  have hh := L.h65
  show am_wp pr d 93 0 [(0, .ref 65), (1, .ref t)] [] _ _
  refine w93_0 rfl ?_
  refine w93_1 ?_
  rw [hl]
  refine w93_4 ?_
  refine w93_5 rfl ?_
  refine w93_6 (fun hQ => absurd hQ (nI_pos (by omega))) (fun _ => ?_)
  refine w93_9 rfl ?_
  refine w93_10 ?_
  refine w93_12 (fun _ => ?_) (fun hQ => absurd (nI_lt (b := 6) l6 (by decide)) hQ)
  refine w93_17 rfl ?_
  refine w93_18 (L.2 _ _ _ rfl) ?_
  refine w93_21 rfl ?_
  refine w93_22 rfl ?_
  refine w93_23T (L.sh rfl) (am_in_nI l6 (by decide)) ht ?_
  rw [am_clN (by omega)]
  refine w93_24 rfl ?_
  refine w93_25 rfl ?_
  refine w93_26 ?_
  refine w93_27 ?_
  rw [nI_1]
  refine w93_28 ?_
  refine w93_31 rfl ?_
  refine w93_32 ?_
  exact k
/-- a text copied tells the same -/
theorem am_TI_cp {t z : Nat} {xs : List Cl} (ht : am_Ts S' P' t z) (hz : z ≤ 480) (h0 : I' t 0 = I 101 0) (hz1 : I 101 1 = nI z) (h1 : I' t 1 = nI z) (r0 : ∀ j, j < 12 → I' (t + 1 + 0) j = I 102 j) (r1 : ∀ j, j < 12 → I' (t + 1 + 1) j = I 103 j) (r2 : ∀ j, j < 36 → I' (t + 1 + 2) j = I 104 j) (r3 : ∀ j, j < 12 → I' (t + 1 + 3) j = I 105 j) (r4 : ∀ j, j < z → I' (t + 1 + 4) j = I 106 j) (r5 : ∀ j, j < z → I' (t + 1 + 5) j = I 107 j) (h3 : ∀ (q : Nat) (x : Cl), xs[q]? = some x → x.2.1.length ≤ 3) (r : am_TI S I P 101 xs) : am_TI S' I' P' t xs := by
  obtain ⟨N, z', q1, q2, q3, q4, q5, q6, q7⟩ := r
  have ez : z' = z := (nI_eq (by omega) (by omega)).mp (q6.symm.trans hz1)
  subst ez
  refine ⟨z', z', ht, hz, q3, h0.trans q4, Nat.le_refl _, h1, fun c x hx => ?_⟩
  have hc : c < xs.length := (List.getElem?_eq_some_iff.mp hx).1
  have hx3 := h3 c x hx
  have one : [((0 : Nat), (0 : Int32))].length = 1 := rfl
  obtain ⟨a1, a2, a3, a4, a5, a6⟩ := q7 c x hx
  refine ⟨(r0 c (by omega)).trans a1, (r1 c (by omega)).trans a2, fun j e hj => ?_, fun j j1 j2 => (r2 _ (by omega)).trans (a4 j j1 j2), fun tt htt => ?_, fun w => (r3 c (by omega)).trans (a6 w)⟩
  · obtain ⟨p, p1, p2, p3⟩ := a3 j e hj
    have hj3 : j < x.2.1.length := (List.getElem?_eq_some_iff.mp hj).1
    exact ⟨p, (r2 _ (by omega)).trans p1, p2, k_at_cg (fun k k1 k2 => by rw [List.length_append, one] at k2; exact ⟨r4 k (by omega), r5 k (by omega)⟩) p3⟩
  · obtain ⟨p, p1, p2, p3⟩ := a5 tt htt
    exact ⟨p, (r3 c (by omega)).trans p1, p2, k_at_cg (fun k k1 k2 => by rw [List.length_append, one] at k2; exact ⟨r4 k (by omega), r5 k (by omega)⟩) p3⟩
/-- a text was read, for good or bad: the tape is empty -/
theorem am_R_rd (r : am_R S I P n l s u tp) (e : ∀ a, (65 ≤ a ∧ a ≤ 72) ∨ (81 ≤ a ∧ a ≤ 88) ∨ a = 90 ∨ a = 91 ∨ (126 ≤ a ∧ a ≤ 128) ∨ a = 130 ∨ a = 141 ∨ a = 148 ∨ 149 ≤ a → I' a = I a) (e94 : I' 94 0 = 0) (e13 : I' 124 13 = 0) (e35 : I' 124 35 = I 124 35) (e48 : I' 124 48 = I 124 48) (i8 : I' 96 3 = I' 124 14 ∧ I' 64 13 = I' 124 40 ∧ I' 64 14 = I' 124 6 ∧ I' 64 16 = I' 124 0) (i9 : ∀ k, k < 7 → I' 123 k = I' 125 k) : am_R S I' P n l s u 0 := by
  have e126 : I' 126 = I 126 := e 126 (by omega)
  refine am_R_mk r (fun a ha => e a (by omega)) (e 127 (by omega)) (e 128 (by omega)) (e 130 (by omega)) (fun j _ => by rw [e126]) ?_ ?_ ?_ i8 i9 ?_
  · rw [e126]
    exact am_HR_cg 65 (fun a h1 h2 => e a (by omega)) rfl r.hr
  · rw [e 90 (by omega), e 91 (by omega), e 141 (by omega), e126, e35]
    exact r.past
  · exact ⟨by omega, e94, e13, fun k hk => absurd hk (Nat.not_lt_zero k)⟩
  · rw [e 81 (by omega), e 84 (by omega), e 148 (by omega), e48]
    exact r.draw
/-- the bytes of the tape -/
theorem am_R.bytes (r : am_R S I P n l s u tp) : ∃ b : Nat → Nat, (∀ j, j < tp → I 95 j = nI (b j)) ∧ (∀ j, j < tp → I 131 j = sb (b j)) ∧ ∀ j, j < tp → b j < 256 := by
  obtain ⟨t1, t2, t3, t4⟩ := r.tape
  have q : ∀ j, ∃ n, j < tp → (n < 256 ∧ I 131 j = sb n ∧ I 131 j &&& 255 = nI n) := by
    intro j
    by_cases h : j < tp
    · obtain ⟨n, h1⟩ := sb_of (t4 j h).2
      exact ⟨n, fun _ => h1⟩
    · exact ⟨0, fun w => absurd w h⟩
  refine ⟨fun j => (q j).choose, fun j hj => ?_, fun j hj => ?_, fun j hj => ?_⟩
  · exact (t4 j hj).1.trans ((q j).choose_spec hj).2.2
  · exact ((q j).choose_spec hj).2.1
  · exact ((q j).choose_spec hj).1
end
