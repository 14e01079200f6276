/-! numbers of places -/
theorem nz_a1 (m : Nat) : (1 : Int32) + nI m = nI (1 + m) := by rw [show (1 : Int32) = nI 1 from rfl, nI_add]
theorem nz_b1 (m : Nat) : nI m + (1 : Int32) = nI (m + 1) := by rw [show (1 : Int32) = nI 1 from rfl, nI_add]
theorem nz_c1 (m : Nat) : (1 : Int32) * nI m = nI (1 * m) := by rw [show (1 : Int32) = nI 1 from rfl, pk_mul]
theorem nz_d1 (m : Nat) : nI m * (1 : Int32) = nI (m * 1) := by rw [show (1 : Int32) = nI 1 from rfl, pk_mul]
theorem nz_a2 (m : Nat) : (2 : Int32) + nI m = nI (2 + m) := by rw [show (2 : Int32) = nI 2 from rfl, nI_add]
theorem nz_b2 (m : Nat) : nI m + (2 : Int32) = nI (m + 2) := by rw [show (2 : Int32) = nI 2 from rfl, nI_add]
theorem nz_c2 (m : Nat) : (2 : Int32) * nI m = nI (2 * m) := by rw [show (2 : Int32) = nI 2 from rfl, pk_mul]
theorem nz_d2 (m : Nat) : nI m * (2 : Int32) = nI (m * 2) := by rw [show (2 : Int32) = nI 2 from rfl, pk_mul]
theorem nz_a3 (m : Nat) : (3 : Int32) + nI m = nI (3 + m) := by rw [show (3 : Int32) = nI 3 from rfl, nI_add]
theorem nz_b3 (m : Nat) : nI m + (3 : Int32) = nI (m + 3) := by rw [show (3 : Int32) = nI 3 from rfl, nI_add]
theorem nz_c3 (m : Nat) : (3 : Int32) * nI m = nI (3 * m) := by rw [show (3 : Int32) = nI 3 from rfl, pk_mul]
theorem nz_d3 (m : Nat) : nI m * (3 : Int32) = nI (m * 3) := by rw [show (3 : Int32) = nI 3 from rfl, pk_mul]
theorem nz_a4 (m : Nat) : (4 : Int32) + nI m = nI (4 + m) := by rw [show (4 : Int32) = nI 4 from rfl, nI_add]
theorem nz_b4 (m : Nat) : nI m + (4 : Int32) = nI (m + 4) := by rw [show (4 : Int32) = nI 4 from rfl, nI_add]
theorem nz_c4 (m : Nat) : (4 : Int32) * nI m = nI (4 * m) := by rw [show (4 : Int32) = nI 4 from rfl, pk_mul]
theorem nz_d4 (m : Nat) : nI m * (4 : Int32) = nI (m * 4) := by rw [show (4 : Int32) = nI 4 from rfl, pk_mul]
theorem nz_a5 (m : Nat) : (5 : Int32) + nI m = nI (5 + m) := by rw [show (5 : Int32) = nI 5 from rfl, nI_add]
theorem nz_b5 (m : Nat) : nI m + (5 : Int32) = nI (m + 5) := by rw [show (5 : Int32) = nI 5 from rfl, nI_add]
theorem nz_c5 (m : Nat) : (5 : Int32) * nI m = nI (5 * m) := by rw [show (5 : Int32) = nI 5 from rfl, pk_mul]
theorem nz_d5 (m : Nat) : nI m * (5 : Int32) = nI (m * 5) := by rw [show (5 : Int32) = nI 5 from rfl, pk_mul]
theorem nz_a6 (m : Nat) : (6 : Int32) + nI m = nI (6 + m) := by rw [show (6 : Int32) = nI 6 from rfl, nI_add]
theorem nz_b6 (m : Nat) : nI m + (6 : Int32) = nI (m + 6) := by rw [show (6 : Int32) = nI 6 from rfl, nI_add]
theorem nz_c6 (m : Nat) : (6 : Int32) * nI m = nI (6 * m) := by rw [show (6 : Int32) = nI 6 from rfl, pk_mul]
theorem nz_d6 (m : Nat) : nI m * (6 : Int32) = nI (m * 6) := by rw [show (6 : Int32) = nI 6 from rfl, pk_mul]
theorem nz_a7 (m : Nat) : (7 : Int32) + nI m = nI (7 + m) := by rw [show (7 : Int32) = nI 7 from rfl, nI_add]
theorem nz_b7 (m : Nat) : nI m + (7 : Int32) = nI (m + 7) := by rw [show (7 : Int32) = nI 7 from rfl, nI_add]
theorem nz_c7 (m : Nat) : (7 : Int32) * nI m = nI (7 * m) := by rw [show (7 : Int32) = nI 7 from rfl, pk_mul]
theorem nz_d7 (m : Nat) : nI m * (7 : Int32) = nI (m * 7) := by rw [show (7 : Int32) = nI 7 from rfl, pk_mul]
theorem nz_a8 (m : Nat) : (8 : Int32) + nI m = nI (8 + m) := by rw [show (8 : Int32) = nI 8 from rfl, nI_add]
theorem nz_b8 (m : Nat) : nI m + (8 : Int32) = nI (m + 8) := by rw [show (8 : Int32) = nI 8 from rfl, nI_add]
theorem nz_c8 (m : Nat) : (8 : Int32) * nI m = nI (8 * m) := by rw [show (8 : Int32) = nI 8 from rfl, pk_mul]
theorem nz_d8 (m : Nat) : nI m * (8 : Int32) = nI (m * 8) := by rw [show (8 : Int32) = nI 8 from rfl, pk_mul]
theorem nz_a13 (m : Nat) : (13 : Int32) + nI m = nI (13 + m) := by rw [show (13 : Int32) = nI 13 from rfl, nI_add]
theorem nz_b13 (m : Nat) : nI m + (13 : Int32) = nI (m + 13) := by rw [show (13 : Int32) = nI 13 from rfl, nI_add]
theorem nz_c13 (m : Nat) : (13 : Int32) * nI m = nI (13 * m) := by rw [show (13 : Int32) = nI 13 from rfl, pk_mul]
theorem nz_d13 (m : Nat) : nI m * (13 : Int32) = nI (m * 13) := by rw [show (13 : Int32) = nI 13 from rfl, pk_mul]
theorem nz_a20 (m : Nat) : (20 : Int32) + nI m = nI (20 + m) := by rw [show (20 : Int32) = nI 20 from rfl, nI_add]
theorem nz_b20 (m : Nat) : nI m + (20 : Int32) = nI (m + 20) := by rw [show (20 : Int32) = nI 20 from rfl, nI_add]
theorem nz_c20 (m : Nat) : (20 : Int32) * nI m = nI (20 * m) := by rw [show (20 : Int32) = nI 20 from rfl, pk_mul]
theorem nz_d20 (m : Nat) : nI m * (20 : Int32) = nI (m * 20) := by rw [show (20 : Int32) = nI 20 from rfl, pk_mul]
theorem nz_a35 (m : Nat) : (35 : Int32) + nI m = nI (35 + m) := by rw [show (35 : Int32) = nI 35 from rfl, nI_add]
theorem nz_b35 (m : Nat) : nI m + (35 : Int32) = nI (m + 35) := by rw [show (35 : Int32) = nI 35 from rfl, nI_add]
theorem nz_c35 (m : Nat) : (35 : Int32) * nI m = nI (35 * m) := by rw [show (35 : Int32) = nI 35 from rfl, pk_mul]
theorem nz_d35 (m : Nat) : nI m * (35 : Int32) = nI (m * 35) := by rw [show (35 : Int32) = nI 35 from rfl, pk_mul]
theorem nz_a44 (m : Nat) : (44 : Int32) + nI m = nI (44 + m) := by rw [show (44 : Int32) = nI 44 from rfl, nI_add]
theorem nz_b44 (m : Nat) : nI m + (44 : Int32) = nI (m + 44) := by rw [show (44 : Int32) = nI 44 from rfl, nI_add]
theorem nz_c44 (m : Nat) : (44 : Int32) * nI m = nI (44 * m) := by rw [show (44 : Int32) = nI 44 from rfl, pk_mul]
theorem nz_d44 (m : Nat) : nI m * (44 : Int32) = nI (m * 44) := by rw [show (44 : Int32) = nI 44 from rfl, pk_mul]
theorem nz_a45 (m : Nat) : (45 : Int32) + nI m = nI (45 + m) := by rw [show (45 : Int32) = nI 45 from rfl, nI_add]
theorem nz_b45 (m : Nat) : nI m + (45 : Int32) = nI (m + 45) := by rw [show (45 : Int32) = nI 45 from rfl, nI_add]
theorem nz_c45 (m : Nat) : (45 : Int32) * nI m = nI (45 * m) := by rw [show (45 : Int32) = nI 45 from rfl, pk_mul]
theorem nz_d45 (m : Nat) : nI m * (45 : Int32) = nI (m * 45) := by rw [show (45 : Int32) = nI 45 from rfl, pk_mul]
theorem nz_a51 (m : Nat) : (51 : Int32) + nI m = nI (51 + m) := by rw [show (51 : Int32) = nI 51 from rfl, nI_add]
theorem nz_b51 (m : Nat) : nI m + (51 : Int32) = nI (m + 51) := by rw [show (51 : Int32) = nI 51 from rfl, nI_add]
theorem nz_c51 (m : Nat) : (51 : Int32) * nI m = nI (51 * m) := by rw [show (51 : Int32) = nI 51 from rfl, pk_mul]
theorem nz_d51 (m : Nat) : nI m * (51 : Int32) = nI (m * 51) := by rw [show (51 : Int32) = nI 51 from rfl, pk_mul]
theorem nz_a58 (m : Nat) : (58 : Int32) + nI m = nI (58 + m) := by rw [show (58 : Int32) = nI 58 from rfl, nI_add]
theorem nz_b58 (m : Nat) : nI m + (58 : Int32) = nI (m + 58) := by rw [show (58 : Int32) = nI 58 from rfl, nI_add]
theorem nz_c58 (m : Nat) : (58 : Int32) * nI m = nI (58 * m) := by rw [show (58 : Int32) = nI 58 from rfl, pk_mul]
theorem nz_d58 (m : Nat) : nI m * (58 : Int32) = nI (m * 58) := by rw [show (58 : Int32) = nI 58 from rfl, pk_mul]
theorem nz_a77 (m : Nat) : (77 : Int32) + nI m = nI (77 + m) := by rw [show (77 : Int32) = nI 77 from rfl, nI_add]
theorem nz_b77 (m : Nat) : nI m + (77 : Int32) = nI (m + 77) := by rw [show (77 : Int32) = nI 77 from rfl, nI_add]
theorem nz_c77 (m : Nat) : (77 : Int32) * nI m = nI (77 * m) := by rw [show (77 : Int32) = nI 77 from rfl, pk_mul]
theorem nz_d77 (m : Nat) : nI m * (77 : Int32) = nI (m * 77) := by rw [show (77 : Int32) = nI 77 from rfl, pk_mul]
theorem nz_a84 (m : Nat) : (84 : Int32) + nI m = nI (84 + m) := by rw [show (84 : Int32) = nI 84 from rfl, nI_add]
theorem nz_b84 (m : Nat) : nI m + (84 : Int32) = nI (m + 84) := by rw [show (84 : Int32) = nI 84 from rfl, nI_add]
theorem nz_c84 (m : Nat) : (84 : Int32) * nI m = nI (84 * m) := by rw [show (84 : Int32) = nI 84 from rfl, pk_mul]
theorem nz_d84 (m : Nat) : nI m * (84 : Int32) = nI (m * 84) := by rw [show (84 : Int32) = nI 84 from rfl, pk_mul]
theorem nz_a400 (m : Nat) : (400 : Int32) + nI m = nI (400 + m) := by rw [show (400 : Int32) = nI 400 from rfl, nI_add]
theorem nz_b400 (m : Nat) : nI m + (400 : Int32) = nI (m + 400) := by rw [show (400 : Int32) = nI 400 from rfl, nI_add]
theorem nz_c400 (m : Nat) : (400 : Int32) * nI m = nI (400 * m) := by rw [show (400 : Int32) = nI 400 from rfl, pk_mul]
theorem nz_d400 (m : Nat) : nI m * (400 : Int32) = nI (m * 400) := by rw [show (400 : Int32) = nI 400 from rfl, pk_mul]
theorem nz_a2884 (m : Nat) : (2884 : Int32) + nI m = nI (2884 + m) := by rw [show (2884 : Int32) = nI 2884 from rfl, nI_add]
theorem nz_b2884 (m : Nat) : nI m + (2884 : Int32) = nI (m + 2884) := by rw [show (2884 : Int32) = nI 2884 from rfl, nI_add]
theorem nz_c2884 (m : Nat) : (2884 : Int32) * nI m = nI (2884 * m) := by rw [show (2884 : Int32) = nI 2884 from rfl, pk_mul]
theorem nz_d2884 (m : Nat) : nI m * (2884 : Int32) = nI (m * 2884) := by rw [show (2884 : Int32) = nI 2884 from rfl, pk_mul]
theorem nz_a5684 (m : Nat) : (5684 : Int32) + nI m = nI (5684 + m) := by rw [show (5684 : Int32) = nI 5684 from rfl, nI_add]
theorem nz_b5684 (m : Nat) : nI m + (5684 : Int32) = nI (m + 5684) := by rw [show (5684 : Int32) = nI 5684 from rfl, nI_add]
theorem nz_c5684 (m : Nat) : (5684 : Int32) * nI m = nI (5684 * m) := by rw [show (5684 : Int32) = nI 5684 from rfl, pk_mul]
theorem nz_d5684 (m : Nat) : nI m * (5684 : Int32) = nI (m * 5684) := by rw [show (5684 : Int32) = nI 5684 from rfl, pk_mul]
theorem nz_0 (m : Nat) : (0 : Int32) + nI m = nI m := Int32.zero_add _
theorem nI_sub1 {k : Nat} (h : 0 < k) : nI k - 1 = nI (k - 1) := am_nsub (b := 1) h
theorem am_PA_keep {dd lf kp dd' lf' kp' : Nat → Int32} {n u m sh : Nat} {kd wh ws : Int32} (r : am_PA dd lf kp n u) (hm : m + sh = u) (hd : ∀ i, i < m → ∀ e, e < 3 → dd' (3 * i + e) = dd (3 * (i + sh) + e)) (hl : ∀ i, i < m → ∀ j, j < 45 → lf' (45 * i + j) = lf (45 * (i + sh) + j)) (d0 : dd' (3 * m) = kd) (d1 : dd' (3 * m + 1) = wh) (d2 : dd' (3 * m + 2) = ws) (l0 : ∀ j, j < 44 → lf' (45 * m + j) = kp j) (l44 : lf' (45 * m + 44) = kd) (hdd : am_dd n kd wh ws) (hmv : am_mv n kp) (n7 : n ≤ 7) (hun : ∀ j, j < 44 → kp j = am_un n kd wh ws kp' j) : am_PA dd' lf' kp' n (m + 1) := by
  have mvc : ∀ f g : Nat → Int32, (∀ j, j < 44 → f j = g j) → am_mv n g → am_mv n f := by
    intro f g e h
    refine ⟨fun q hq => ?_, ?_, ?_, fun q hq => ?_⟩
    · rw [e _ (by omega)]
      exact h.1 q hq
    · rw [e _ (by omega)]
      exact h.2.1
    · rw [e _ (by omega)]
      exact h.2.2.1
    · rw [e _ (by omega)]
      exact h.2.2.2 q hq
  intro i hi
  by_cases z : i = m
  · subst z
    rw [d0, d1, d2, l44]
    refine ⟨hdd, rfl, mvc _ _ l0 hmv, fun j hj => ?_⟩
    rw [l0 j hj, if_pos rfl]
    exact hun j hj
  · have hi2 : i < m := by omega
    obtain ⟨h1, h2, h3, h4⟩ := r (i + sh) (by omega)
    have e0 : dd' (3 * i) = dd (3 * (i + sh)) := hd i hi2 0 (by omega)
    have e1 := hd i hi2 1 (by omega)
    have e2 := hd i hi2 2 (by omega)
    rw [e0, e1, e2, hl i hi2 44 (by omega)]
    refine ⟨h1, h2, mvc _ _ (fun j hj => hl i hi2 j (by omega)) h3, fun j hj => ?_⟩
    rw [hl i hi2 j (by omega), h4 j hj, if_neg (show ¬ i + 1 = m + 1 by omega)]
    by_cases z2 : i + 1 = m
    · rw [if_pos (show i + sh + 1 = u by omega)]
      refine (am_un_cg hj (fun j2 hj2 => ?_)).symm
      rw [z2]
      exact l0 j2 hj2
    · rw [if_neg (show ¬ i + sh + 1 = u by omega)]
      refine (am_un_cg hj (fun j2 hj2 => ?_)).symm
      have e3 := hl (i + 1) (by omega) j2 (by omega)
      rw [show i + 1 + sh = i + sh + 1 by omega] at e3
      exact e3
section
variable {pr : am_Pr} {d : Nat} {S : List (Nat × Nat)} {I : Nat → Nat → Int32} {J : Nat → Nat → Int64} {P : Nat → Nat → Option Nat} {Q : Option Value → am_H → Prop}
/-- keeps -/
theorem c250 (L : am_Lay S P) {u : Nat} (hu : I 124 35 = nI u) (hu16 : u ≤ 16) {x : Int32} (k : ∀ (m sh : Nat) (I' : Nat → Nat → Int32), m ≤ 15 → m + sh = u → (sh = 0 ∨ (sh = 1 ∧ m = 15)) → (∀ a, a ≠ 124 → a ≠ 141 → I' a = I a) → (∀ q, q ≠ 35 → I' 124 q = I 124 q) → I' 124 35 = nI (m + 1) → (∀ i, i < m → ∀ j, j < 45 → I' 141 (45 * i + j) = I 141 (45 * (i + sh) + j)) → (∀ j, j < 44 → I' 141 (45 * m + j) = I 126 j) → I' 141 (45 * m + 44) = x → Q none (S, I', J, P)) : am_ev pr d 250 [.ref 124, .int x] (S, I, J, P) Q := by
  have key : ∀ (m sh : Nat) (I1 : Nat → Nat → Int32), m ≤ 15 → m + sh = u → (sh = 0 ∨ (sh = 1 ∧ m = 15)) → (∀ a, a ≠ 124 → a ≠ 141 → I1 a = I a) → (∀ q, q ≠ 35 → I1 124 q = I 124 q) → I1 124 35 = nI m → (∀ i, i < m → ∀ j, j < 45 → I1 141 (45 * i + j) = I 141 (45 * (i + sh) + j)) → ∀ lv, am_ld1 lv 0 = some (.ref 124) → am_ld1 lv 1 = some (.int x) → am_ld1 lv 2 = some (.int (nI 45)) → am_wp pr (d) 250 52 lv [] (S, I1, J, P) Q := by
    intro m sh I1 hm15 hms hsh f1 f2 f3 f4 lv l0 l1 l2
    have f126 := f1 126 (by decide) (by decide)
    refine w250_52 ?_
    refine w250_53 ?_
    refine am_for (fun b => ∀ I' : Nat → Nat → Int32, (∀ a, a ≠ 141 → I' a = I1 a) → (∀ i, i < m → ∀ j, j < 45 → I' 141 (45 * i + j) = I1 141 (45 * i + j)) → (∀ j, j < b → I' 141 (45 * m + j) = I 126 j) → ∀ lv, am_ld1 lv 0 = some (.ref 124) → am_ld1 lv 1 = some (.int x) → am_ld1 lv 2 = some (.int (nI 45)) → am_ld1 lv 3 = some (.int (nI b)) → am_wp pr (d) 250 54 lv [] (S, I', J, P) Q) 44 ?_ ?_ I1 (fun _ _ => rfl) (fun _ _ _ _ => rfl) (fun j hj => absurd hj (Nat.not_lt_zero j)) _ l0 l1 l2 rfl
    · clear l0 l1 l2 lv
      intro b hb ih I' h1 h2 h3 lv l0 l1 l2 l3
      have e35 : I' 124 35 = nI m := by rw [h1 124 (by decide)]; exact f3
      have e126 : I' 126 b = I 126 b := by rw [h1 126 (by decide), f126]
      have g1 : ∀ a, a ≠ 141 → am_u I' 141 (45 * m + b) (I 126 b) a = I1 a := fun a ha => (am_u_ne ha).trans (h1 a ha)
      have g2 : ∀ i, i < m → ∀ j, j < 45 → am_u I' 141 (45 * m + b) (I 126 b) 141 (45 * i + j) = I1 141 (45 * i + j) := fun i hi j hj => (am_u_at (by omega)).trans (h2 i hi j hj)
      have g3 : ∀ j, j < b + 1 → am_u I' 141 (45 * m + b) (I 126 b) 141 (45 * m + j) = I 126 j := by
        intro j hj
        by_cases hjb : j = b
        · subst hjb
          exact am_u_self
        · rw [am_u_at (by omega)]
          exact h3 j (by omega)
      refine w250_54 l3 ?_
      refine w250_55 ?_
      refine w250_57 (fun h => absurd h (am_nlt hb (by decide))) (fun _ => ?_)
      refine w250_60 l0 ?_
      refine w250_61 (L.2 _ _ _ rfl) ?_
      refine w250_64 l2 ?_
      refine w250_65 l0 ?_
      refine w250_66 ?_
      rw [e35]
      refine w250_69 ?_
      rw [pk_mul]
      refine w250_70 l3 ?_
      refine w250_71 ?_
      rw [nI_add]
      refine w250_72 l0 ?_
      refine w250_73 (L.2 _ _ _ rfl) ?_
      refine w250_76 l3 ?_
      refine w250_77 (L.sh rfl) (am_in_nI (by omega) (by decide)) ?_
      rw [am_clN (by omega), e126]
      refine w250_78 (by first | with_reducible assumption | exact L.sh rfl | exact hh.sh rfl | exact hp.2.2) (by first | with_reducible assumption | with_reducible exact am_in_nI (by omega) (by decide) | with_reducible exact am_inb (by omega) (by omega) | with_reducible exact am_inb' (by omega) (by omega) | with_reducible exact am_in35 (by omega) | with_reducible exact am_inw (by omega) (by omega) | with_reducible decide) ?_
      try simp (disch := omega) only [am_clb, am_clb', am_cl35, am_clw, am_clN]
      refine w250_79 l3 ?_
      refine w250_82 ?_
      exact ih _ g1 g2 g3 _ l0 l1 l2 (am_nx b)
    · clear l0 l1 l2 lv
      intro I' h1 h2 h3 lv l0 l1 l2 l3
      have e35 : I' 124 35 = nI m := by rw [h1 124 (by decide)]; exact f3
      refine w250_54 l3 ?_
      refine w250_55 ?_
      refine w250_57 (fun _ => ?_) (fun h => absurd (Int32.le_refl _) h)
      refine w250_85 l0 ?_
      refine w250_86 (L.2 _ _ _ rfl) ?_
      refine w250_89 l2 ?_
      refine w250_90 l0 ?_
      refine w250_91 ?_
      rw [e35]
      refine w250_94 ?_
      rw [pk_mul]
      refine w250_95 ?_
      refine w250_97 ?_
      simp only [nI_add, nz_0, nz_a1, nz_b1, nz_c1, nz_d1, nz_a2, nz_b2, nz_c2, nz_d2, nz_a3, nz_b3, nz_c3, nz_d3, nz_a4, nz_b4, nz_c4, nz_d4, nz_a5, nz_b5, nz_c5, nz_d5, nz_a6, nz_b6, nz_c6, nz_d6, nz_a7, nz_b7, nz_c7, nz_d7, nz_a8, nz_b8, nz_c8, nz_d8, nz_a13, nz_b13, nz_c13, nz_d13, nz_a20, nz_b20, nz_c20, nz_d20, nz_a35, nz_b35, nz_c35, nz_d35, nz_a44, nz_b44, nz_c44, nz_d44, nz_a45, nz_b45, nz_c45, nz_d45, nz_a51, nz_b51, nz_c51, nz_d51, nz_a58, nz_b58, nz_c58, nz_d58, nz_a77, nz_b77, nz_c77, nz_d77, nz_a84, nz_b84, nz_c84, nz_d84, nz_a400, nz_b400, nz_c400, nz_d400, nz_a2884, nz_b2884, nz_c2884, nz_d2884, nz_a5684, nz_b5684, nz_c5684, nz_d5684]
      refine w250_98 l1 ?_
      refine w250_99 (by first | with_reducible assumption | exact L.sh rfl | exact hh.sh rfl | exact hp.2.2) (by first | with_reducible assumption | with_reducible exact am_in_nI (by omega) (by decide) | with_reducible exact am_inb (by omega) (by omega) | with_reducible exact am_inb' (by omega) (by omega) | with_reducible exact am_in35 (by omega) | with_reducible exact am_inw (by omega) (by omega) | with_reducible decide) ?_
      try simp (disch := omega) only [am_clb, am_clb', am_cl35, am_clw, am_clN]
      refine w250_100 l0 ?_
      refine w250_101 rfl ?_
      refine w250_102 ?_
      rw [am_u_ne (show 124 ≠ 141 by decide), e35]
      refine w250_105 ?_
      refine w250_106 ?_
      rw [nI_1]
      refine w250_107 ?_
      refine w250_110 ?_
      refine k m sh _ hm15 hms hsh ?_ ?_ ?_ ?_ ?_ ?_
      · intro a h4 h5
        rw [am_u_ne h4, am_u_ne h5, h1 a h5]
        exact f1 a h4 h5
      · intro q hq
        rw [am_u_at hq, am_u_ne (by decide), h1 124 (by decide)]
        exact f2 q hq
      · exact am_u_self
      · intro i hi j hj
        rw [am_u_ne (by decide), am_u_at (by omega), h2 i hi j hj]
        exact f4 i hi j hj
      · intro j hj
        rw [am_u_ne (by decide), am_u_at (by omega)]
        exact h3 j hj
      · rw [am_u_ne (by decide)]
        exact am_u_self
  show am_wp pr d 250 0 [(0, .ref 124), (1, .int x)] [] _ _
  by_cases h16 : u < 16
  · refine w250_0 ?_
    refine w250_2 ?_
    refine w250_3 rfl ?_
    refine w250_4 ?_
    rw [hu]
    refine w250_7 ?_
    refine w250_9 (fun _ => ?_) (fun h => absurd (fun z => absurd ((nI_eq (a := u) (b := 16) (by omega) (by omega)).mp z) (by omega)) h)
    exact key u 0 I (by omega) rfl (Or.inl rfl) (fun _ _ _ => rfl) (fun _ _ => rfl) hu (fun _ _ _ _ => rfl) _ rfl rfl rfl
  · have hu2 : u = 16 := by omega
    subst hu2
    refine w250_0 ?_
    refine w250_2 ?_
    refine w250_3 rfl ?_
    refine w250_4 ?_
    rw [hu]
    refine w250_7 ?_
    refine w250_9 (fun h => absurd h (fun z => z rfl)) (fun _ => ?_)
    refine w250_12 ?_
    refine w250_13 ?_
    refine am_for (fun b => ∀ I' : Nat → Nat → Int32, (∀ a, a ≠ 141 → I' a = I a) → (∀ j, j < b → I' 141 j = I 141 (j + 45)) → (∀ j, b ≤ j → I' 141 j = I 141 j) → ∀ lv, am_ld1 lv 0 = some (.ref 124) → am_ld1 lv 1 = some (.int x) → am_ld1 lv 2 = some (.int (nI 45)) → am_ld1 lv 3 = some (.int (nI b)) → am_wp pr (d) 250 14 lv [] (S, I', J, P) Q) 675 ?_ ?_ I (fun _ _ => rfl) (fun j hj => absurd hj (Nat.not_lt_zero j)) (fun _ _ => rfl) _ rfl rfl rfl rfl
    · intro b hb ih I' h1 h2 h3 lv l0 l1 l2 l3
      have eb : I' 141 (b + 45) = I 141 (b + 45) := h3 _ (by omega)
      have g1 : ∀ a, a ≠ 141 → am_u I' 141 b (I 141 (b + 45)) a = I a := fun a ha => (am_u_ne ha).trans (h1 a ha)
      have g2 : ∀ j, j < b + 1 → am_u I' 141 b (I 141 (b + 45)) 141 j = I 141 (j + 45) := by
        intro j hj
        by_cases hjb : j = b
        · subst hjb
          exact am_u_self
        · rw [am_u_at (by omega)]
          exact h2 j (by omega)
      have g3 : ∀ j, b + 1 ≤ j → am_u I' 141 b (I 141 (b + 45)) 141 j = I 141 j := fun j hj => (am_u_at (by omega)).trans (h3 j (by omega))
      refine w250_14 l3 ?_
      refine w250_15 ?_
      refine w250_17 l2 ?_
      refine w250_18 ?_
      rw [show (15 : Int32) * nI 45 = nI 675 from rfl]
      refine w250_19 (fun h => absurd h (am_nlt hb (by decide))) (fun _ => ?_)
      refine w250_22 l0 ?_
      refine w250_23 (L.2 _ _ _ rfl) ?_
      refine w250_26 l3 ?_
      refine w250_27 l0 ?_
      refine w250_28 (L.2 _ _ _ rfl) ?_
      refine w250_31 l3 ?_
      refine w250_32 l2 ?_
      refine w250_33 ?_
      rw [nI_add]
      refine w250_34 (L.sh rfl) (am_in_nI (by omega) (by decide)) ?_
      rw [am_clN (by omega), eb]
      refine w250_35 (by first | with_reducible assumption | exact L.sh rfl | exact hh.sh rfl | exact hp.2.2) (by first | with_reducible assumption | with_reducible exact am_in_nI (by omega) (by decide) | with_reducible exact am_inb (by omega) (by omega) | with_reducible exact am_inb' (by omega) (by omega) | with_reducible exact am_in35 (by omega) | with_reducible exact am_inw (by omega) (by omega) | with_reducible decide) ?_
      try simp (disch := omega) only [am_clb, am_clb', am_cl35, am_clw, am_clN]
      refine w250_36 l3 ?_
      refine w250_39 ?_
      exact ih _ g1 g2 g3 _ l0 l1 l2 (am_nx b)
    · intro I' h1 h2 h3 lv l0 l1 l2 l3
      have e35 : I' 124 35 = nI 16 := by rw [h1 124 (by decide)]; exact hu
      refine w250_14 l3 ?_
      refine w250_15 ?_
      refine w250_17 l2 ?_
      refine w250_18 ?_
      rw [show (15 : Int32) * nI 45 = nI 675 from rfl]
      refine w250_19 (fun _ => ?_) (fun h => absurd (Int32.le_refl _) h)
      refine w250_42 l0 ?_
      refine w250_43 rfl ?_
      refine w250_44 ?_
      rw [e35]
      refine w250_47 ?_
      refine w250_48 ?_
      rw [show nI 16 - 1 = nI 15 from rfl]
      refine w250_49 ?_
      refine key 15 1 _ (by omega) rfl (Or.inr ⟨rfl, rfl⟩) ?_ ?_ am_u_self ?_ _ l0 l1 l2
      · intro a h4 h5
        rw [am_u_ne h4]
        exact h1 a h5
      · intro q hq
        rw [am_u_at hq, h1 124 (by decide)]
      · intro i hi j hj
        rw [am_u_ne (by decide), h2 _ (by omega), show 45 * i + j + 45 = 45 * (i + 1) + j by omega]
/-- Past: keep, once more -/
theorem c101b {p n : Nat} (hp : am_Pa S P p) {x y z : Int32} (hn : I p 0 = nI n) (hn16 : n ≤ 16) (k : ∀ (m sh : Nat) (I' : Nat → Nat → Int32), m ≤ 15 → m + sh = n → (sh = 0 ∨ (sh = 1 ∧ m = 15)) → (∀ a, a ≠ p → a ≠ p + 1 → I' a = I a) → I' p 0 = nI (m + 1) → (∀ i, i < m → ∀ e, e < 3 → I' (p + 1) (3 * i + e) = I (p + 1) (3 * (i + sh) + e)) → I' (p + 1) (3 * m) = x → I' (p + 1) (3 * m + 1) = y → I' (p + 1) (3 * m + 2) = z → Q none (S, I', J, P)) : am_ev pr (d + 1) 101 [.ref p, .int x, .int y, .int z] (S, I, J, P) Q := by
  refine c101 hp hn hn16 ?_
  intro m I1 hm
  have hne : p + 1 ≠ p := by omega
  rcases hm with ⟨h1, rfl, rfl⟩ | ⟨rfl, rfl, rfl⟩
  · refine k m 0 _ (by omega) rfl (Or.inl rfl) ?_ ?_ ?_ ?_ ?_ ?_
    · intro a h2 h3
      rw [am_u_ne h2, am_u_ne h3, am_u_ne h3, am_u_ne h3]
    · rw [am_u_self, nI_1]
    · intro i hi e he
      rw [am_u_ne hne, am_u_at (by omega), am_u_at (by omega), am_u_at (by omega)]
      rfl
    · rw [am_u_ne hne, am_u_at (by omega), am_u_at (by omega), am_u_self]
    · rw [am_u_ne hne, am_u_at (by omega), am_u_self]
    · rw [am_u_ne hne, am_u_self]
  · refine k 15 1 _ (by omega) rfl (Or.inr ⟨rfl, rfl⟩) ?_ ?_ ?_ ?_ ?_ ?_
    · intro a h2 h3
      rw [am_u_ne h2, am_u_ne h3, am_u_ne h3, am_u_ne h3, am_u_ne h2, am_row_ne h3]
    · rw [am_u_self, nI_1]
    · intro i hi e he
      rw [am_u_ne hne, am_u_at (by omega), am_u_at (by omega), am_u_at (by omega), am_u_ne hne, am_row_self, pk_cpy_in (by omega) (by omega)]
      exact congrArg (I (p + 1)) (by omega)
    · rw [am_u_ne hne, am_u_at (by omega), am_u_at (by omega), am_u_self]
    · rw [am_u_ne hne, am_u_at (by omega), am_u_self]
    · rw [am_u_ne hne, am_u_self]
end
