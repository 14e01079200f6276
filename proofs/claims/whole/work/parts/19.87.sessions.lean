/-! sessions: what is drawn -/
section
variable {pr : am_Pr} {d : Nat} {S : List (Nat × Nat)} {I I' : Nat → Nat → Int32} {J : Nat → Nat → Int64} {P : Nat → Nat → Option Nat} {Q : Option Value → am_H → Prop} {n l s u tp : Nat} {kp lf kp' : Nat → Int32}
theorem hr_copy {h g : Nat} (hr : am_HR I g kp n l s) (hC : am_HC I I' h g) : am_HR I' h kp n l s := by
  obtain ⟨c0, c1, c2, c3, c4, c5, c6⟩ := hC
  have n7 := hr.n7
  have l6 := hr.l6
  have s6 := hr.s6
  refine am_HR_mk ?_ ?_ ?_ ?_ ?_ ?_ ?_ ?_ ?_ ?_ ?_ ?_ ?_ ?_ ?_ ?_
  · exact ⟨n7, l6, s6⟩
  · show I' h 0 = nI n ∧ kp 73 = nI n
    rw [c0 0 (by omega)]; exact hr 1
  · intro m hm
    show am_bit (I' h 1) m = 1 ↔ m < n ∧ kp (35 + m) = 1
    rw [c0 1 (by omega)]; exact hr 2 m hm
  · exact hr.k01
  · show I' h 2 = kp 42 ∧ ∃ x, x < 32 ∧ kp 42 = nI x
    rw [c0 2 (by omega)]; exact hr 4
  · show I' h 3 = nI l ∧ kp 75 = nI l
    rw [c0 3 (by omega)]; exact hr 5
  · show I' h 4 = kp 76 ∧ (kp 76 = -1 ∨ ∃ f, f < l ∧ kp 76 = nI f)
    rw [c0 4 (by omega)]; exact hr 6
  · show I' h 5 = nI s ∧ kp 74 = nI s
    rw [c0 5 (by omega)]; exact hr 7
  · intro m hm
    show I' (h + 1 + 0) m = kp (44 + m) ∧ ∃ x, 1 ≤ x ∧ x ≤ 9 ∧ kp (44 + m) = nI x
    rw [c1 m (by omega)]; exact hr 8 m hm
  · intro m hm
    show I' (h + 1 + 1) m = kp (51 + m)
    rw [c2 m (by omega)]; exact hr 9 m hm
  · intro j hj
    show I' (h + 1 + 2) j = kp j ∧ ∃ x, x ≤ 9 ∧ kp j = nI x
    rw [c3 j (by omega)]; exact hr 10 j hj
  · show I' (h + 1 + 3) 0 = kp 43 ∧ ∃ x, x ≤ 999 ∧ kp 43 = nI x
    rw [c4 0 (by omega)]; exact hr 11
  · show I' (h + 1 + 3) 1 = kp 70 ∧ ∃ x, x ≤ 10 ∧ kp 70 = nI x
    rw [c4 1 (by omega)]; exact hr 12
  · show I' (h + 1 + 3) 2 = kp 71
    rw [c4 2 (by omega)]; exact hr 13
  · show I' (h + 1 + 3) 3 = kp 72 ∧ ∃ x, x ≤ 99 ∧ kp 72 = nI x
    rw [c4 3 (by omega)]; exact hr 14
  · intro i hi
    show ∃ a b, a < 5 ∧ b < 5 ∧ I' (h + 1 + 5) i = nI a ∧ kp (58 + 2 * i) = nI a ∧ I' (h + 1 + 6) i = nI b ∧ kp (58 + 2 * i + 1) = nI b
    rw [c5 i (by omega), c6 i (by omega)]; exact hr 15 i hi
theorem hr_mv {h : Nat} {I1 : Nat → Nat → Int32} (hr : am_HR I h kp n l s) (er : ∀ a, a ≠ h → a ≠ h + 1 + 2 → a ≠ h + 1 + 3 → I1 a = I a) (eh : ∀ q, q ≠ 1 → q ≠ 2 → I1 h q = I h q) (e69 : ∀ q, q ≠ 0 → I1 (h + 1 + 3) q = I (h + 1 + 3) q) (ek : ∀ j, 44 ≤ j → kp' j = kp j) (mv : am_mv n kp') (h2 : ∀ m, m < 32 → (am_bit (I1 h 1) m = 1 ↔ m < n ∧ kp' (35 + m) = 1)) (h4 : I1 h 2 = kp' 42) (h10 : ∀ j, j < n * 5 → I1 (h + 1 + 2) j = kp' j) (h11 : I1 (h + 1 + 3) 0 = kp' 43) : am_HR I1 h kp' n l s := by
  have n7 := hr.n7
  have l6 := hr.l6
  have s6 := hr.s6
  obtain ⟨m1, m2, m3, m4⟩ := mv
  have e0 : I1 (h + 1 + 0) = I (h + 1 + 0) := er _ (by omega) (by omega) (by omega)
  have e1 : I1 (h + 1 + 1) = I (h + 1 + 1) := er _ (by omega) (by omega) (by omega)
  have e5 : I1 (h + 1 + 5) = I (h + 1 + 5) := er _ (by omega) (by omega) (by omega)
  have e6 : I1 (h + 1 + 6) = I (h + 1 + 6) := er _ (by omega) (by omega) (by omega)
  refine am_HR_mk ?_ ?_ ?_ ?_ ?_ ?_ ?_ ?_ ?_ ?_ ?_ ?_ ?_ ?_ ?_ ?_
  · exact ⟨n7, l6, s6⟩
  · show I1 h 0 = nI n ∧ kp' 73 = nI n
    rw [eh 0 (by decide) (by decide), ek 73 (by omega)]; exact hr 1
  · exact h2
  · exact m1
  · exact ⟨h4, m2⟩
  · show I1 h 3 = nI l ∧ kp' 75 = nI l
    rw [eh 3 (by decide) (by decide), ek 75 (by omega)]; exact hr 5
  · show I1 h 4 = kp' 76 ∧ (kp' 76 = -1 ∨ ∃ f, f < l ∧ kp' 76 = nI f)
    rw [eh 4 (by decide) (by decide), ek 76 (by omega)]; exact hr 6
  · show I1 h 5 = nI s ∧ kp' 74 = nI s
    rw [eh 5 (by decide) (by decide), ek 74 (by omega)]; exact hr 7
  · intro m hm
    show I1 (h + 1 + 0) m = kp' (44 + m) ∧ ∃ x, 1 ≤ x ∧ x ≤ 9 ∧ kp' (44 + m) = nI x
    rw [e0, ek (44 + m) (by omega)]; exact hr 8 m hm
  · intro m hm
    show I1 (h + 1 + 1) m = kp' (51 + m)
    rw [e1, ek (51 + m) (by omega)]; exact hr 9 m hm
  · intro j hj
    exact ⟨h10 j hj, m4 j hj⟩
  · exact ⟨h11, m3⟩
  · show I1 (h + 1 + 3) 1 = kp' 70 ∧ ∃ x, x ≤ 10 ∧ kp' 70 = nI x
    rw [e69 1 (by decide), ek 70 (by omega)]; exact hr 12
  · show I1 (h + 1 + 3) 2 = kp' 71
    rw [e69 2 (by decide), ek 71 (by omega)]; exact hr 13
  · show I1 (h + 1 + 3) 3 = kp' 72 ∧ ∃ x, x ≤ 99 ∧ kp' 72 = nI x
    rw [e69 3 (by decide), ek 72 (by omega)]; exact hr 14
  · intro i hi
    show ∃ a b, a < 5 ∧ b < 5 ∧ I1 (h + 1 + 5) i = nI a ∧ kp' (58 + 2 * i) = nI a ∧ I1 (h + 1 + 6) i = nI b ∧ kp' (58 + 2 * i + 1) = nI b
    rw [e5, e6, ek (58 + 2 * i) (by omega), ek (58 + 2 * i + 1) (by omega)]; exact hr 15 i hi
def z_a (a : Nat) : Nat := (a * 1103 + 12345) % 1000003
theorem z_a_lt (a : Nat) : z_a a < 1000003 := Nat.mod_lt _ (by decide)
theorem z_rem {a m : Nat} (ha : a < 2 ^ 31) (hm : m < 2 ^ 31) : nI a - nI a / nI m * nI m = nI (a % m) := by
  have e1 : (nI a).toInt = a := nI_toInt (by omega)
  have e2 : (nI m).toInt = m := nI_toInt (by omega)
  have q1 : a / m ≤ a := Nat.div_le_self a m
  have q2 : a / m * m ≤ a := Nat.div_mul_le_self a m
  have e3 : nI a / nI m = nI (a / m) := by
    apply Int32.toInt_inj.mp
    rw [Int32.toInt_div, e1, e2, nI_toInt (by omega), show (a : Int).tdiv (m : Int) = ((a / m : Nat) : Int) from rfl]
    have gen : ∀ q : Nat, q ≤ a → Int.bmod (q : Int) (2 ^ 32) = q := fun q hq => Int.bmod_eq_of_le (by omega) (by omega)
    exact gen _ q1
  rw [e3, pk_mul, am_nsub q2]
  congr 1
  rw [Nat.mul_comm]
  exact (Nat.mod_eq_sub _ _).symm
theorem z_dr {a : Nat} (ha : a < 1000003) : t_dr (nI a) = nI (z_a a) := by
  have e1 : (nI a).toInt64.toInt = a := by rw [Int32.toInt_toInt64, nI_toInt (by omega)]
  have b := z_a_lt a
  have y1 : ((nI a).toInt64 * 1103 + 12345).toInt = ((a * 1103 + 12345 : Nat) : Int) := by
    rw [Int64.toInt_add, Int64.toInt_mul, e1, show (1103 : Int64).toInt = 1103 from rfl, show (12345 : Int64).toInt = 12345 from rfl, Int.bmod_eq_of_le (n := (a : Int) * 1103) (by omega) (by omega), Int.bmod_eq_of_le (by omega) (by omega)]
    omega
  generalize hy : (nI a).toInt64 * 1103 + 12345 = y at y1
  have q2 : (a * 1103 + 12345) / 1000003 * 1000003 ≤ a * 1103 + 12345 := Nat.div_mul_le_self _ _
  have y2 : (y / 1000003).toInt = (((a * 1103 + 12345) / 1000003 : Nat) : Int) := by
    rw [Int64.toInt_div, y1, show (1000003 : Int64).toInt = 1000003 from rfl, show ((a * 1103 + 12345 : Nat) : Int).tdiv 1000003 = (((a * 1103 + 12345) / 1000003 : Nat) : Int) from rfl]
    exact Int.bmod_eq_of_le (by omega) (by omega)
  have y3 : (y - y / 1000003 * 1000003).toInt = (z_a a : Int) := by
    rw [Int64.toInt_sub, Int64.toInt_mul, y1, y2, show (1000003 : Int64).toInt = 1000003 from rfl, Int.bmod_eq_of_le (n := (((a * 1103 + 12345) / 1000003 : Nat) : Int) * 1000003) (by omega) (by omega), Int.bmod_eq_of_le (by omega) (by omega)]
    unfold z_a
    omega
  unfold t_dr
  rw [hy]
  apply Int32.toInt_inj.mp
  rw [Int64.toInt_toInt32, y3, nI_toInt (by omega)]
  exact Int.bmod_eq_of_le (by omega) (by omega)
/-- draw -/
theorem c155b (L : am_Lay S P) {a m : Nat} (h : I 64 12 = nI a) (ha : a < 1000003) (m0 : 0 < m) (hm : m < 2 ^ 31) (k : Q (some (.int (nI (z_a a % m)))) (S, am_u I 64 12 (nI (z_a a)), J, P)) : am_ev pr d 155 [.ref 64, .int (nI m)] (S, I, J, P) Q := by
  have b := z_a_lt a
  refine c155 L (nI_lt (a := 0) m0 (by omega)) ?_
  rw [h, z_dr ha, z_rem (by omega) hm]
  exact k
/-- draws -/
theorem c300 (L : am_Lay S P) {a m : Nat} (h : I 124 49 = nI a) (ha : a < 1000003) (m0 : 0 < m) (hm : m < 2 ^ 31) (k : Q (some (.int (nI (z_a a % m)))) (S, am_u I 124 49 (nI (z_a a)), J, P)) : am_ev pr d 300 [.ref 124, .int (nI m)] (S, I, J, P) Q := by
  have b := z_a_lt a
  have e : (1103 * (nI a).toInt64 + 12345 - (1103 * (nI a).toInt64 + 12345) / 1000003 * 1000003).toInt32 = nI (z_a a) := by
    rw [Int64.mul_comm 1103]
    exact z_dr ha
  show am_wp pr d 300 0 [(0, .ref 124), (1, .int (nI m))] [] _ _
  refine w300_0 rfl ?_
  refine w300_1 ?_
  refine w300_4 rfl ?_
  refine w300_5 ?_
  rw [h]
  refine w300_8 ?_
  refine w300_9 ?_
  refine w300_10 ?_
  refine w300_13 ?_
  refine w300_14 ?_
  refine w300_17 (by decide) ?_
  refine w300_18 ?_
  rw [e]
  refine w300_19 ?_
  refine w300_22 rfl ?_
  refine w300_23 ?_
  rw [am_u_self]
  refine w300_26 rfl ?_
  refine w300_27 (fun z => absurd ((nI_eq (a := m) (b := 0) (by omega) (by omega)).mp z) (by omega)) ?_
  rw [z_rem (by omega) hm]
  refine w300_28 ?_
  exact k
/-- what a session does -/
noncomputable def z_k (kp : Nat → Int32) (n : Nat) (lw : Option (List Cl)) (m b w q : Nat) : Nat → Int32 := if q = 0 then g_sw kp (m * 5 + b) (nI w) else if q = 1 then g_go kp m else @ite _ (g_ca kp n lw b) (Classical.propDecidable _) (g_put kp b) kp
noncomputable def z_st (kp : Nat → Int32) (n : Nat) (lw : Option (List Cl)) (a : Nat) : Nat → Int32 := g_pa (z_k kp n lw (z_a a % n) (z_a (z_a a) % 5) (z_a (z_a (z_a a)) % 10) (z_a (z_a (z_a (z_a a))) % 4)) n
theorem z_k_44 {lw : Option (List Cl)} {m b w q j : Nat} (hm : m < 7) (hb : b < 5) (hj : 43 ≤ j) : z_k kp n lw m b w q j = kp j := by
  unfold z_k
  by_cases h0 : q = 0
  · rw [if_pos h0]; exact if_neg (by omega)
  · rw [if_neg h0]
    by_cases h1 : q = 1
    · rw [if_pos h1]; exact if_neg (by omega)
    · rw [if_neg h1]
      by_cases h2 : g_ca kp n lw b
      · rw [if_pos h2]; exact if_neg (by omega)
      · rw [if_neg h2]
end
