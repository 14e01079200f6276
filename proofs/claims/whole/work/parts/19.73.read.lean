/-! both sides' calls: refusals; members, terms, laws in force, sights -/
def rf_c (I : Nat → Nat → Int32) (x : Int32) : Nat → Nat → Int32 := am_u (am_u I 64 16 x) 123 (-x).toNatClampNeg (am_u I 64 16 x 123 (-x).toNatClampNeg + 1)
def rf_m (I : Nat → Nat → Int32) (x : Int32) : Nat → Nat → Int32 := am_u (am_u I 124 0 x) 125 (-x).toNatClampNeg (am_u I 124 0 x 125 (-x).toNatClampNeg + 1)
theorem rf_c_ne {I : Nat → Nat → Int32} {x : Int32} {a : Nat} (h : a ≠ 64) (h2 : a ≠ 123) : rf_c I x a = I a := by unfold rf_c; rw [am_u_ne h2, am_u_ne h]
theorem rf_m_ne {I : Nat → Nat → Int32} {x : Int32} {a : Nat} (h : a ≠ 124) (h2 : a ≠ 125) : rf_m I x a = I a := by unfold rf_m; rw [am_u_ne h2, am_u_ne h]
theorem rf_c_64 {I : Nat → Nat → Int32} {x : Int32} {q : Nat} (h : q ≠ 16) : rf_c I x 64 q = I 64 q := by unfold rf_c; rw [am_u_ne (by decide), am_u_at h]
theorem rf_c_16 {I : Nat → Nat → Int32} {x : Int32} : rf_c I x 64 16 = x := by unfold rf_c; rw [am_u_ne (by decide), am_u_self]
theorem rf_m_124 {I : Nat → Nat → Int32} {x : Int32} {q : Nat} (h : q ≠ 0) : rf_m I x 124 q = I 124 q := by unfold rf_m; rw [am_u_ne (by decide), am_u_at h]
theorem rf_m_0 {I : Nat → Nat → Int32} {x : Int32} : rf_m I x 124 0 = x := by unfold rf_m; rw [am_u_ne (by decide), am_u_self]
theorem rf_c_123 {I : Nat → Nat → Int32} {x : Int32} {j : Nat} : rf_c I x 123 j = if j = (-x).toNatClampNeg then I 123 j + 1 else I 123 j := by
  unfold rf_c
  rw [am_u_get, am_u_ne (show 123 ≠ 64 by decide)]
  by_cases z : j = (-x).toNatClampNeg
  · rw [if_pos ⟨rfl, z⟩, if_pos z, z]
  · rw [if_neg (fun q => z q.2), if_neg z]
theorem rf_m_125 {I : Nat → Nat → Int32} {x : Int32} {j : Nat} : rf_m I x 125 j = if j = (-x).toNatClampNeg then I 125 j + 1 else I 125 j := by
  unfold rf_m
  rw [am_u_get, am_u_ne (show 125 ≠ 124 by decide)]
  by_cases z : j = (-x).toNatClampNeg
  · rw [if_pos ⟨rfl, z⟩, if_pos z, z]
  · rw [if_neg (fun q => z q.2), if_neg z]
theorem am_HR_mk {I : Nat → Nat → Int32} {h n l s : Nat} {kp : Nat → Int32} (c0 : am_HRf (I h) (I (h + 1 + 0)) (I (h + 1 + 1)) (I (h + 1 + 2)) (I (h + 1 + 3)) (I (h + 1 + 5)) (I (h + 1 + 6)) kp n l s 0) (c1 : am_HRf (I h) (I (h + 1 + 0)) (I (h + 1 + 1)) (I (h + 1 + 2)) (I (h + 1 + 3)) (I (h + 1 + 5)) (I (h + 1 + 6)) kp n l s 1) (c2 : am_HRf (I h) (I (h + 1 + 0)) (I (h + 1 + 1)) (I (h + 1 + 2)) (I (h + 1 + 3)) (I (h + 1 + 5)) (I (h + 1 + 6)) kp n l s 2) (c3 : am_HRf (I h) (I (h + 1 + 0)) (I (h + 1 + 1)) (I (h + 1 + 2)) (I (h + 1 + 3)) (I (h + 1 + 5)) (I (h + 1 + 6)) kp n l s 3) (c4 : am_HRf (I h) (I (h + 1 + 0)) (I (h + 1 + 1)) (I (h + 1 + 2)) (I (h + 1 + 3)) (I (h + 1 + 5)) (I (h + 1 + 6)) kp n l s 4) (c5 : am_HRf (I h) (I (h + 1 + 0)) (I (h + 1 + 1)) (I (h + 1 + 2)) (I (h + 1 + 3)) (I (h + 1 + 5)) (I (h + 1 + 6)) kp n l s 5) (c6 : am_HRf (I h) (I (h + 1 + 0)) (I (h + 1 + 1)) (I (h + 1 + 2)) (I (h + 1 + 3)) (I (h + 1 + 5)) (I (h + 1 + 6)) kp n l s 6) (c7 : am_HRf (I h) (I (h + 1 + 0)) (I (h + 1 + 1)) (I (h + 1 + 2)) (I (h + 1 + 3)) (I (h + 1 + 5)) (I (h + 1 + 6)) kp n l s 7) (c8 : am_HRf (I h) (I (h + 1 + 0)) (I (h + 1 + 1)) (I (h + 1 + 2)) (I (h + 1 + 3)) (I (h + 1 + 5)) (I (h + 1 + 6)) kp n l s 8) (c9 : am_HRf (I h) (I (h + 1 + 0)) (I (h + 1 + 1)) (I (h + 1 + 2)) (I (h + 1 + 3)) (I (h + 1 + 5)) (I (h + 1 + 6)) kp n l s 9) (c10 : am_HRf (I h) (I (h + 1 + 0)) (I (h + 1 + 1)) (I (h + 1 + 2)) (I (h + 1 + 3)) (I (h + 1 + 5)) (I (h + 1 + 6)) kp n l s 10) (c11 : am_HRf (I h) (I (h + 1 + 0)) (I (h + 1 + 1)) (I (h + 1 + 2)) (I (h + 1 + 3)) (I (h + 1 + 5)) (I (h + 1 + 6)) kp n l s 11) (c12 : am_HRf (I h) (I (h + 1 + 0)) (I (h + 1 + 1)) (I (h + 1 + 2)) (I (h + 1 + 3)) (I (h + 1 + 5)) (I (h + 1 + 6)) kp n l s 12) (c13 : am_HRf (I h) (I (h + 1 + 0)) (I (h + 1 + 1)) (I (h + 1 + 2)) (I (h + 1 + 3)) (I (h + 1 + 5)) (I (h + 1 + 6)) kp n l s 13) (c14 : am_HRf (I h) (I (h + 1 + 0)) (I (h + 1 + 1)) (I (h + 1 + 2)) (I (h + 1 + 3)) (I (h + 1 + 5)) (I (h + 1 + 6)) kp n l s 14) (c15 : am_HRf (I h) (I (h + 1 + 0)) (I (h + 1 + 1)) (I (h + 1 + 2)) (I (h + 1 + 3)) (I (h + 1 + 5)) (I (h + 1 + 6)) kp n l s 15) : am_HR I h kp n l s := by
  intro q
  match q with
  | 0 => exact c0
  | 1 => exact c1
  | 2 => exact c2
  | 3 => exact c3
  | 4 => exact c4
  | 5 => exact c5
  | 6 => exact c6
  | 7 => exact c7
  | 8 => exact c8
  | 9 => exact c9
  | 10 => exact c10
  | 11 => exact c11
  | 12 => exact c12
  | 13 => exact c13
  | 14 => exact c14
  | 15 => exact c15
  | q + 16 => exact trivial
section
variable {pr : am_Pr} {d : Nat} {S : List (Nat × Nat)} {I I' : Nat → Nat → Int32} {J : Nat → Nat → Int64} {P : Nat → Nat → Option Nat} {Q : Option Value → am_H → Prop} {n l s u tp n' s' u' tp' : Nat} {kp kp' : Nat → Int32}
/-- both have refused -/
theorem am_R_rf (r : am_R S I P n l s u tp) (x : Int32) : am_R S (rf_m (rf_c I x) x) P n l s u tp := by
  have e : ∀ a, a ≠ 64 → a ≠ 123 → a ≠ 124 → a ≠ 125 → rf_m (rf_c I x) x a = I a := fun a h1 h2 h3 h4 => by rw [rf_m_ne h3 h4, rf_c_ne h1 h2]
  have e124 : ∀ q, q ≠ 0 → rf_m (rf_c I x) x 124 q = I 124 q := fun q hq => by rw [rf_m_124 hq, rf_c_ne (by decide) (by decide)]
  have e64 : ∀ q, q ≠ 16 → rf_m (rf_c I x) x 64 q = I 64 q := fun q hq => by rw [rf_m_ne (by decide) (by decide), rf_c_64 hq]
  refine am_R_mk r (fun a ha => e a (by omega) (by omega) (by omega) (by omega)) (e _ (by decide) (by decide) (by decide) (by decide)) (e _ (by decide) (by decide) (by decide) (by decide)) (e _ (by decide) (by decide) (by decide) (by decide)) (fun j _ => by rw [e 126 (by decide) (by decide) (by decide) (by decide)]) ?_ ?_ ?_ ?_ ?_ ?_
  · exact am_HR_cg 65 (fun a h1 h2 => e a (by omega) (by omega) (by omega) (by omega)) (e 126 (by decide) (by decide) (by decide) (by decide)) r.hr
  · rw [e 90 (by decide) (by decide) (by decide) (by decide), e 91 (by decide) (by decide) (by decide) (by decide), e 141 (by decide) (by decide) (by decide) (by decide), e 126 (by decide) (by decide) (by decide) (by decide), e124 35 (by decide)]
    exact r.past
  · rw [e 94 (by decide) (by decide) (by decide) (by decide), e 95 (by decide) (by decide) (by decide) (by decide), e 131 (by decide) (by decide) (by decide) (by decide), e124 13 (by decide)]
    exact r.tape
  · rw [e 96 (by decide) (by decide) (by decide) (by decide), e124 14 (by decide), e124 40 (by decide), e124 6 (by decide), e64 13 (by decide), e64 14 (by decide), rf_m_0, rf_m_ne (show 64 ≠ 124 by decide) (by decide), rf_c_16]
    exact ⟨r.i8.1, r.i8.2.1, r.i8.2.2.1, rfl⟩
  · intro k hk
    rw [rf_m_125, rf_m_ne (by decide) (by decide), rf_c_123, rf_c_ne (show 125 ≠ 64 by decide) (by decide), r.i9 k hk]
  · rw [e 81 (by decide) (by decide) (by decide) (by decide), e 84 (by decide) (by decide) (by decide) (by decide), e 148 (by decide) (by decide) (by decide) (by decide), e124 48 (by decide)]
    exact r.draw
theorem op_rf (r : am_R S I P n l s u tp) (x : Int32) {mc mm : Nat} {ac am : List Value} (hc : ∀ Q : Option Value → am_H → Prop, Q (some (.int x)) (S, rf_c I x, J, P) → am_ev pr d mc ac (S, I, J, P) Q) (hm : ∀ (I1 : Nat → Nat → Int32) (J1 : Nat → Nat → Int64), (∀ a, a ≠ 64 → a ≠ 123 → I1 a = I a) → ∀ Q : Option Value → am_H → Prop, Q (some (.int x)) (S, rf_m I1 x, J1, P) → am_ev pr d mm am (S, I1, J1, P) Q) : am_op pr d S I J P mc ac mm am := hc _ ⟨x, rfl, hm _ _ (fun a h1 h2 => rf_c_ne h1 h2) _ (am_oi_0 (am_R_rf r x) rfl)⟩
/-- what lasts, after a call that was taken: the frame -/
theorem am_R_tk (r : am_R S I P n l s u tp) (e : ∀ a, 149 ≤ a ∨ a = 94 ∨ a = 95 ∨ a = 96 ∨ a = 131 ∨ a = 123 ∨ a = 125 ∨ a = 81 ∨ a = 84 ∨ a = 148 ∨ a = 127 ∨ a = 128 ∨ a = 130 → I' a = I a) (k77 : ∀ j, 77 ≤ j → I' 126 j = I 126 j) (e64 : I' 64 13 = I 64 13 ∧ I' 64 14 = I 64 14 ∧ I' 64 16 = 0) (e124 : I' 124 0 = 0 ∧ I' 124 6 = I 124 6 ∧ I' 124 13 = I 124 13 ∧ I' 124 14 = I 124 14 ∧ I' 124 40 = I 124 40 ∧ I' 124 48 = I 124 48) (i1 : am_HR I' 65 (I' 126) n' l s') (i6 : u' ≤ 16 ∧ I' 90 0 = nI u' ∧ I' 124 35 = nI u' ∧ am_PA (I' 91) (I' 141) (I' 126) n' u') : am_R S I' P n' l s' u' tp := by
  obtain ⟨z1, z2, z3⟩ := e64
  obtain ⟨y1, y2, y3, y4, y5, y6⟩ := e124
  refine am_R_mk r (fun a ha => e a (by omega)) (e _ (by omega)) (e _ (by omega)) (e _ (by omega)) k77 i1 i6 ?_ ?_ ?_ ?_
  · rw [e 94 (by omega), e 95 (by omega), e 131 (by omega), y3]
    exact r.tape
  · rw [e 96 (by omega), z1, z2, z3, y1, y2, y4, y5]
    exact ⟨r.i8.1, r.i8.2.1, r.i8.2.2.1, rfl⟩
  · rw [e 123 (by omega), e 125 (by omega)]
    exact r.i9
  · rw [e 81 (by omega), e 84 (by omega), e 148 (by omega), y6]
    exact r.draw
/-- a member is added -/
def am_HA (I I' : Nat → Nat → Int32) (h n : Nat) (x y : Int32) : Prop := I' h 0 = nI (n + 1) ∧ I' h 1 = I h 1 ||| 1 <<< (nI n &&& 31) ∧ (∀ q, 2 ≤ q → I' h q = I h q) ∧ (∀ j, I' (h + 1 + 0) j = if j = n then x else I (h + 1 + 0) j) ∧ (∀ j, I' (h + 1 + 1) j = if j = n then y else I (h + 1 + 1) j) ∧ ∀ j, I' (h + 1 + 2) j = if n * 5 ≤ j ∧ j < n * 5 + 5 then 0 else I (h + 1 + 2) j
theorem am_it5 {a n : Nat} : ∀ (k : Nat) (I : Nat → Nat → Int32), (∀ b, b ≠ a → am_it (fun b I' => am_u I' a (n + b) 0) k I b = I b) ∧ ∀ j, am_it (fun b I' => am_u I' a (n + b) 0) k I a j = if n ≤ j ∧ j < n + k then 0 else I a j
  | 0, I => ⟨fun _ _ => rfl, fun j => by rw [if_neg (by omega)]; rfl⟩
  | k + 1, I => by
    obtain ⟨h1, h2⟩ := am_it5 (a := a) (n := n) k I
    refine ⟨fun b hb => ?_, fun j => ?_⟩
    · rw [am_it_s, am_u_ne hb]
      exact h1 b hb
    · rw [am_it_s, am_u_get, h2]
      by_cases z : j = n + k
      · rw [if_pos ⟨rfl, z⟩, if_pos (by omega)]
      · rw [if_neg (fun q => z q.2)]
        by_cases y : n ≤ j ∧ j < n + k
        · rw [if_pos y, if_pos (by omega)]
        · rw [if_neg y, if_neg (by omega)]
theorem c13b {h : Nat} (hh : am_Hs S P h) {x y : Int32} (hn : I h 0 = nI n) (hn7 : n < 7) (k : ∀ I' : Nat → Nat → Int32, (∀ a, a ≠ h → a ≠ h + 1 + 0 → a ≠ h + 1 + 1 → a ≠ h + 1 + 2 → I' a = I a) → am_HA I I' h n x y → Q (some (.int (nI n))) (S, I', J, P)) : am_ev pr d 13 [.ref h, .int x, .int y] (S, I, J, P) Q := by
  refine c13 hh hn hn7 (fun I3 e => ?_)
  obtain ⟨z1, z2⟩ := am_it5 (a := h + 1 + 2) (n := n * 5) 5 (am_u (am_u I (h + 1 + 0) n x) (h + 1 + 1) n y)
  rw [← e] at z1 z2
  refine k _ (fun a a1 a2 a3 a4 => ?_) ⟨?_, ?_, fun q hq => ?_, fun j => ?_, fun j => ?_, fun j => ?_⟩
  · rw [am_u_ne a1, am_u_ne a1, z1 a a4, am_u_ne a3, am_u_ne a2]
  · rw [am_u_self, nI_1]
  · rw [am_u_at (by decide), am_u_self, z1 h (by omega), am_u_ne (by omega), am_u_ne (by omega)]
  · rw [am_u_at (by omega), am_u_at (by omega), z1 h (by omega), am_u_ne (by omega), am_u_ne (by omega)]
  · rw [am_u_ne (by omega), am_u_ne (by omega), z1 _ (by omega), am_u_ne (by omega), am_u_get]
    by_cases z : j = n
    · rw [if_pos ⟨rfl, z⟩, if_pos z]
    · rw [if_neg (fun q => z q.2), if_neg z]
  · rw [am_u_ne (by omega), am_u_ne (by omega), z1 _ (by omega), am_u_get, am_u_ne (by omega)]
    by_cases z : j = n
    · rw [if_pos ⟨rfl, z⟩, if_pos z]
    · rw [if_neg (fun q => z q.2), if_neg z]
  · rw [am_u_ne (by omega), am_u_ne (by omega), z2, am_u_ne (by omega), am_u_ne (by omega)]
def am_KA (kp kp' : Nat → Int32) (n : Nat) (x y : Int32) : Prop := ∀ j, kp' j = if j = 73 then nI (n + 1) else if n * 5 ≤ j ∧ j < n * 5 + 5 then 0 else if j = 35 + n then 1 else if j = 51 + n then y else if j = 44 + n then x else kp j
/-- adds -/
theorem c172 (L : am_Lay S P) {x y : Int32} (hn : I 126 73 = nI n) (hn7 : n < 7) (k : ∀ I' : Nat → Nat → Int32, (∀ a, a ≠ 126 → I' a = I a) → am_KA (I 126) (I' 126) n x y → Q (some (.int (nI n))) (S, I', J, P)) : am_ev pr (d + 1) 172 [.ref 124, .int x, .int y] (S, I, J, P) Q := by
  show am_wp pr (d + 1) 172 0 [(0, .ref 124), (1, .int x), (2, .int y)] [] _ _
  refine w172_0 rfl ?_
  refine w172_1 (k := c171 L ?_)
  rw [hn]
  refine w172_4 ?_
  refine w172_5 rfl ?_
  refine w172_6 (L.2 _ _ _ rfl) ?_
  refine w172_9 ?_
  refine w172_11 rfl ?_
  refine w172_12 ?_
  rw [nz_a44]
  refine w172_13 rfl ?_
  refine w172_14 (L.sh rfl) (am_in_nI (by omega) (by decide)) ?_
  rw [am_clN (by omega)]
  refine w172_15 rfl ?_
  refine w172_16 (L.2 _ _ _ rfl) ?_
  refine w172_19 ?_
  refine w172_21 rfl ?_
  refine w172_22 ?_
  rw [nz_a51]
  refine w172_23 rfl ?_
  refine w172_24 (L.sh rfl) (am_in_nI (by omega) (by decide)) ?_
  rw [am_clN (by omega)]
  refine w172_25 rfl ?_
  refine w172_26 (L.2 _ _ _ rfl) ?_
  refine w172_29 ?_
  refine w172_31 rfl ?_
  refine w172_32 ?_
  rw [nz_a35]
  refine w172_33 ?_
  refine w172_34 (L.sh rfl) (am_in_nI (by omega) (by decide)) ?_
  rw [am_clN (by omega)]
  refine w172_35 ?_
  refine w172_36 ?_
  have hz := am_it5 (a := 126) (n := n * 5) 5 (am_u (am_u (am_u I 126 (44 + n) x) 126 (51 + n) y) 126 (35 + n) 1)
  generalize hI0 : am_u (am_u (am_u I 126 (44 + n) x) 126 (51 + n) y) 126 (35 + n) 1 = I0 at *
  have e73 : I0 126 73 = nI n := by rw [← hI0, am_u_at (by omega), am_u_at (by omega), am_u_at (by omega)]; exact hn
  refine am_loop (α := Nat → Nat → Int32) (fun b I' => am_u I' 126 (n * 5 + b) 0) (fun b I' => I' 126 73 = nI n → ∀ lv, am_ld1 lv 0 = some (.ref 124) → am_ld1 lv 3 = some (.int (nI n)) → am_ld1 lv 4 = some (.int (nI b)) → am_wp pr (d + 1) 172 38 lv [] (S, I', J, P) Q) 5 ?_ I0 ?_ e73 _ rfl rfl rfl
  · intro b I' hb ih h73 lv l0 l3 l4
    have eb : (0 : Int32) + 5 * nI n + nI b = nI (n * 5 + b) := by rw [am_0n, am_seat', Nat.mul_comm]
    refine w172_38 l4 ?_
    refine w172_40 ?_
    refine w172_41 (fun hQ => absurd hQ (am_nlt hb (by decide))) (fun _ => ?_)
    refine w172_44 l0 ?_
    refine w172_45 (L.2 _ _ _ rfl) ?_
    refine w172_48 ?_
    refine w172_49 ?_
    refine w172_50 l3 ?_
    refine w172_51 ?_
    refine w172_52 ?_
    refine w172_53 l4 ?_
    refine w172_55 ?_
    rw [eb]
    refine w172_56 ?_
    refine w172_57 (L.sh rfl) (am_in_nI (by omega) (by decide)) ?_
    rw [am_clN (by omega)]
    refine w172_58 l4 ?_
    refine w172_61 ?_
    exact ih (by rw [am_u_at (by omega)]; exact h73) _ l0 l3 (am_nx b)
  · intro h73 lv l0 l3 l4
    refine w172_38 l4 ?_
    refine w172_40 ?_
    refine w172_41 (fun _ => ?_) (fun hQ => absurd (Int32.le_refl _) hQ)
    refine w172_64 l0 ?_
    refine w172_65 (L.2 _ _ _ rfl) ?_
    refine w172_68 ?_
    refine w172_70 ⟨rfl, rfl⟩ ?_
    refine w172_71 (L.sh rfl) (by decide) ?_
    rw [tl_73, h73]
    refine w172_72 ?_
    refine w172_73 ?_
    rw [nI_1]
    refine w172_74 (L.sh rfl) (by decide) ?_
    rw [tl_73]
    refine w172_75 l3 ?_
    refine w172_76 ?_
    refine k _ (fun a ha => ?_) (fun j => ?_)
    · rw [am_u_ne ha, hz.1 a ha, ← hI0, am_u_ne ha, am_u_ne ha, am_u_ne ha]
    · rw [am_u_get]
      by_cases z1 : j = 73
      · rw [if_pos ⟨rfl, z1⟩, if_pos z1]
      · rw [if_neg (fun q => z1 q.2), if_neg z1, hz.2]
        by_cases z2 : n * 5 ≤ j ∧ j < n * 5 + 5
        · rw [if_pos z2, if_pos z2]
        · rw [if_neg z2, if_neg z2, ← hI0, am_u_get]
          by_cases z3 : j = 35 + n
          · rw [if_pos ⟨rfl, z3⟩, if_pos z3]
          · rw [if_neg (fun q => z3 q.2), if_neg z3, am_u_get]
            by_cases z4 : j = 51 + n
            · rw [if_pos ⟨rfl, z4⟩, if_pos z4]
            · rw [if_neg (fun q => z4 q.2), if_neg z4, am_u_get]
              by_cases z5 : j = 44 + n
              · rw [if_pos ⟨rfl, z5⟩, if_pos z5]
              · rw [if_neg (fun q => z5 q.2), if_neg z5]
/-- a house and the row, with one member more; its wants w -/
theorem am_HR_add {h : Nat} {x y : Int32} {w : Nat → Nat} (hr : am_HR I h kp n l s) (hn7 : n < 7) (hx : ∃ v, 1 ≤ v ∧ v ≤ 9 ∧ x = nI v) (h0 : I' h 0 = nI (n + 1)) (h1 : I' h 1 = I h 1 ||| 1 <<< (nI n &&& 31)) (h2 : ∀ q, 2 ≤ q → I' h q = I h q) (h3 : ∀ j, I' (h + 1 + 0) j = if j = n then x else I (h + 1 + 0) j) (h4 : ∀ j, I' (h + 1 + 1) j = if j = n then y else I (h + 1 + 1) j) (h5 : ∀ j, j < n * 5 → I' (h + 1 + 2) j = I (h + 1 + 2) j) (h6 : ∀ b, b < 5 → w b ≤ 9 ∧ I' (h + 1 + 2) (n * 5 + b) = nI (w b) ∧ kp' (n * 5 + b) = nI (w b)) (h7 : I' (h + 1 + 3) = I (h + 1 + 3)) (h8 : I' (h + 1 + 5) = I (h + 1 + 5)) (h9 : I' (h + 1 + 6) = I (h + 1 + 6)) (k73 : kp' 73 = nI (n + 1)) (k35 : kp' (35 + n) = 1) (k44 : kp' (44 + n) = x) (k51 : kp' (51 + n) = y) (kf : ∀ j, j ≠ 73 → j ≠ 35 + n → j ≠ 44 + n → j ≠ 51 + n → ¬ (n * 5 ≤ j ∧ j < n * 5 + 5) → kp' j = kp j) : am_HR I' h kp' (n + 1) l s := by
  have kk : ∀ j, j ≠ 73 → j ≠ 35 + n → j ≠ 44 + n → j ≠ 51 + n → ¬ (n * 5 ≤ j ∧ j < n * 5 + 5) → kp' j = kp j := kf
  intro q
  match q with
  | 0 => exact ⟨by omega, hr.l6, hr.s6⟩
  | 1 => exact ⟨h0, k73⟩
  | 2 =>
    intro m hm
    rw [h1, am_bit_or hm, am_bit_sh1 (by omega) hm, hr.he m hm]
    by_cases z : m = n
    · subst z
      exact ⟨fun _ => ⟨by omega, k35⟩, fun _ => Or.inr rfl⟩
    · constructor
      · rintro (⟨a1, a2⟩ | a1)
        · exact ⟨by omega, by rw [kk _ (by omega) (by omega) (by omega) (by omega) (by omega)]; exact a2⟩
        · exact absurd a1 z
      · rintro ⟨a1, a2⟩
        refine Or.inl ⟨by omega, ?_⟩
        rw [kk _ (by omega) (by omega) (by omega) (by omega) (by omega)] at a2
        exact a2
  | 3 =>
    intro m hm
    by_cases z : m = n
    · subst z
      exact Or.inr k35
    · rw [kk _ (by omega) (by omega) (by omega) (by omega) (by omega)]
      exact hr.k01 m (by omega)
  | 4 =>
    show I' h 2 = kp' 42 ∧ ∃ x, x < 32 ∧ kp' 42 = nI x
    rw [h2 2 (by omega), kk 42 (by omega) (by omega) (by omega) (by omega) (by omega)]
    exact ⟨hr.st, hr.ks⟩
  | 5 =>
    show I' h 3 = nI l ∧ kp' 75 = nI l
    rw [h2 3 (by omega), kk 75 (by omega) (by omega) (by omega) (by omega) (by omega)]
    exact ⟨hr.hl, hr.kl⟩
  | 6 =>
    show I' h 4 = kp' 76 ∧ (kp' 76 = -1 ∨ ∃ f, f < l ∧ kp' 76 = nI f)
    rw [h2 4 (by omega), kk 76 (by omega) (by omega) (by omega) (by omega) (by omega)]
    exact ⟨hr.hf, hr.kf⟩
  | 7 =>
    show I' h 5 = nI s ∧ kp' 74 = nI s
    rw [h2 5 (by omega), kk 74 (by omega) (by omega) (by omega) (by omega) (by omega)]
    exact ⟨hr.hs, hr.kss⟩
  | 8 =>
    intro m hm
    rw [h3]
    by_cases z : m = n
    · subst z
      rw [if_pos rfl, k44]
      exact ⟨rfl, hx⟩
    · rw [if_neg z, kk _ (by omega) (by omega) (by omega) (by omega) (by omega)]
      exact ⟨hr.vo m (by omega), hr.vr m (by omega)⟩
  | 9 =>
    intro m hm
    rw [h4]
    by_cases z : m = n
    · subst z
      rw [if_pos rfl, k51]
    · rw [if_neg z, kk _ (by omega) (by omega) (by omega) (by omega) (by omega)]
      exact hr.sd m (by omega)
  | 10 =>
    intro j hj
    by_cases z : j < n * 5
    · rw [h5 j z, kk _ (by omega) (by omega) (by omega) (by omega) (by omega)]
      exact ⟨hr.wa j z, hr.wr j z⟩
    · obtain ⟨b, hb, rfl⟩ : ∃ b, b < 5 ∧ j = n * 5 + b := ⟨j - n * 5, by omega, by omega⟩
      obtain ⟨w1, w2, w3⟩ := h6 b hb
      rw [w2, w3]
      exact ⟨rfl, _, w1, rfl⟩
  | 11 =>
    show I' (h + 1 + 3) 0 = kp' 43 ∧ ∃ x, x ≤ 999 ∧ kp' 43 = nI x
    rw [h7, kk 43 (by omega) (by omega) (by omega) (by omega) (by omega)]
    exact ⟨hr.td, hr.dr⟩
  | 12 =>
    show I' (h + 1 + 3) 1 = kp' 70 ∧ ∃ x, x ≤ 10 ∧ kp' 70 = nI x
    rw [h7, kk 70 (by omega) (by omega) (by omega) (by omega) (by omega)]
    exact ⟨hr.tz, hr.zr⟩
  | 13 =>
    show I' (h + 1 + 3) 2 = kp' 71
    rw [h7, kk 71 (by omega) (by omega) (by omega) (by omega) (by omega)]
    exact hr.tm
  | 14 =>
    show I' (h + 1 + 3) 3 = kp' 72 ∧ ∃ x, x ≤ 99 ∧ kp' 72 = nI x
    rw [h7, kk 72 (by omega) (by omega) (by omega) (by omega) (by omega)]
    exact ⟨hr.tn, hr.nr⟩
  | 15 =>
    have := hr.s6
    intro i hi
    rw [h8, h9, kk (58 + 2 * i) (by omega) (by omega) (by omega) (by omega) (by omega), kk (58 + 2 * i + 1) (by omega) (by omega) (by omega) (by omega) (by omega)]
    exact hr.si i hi
  | q + 16 => exact trivial
theorem am_v9 {x : Int32} (h : 1 ≤ x ∧ x ≤ 9) : ∃ v, 1 ≤ v ∧ v ≤ 9 ∧ x = nI v := by
  obtain ⟨j, hj, rfl⟩ := nI_of2 (M := 9) (n := 9) (by decide) (Int32.not_lt.mpr (Int32.le_trans (by decide) h.1)) h.2
  exact ⟨j, (nI_leI (a := 1) (by omega) (by omega)).mp h.1, hj, rfl⟩
/-- member -/
theorem op_0 (r : am_R S I P n l s u tp) {x y : Int32} : am_op pr (d + 60) S I J P 9 [.ref 64, .int x, .int y] 169 [.ref 124, .int x, .int y] := by
  have hr := r.hr
  have n7 := hr.n7
  have L := r.L
  have hh := L.h65
  have hp90 := L.p90
  by_cases hv : 1 ≤ x ∧ x ≤ 9 ∧ 0 ≤ y ∧ y ≤ 3
  · by_cases hn7 : n < 7
    · show am_wp pr (d + 60) 9 0 [(0, .ref 64), (1, .int x), (2, .int y)] [] _ _
      have hn1 : am_u I 90 0 0 65 0 = nI n := by rw [am_u_ne (by decide)]; exact hr.hn
      refine w9_0 rfl ?_
      refine w9_1 rfl ?_
      refine w9_2 (k := c10 ?_)
      rw [am_b_t hv]
      refine w9_5 (fun _ => ?_) (fun hQ => absurd am_n01 hQ)
      refine w9_14 rfl ?_
      refine w9_15 (L.2 _ _ _ rfl) ?_
      refine w9_18 ?_
      rw [hr.hn]
      refine w9_21 ?_
      refine w9_23 (fun _ => ?_) (fun hQ => absurd (nI_lt (b := 7) hn7 (by decide)) hQ)
      refine w9_33 rfl ?_
      refine w9_34 (L.2 _ _ _ rfl) ?_
      refine w9_37 (k := c12 hp90 ?_)
      refine w9_40 rfl ?_
      refine w9_41 rfl ?_
      refine w9_42 (L.2 _ _ _ rfl) ?_
      refine w9_45 rfl ?_
      refine w9_46 rfl ?_
      refine w9_47 (k := c13b hh hn1 hn7 (fun I1 f1 hA => ?_))
      refine w9_50 (k := c14 L ?_)
      refine w9_53 ⟨_, rfl, ?_⟩
      have e126 : am_u I1 64 16 0 126 = I 126 := by rw [am_u_ne (by decide), f1 126 (by decide) (by decide) (by decide) (by decide), am_u_ne (by decide)]
      show am_wp pr (d + 60) 169 0 [(0, .ref 124), (1, .int x), (2, .int y)] [] _ _
      refine w169_0 rfl ?_
      refine w169_1 rfl ?_
      refine w169_2 (k := c170 ?_)
      rw [am_b_t hv]
      refine w169_5 (fun _ => ?_) (fun hQ => absurd am_n01 hQ)
      refine w169_14 rfl ?_
      refine w169_15 (k := c171 L ?_)
      rw [e126, hr.kn]
      refine w169_18 ?_
      refine w169_20 (fun _ => ?_) (fun hQ => absurd (nI_ne (b := 7) (by omega) (by omega) (by decide)) hQ)
      refine w169_30 rfl ?_
      refine w169_31 rfl ?_
      refine w169_32 rfl ?_
      refine w169_33 rfl ?_
      refine w169_34 (k := c172 L (by rw [e126]; exact hr.kn) hn7 (fun I2 f2 kA => ?_))
      refine w169_37 (k := c168 L ?_)
      refine w169_40 ?_
      skip
      rw [e126] at kA
      obtain ⟨a0, a1, a2, a3, a4, a5⟩ := hA
      have e0 : ∀ a, a ≠ 124 → a ≠ 126 → am_u (am_u I2 124 35 0) 124 0 0 a = am_u I1 64 16 0 a := fun a b1 b2 => by rw [am_u_ne b1, am_u_ne b1, f2 a b2]
      have e1 : ∀ a, a ≠ 124 → a ≠ 126 → a ≠ 64 → am_u (am_u I2 124 35 0) 124 0 0 a = I1 a := fun a b1 b2 b3 => by rw [e0 a b1 b2, am_u_ne b3]
      have e2 : ∀ a, a ≠ 124 → a ≠ 126 → a ≠ 64 → a ≠ 65 → a ≠ 66 → a ≠ 67 → a ≠ 68 → a ≠ 90 → am_u (am_u I2 124 35 0) 124 0 0 a = I a := fun a b1 b2 b3 b4 b5 b6 b7 b8 => by rw [e1 a b1 b2 b3, f1 a b4 b5 b6 b7, am_u_ne b8]
      have ek : am_u (am_u I2 124 35 0) 124 0 0 126 = I2 126 := by rw [am_u_ne (by decide), am_u_ne (by decide)]
      have f64 : ∀ q, q ≠ 16 → am_u (am_u I2 124 35 0) 124 0 0 64 q = I 64 q := fun q hq => by rw [e0 64 (by decide) (by decide), am_u_at hq, f1 64 (by decide) (by decide) (by decide) (by decide), am_u_ne (by decide)]
      have f124 : ∀ q, q ≠ 0 → q ≠ 35 → am_u (am_u I2 124 35 0) 124 0 0 124 q = I 124 q := fun q h1 h2 => by rw [am_u_at h1, am_u_at h2, f2 124 (by decide), am_u_ne (by decide), f1 124 (by decide) (by decide) (by decide) (by decide), am_u_ne (by decide)]
      have u0 : ∀ b, b ≠ 90 → am_u I 90 0 0 b = I b := fun b hb => am_u_ne hb
      refine am_oi_0 (am_R_tk (n' := n + 1) (s' := s) (u' := 0) r (fun a ha => e2 a (by omega) (by omega) (by omega) (by omega) (by omega) (by omega) (by omega) (by omega)) (fun j hj => ?_) ⟨f64 13 (by decide), f64 14 (by decide), ?_⟩ ⟨am_u_self, f124 6 (by decide) (by decide), f124 13 (by decide) (by decide), f124 14 (by decide) (by decide), f124 40 (by decide) (by decide), f124 48 (by decide) (by decide)⟩ ?_ ⟨by omega, ?_, ?_, am_PA_0⟩) rfl
      · rw [ek, kA j, if_neg (by omega), if_neg (by omega), if_neg (by omega), if_neg (by omega), if_neg (by omega)]
      · rw [e0 64 (by decide) (by decide), am_u_self]
      · rw [ek]
        refine am_HR_add (x := x) (y := y) (w := fun _ => 0) hr hn7 (am_v9 ⟨hv.1, hv.2.1⟩) ?_ ?_ ?_ ?_ ?_ ?_ ?_ ?_ ?_ ?_ ?_ ?_ ?_ ?_ ?_
        · rw [e1 65 (by decide) (by decide) (by decide)]; exact a0
        · rw [e1 65 (by decide) (by decide) (by decide), a1, u0 65 (by decide)]
        · intro q hq; rw [e1 65 (by decide) (by decide) (by decide), a2 q hq, u0 65 (by decide)]
        · intro j; rw [e1 66 (by decide) (by decide) (by decide), a3 j, u0 _ (by decide)]
        · intro j; rw [e1 67 (by decide) (by decide) (by decide), a4 j, u0 _ (by decide)]
        · intro j hj; rw [e1 68 (by decide) (by decide) (by decide), a5 j, if_neg (by omega), u0 _ (by decide)]
        · intro b hb
          refine ⟨by omega, ?_, ?_⟩
          · rw [e1 68 (by decide) (by decide) (by decide), a5, if_pos (by omega)]; rfl
          · rw [kA, if_neg (by omega), if_pos (by omega)]; rfl
        · exact e2 69 (by decide) (by decide) (by decide) (by decide) (by decide) (by decide) (by decide) (by decide)
        · exact e2 71 (by decide) (by decide) (by decide) (by decide) (by decide) (by decide) (by decide) (by decide)
        · exact e2 72 (by decide) (by decide) (by decide) (by decide) (by decide) (by decide) (by decide) (by decide)
        · rw [kA, if_pos rfl]
        · rw [kA, if_neg (by omega), if_neg (by omega), if_pos rfl]
        · rw [kA, if_neg (by omega), if_neg (by omega), if_neg (by omega), if_neg (by omega), if_pos rfl]
        · rw [kA, if_neg (by omega), if_neg (by omega), if_neg (by omega), if_pos rfl]
        · intro j b1 b2 b3 b4 b5
          rw [kA, if_neg b1, if_neg b5, if_neg b2, if_neg b4, if_neg b3]
      · rw [e1 90 (by decide) (by decide) (by decide), f1 90 (by decide) (by decide) (by decide) (by decide), am_u_self]; rfl
      · rw [am_u_at (by decide), am_u_self]; rfl
    · have en : n = 7 := by omega
      subst en
      refine op_rf r (-5) (fun Q k => ?_) (fun I1 J1 f Q k => ?_)
      · show am_wp pr (d + 60) 9 0 [(0, .ref 64), (1, .int x), (2, .int y)] [] _ _
        refine w9_0 rfl ?_
        refine w9_1 rfl ?_
        refine w9_2 (k := c10 ?_)
        rw [am_b_t hv]
        refine w9_5 (fun _ => ?_) (fun hQ => absurd am_n01 hQ)
        refine w9_14 rfl ?_
        refine w9_15 (L.2 _ _ _ rfl) ?_
        refine w9_18 ?_
        rw [hr.hn]
        refine w9_21 ?_
        refine w9_23 (fun hQ => absurd hQ (by decide)) (fun _ => ?_)
        refine w9_26 rfl ?_
        refine w9_27 ?_
        refine w9_29 (k := c11 L (by decide) ?_)
        refine w9_32 ?_
        exact k
      · show am_wp pr (d + 60) 169 0 [(0, .ref 124), (1, .int x), (2, .int y)] [] _ _
        refine w169_0 rfl ?_
        refine w169_1 rfl ?_
        refine w169_2 (k := c170 ?_)
        rw [am_b_t hv]
        refine w169_5 (fun _ => ?_) (fun hQ => absurd am_n01 hQ)
        refine w169_14 rfl ?_
        refine w169_15 (k := c171 L ?_)
        rw [f 126 (by decide) (by decide), hr.kn]
        refine w169_18 ?_
        refine w169_20 (fun hQ => absurd hQ (fun q => q rfl)) (fun _ => ?_)
        refine w169_23 rfl ?_
        refine w169_24 ?_
        refine w169_26 (k := c165 L (by decide) ?_)
        refine w169_29 ?_
        exact k
  · refine op_rf r (-1) (fun Q k => ?_) (fun I1 J1 f Q k => ?_)
    · show am_wp pr (d + 60) 9 0 [(0, .ref 64), (1, .int x), (2, .int y)] [] _ _
      refine w9_0 rfl ?_
      refine w9_1 rfl ?_
      refine w9_2 (k := c10 ?_)
      rw [am_b_f hv]
      refine w9_5 (fun hQ => absurd hQ (by decide)) (fun _ => ?_)
      refine w9_8 rfl ?_
      refine w9_9 ?_
      refine w9_10 (k := c11 L (by decide) ?_)
      refine w9_13 ?_
      exact k
    · show am_wp pr (d + 60) 169 0 [(0, .ref 124), (1, .int x), (2, .int y)] [] _ _
      refine w169_0 rfl ?_
      refine w169_1 rfl ?_
      refine w169_2 (k := c170 ?_)
      rw [am_b_f hv]
      refine w169_5 (fun hQ => absurd hQ (by decide)) (fun _ => ?_)
      refine w169_8 rfl ?_
      refine w169_9 ?_
      refine w169_10 (k := c165 L (by decide) ?_)
      refine w169_13 ?_
      exact k
end
