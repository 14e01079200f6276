/-! numbers of a switch -/
theorem am_sw0_2 (x : Int32) : x = 0 ∨ x = 1 ∨ x = 2 ∨ (x.toInt < 0 ∨ 2 < x.toInt) := by
  simp only [← Int32.toInt_inj]
  have e0 : (0 : Int32).toInt = 0 := by decide
  have e1 : (1 : Int32).toInt = 1 := by decide
  have e2 : (2 : Int32).toInt = 2 := by decide
  omega
theorem am_sw0_3 (x : Int32) : x = 0 ∨ x = 1 ∨ x = 2 ∨ x = 3 ∨ (x.toInt < 0 ∨ 3 < x.toInt) := by
  simp only [← Int32.toInt_inj]
  have e0 : (0 : Int32).toInt = 0 := by decide
  have e1 : (1 : Int32).toInt = 1 := by decide
  have e2 : (2 : Int32).toInt = 2 := by decide
  have e3 : (3 : Int32).toInt = 3 := by decide
  omega
theorem am_sw0_4 (x : Int32) : x = 0 ∨ x = 1 ∨ x = 2 ∨ x = 3 ∨ x = 4 ∨ (x.toInt < 0 ∨ 4 < x.toInt) := by
  simp only [← Int32.toInt_inj]
  have e0 : (0 : Int32).toInt = 0 := by decide
  have e1 : (1 : Int32).toInt = 1 := by decide
  have e2 : (2 : Int32).toInt = 2 := by decide
  have e3 : (3 : Int32).toInt = 3 := by decide
  have e4 : (4 : Int32).toInt = 4 := by decide
  omega
theorem am_sw0_5 (x : Int32) : x = 0 ∨ x = 1 ∨ x = 2 ∨ x = 3 ∨ x = 4 ∨ x = 5 ∨ (x.toInt < 0 ∨ 5 < x.toInt) := by
  simp only [← Int32.toInt_inj]
  have e0 : (0 : Int32).toInt = 0 := by decide
  have e1 : (1 : Int32).toInt = 1 := by decide
  have e2 : (2 : Int32).toInt = 2 := by decide
  have e3 : (3 : Int32).toInt = 3 := by decide
  have e4 : (4 : Int32).toInt = 4 := by decide
  have e5 : (5 : Int32).toInt = 5 := by decide
  omega
theorem am_sw0_7 (x : Int32) : x = 0 ∨ x = 1 ∨ x = 2 ∨ x = 3 ∨ x = 4 ∨ x = 5 ∨ x = 6 ∨ x = 7 ∨ (x.toInt < 0 ∨ 7 < x.toInt) := by
  simp only [← Int32.toInt_inj]
  have e0 : (0 : Int32).toInt = 0 := by decide
  have e1 : (1 : Int32).toInt = 1 := by decide
  have e2 : (2 : Int32).toInt = 2 := by decide
  have e3 : (3 : Int32).toInt = 3 := by decide
  have e4 : (4 : Int32).toInt = 4 := by decide
  have e5 : (5 : Int32).toInt = 5 := by decide
  have e6 : (6 : Int32).toInt = 6 := by decide
  have e7 : (7 : Int32).toInt = 7 := by decide
  omega
theorem am_sw0_12 (x : Int32) : x = 0 ∨ x = 1 ∨ x = 2 ∨ x = 3 ∨ x = 4 ∨ x = 5 ∨ x = 6 ∨ x = 7 ∨ x = 8 ∨ x = 9 ∨ x = 10 ∨ x = 11 ∨ x = 12 ∨ (x.toInt < 0 ∨ 12 < x.toInt) := by
  simp only [← Int32.toInt_inj]
  have e0 : (0 : Int32).toInt = 0 := by decide
  have e1 : (1 : Int32).toInt = 1 := by decide
  have e2 : (2 : Int32).toInt = 2 := by decide
  have e3 : (3 : Int32).toInt = 3 := by decide
  have e4 : (4 : Int32).toInt = 4 := by decide
  have e5 : (5 : Int32).toInt = 5 := by decide
  have e6 : (6 : Int32).toInt = 6 := by decide
  have e7 : (7 : Int32).toInt = 7 := by decide
  have e8 : (8 : Int32).toInt = 8 := by decide
  have e9 : (9 : Int32).toInt = 9 := by decide
  have e10 : (10 : Int32).toInt = 10 := by decide
  have e11 : (11 : Int32).toInt = 11 := by decide
  have e12 : (12 : Int32).toInt = 12 := by decide
  omega
theorem am_sw0_16 (x : Int32) : x = 0 ∨ x = 1 ∨ x = 2 ∨ x = 3 ∨ x = 4 ∨ x = 5 ∨ x = 6 ∨ x = 7 ∨ x = 8 ∨ x = 9 ∨ x = 10 ∨ x = 11 ∨ x = 12 ∨ x = 13 ∨ x = 14 ∨ x = 15 ∨ x = 16 ∨ (x.toInt < 0 ∨ 16 < x.toInt) := by
  simp only [← Int32.toInt_inj]
  have e0 : (0 : Int32).toInt = 0 := by decide
  have e1 : (1 : Int32).toInt = 1 := by decide
  have e2 : (2 : Int32).toInt = 2 := by decide
  have e3 : (3 : Int32).toInt = 3 := by decide
  have e4 : (4 : Int32).toInt = 4 := by decide
  have e5 : (5 : Int32).toInt = 5 := by decide
  have e6 : (6 : Int32).toInt = 6 := by decide
  have e7 : (7 : Int32).toInt = 7 := by decide
  have e8 : (8 : Int32).toInt = 8 := by decide
  have e9 : (9 : Int32).toInt = 9 := by decide
  have e10 : (10 : Int32).toInt = 10 := by decide
  have e11 : (11 : Int32).toInt = 11 := by decide
  have e12 : (12 : Int32).toInt = 12 := by decide
  have e13 : (13 : Int32).toInt = 13 := by decide
  have e14 : (14 : Int32).toInt = 14 := by decide
  have e15 : (15 : Int32).toInt = 15 := by decide
  have e16 : (16 : Int32).toInt = 16 := by decide
  omega
theorem am_sw14_19 (x : Int32) : x = 14 ∨ x = 15 ∨ x = 16 ∨ x = 17 ∨ x = 18 ∨ x = 19 ∨ (x.toInt < 14 ∨ 19 < x.toInt) := by
  simp only [← Int32.toInt_inj]
  have e14 : (14 : Int32).toInt = 14 := by decide
  have e15 : (15 : Int32).toInt = 15 := by decide
  have e16 : (16 : Int32).toInt = 16 := by decide
  have e17 : (17 : Int32).toInt = 17 := by decide
  have e18 : (18 : Int32).toInt = 18 := by decide
  have e19 : (19 : Int32).toInt = 19 := by decide
  omega
theorem am_sw22_26 (x : Int32) : x = 22 ∨ x = 23 ∨ x = 24 ∨ x = 25 ∨ x = 26 ∨ (x.toInt < 22 ∨ 26 < x.toInt) := by
  simp only [← Int32.toInt_inj]
  have e22 : (22 : Int32).toInt = 22 := by decide
  have e23 : (23 : Int32).toInt = 23 := by decide
  have e24 : (24 : Int32).toInt = 24 := by decide
  have e25 : (25 : Int32).toInt = 25 := by decide
  have e26 : (26 : Int32).toInt = 26 := by decide
  omega
theorem am_sw300_326 (x : Int32) : x = 300 ∨ x = 301 ∨ x = 302 ∨ x = 303 ∨ x = 304 ∨ x = 305 ∨ x = 306 ∨ x = 307 ∨ x = 308 ∨ x = 309 ∨ x = 310 ∨ x = 311 ∨ x = 312 ∨ x = 313 ∨ x = 314 ∨ x = 315 ∨ x = 316 ∨ x = 317 ∨ x = 318 ∨ x = 319 ∨ x = 320 ∨ x = 321 ∨ x = 322 ∨ x = 323 ∨ x = 324 ∨ x = 325 ∨ x = 326 ∨ (x.toInt < 300 ∨ 326 < x.toInt) := by
  simp only [← Int32.toInt_inj]
  have e300 : (300 : Int32).toInt = 300 := by decide
  have e301 : (301 : Int32).toInt = 301 := by decide
  have e302 : (302 : Int32).toInt = 302 := by decide
  have e303 : (303 : Int32).toInt = 303 := by decide
  have e304 : (304 : Int32).toInt = 304 := by decide
  have e305 : (305 : Int32).toInt = 305 := by decide
  have e306 : (306 : Int32).toInt = 306 := by decide
  have e307 : (307 : Int32).toInt = 307 := by decide
  have e308 : (308 : Int32).toInt = 308 := by decide
  have e309 : (309 : Int32).toInt = 309 := by decide
  have e310 : (310 : Int32).toInt = 310 := by decide
  have e311 : (311 : Int32).toInt = 311 := by decide
  have e312 : (312 : Int32).toInt = 312 := by decide
  have e313 : (313 : Int32).toInt = 313 := by decide
  have e314 : (314 : Int32).toInt = 314 := by decide
  have e315 : (315 : Int32).toInt = 315 := by decide
  have e316 : (316 : Int32).toInt = 316 := by decide
  have e317 : (317 : Int32).toInt = 317 := by decide
  have e318 : (318 : Int32).toInt = 318 := by decide
  have e319 : (319 : Int32).toInt = 319 := by decide
  have e320 : (320 : Int32).toInt = 320 := by decide
  have e321 : (321 : Int32).toInt = 321 := by decide
  have e322 : (322 : Int32).toInt = 322 := by decide
  have e323 : (323 : Int32).toInt = 323 := by decide
  have e324 : (324 : Int32).toInt = 324 := by decide
  have e325 : (325 : Int32).toInt = 325 := by decide
  have e326 : (326 : Int32).toInt = 326 := by decide
  omega
theorem am_sw314_322 (x : Int32) : x = 314 ∨ x = 315 ∨ x = 316 ∨ x = 317 ∨ x = 318 ∨ x = 319 ∨ x = 320 ∨ x = 321 ∨ x = 322 ∨ (x.toInt < 314 ∨ 322 < x.toInt) := by
  simp only [← Int32.toInt_inj]
  have e314 : (314 : Int32).toInt = 314 := by decide
  have e315 : (315 : Int32).toInt = 315 := by decide
  have e316 : (316 : Int32).toInt = 316 := by decide
  have e317 : (317 : Int32).toInt = 317 := by decide
  have e318 : (318 : Int32).toInt = 318 := by decide
  have e319 : (319 : Int32).toInt = 319 := by decide
  have e320 : (320 : Int32).toInt = 320 := by decide
  have e321 : (321 : Int32).toInt = 321 := by decide
  have e322 : (322 : Int32).toInt = 322 := by decide
  omega
theorem am_sw315_326 (x : Int32) : x = 315 ∨ x = 316 ∨ x = 317 ∨ x = 318 ∨ x = 319 ∨ x = 320 ∨ x = 321 ∨ x = 322 ∨ x = 323 ∨ x = 324 ∨ x = 325 ∨ x = 326 ∨ (x.toInt < 315 ∨ 326 < x.toInt) := by
  simp only [← Int32.toInt_inj]
  have e315 : (315 : Int32).toInt = 315 := by decide
  have e316 : (316 : Int32).toInt = 316 := by decide
  have e317 : (317 : Int32).toInt = 317 := by decide
  have e318 : (318 : Int32).toInt = 318 := by decide
  have e319 : (319 : Int32).toInt = 319 := by decide
  have e320 : (320 : Int32).toInt = 320 := by decide
  have e321 : (321 : Int32).toInt = 321 := by decide
  have e322 : (322 : Int32).toInt = 322 := by decide
  have e323 : (323 : Int32).toInt = 323 := by decide
  have e324 : (324 : Int32).toInt = 324 := by decide
  have e325 : (325 : Int32).toInt = 325 := by decide
  have e326 : (326 : Int32).toInt = 326 := by decide
  omega
theorem am_sw0_40 (x : Int32) : x = 0 ∨ x = 1 ∨ x = 2 ∨ x = 3 ∨ x = 4 ∨ x = 5 ∨ x = 6 ∨ x = 7 ∨ x = 8 ∨ x = 9 ∨ x = 10 ∨ x = 11 ∨ x = 12 ∨ x = 13 ∨ x = 14 ∨ x = 15 ∨ x = 16 ∨ x = 17 ∨ x = 18 ∨ x = 19 ∨ x = 20 ∨ x = 21 ∨ x = 22 ∨ x = 23 ∨ x = 24 ∨ x = 25 ∨ x = 26 ∨ x = 27 ∨ x = 28 ∨ x = 29 ∨ x = 30 ∨ x = 31 ∨ x = 32 ∨ x = 33 ∨ x = 34 ∨ x = 35 ∨ x = 36 ∨ x = 37 ∨ x = 38 ∨ x = 39 ∨ x = 40 ∨ (x.toInt < 0 ∨ 40 < x.toInt) := by
  simp only [← Int32.toInt_inj]
  have e0 : (0 : Int32).toInt = 0 := by decide
  have e1 : (1 : Int32).toInt = 1 := by decide
  have e2 : (2 : Int32).toInt = 2 := by decide
  have e3 : (3 : Int32).toInt = 3 := by decide
  have e4 : (4 : Int32).toInt = 4 := by decide
  have e5 : (5 : Int32).toInt = 5 := by decide
  have e6 : (6 : Int32).toInt = 6 := by decide
  have e7 : (7 : Int32).toInt = 7 := by decide
  have e8 : (8 : Int32).toInt = 8 := by decide
  have e9 : (9 : Int32).toInt = 9 := by decide
  have e10 : (10 : Int32).toInt = 10 := by decide
  have e11 : (11 : Int32).toInt = 11 := by decide
  have e12 : (12 : Int32).toInt = 12 := by decide
  have e13 : (13 : Int32).toInt = 13 := by decide
  have e14 : (14 : Int32).toInt = 14 := by decide
  have e15 : (15 : Int32).toInt = 15 := by decide
  have e16 : (16 : Int32).toInt = 16 := by decide
  have e17 : (17 : Int32).toInt = 17 := by decide
  have e18 : (18 : Int32).toInt = 18 := by decide
  have e19 : (19 : Int32).toInt = 19 := by decide
  have e20 : (20 : Int32).toInt = 20 := by decide
  have e21 : (21 : Int32).toInt = 21 := by decide
  have e22 : (22 : Int32).toInt = 22 := by decide
  have e23 : (23 : Int32).toInt = 23 := by decide
  have e24 : (24 : Int32).toInt = 24 := by decide
  have e25 : (25 : Int32).toInt = 25 := by decide
  have e26 : (26 : Int32).toInt = 26 := by decide
  have e27 : (27 : Int32).toInt = 27 := by decide
  have e28 : (28 : Int32).toInt = 28 := by decide
  have e29 : (29 : Int32).toInt = 29 := by decide
  have e30 : (30 : Int32).toInt = 30 := by decide
  have e31 : (31 : Int32).toInt = 31 := by decide
  have e32 : (32 : Int32).toInt = 32 := by decide
  have e33 : (33 : Int32).toInt = 33 := by decide
  have e34 : (34 : Int32).toInt = 34 := by decide
  have e35 : (35 : Int32).toInt = 35 := by decide
  have e36 : (36 : Int32).toInt = 36 := by decide
  have e37 : (37 : Int32).toInt = 37 := by decide
  have e38 : (38 : Int32).toInt = 38 := by decide
  have e39 : (39 : Int32).toInt = 39 := by decide
  have e40 : (40 : Int32).toInt = 40 := by decide
  omega

theorem am_pk7 (x : Int32) {n : Nat} (h : n ≤ 7) : (∃ m, m < n ∧ x = nI m) ∨ ¬ (0 ≤ x ∧ x < nI n) := by
  rcases pk_ix x (n := n) (by omega) with z | z | z
  · exact Or.inr (fun q => absurd z (Int32.not_lt.mpr q.1))
  · exact Or.inr (fun q => absurd z (Int32.not_le.mpr q.2))
  · exact Or.inl z
theorem am_pk5 (x : Int32) : (∃ b, b < 5 ∧ x = nI b) ∨ ¬ (0 ≤ x ∧ x < 5) := am_pk7 (n := 5) x (by decide)
theorem am_sub_eq {x y z : Int32} (h : x - y = z) : x = z + y := by rw [← h, Int32.sub_add_cancel]
theorem am_bill3 {y : Int32} (h : 0 ≤ y - 3 ∧ y - 3 < 5) : ∃ b, b < 5 ∧ y = nI (b + 3) := by
  rcases am_pk5 (y - 3) with ⟨b, hb, e⟩ | z
  · exact ⟨b, hb, by rw [am_sub_eq e, show (3 : Int32) = nI 3 from rfl, nI_add]⟩
  · exact absurd h z
theorem am_bill2 {y : Int32} (h : 0 ≤ y - 2 ∧ y - 2 < 5) : ∃ b, b < 5 ∧ y = nI (b + 2) := by
  rcases am_pk5 (y - 2) with ⟨b, hb, e⟩ | z
  · exact ⟨b, hb, by rw [am_sub_eq e, show (2 : Int32) = nI 2 from rfl, nI_add]⟩
  · exact absurd h z
theorem am_ns3 (b : Nat) : nI (b + 3) - 3 = nI b := by rw [← nI_add b 3, show (3 : Int32) = nI 3 from rfl, Int32.add_sub_cancel]
theorem am_ns2 (b : Nat) : nI (b + 2) - 2 = nI b := by rw [← nI_add b 2, show (2 : Int32) = nI 2 from rfl, Int32.add_sub_cancel]
/-- what both answer to "of" a member -/
def s_of (a0 a1 a2 : Int32) (a3 : Nat → Int32) (y : Int32) : Int32 := if y = 0 then a0 else if y = 1 then a1 else if y = 2 then a2 else if y = 3 then a3 0 else if y = 4 then a3 1 else if y = 5 then a3 2 else if y = 6 then a3 3 else if y = 7 then a3 4 else -1
theorem s_of_b {a0 a1 a2 : Int32} {a3 : Nat → Int32} {b : Nat} (h : b < 5) : s_of a0 a1 a2 a3 (nI (b + 3)) = a3 b := by
  rcases (show b = 0 ∨ b = 1 ∨ b = 2 ∨ b = 3 ∨ b = 4 by omega) with rfl | rfl | rfl | rfl | rfl <;> rfl
theorem s_of_n {a0 a1 a2 : Int32} {a3 : Nat → Int32} {y : Int32} (h0 : ¬ y = 0) (h1 : ¬ y = 1) (h2 : ¬ y = 2) (h : ¬ (0 ≤ y - 3 ∧ y - 3 < 5)) : s_of a0 a1 a2 a3 y = -1 := by
  unfold s_of
  rw [if_neg h0, if_neg h1, if_neg h2]
  have g : ∀ c : Int32, (0 ≤ c - 3 ∧ c - 3 < 5) → ¬ y = c := fun c hc e => h (by rw [e]; exact hc)
  rw [if_neg (g 3 (by decide)), if_neg (g 4 (by decide)), if_neg (g 5 (by decide)), if_neg (g 6 (by decide)), if_neg (g 7 (by decide))]
section
variable {pr : am_Pr} {d : Nat} {S : List (Nat × Nat)} {I : Nat → Nat → Int32} {J : Nat → Nat → Int64} {P : Nat → Nat → Option Nat} {Q : Option Value → am_H → Prop}
theorem c47 (L : am_Lay S P) (k : Q (some (.int (I 64 14))) (S, I, J, P)) : am_ev pr d 47 [.ref 64] (S, I, J, P) Q := by
  show am_wp pr d 47 0 [(0, .ref 64)] [] _ _
  refine w47_0 rfl ?_
  refine w47_1 ?_
  refine w47_4 ?_
  exact k
theorem c216 (L : am_Lay S P) (k : Q (some (.int (I 124 6))) (S, I, J, P)) : am_ev pr d 216 [.ref 124] (S, I, J, P) Q := by
  show am_wp pr d 216 0 [(0, .ref 124)] [] _ _
  refine w216_0 rfl ?_
  refine w216_1 ?_
  refine w216_4 ?_
  exact k
theorem c106 (L : am_Lay S P) (k : Q (some (.int (I 96 3))) (S, I, J, P)) : am_ev pr d 106 [.ref 64] (S, I, J, P) Q := by
  show am_wp pr d 106 0 [(0, .ref 64)] [] _ _
  refine w106_0 rfl ?_
  refine w106_1 (L.2 _ _ _ rfl) ?_
  refine w106_4 ?_
  refine w106_7 ?_
  exact k
theorem c243 (L : am_Lay S P) (k : Q (some (.int (I 124 14))) (S, I, J, P)) : am_ev pr d 243 [.ref 124] (S, I, J, P) Q := by
  show am_wp pr d 243 0 [(0, .ref 124)] [] _ _
  refine w243_0 rfl ?_
  refine w243_1 ?_
  refine w243_4 ?_
  exact k
theorem c107 (L : am_Lay S P) (k : Q (some (.int (I 64 13))) (S, I, J, P)) : am_ev pr d 107 [.ref 64] (S, I, J, P) Q := by
  show am_wp pr d 107 0 [(0, .ref 64)] [] _ _
  refine w107_0 rfl ?_
  refine w107_1 ?_
  refine w107_4 ?_
  exact k
theorem c289 (L : am_Lay S P) (k : Q (some (.int (I 124 40))) (S, I, J, P)) : am_ev pr d 289 [.ref 124] (S, I, J, P) Q := by
  show am_wp pr d 289 0 [(0, .ref 124)] [] _ _
  refine w289_0 rfl ?_
  refine w289_1 ?_
  refine w289_4 ?_
  exact k
theorem c161 (L : am_Lay S P) (k : Q (some (.int (I 64 16))) (S, I, J, P)) : am_ev pr d 161 [.ref 64] (S, I, J, P) Q := by
  show am_wp pr d 161 0 [(0, .ref 64)] [] _ _
  refine w161_0 rfl ?_
  refine w161_1 ?_
  refine w161_4 ?_
  exact k
theorem c303 (L : am_Lay S P) (k : Q (some (.int (I 124 0))) (S, I, J, P)) : am_ev pr d 303 [.ref 124] (S, I, J, P) Q := by
  show am_wp pr d 303 0 [(0, .ref 124)] [] _ _
  refine w303_0 rfl ?_
  refine w303_1 ?_
  refine w303_4 ?_
  exact k
/-- end -/
theorem c43 (L : am_Lay S P) {x : Int32} (k1 : 0 ≤ x ∧ x ≤ I 94 0 → Q (some (.int x)) (S, am_u I 94 0 x, J, P)) (k2 : ¬ (0 ≤ x ∧ x ≤ I 94 0) → Q (some (.int (-1))) (S, I, J, P)) : am_ev pr d 43 [.ref 64, .int x] (S, I, J, P) Q := by
  show am_wp pr d 43 0 [(0, .ref 64), (1, .int x)] [] _ _
  refine w43_0 rfl ?_
  refine w43_1 (fun h1 => ?_) (fun h1 => ?_)
  · refine w43_15 ?_
    refine w43_16 ?_
    first | exact k1 ⟨h1, h12⟩ | exact k2 (fun z => absurd h1 (Int32.not_lt.mpr z.1)) | exact k2 (fun z => absurd h12 (Int32.not_lt.mpr z.2))
  · replace h1 := Int32.not_lt.mp h1
    refine w43_4 rfl ?_
    refine w43_5 rfl ?_
    refine w43_6 (L.2 _ _ _ rfl) ?_
    refine w43_9 ?_
    refine w43_12 (fun h12 => ?_) (fun h12 => ?_)
    · refine w43_17 rfl ?_
      refine w43_18 (L.2 _ _ _ rfl) ?_
      refine w43_21 rfl ?_
      refine w43_22 ?_
      refine w43_25 rfl ?_
      refine w43_26 ?_
      first | exact k1 ⟨h1, h12⟩ | exact k2 (fun z => absurd h1 (Int32.not_lt.mpr z.1)) | exact k2 (fun z => absurd h12 (Int32.not_lt.mpr z.2))
    · replace h12 := Int32.not_le.mp h12
      refine w43_15 ?_
      refine w43_16 ?_
      first | exact k1 ⟨h1, h12⟩ | exact k2 (fun z => absurd h1 (Int32.not_lt.mpr z.1)) | exact k2 (fun z => absurd h12 (Int32.not_lt.mpr z.2))
theorem c218 (L : am_Lay S P) {x : Int32} (k1 : 0 ≤ x ∧ x ≤ I 124 13 → Q (some (.int x)) (S, am_u I 124 13 x, J, P)) (k2 : ¬ (0 ≤ x ∧ x ≤ I 124 13) → Q (some (.int (-1))) (S, I, J, P)) : am_ev pr (d + 1) 218 [.ref 124, .int x] (S, I, J, P) Q := by
  show am_wp pr (d + 1) 218 0 [(0, .ref 124), (1, .int x)] [] _ _
  refine w218_0 rfl ?_
  refine w218_1 ?_
  refine w218_2 rfl ?_
  refine w218_3 ?_
  refine w218_6 (k := c164 ?_)
  refine w218_9 (fun h9 => ?_) (fun h9 => ?_)
  · refine w218_14 rfl ?_
    refine w218_15 rfl ?_
    refine w218_16 ?_
    refine w218_19 rfl ?_
    refine w218_20 ?_
    first | exact k1 (am_b_1 h9) | exact k2 ((am_b_0 _).mp (Decidable.not_not.mp h9)) | exact k2 ((am_b_0 _).mp h9)
  · replace h9 := Decidable.not_not.mp h9
    refine w218_12 ?_
    refine w218_13 ?_
    first | exact k1 (am_b_1 h9) | exact k2 ((am_b_0 _).mp (Decidable.not_not.mp h9)) | exact k2 ((am_b_0 _).mp h9)
/-- forget -/
theorem c146 (L : am_Lay S P) (k : Q (some (.int (I 65 5))) (S, am_u I 65 5 0, J, P)) : am_ev pr d 146 [.ref 64] (S, I, J, P) Q := by
  show am_wp pr d 146 0 [(0, .ref 64)] [] _ _
  refine w146_0 rfl ?_
  refine w146_1 (L.2 _ _ _ rfl) ?_
  refine w146_4 ?_
  refine w146_7 ?_
  refine w146_8 rfl ?_
  refine w146_9 (L.2 _ _ _ rfl) ?_
  refine w146_12 ?_
  refine w146_13 ?_
  refine w146_16 rfl ?_
  refine w146_17 ?_
  exact k
theorem c281 (L : am_Lay S P) (k : Q (some (.int (I 126 74))) (S, am_u I 126 74 0, J, P)) : am_ev pr d 281 [.ref 124] (S, I, J, P) Q := by
  show am_wp pr d 281 0 [(0, .ref 124)] [] _ _
  refine w281_0 rfl ?_
  refine w281_1 (L.2 _ _ _ rfl) ?_
  refine w281_4 ?_
  refine w281_6 (L.sh rfl) (by decide) ?_
  refine w281_7 ?_
  refine w281_8 rfl ?_
  refine w281_9 (L.2 _ _ _ rfl) ?_
  refine w281_12 ?_
  refine w281_14 ?_
  refine w281_15 (L.sh rfl) (by decide) ?_
  refine w281_16 rfl ?_
  refine w281_17 ?_
  exact k
/-- force -/
theorem c108 (L : am_Lay S P) {x : Int32} (k1 : x = -1 ∨ (0 ≤ x ∧ x < I 65 3 ∧ x < 6) → Q (some (.int (I 65 4))) (S, am_u (am_u I 65 4 x) 64 16 0, J, P)) (k2 : ¬ (x = -1 ∨ (0 ≤ x ∧ x < I 65 3 ∧ x < 6)) → Q (some (.int (-2))) (S, am_u (am_u I 64 16 (-2)) 123 2 (am_u I 64 16 (-2) 123 2 + 1), J, P)) : am_ev pr (d + 1) 108 [.ref 64, .int x] (S, I, J, P) Q := by
  have hh := L.h65
  show am_wp pr (d + 1) 108 0 [(0, .ref 64), (1, .int x)] [] _ _
  refine w108_0 rfl ?_
  refine w108_1 ?_
  refine w108_2 (fun h2 => ?_) (fun h2 => ?_)
  · refine w108_23 rfl ?_
    refine w108_24 (L.2 _ _ _ rfl) ?_
    refine w108_27 ?_
    refine w108_30 ?_
    refine w108_31 rfl ?_
    refine w108_32 (L.2 _ _ _ rfl) ?_
    refine w108_35 rfl ?_
    refine w108_36 ?_
    refine w108_39 rfl ?_
    refine w108_40 rfl ?_
    refine w108_41 (k := c14 L ?_)
    refine w108_44 ?_
    first | exact k1 (Or.inl h2) | exact k1 (Or.inr (am_b_1 h13)) | exact k2 (fun z => z.elim h2 ((am_b_0 _).mp (Decidable.not_not.mp h13))) | exact k2 (fun z => z.elim h2 ((am_b_0 _).mp h13))
  · refine w108_5 rfl ?_
    refine w108_6 (L.2 _ _ _ rfl) ?_
    refine w108_9 rfl ?_
    refine w108_10 (k := c109 hh ?_)
    refine w108_13 (fun h13 => ?_) (fun h13 => ?_)
    · refine w108_23 rfl ?_
      refine w108_24 (L.2 _ _ _ rfl) ?_
      refine w108_27 ?_
      refine w108_30 ?_
      refine w108_31 rfl ?_
      refine w108_32 (L.2 _ _ _ rfl) ?_
      refine w108_35 rfl ?_
      refine w108_36 ?_
      refine w108_39 rfl ?_
      refine w108_40 rfl ?_
      refine w108_41 (k := c14 L ?_)
      refine w108_44 ?_
      first | exact k1 (Or.inl h2) | exact k1 (Or.inr (am_b_1 h13)) | exact k2 (fun z => z.elim h2 ((am_b_0 _).mp (Decidable.not_not.mp h13))) | exact k2 (fun z => z.elim h2 ((am_b_0 _).mp h13))
    · replace h13 := Decidable.not_not.mp h13
      refine w108_16 rfl ?_
      refine w108_17 ?_
      refine w108_19 (k := c11 L (by decide) ?_)
      refine w108_22 ?_
      first | exact k1 (Or.inl h2) | exact k1 (Or.inr (am_b_1 h13)) | exact k2 (fun z => z.elim h2 ((am_b_0 _).mp (Decidable.not_not.mp h13))) | exact k2 (fun z => z.elim h2 ((am_b_0 _).mp h13))
theorem c245 (L : am_Lay S P) {x : Int32} (k : Q (some (.int (am_b (-1 ≤ x ∧ x ≤ I 126 75 - 1)))) (S, I, J, P)) : am_ev pr (d + 1) 245 [.ref 124, .int x] (S, I, J, P) Q := by
  show am_wp pr (d + 1) 245 0 [(0, .ref 124), (1, .int x)] [] _ _
  refine w245_0 rfl ?_
  refine w245_1 ?_
  refine w245_2 rfl ?_
  refine w245_3 (L.2 _ _ _ rfl) ?_
  refine w245_6 ?_
  refine w245_8 (L.sh rfl) (by decide) ?_
  refine w245_9 ?_
  refine w245_10 ?_
  refine w245_11 (k := c164 ?_)
  refine w245_14 (am_b_n _) ?_
  exact k
theorem c244 (L : am_Lay S P) {x : Int32} (k1 : -1 ≤ x ∧ x ≤ I 126 75 - 1 → Q (some (.int (I 126 76))) (S, am_u (am_u I 126 76 x) 124 0 0, J, P)) (k2 : ¬ (-1 ≤ x ∧ x ≤ I 126 75 - 1) → Q (some (.int (-2))) (S, am_u (am_u I 124 0 (-2)) 125 2 (am_u I 124 0 (-2) 125 2 + 1), J, P)) : am_ev pr (d + 2) 244 [.ref 124, .int x] (S, I, J, P) Q := by
  show am_wp pr (d + 2) 244 0 [(0, .ref 124), (1, .int x)] [] _ _
  refine w244_0 rfl ?_
  refine w244_1 rfl ?_
  refine w244_2 (k := c245 (by first | exact L | assumption | omega) ?_)
  refine w244_5 (fun h5 => ?_) (fun h5 => ?_)
  · refine w244_15 rfl ?_
    refine w244_16 (L.2 _ _ _ rfl) ?_
    refine w244_19 ?_
    refine w244_21 (L.sh rfl) (by decide) ?_
    refine w244_22 ?_
    refine w244_23 rfl ?_
    refine w244_24 (L.2 _ _ _ rfl) ?_
    refine w244_27 ?_
    refine w244_29 rfl ?_
    refine w244_30 (L.sh rfl) (by decide) ?_
    refine w244_31 rfl ?_
    refine w244_32 rfl ?_
    refine w244_33 (k := c166 L ?_)
    refine w244_36 ?_
    first | exact k1 (am_b_1 h5) | exact k2 ((am_b_0 _).mp (Decidable.not_not.mp h5)) | exact k2 ((am_b_0 _).mp h5)
  · replace h5 := Decidable.not_not.mp h5
    refine w244_8 rfl ?_
    refine w244_9 ?_
    refine w244_11 (k := c165 L (by decide) ?_)
    refine w244_14 ?_
    first | exact k1 (am_b_1 h5) | exact k2 ((am_b_0 _).mp (Decidable.not_not.mp h5)) | exact k2 ((am_b_0 _).mp h5)
/-- of -/
theorem c15 (L : am_Lay S P) {m n : Nat} {y : Int32} (hn : I 65 0 = nI n) (hm : m < n) (hn7 : n ≤ 7) (k : Q (some (.int (s_of (I 66 m) (I 67 m) (am_bit (I 65 1) m) (fun b => I 68 (m * 5 + b)) y))) (S, I, J, P)) : am_ev pr (d + 1) 15 [.ref 64, .int (nI m), .int y] (S, I, J, P) Q := by
  have hh := L.h65
  have hm7 : m < 7 := by omega
  have g : ∀ b, nI m * 5 + nI (b + 3) - 3 = nI (m * 5 + b) := fun b => by
    rw [show (5 : Int32) = nI 5 from rfl, pk_mul, nI_add, ← Nat.add_assoc, am_ns3]
  show am_wp pr (d + 1) 15 0 [(0, .ref 64), (1, .int (nI m)), (2, .int y)] [] _ _
  refine w15_0 rfl ?_
  refine w15_1 (L.2 _ _ _ rfl) ?_
  refine w15_4 rfl ?_
  refine w15_5 (k := c16 hh ?_)
  rw [hn, am_b_t ⟨nI_pos' (by omega), nI_lt hm (by omega), nI_lt hm7 (by decide)⟩]
  refine w15_8 (fun _ => ?_) (fun h => absurd am_n01 h)
  refine w15_13 rfl ?_
  refine w15_14 (fun h14 => ?_) (fun h14 => ?_)
  · refine w15_27 rfl ?_
    refine w15_28 ?_
    refine w15_29 (fun h29 => ?_) (fun h29 => ?_)
    · refine w15_42 rfl ?_
      refine w15_43 ?_
      refine w15_44 (fun h44 => ?_) (fun h44 => ?_)
      · refine w15_59 rfl ?_
        refine w15_60 ?_
        refine w15_61 ?_
        refine w15_62 (k := c18 ?_)
        refine w15_65 (fun h65 => ?_) (fun h65 => ?_)
        · refine w15_86 ?_
          refine w15_87 ?_
          first | (subst h14; exact k) | (subst h29; exact k) | (subst h44; exact k) | (rw [s_of_b hb] at k; exact k) | (rw [s_of_n h14 h29 h44 ((am_b_0 _).mp h65)] at k; exact k)
        · obtain ⟨b, hb, rfl⟩ := am_bill3 (am_b_1 h65)
          refine w15_68 rfl ?_
          refine w15_69 (L.2 _ _ _ rfl) ?_
          refine w15_72 (L.2 _ _ _ rfl) ?_
          refine w15_75 rfl ?_
          refine w15_76 ?_
          refine w15_77 ?_
          refine w15_78 rfl ?_
          refine w15_79 ?_
          refine w15_80 ?_
          refine w15_81 ?_
          rw [g]
          refine w15_82 (by first | with_reducible assumption | exact L.sh rfl | exact hh.sh rfl | exact hp.2.2) (by first | with_reducible assumption | with_reducible exact am_in_nI (by omega) (by decide) | with_reducible exact am_inb (by omega) (by omega) | with_reducible exact am_inb' (by omega) (by omega) | with_reducible exact am_in35 (by omega) | with_reducible exact am_inw (by omega) (by omega) | with_reducible decide) ?_
          try simp (disch := omega) only [am_clb, am_clb', am_cl35, am_clw, am_clN]
          refine w15_83 ?_
          refine w15_87 ?_
          first | (subst h14; exact k) | (subst h29; exact k) | (subst h44; exact k) | (rw [s_of_b hb] at k; exact k) | (rw [s_of_n h14 h29 h44 ((am_b_0 _).mp h65)] at k; exact k)
      · replace h44 := Decidable.not_not.mp h44
        refine w15_47 rfl ?_
        refine w15_48 (L.2 _ _ _ rfl) ?_
        refine w15_51 ?_
        refine w15_54 rfl ?_
        refine w15_55 (k := c17b ?_)
        refine w15_58 ?_
        first | (subst h14; exact k) | (subst h29; exact k) | (subst h44; exact k) | (rw [s_of_b hb] at k; exact k) | (rw [s_of_n h14 h29 h44 ((am_b_0 _).mp h65)] at k; exact k)
    · replace h29 := Decidable.not_not.mp h29
      refine w15_32 rfl ?_
      refine w15_33 (L.2 _ _ _ rfl) ?_
      refine w15_36 (L.2 _ _ _ rfl) ?_
      refine w15_39 rfl ?_
      refine w15_40 (by first | with_reducible assumption | exact L.sh rfl | exact hh.sh rfl | exact hp.2.2) (by first | with_reducible assumption | with_reducible exact am_in_nI (by omega) (by decide) | with_reducible exact am_inb (by omega) (by omega) | with_reducible exact am_inb' (by omega) (by omega) | with_reducible exact am_in35 (by omega) | with_reducible exact am_inw (by omega) (by omega) | with_reducible decide) ?_
      try simp (disch := omega) only [am_clb, am_clb', am_cl35, am_clw, am_clN]
      refine w15_41 ?_
      first | (subst h14; exact k) | (subst h29; exact k) | (subst h44; exact k) | (rw [s_of_b hb] at k; exact k) | (rw [s_of_n h14 h29 h44 ((am_b_0 _).mp h65)] at k; exact k)
  · replace h14 := Decidable.not_not.mp h14
    refine w15_17 rfl ?_
    refine w15_18 (L.2 _ _ _ rfl) ?_
    refine w15_21 (L.2 _ _ _ rfl) ?_
    refine w15_24 rfl ?_
    refine w15_25 (by first | with_reducible assumption | exact L.sh rfl | exact hh.sh rfl | exact hp.2.2) (by first | with_reducible assumption | with_reducible exact am_in_nI (by omega) (by decide) | with_reducible exact am_inb (by omega) (by omega) | with_reducible exact am_inb' (by omega) (by omega) | with_reducible exact am_in35 (by omega) | with_reducible exact am_inw (by omega) (by omega) | with_reducible decide) ?_
    try simp (disch := omega) only [am_clb, am_clb', am_cl35, am_clw, am_clN]
    refine w15_26 ?_
    first | (subst h14; exact k) | (subst h29; exact k) | (subst h44; exact k) | (rw [s_of_b hb] at k; exact k) | (rw [s_of_n h14 h29 h44 ((am_b_0 _).mp h65)] at k; exact k)
theorem c15n (L : am_Lay S P) {x y : Int32} (h : ¬ (0 ≤ x ∧ x < I 65 0 ∧ x < 7)) (k : Q (some (.int (-1))) (S, I, J, P)) : am_ev pr (d + 1) 15 [.ref 64, .int x, .int y] (S, I, J, P) Q := by
  have hh := L.h65
  show am_wp pr (d + 1) 15 0 [(0, .ref 64), (1, .int x), (2, .int y)] [] _ _
  refine w15_0 rfl ?_
  refine w15_1 (L.2 _ _ _ rfl) ?_
  refine w15_4 rfl ?_
  refine w15_5 (k := c16 hh ?_)
  rw [am_b_f h]
  refine w15_8 (fun h => absurd h (by decide)) (fun _ => ?_)
  refine w15_11 ?_
  refine w15_12 ?_
  exact k
theorem am_add44 (m : Nat) : (44 : Int32) + nI m = nI (44 + m) := by rw [show (44 : Int32) = nI 44 from rfl, nI_add]
theorem am_add51 (m : Nat) : (51 : Int32) + nI m = nI (51 + m) := by rw [show (51 : Int32) = nI 51 from rfl, nI_add]
theorem c173 (L : am_Lay S P) {m n : Nat} {y : Int32} (hn : I 126 73 = nI n) (hm : m < n) (hn7 : n ≤ 7) (k : Q (some (.int (s_of (I 126 (44 + m)) (I 126 (51 + m)) (I 126 (35 + m)) (fun b => I 126 (m * 5 + b)) y))) (S, I, J, P)) : am_ev pr (d + 2) 173 [.ref 124, .int (nI m), .int y] (S, I, J, P) Q := by
  have hm7 : m < 7 := by omega
  show am_wp pr (d + 2) 173 0 [(0, .ref 124), (1, .int (nI m)), (2, .int y)] [] _ _
  have hL : ∀ {y : Int32}, (3 ≤ y ∧ y ≤ 7) → (0 ≤ y - 3 ∧ y - 3 < 5) := by
    intro y h
    obtain ⟨j, hj, e⟩ := nI_of2 (M := 7) (n := 7) (by decide) (Int32.not_lt.mpr (Int32.le_trans (by decide) h.1)) h.2
    subst e
    have h3 : 3 ≤ j := (nI_leI (a := 3) (b := j) (by omega) (by omega)).mp h.1
    rw [show nI j - 3 = nI (j - 3) from am_nsub (b := 3) h3]
    exact ⟨nI_pos' (by omega), nI_lt (b := 5) (by omega) (by decide)⟩
  have hL2 : ∀ {y : Int32}, (0 ≤ y - 3 ∧ y - 3 < 5) → (3 ≤ y ∧ y ≤ 7) := by
    intro y h
    obtain ⟨b, hb, rfl⟩ := am_bill3 h
    exact ⟨nI_le (a := 3) (by omega) (by omega), nI_le (b := 7) (by omega) (by decide)⟩
  refine w173_0 rfl ?_
  refine w173_1 rfl ?_
  refine w173_2 (k := c174 L hn hn7 ?_)
  rw [am_b_t ⟨nI_pos' (by omega), nI_lt hm (by omega)⟩]
  refine w173_5 (fun _ => ?_) (fun h => absurd am_n01 h)
  refine w173_10 rfl ?_
  refine w173_11 ?_
  refine w173_12 ?_
  refine w173_14 (k := c164 ?_)
  refine w173_17 (fun h17 => ?_) (fun h17 => ?_)
  · refine w173_29 rfl ?_
    rcases am_sw0_2 y with rfl | rfl | rfl | h30
    · refine w173_30_0 ?_
      refine w173_56 rfl ?_
      refine w173_57 (L.2 _ _ _ rfl) ?_
      refine w173_60 ?_
      refine w173_62 rfl ?_
      refine w173_63 ?_
      rw [am_add44]
      refine w173_64 (by first | with_reducible assumption | exact L.sh rfl | exact hh.sh rfl | exact hp.2.2) (by first | with_reducible assumption | with_reducible exact am_in_nI (by omega) (by decide) | with_reducible exact am_inb (by omega) (by omega) | with_reducible exact am_inb' (by omega) (by omega) | with_reducible exact am_in35 (by omega) | with_reducible exact am_inw (by omega) (by omega) | with_reducible decide) ?_
      try simp (disch := omega) only [am_clb, am_clb', am_cl35, am_clw, am_clN]
      refine w173_65 ?_
      first | (rw [s_of_b hb] at k; exact k) | exact k | (rw [s_of_n (fun z => by rw [z] at h30; exact absurd h30 (by decide)) (fun z => by rw [z] at h30; exact absurd h30 (by decide)) (fun z => by rw [z] at h30; exact absurd h30 (by decide)) (fun z => (am_b_0 _).mp h17 (hL2 z))] at k; exact k)
    · refine w173_30_1 ?_
      refine w173_66 rfl ?_
      refine w173_67 (L.2 _ _ _ rfl) ?_
      refine w173_70 ?_
      refine w173_72 rfl ?_
      refine w173_73 ?_
      rw [am_add51]
      refine w173_74 (by first | with_reducible assumption | exact L.sh rfl | exact hh.sh rfl | exact hp.2.2) (by first | with_reducible assumption | with_reducible exact am_in_nI (by omega) (by decide) | with_reducible exact am_inb (by omega) (by omega) | with_reducible exact am_inb' (by omega) (by omega) | with_reducible exact am_in35 (by omega) | with_reducible exact am_inw (by omega) (by omega) | with_reducible decide) ?_
      try simp (disch := omega) only [am_clb, am_clb', am_cl35, am_clw, am_clN]
      refine w173_75 ?_
      first | (rw [s_of_b hb] at k; exact k) | exact k | (rw [s_of_n (fun z => by rw [z] at h30; exact absurd h30 (by decide)) (fun z => by rw [z] at h30; exact absurd h30 (by decide)) (fun z => by rw [z] at h30; exact absurd h30 (by decide)) (fun z => (am_b_0 _).mp h17 (hL2 z))] at k; exact k)
    · refine w173_30_2 ?_
      refine w173_76 rfl ?_
      refine w173_77 (L.2 _ _ _ rfl) ?_
      refine w173_80 ?_
      refine w173_82 rfl ?_
      refine w173_83 ?_
      rw [am_add35]
      refine w173_84 (by first | with_reducible assumption | exact L.sh rfl | exact hh.sh rfl | exact hp.2.2) (by first | with_reducible assumption | with_reducible exact am_in_nI (by omega) (by decide) | with_reducible exact am_inb (by omega) (by omega) | with_reducible exact am_inb' (by omega) (by omega) | with_reducible exact am_in35 (by omega) | with_reducible exact am_inw (by omega) (by omega) | with_reducible decide) ?_
      try simp (disch := omega) only [am_clb, am_clb', am_cl35, am_clw, am_clN]
      refine w173_85 ?_
      first | (rw [s_of_b hb] at k; exact k) | exact k | (rw [s_of_n (fun z => by rw [z] at h30; exact absurd h30 (by decide)) (fun z => by rw [z] at h30; exact absurd h30 (by decide)) (fun z => by rw [z] at h30; exact absurd h30 (by decide)) (fun z => (am_b_0 _).mp h17 (hL2 z))] at k; exact k)
    · refine w173_30_d h30 ?_
      refine w173_86 ?_
      refine w173_87 ?_
      first | (rw [s_of_b hb] at k; exact k) | exact k | (rw [s_of_n (fun z => by rw [z] at h30; exact absurd h30 (by decide)) (fun z => by rw [z] at h30; exact absurd h30 (by decide)) (fun z => by rw [z] at h30; exact absurd h30 (by decide)) (fun z => (am_b_0 _).mp h17 (hL2 z))] at k; exact k)
  · obtain ⟨b, hb, rfl⟩ := am_bill3 (hL (am_b_1 h17))
    refine w173_20 rfl ?_
    refine w173_21 rfl ?_
    refine w173_22 rfl ?_
    refine w173_23 ?_
    refine w173_24 ?_
    rw [am_ns3]
    refine w173_25 (k := c175 (by first | exact L | assumption | omega) (by first | exact L | assumption | omega) (by first | exact L | assumption | omega) ?_)
    refine w173_28 ?_
    first | (rw [s_of_b hb] at k; exact k) | exact k | (rw [s_of_n (fun z => by rw [z] at h30; exact absurd h30 (by decide)) (fun z => by rw [z] at h30; exact absurd h30 (by decide)) (fun z => by rw [z] at h30; exact absurd h30 (by decide)) (fun z => (am_b_0 _).mp h17 (hL2 z))] at k; exact k)
theorem c173n (L : am_Lay S P) {n : Nat} {x y : Int32} (hn : I 126 73 = nI n) (hn7 : n ≤ 7) (h : ¬ (0 ≤ x ∧ x < nI n)) (k : Q (some (.int (-1))) (S, I, J, P)) : am_ev pr (d + 2) 173 [.ref 124, .int x, .int y] (S, I, J, P) Q := by
  show am_wp pr (d + 2) 173 0 [(0, .ref 124), (1, .int x), (2, .int y)] [] _ _
  refine w173_0 rfl ?_
  refine w173_1 rfl ?_
  refine w173_2 (k := c174 L hn hn7 ?_)
  rw [am_b_f h]
  refine w173_5 (fun h => absurd h (by decide)) (fun _ => ?_)
  refine w173_8 ?_
  refine w173_9 ?_
  exact k
end
