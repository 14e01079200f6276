/-! the last deed taken back -/
section
variable {pr : am_Pr} {d : Nat} {S : List (Nat × Nat)} {I : Nat → Nat → Int32} {J : Nat → Nat → Int64} {P : Nat → Nat → Option Nat} {Q : Option Value → am_H → Prop} {n l s u tp : Nat} {kp lf kp' : Nat → Int32}
def g_un (kp lf : Nat → Int32) (v : Nat) : Nat → Int32 := fun j => if j < 44 then lf (45 * v + j) else kp j
theorem PA_un {dd : Nat → Int32} {v : Nat} (h : am_PA dd lf kp n (v + 1)) : am_PA dd lf (g_un kp lf v) n v := by
  intro i hi
  obtain ⟨h1, h2, h3, h4⟩ := h i (by omega)
  refine ⟨h1, h2, h3, fun j hj => ?_⟩
  rw [h4 j hj, if_neg (by omega)]
  by_cases z : i + 1 = v
  · rw [if_pos z, z]
    exact am_un_cg hj (fun q hq => (if_pos hq).symm)
  · rw [if_neg z]
theorem hr_un {I1 : Nat → Nat → Int32} (hr : am_HR I 65 kp n l s) (er : ∀ a, a ≠ 65 → a ≠ 68 → a ≠ 69 → I1 a = I a) (eh : ∀ q, q ≠ 1 → q ≠ 2 → I1 65 q = I 65 q) (e69 : ∀ q, q ≠ 0 → I1 69 q = I 69 q) (ek : ∀ j, 44 ≤ j → kp' j = kp j) (mv : am_mv n kp') (h2 : ∀ m, m < 32 → (am_bit (I1 65 1) m = 1 ↔ m < n ∧ kp' (35 + m) = 1)) (h4 : I1 65 2 = kp' 42) (h10 : ∀ j, j < n * 5 → I1 68 j = kp' j) (h11 : I1 69 0 = kp' 43) : am_HR I1 65 kp' n l s := by
  have n7 := hr.n7
  have l6 := hr.l6
  have s6 := hr.s6
  obtain ⟨m1, m2, m3, m4⟩ := mv
  have e0 : I1 66 = I 66 := er _ (by decide) (by decide) (by decide)
  have e1 : I1 67 = I 67 := er _ (by decide) (by decide) (by decide)
  have e5 : I1 71 = I 71 := er _ (by decide) (by decide) (by decide)
  have e6 : I1 72 = I 72 := er _ (by decide) (by decide) (by decide)
  refine am_HR_mk ?_ ?_ ?_ ?_ ?_ ?_ ?_ ?_ ?_ ?_ ?_ ?_ ?_ ?_ ?_ ?_
  · exact ⟨n7, l6, s6⟩
  · show I1 65 0 = nI n ∧ kp' 73 = nI n
    rw [eh 0 (by decide) (by decide), ek 73 (by omega)]; exact hr 1
  · exact h2
  · exact m1
  · exact ⟨h4, m2⟩
  · show I1 65 3 = nI l ∧ kp' 75 = nI l
    rw [eh 3 (by decide) (by decide), ek 75 (by omega)]; exact hr 5
  · show I1 65 4 = kp' 76 ∧ (kp' 76 = -1 ∨ ∃ f, f < l ∧ kp' 76 = nI f)
    rw [eh 4 (by decide) (by decide), ek 76 (by omega)]; exact hr 6
  · show I1 65 5 = nI s ∧ kp' 74 = nI s
    rw [eh 5 (by decide) (by decide), ek 74 (by omega)]; exact hr 7
  · intro m hm
    show I1 66 m = kp' (44 + m) ∧ ∃ x, 1 ≤ x ∧ x ≤ 9 ∧ kp' (44 + m) = nI x
    rw [e0, ek (44 + m) (by omega)]; exact hr 8 m hm
  · intro m hm
    show I1 67 m = kp' (51 + m)
    rw [e1, ek (51 + m) (by omega)]; exact hr 9 m hm
  · intro j hj
    exact ⟨h10 j hj, m4 j hj⟩
  · exact ⟨h11, m3⟩
  · show I1 69 1 = kp' 70 ∧ ∃ x, x ≤ 10 ∧ kp' 70 = nI x
    rw [e69 1 (by decide), ek 70 (by omega)]; exact hr 12
  · show I1 69 2 = kp' 71
    rw [e69 2 (by decide), ek 71 (by omega)]; exact hr 13
  · show I1 69 3 = kp' 72 ∧ ∃ x, x ≤ 99 ∧ kp' 72 = nI x
    rw [e69 3 (by decide), ek 72 (by omega)]; exact hr 14
  · intro i hi
    show ∃ a b, a < 5 ∧ b < 5 ∧ I1 71 i = nI a ∧ kp' (58 + 2 * i) = nI a ∧ I1 72 i = nI b ∧ kp' (58 + 2 * i + 1) = nI b
    rw [e5, e6, ek (58 + 2 * i) (by omega), ek (58 + 2 * i + 1) (by omega)]; exact hr 15 i hi
/-- Past: takeBack -/
theorem c116 (L : am_Lay S P) {v : Nat} (h : HC I kp lf n l s (v + 1)) (k : ∀ I', (∀ a, a ≠ 65 → a ≠ 68 → a ≠ 69 → a ≠ 90 → I' a = I a) → HC I' (g_un kp lf v) lf n l s v → Q (some (.int (lf (45 * v + 44)))) (S, I', J, P)) : am_ev pr d 116 [.ref 90, .ref 65] (S, I, J, P) Q := by
  obtain ⟨hr, u16, hu, hPA⟩ := h
  have n7 := hr.n7
  have hh := L.h65
  have hp := L.p90
  have hPA2 := PA_un hPA
  obtain ⟨q1, q2, q3, q4⟩ := hPA v (by omega)
  rw [if_pos rfl] at q4
  have gk : ∀ j, j < 44 → g_un kp lf v j = am_un n (I 91 (3 * v)) (I 91 (3 * v + 1)) (I 91 (3 * v + 2)) kp j := fun j hj => (if_pos hj).trans (q4 j hj)
  have gk2 : ∀ j, 44 ≤ j → g_un kp lf v j = kp j := fun j hj => if_neg (by omega)
  have gm : am_mv n (g_un kp lf v) := by
    obtain ⟨m1, m2, m3, m4⟩ := q3
    have e : ∀ j, j < 44 → g_un kp lf v j = lf (45 * v + j) := fun j hj => if_pos hj
    refine ⟨fun m hm => ?_, ?_, ?_, fun j hj => ?_⟩
    · rw [e _ (by omega)]; exact m1 m hm
    · rw [e _ (by omega)]; exact m2
    · rw [e _ (by omega)]; exact m3
    · rw [e _ (by omega)]; exact m4 j hj
  have e0 : nI v * 3 = nI (3 * v) := by rw [show (3 : Int32) = nI 3 from rfl, pk_mul, Nat.mul_comm]
  have en : nI (v + 1) - 1 = nI v := by rw [show (1 : Int32) = nI 1 from rfl, am_nsub (by omega), Nat.add_sub_cancel]
  have ea : ∀ x, am_u I 90 0 x 91 = I 91 := fun x => am_u_ne (by decide)
  rw [q2] at k
  generalize g_un kp lf v = kq at *
  generalize k0 : I 91 (3 * v) = kd at *
  generalize k1 : I 91 (3 * v + 1) = wh at *
  generalize k2 : I 91 (3 * v + 2) = ws at *
  show am_wp pr d 116 0 [(0, .ref 90), (1, .ref 65)] [] _ _
  refine w116_0 rfl ?_
  refine w116_1 ?_
  rw [hu]
  refine w116_4 ?_
  refine w116_5 (fun hQ => absurd hQ (Int32.not_lt.mpr (nI_le (a := 1) (by omega) (by omega)))) (fun _ => ?_)
  refine w116_8 rfl ?_
  refine w116_9 ?_
  rw [hu]
  refine w116_12 ?_
  refine w116_14 (fun _ => ?_) (fun hQ => absurd (nI_le (b := 16) u16 (by decide)) hQ)
  refine w116_20 rfl ?_
  refine w116_21 rfl ?_
  refine w116_22 ?_
  rw [hu]
  refine w116_25 ?_
  refine w116_26 ?_
  rw [en]
  refine w116_27 ?_
  refine w116_30 rfl ?_
  refine w116_31 ?_
  rw [am_u_self]
  refine w116_34 ?_
  refine w116_35 ?_
  rw [e0]
  refine w116_36 ?_
  refine w116_37 rfl ?_
  refine w116_38 hp.2.1 ?_
  refine w116_41 rfl ?_
  refine w116_42 (L.sh rfl) (am_in_nI (by omega) (by decide)) ?_
  rw [am_clN (by omega), ea, k0]
  refine w116_43 ?_
  refine w116_44 rfl ?_
  refine w116_45 hp.2.1 ?_
  refine w116_48 rfl ?_
  refine w116_49 ?_
  refine w116_50 ?_
  simp only [nI_add, nz_0, nz_a1, nz_b1, nz_c1, nz_d1, nz_a2, nz_b2, nz_c2, nz_d2, nz_a3, nz_b3, nz_c3, nz_d3, nz_a4, nz_b4, nz_c4, nz_d4, nz_a5, nz_b5, nz_c5, nz_d5, nz_a6, nz_b6, nz_c6, nz_d6, nz_a7, nz_b7, nz_c7, nz_d7, nz_a8, nz_b8, nz_c8, nz_d8, nz_a13, nz_b13, nz_c13, nz_d13, nz_a20, nz_b20, nz_c20, nz_d20, nz_a35, nz_b35, nz_c35, nz_d35, nz_a44, nz_b44, nz_c44, nz_d44, nz_a45, nz_b45, nz_c45, nz_d45, nz_a51, nz_b51, nz_c51, nz_d51, nz_a58, nz_b58, nz_c58, nz_d58, nz_a77, nz_b77, nz_c77, nz_d77, nz_a84, nz_b84, nz_c84, nz_d84, nz_a400, nz_b400, nz_c400, nz_d400, nz_a2884, nz_b2884, nz_c2884, nz_d2884, nz_a5684, nz_b5684, nz_c5684, nz_d5684]
  refine w116_51 (L.sh rfl) (am_in_nI (by omega) (by decide)) ?_
  rw [am_clN (by omega), ea, k1]
  refine w116_52 ?_
  generalize hI0 : am_u I 90 0 (nI v) = I0
  have er0 : ∀ a, a ≠ 90 → I0 a = I a := fun a ha => by rw [← hI0, am_u_ne ha]
  have z0 : I0 90 0 = nI v := by rw [← hI0, am_u_self]
  have fin : ∀ I1 : Nat → Nat → Int32, (∀ a, a ≠ 65 → a ≠ 68 → a ≠ 69 → I1 a = I0 a) → am_HR I1 65 kq n l s → Q (some (.int kd)) (S, I1, J, P) := fun I1 f hr1 => k I1 (fun a a1 a2 a3 a4 => by rw [f a a1 a2 a3, er0 a a4]) ⟨hr1, by omega, by rw [f 90 (by decide) (by decide) (by decide)]; exact z0, by rw [f 91 (by decide) (by decide) (by decide), er0 91 (by decide)]; exact hPA2⟩
  have hr0 : am_HR I0 65 kp n l s := am_HR_cg 65 (fun a b1 b2 => er0 a (by omega)) rfl hr
  have cst : ∀ I1 : Nat → Nat → Int32, (∀ a, a ≠ 65 → a ≠ 68 → a ≠ 69 → I1 a = I0 a) → (∀ q, q ≠ 1 → q ≠ 2 → I1 65 q = I0 65 q) → (∀ q, q ≠ 0 → I1 69 q = I0 69 q) → (∀ m, m < 32 → (am_bit (I1 65 1) m = 1 ↔ m < n ∧ kq (35 + m) = 1)) → I1 65 2 = kq 42 → (∀ j, j < n * 5 → I1 68 j = kq j) → I1 69 0 = kq 43 → Q (some (.int kd)) (S, I1, J, P) := fun I1 f1 f2 f3 f4 f5 f6 f7 => fin I1 f1 (hr_un hr0 f1 f2 f3 gk2 gm f4 f5 f6 f7)
  have he0 : ∀ m, m < 32 → (am_bit (I0 65 1) m = 1 ↔ m < n ∧ kp (35 + m) = 1) := hr0.he
  have st0 : I0 65 2 = kp 42 := hr0.st
  have wa0 : ∀ j, j < n * 5 → I0 68 j = kp j := hr0.wa
  have td0 : I0 69 0 = kp 43 := hr0.td
  have kw2 : I0 91 (3 * v + 2) = ws := by rw [er0 91 (by decide)]; exact k2
  rcases q1 with ⟨rfl, b, hb, rfl⟩ | ⟨rfl, m, hm, rfl⟩ | ⟨rfl, j, hj, rfl⟩ | ⟨rfl, hz⟩
  · have g42 : kq 42 = kp 42 ^^^ (1 <<< (nI b &&& 31)) := (gk 42 (by omega)).trans (by unfold am_un; rw [if_pos rfl, if_pos rfl])
    have gx : ∀ j, j < 44 → j ≠ 42 → kq j = kp j := fun j hj h2 => (gk j hj).trans (by unfold am_un; rw [if_pos rfl, if_neg h2])
    refine w116_54 rfl ?_
    refine w116_55 (fun hQ => absurd hQ (fun q => q rfl)) (fun _ => ?_)
    refine w116_58 rfl ?_
    refine w116_59 rfl ?_
    refine w116_60 ?_
    refine w116_63 ?_
    refine w116_64 rfl ?_
    refine w116_66 ?_
    refine w116_67 ?_
    refine w116_68 ?_
    refine w116_71 ?_
    refine w116_146 rfl ?_
    refine w116_147 ?_
    refine cst _ (fun a a1 _ _ => by rw [am_u_ne a1]) (fun q _ hq => by rw [am_u_at hq]) (fun q _ => by rw [am_u_ne (by decide)]) (fun m hm => ?_) ?_ (fun j hj => ?_) ?_
    · by_cases z : m < n
      · rw [am_u_at (by decide), he0 m hm, gx _ (by omega) (by omega)]
      · rw [am_u_at (by decide), he0 m hm]
        exact ⟨fun q => absurd q.1 z, fun q => absurd q.1 z⟩
    · rw [am_u_self, st0, g42]
    · rw [am_u_ne (by decide), wa0 j hj, gx j (by omega) (by omega)]
    · rw [am_u_ne (by decide), td0, gx 43 (by decide) (by decide)]
  · have g35 : kq (35 + m) = 1 - kp (35 + m) := (gk _ (by omega)).trans (by unfold am_un; rw [if_neg (by decide), if_pos rfl, am_clN (by omega), if_pos rfl])
    have gx : ∀ j, j < 44 → j ≠ 35 + m → kq j = kp j := fun j hj h2 => (gk j hj).trans (by unfold am_un; rw [if_neg (by decide), if_pos rfl, am_clN (by omega), if_neg (fun q => h2 q.symm)])
    refine w116_54 rfl ?_
    refine w116_55 (fun _ => ?_) (fun hQ => absurd (by decide) hQ)
    refine w116_74 rfl ?_
    refine w116_75 ?_
    refine w116_76 (fun hQ => absurd hQ (fun q => q rfl)) (fun _ => ?_)
    refine w116_79 rfl ?_
    refine w116_80 rfl ?_
    refine w116_81 ?_
    refine w116_84 ?_
    refine w116_85 rfl ?_
    refine w116_87 ?_
    refine w116_88 ?_
    refine w116_89 ?_
    refine w116_92 ?_
    refine w116_146 rfl ?_
    refine w116_147 ?_
    skip
    generalize hI1 : am_u I0 65 1 (I0 65 1 ^^^ (1 <<< (nI m &&& 31))) = I1
    have er : ∀ a, a ≠ 65 → I1 a = I0 a := fun a ha => by rw [← hI1, am_u_ne ha]
    have hr1 := hr_go (I1 := I1) (kp' := fun j => if j = 35 + m then 1 - kp (35 + m) else kp j) hr0 hm er (fun q hq => by rw [← hI1, am_u_at hq]) (by rw [← hI1, am_u_self]) (fun j hj => if_neg hj) (if_pos rfl)
    refine fin I1 (fun a a1 _ _ => er a a1) (am_HR_cg 65 (fun _ _ _ => rfl) (funext (fun j => ?_)) hr1)
    by_cases z : j < 44
    · by_cases z2 : j = 35 + m
      · rw [if_pos z2, z2, g35]
      · rw [if_neg z2, gx j z z2]
    · rw [if_neg (by omega), gk2 j (by omega)]
  · have gj : kq j = ws := (gk _ (by omega)).trans (by unfold am_un; rw [if_neg (by decide), if_neg (by decide), if_pos rfl, am_clN (by omega), if_pos rfl])
    have gx : ∀ q, q < 44 → q ≠ j → kq q = kp q := fun q hj h2 => (gk q hj).trans (by unfold am_un; rw [if_neg (by decide), if_neg (by decide), if_pos rfl, am_clN (by omega), if_neg (fun q => h2 q.symm)])
    refine w116_54 rfl ?_
    refine w116_55 (fun _ => ?_) (fun hQ => absurd (by decide) hQ)
    refine w116_74 rfl ?_
    refine w116_75 ?_
    refine w116_76 (fun _ => ?_) (fun hQ => absurd (by decide) hQ)
    refine w116_95 rfl ?_
    refine w116_96 ?_
    refine w116_97 (fun hQ => absurd hQ (fun q => q rfl)) (fun _ => ?_)
    refine w116_100 rfl ?_
    refine w116_102 (fun hQ => absurd hQ (nI_pos (by omega))) (fun _ => ?_)
    refine w116_105 rfl ?_
    refine w116_107 ?_
    refine w116_109 (fun hQ => absurd hQ (am_nlt (show j < 35 by omega) (by decide))) (fun _ => ?_)
    refine w116_112 rfl ?_
    refine w116_113 (L.2 _ _ _ rfl) ?_
    refine w116_116 rfl ?_
    refine w116_118 rfl ?_
    refine w116_119 hp.2.1 ?_
    refine w116_122 rfl ?_
    refine w116_123 ?_
    refine w116_124 ?_
    simp only [nI_add, nz_0, nz_a1, nz_b1, nz_c1, nz_d1, nz_a2, nz_b2, nz_c2, nz_d2, nz_a3, nz_b3, nz_c3, nz_d3, nz_a4, nz_b4, nz_c4, nz_d4, nz_a5, nz_b5, nz_c5, nz_d5, nz_a6, nz_b6, nz_c6, nz_d6, nz_a7, nz_b7, nz_c7, nz_d7, nz_a8, nz_b8, nz_c8, nz_d8, nz_a13, nz_b13, nz_c13, nz_d13, nz_a20, nz_b20, nz_c20, nz_d20, nz_a35, nz_b35, nz_c35, nz_d35, nz_a44, nz_b44, nz_c44, nz_d44, nz_a45, nz_b45, nz_c45, nz_d45, nz_a51, nz_b51, nz_c51, nz_d51, nz_a58, nz_b58, nz_c58, nz_d58, nz_a77, nz_b77, nz_c77, nz_d77, nz_a84, nz_b84, nz_c84, nz_d84, nz_a400, nz_b400, nz_c400, nz_d400, nz_a2884, nz_b2884, nz_c2884, nz_d2884, nz_a5684, nz_b5684, nz_c5684, nz_d5684]
    refine w116_125 (L.sh rfl) (am_in_nI (by omega) (by decide)) ?_
    rw [am_clN (by omega), kw2]
    refine w116_126 (L.sh rfl) (am_in_nI (by omega) (by decide)) ?_
    rw [am_clN (by omega)]
    refine w116_127 ?_
    refine w116_146 rfl ?_
    refine w116_147 ?_
    refine cst _ (fun a _ a2 _ => by rw [am_u_ne a2]) (fun q _ hq => by rw [am_u_ne (by decide)]) (fun q _ => by rw [am_u_ne (by decide)]) (fun m hm => ?_) ?_ (fun i hi => ?_) ?_
    · by_cases z : m < n
      · rw [am_u_ne (by decide), he0 m hm, gx _ (by omega) (by omega)]
      · rw [am_u_ne (by decide), he0 m hm]
        exact ⟨fun q => absurd q.1 z, fun q => absurd q.1 z⟩
    · rw [am_u_ne (by decide), st0, gx 42 (by decide) (by omega)]
    · by_cases z : i = j
      · rw [z, am_u_self, gj]
      · rw [am_u_at z, wa0 i hi, gx i (by omega) z]
    · rw [am_u_ne (by decide), td0, gx 43 (by decide) (by omega)]
  · have g43 : kq 43 = kp 43 - 1 := (gk _ (by omega)).trans (by unfold am_un; rw [if_neg (by decide), if_neg (by decide), if_neg (by decide), if_pos rfl])
    have g35 : ∀ m, m < n → kq (35 + m) = am_bit wh m := fun m hm => (gk _ (by omega)).trans (by unfold am_un; rw [if_neg (by decide), if_neg (by decide), if_neg (by decide), if_neg (by omega), if_pos (by omega), Nat.add_sub_cancel_left])
    have gx : ∀ q, q < 44 → q ≠ 43 → ¬ (35 ≤ q ∧ q < 35 + n) → kq q = kp q := fun q hj h2 h3 => (gk q hj).trans (by unfold am_un; rw [if_neg (by decide), if_neg (by decide), if_neg (by decide), if_neg h2, if_neg h3])
    refine w116_54 rfl ?_
    refine w116_55 (fun _ => ?_) (fun hQ => absurd (by decide) hQ)
    refine w116_74 rfl ?_
    refine w116_75 ?_
    refine w116_76 (fun _ => ?_) (fun hQ => absurd (by decide) hQ)
    refine w116_95 rfl ?_
    refine w116_96 ?_
    refine w116_97 (fun _ => ?_) (fun hQ => absurd (by decide) hQ)
    refine w116_130 rfl ?_
    refine w116_131 rfl ?_
    refine w116_133 ?_
    refine w116_136 rfl ?_
    refine w116_137 (L.2 _ _ _ rfl) ?_
    refine w116_140 ?_
    refine w116_141 ⟨rfl, rfl⟩ ?_
    refine w116_142 (L.sh rfl) (by decide) ?_
    rw [tl_0]
    refine w116_143 ?_
    refine w116_144 ?_
    refine w116_145 (L.sh rfl) (by decide) ?_
    rw [tl_0]
    refine w116_146 rfl ?_
    refine w116_147 ?_
    refine cst _ (fun a a1 _ a3 => by rw [am_u_ne a3, am_u_ne a1]) (fun q hq _ => by rw [am_u_ne (by decide), am_u_at hq]) (fun q hq => by rw [am_u_at hq, am_u_ne (by decide)]) (fun m hm => ?_) ?_ (fun j hj => ?_) ?_
    · rw [am_u_ne (by decide), am_u_self]
      by_cases z : m < n
      · rw [g35 m z]
        exact ⟨fun q => ⟨z, q⟩, fun q => q.2⟩
      · rw [hz m (by omega) hm]
        exact ⟨fun q => absurd q (by decide), fun q => absurd q.1 z⟩
    · rw [am_u_ne (by decide), am_u_at (by decide), st0, gx 42 (by decide) (by decide) (by omega)]
    · rw [am_u_ne (by decide), am_u_ne (by decide), wa0 j hj, gx j (by omega) (by omega) (by omega)]
    · rw [am_u_self, am_u_ne (by decide), td0, g43]
/-- the reference's: undo -/
theorem c246 (L : am_Lay S P) {v : Nat} (h : HM I kp lf (v + 1)) (v16 : v < 16) (k : ∀ I', (∀ a, a ≠ 124 → a ≠ 126 → I' a = I a) → (∀ q, q ≠ 35 → q ≠ 0 → I' 124 q = I 124 q) → I' 124 0 = 0 → HM I' (g_un kp lf v) lf v → Q (some (.int (lf (45 * v + 44)))) (S, I', J, P)) : am_ev pr (d + 1) 246 [.ref 124] (S, I, J, P) Q := by
  obtain ⟨h1, h2, h3⟩ := h
  have en : nI (v + 1) - 1 = nI v := by rw [show (1 : Int32) = nI 1 from rfl, am_nsub (by omega), Nat.add_sub_cancel]
  show am_wp pr (d + 1) 246 0 [(0, .ref 124)] [] _ _
  refine w246_0 rfl ?_
  refine w246_1 ?_
  rw [h2]
  refine w246_4 (fun _ => ?_) (fun hQ => absurd (fun q => absurd ((nI_eq (a := v + 1) (b := 0) (by omega) (by omega)).mp q) (by omega)) hQ)
  refine w246_14 rfl ?_
  refine w246_15 rfl ?_
  refine w246_16 ?_
  rw [h2]
  refine w246_19 ?_
  refine w246_20 ?_
  rw [en]
  refine w246_21 ?_
  refine w246_24 ?_
  refine w246_26 rfl ?_
  refine w246_27 ?_
  rw [am_u_self]
  refine w246_30 ?_
  rw [show (45 : Int32) * nI v = nI (45 * v) from pk_mul 45 v]
  refine w246_31 ?_
  refine w246_32 ?_
  refine w246_33 ?_
  generalize hI0 : am_u I 124 35 (nI v) = I0
  have er0 : ∀ a, a ≠ 124 → I0 a = I a := fun a ha => by rw [← hI0, am_u_ne ha]
  have e0 : ∀ q, q ≠ 35 → I0 124 q = I 124 q := fun q hq => by rw [← hI0, am_u_at hq]
  have z0 : I0 124 35 = nI v := by rw [← hI0, am_u_self]
  refine am_for (fun b => ∀ I' : Nat → Nat → Int32, (∀ a, a ≠ 126 → I' a = I0 a) → (∀ j, I' 126 j = if j < b then lf (45 * v + j) else kp j) → ∀ lv, am_ld1 lv 0 = some (.ref 124) → am_ld1 lv 1 = some (.int (nI (45 * v))) → am_ld1 lv 2 = some (.int (nI b)) → am_wp pr (d + 1) 246 34 lv [] (S, I', J, P) Q) 44 ?_ ?_ I0 (fun _ _ => rfl) (fun j => by rw [if_neg (by omega), er0 126 (by decide), h1]) _ rfl rfl rfl
  · intro b hb ih I' f1 f2 lv l0 l1 l2
    have e1 : I' 141 (45 * v + b) = lf (45 * v + b) := by rw [f1 141 (by decide), er0 141 (by decide)]; exact h3 v (by omega) b (by omega)
    refine w246_34 l2 ?_
    refine w246_35 ?_
    refine w246_37 (fun hQ => absurd hQ (am_nlt hb (by decide))) (fun _ => ?_)
    refine w246_40 l0 ?_
    refine w246_41 (L.2 _ _ _ rfl) ?_
    refine w246_44 l2 ?_
    refine w246_45 l0 ?_
    refine w246_46 (L.2 _ _ _ rfl) ?_
    refine w246_49 l1 ?_
    refine w246_50 l2 ?_
    refine w246_51 ?_
    rw [nI_add]
    refine w246_52 (L.sh rfl) (am_in_nI (by omega) (by decide)) ?_
    rw [am_clN (by omega), e1]
    refine w246_53 (L.sh rfl) (am_in_nI (by omega) (by decide)) ?_
    rw [am_clN (by omega)]
    refine w246_54 l2 ?_
    refine w246_57 ?_
    refine ih _ (fun a ha => by rw [am_u_ne ha]; exact f1 a ha) (fun j => ?_) _ l0 l1 (am_nx b)
    rw [am_u_get, f2]
    by_cases z : j = b
    · rw [if_pos ⟨rfl, z⟩, if_pos (by omega), z]
    · rw [if_neg (fun q => z q.2)]
      by_cases y : j < b
      · rw [if_pos y, if_pos (by omega)]
      · rw [if_neg y, if_neg (by omega)]
  · intro I' f1 f2 lv l0 l1 l2
    have e1 : I' 141 (45 * v + 44) = lf (45 * v + 44) := by rw [f1 141 (by decide), er0 141 (by decide)]; exact h3 v (by omega) 44 (by omega)
    refine w246_34 l2 ?_
    refine w246_35 ?_
    refine w246_37 (fun _ => ?_) (fun hQ => absurd (Int32.le_refl _) hQ)
    refine w246_60 l0 ?_
    refine w246_61 l0 ?_
    refine w246_62 (L.2 _ _ _ rfl) ?_
    refine w246_65 l1 ?_
    refine w246_66 ?_
    refine w246_68 ?_
    rw [show (44 : Int32) = nI 44 from rfl, nI_add]
    refine w246_69 (L.sh rfl) (am_in_nI (by omega) (by decide)) ?_
    rw [am_clN (by omega), e1]
    refine w246_70 (k := c166 L ?_)
    refine w246_73 ?_
    refine k _ (fun a a1 a2 => by rw [am_u_ne a1, f1 a a2, er0 a a1]) (fun q a1 a2 => by rw [am_u_at a2, f1 124 (by decide), e0 q a1]) am_u_self ⟨?_, ?_, ?_⟩
    · funext j
      rw [am_u_ne (by decide), f2]
      rfl
    · rw [am_u_at (by decide), f1 124 (by decide)]; exact z0
    · intro i hi j hj
      rw [am_u_ne (by decide), f1 141 (by decide), er0 141 (by decide)]
      exact h3 i (by omega) j hj
/-- undo -/
theorem op_18 (r : am_R S I P n l s u tp) : am_op pr (d + 60) S I J P 115 [.ref 64] 246 [.ref 124] := by
  have hr := r.hr
  have L := r.L
  have hp := L.p90
  have hu := r.past.2.1
  have hm := r.past.2.2.1
  cases u with
  | zero =>
    have e0 : I 90 0 = 0 := hu
    have e1 : I 124 35 = 0 := hm
    refine op_rf r (-3) (fun Q k => ?_) (fun I1 J1 f Q k => ?_)
    · show am_wp pr (d + 60) 115 0 [(0, .ref 64)] [] _ _
      refine w115_0 rfl ?_
      refine w115_1 (L.2 _ _ _ rfl) ?_
      refine w115_4 ?_
      rw [e0]
      refine w115_7 (fun hQ => absurd hQ (fun q => q rfl)) (fun _ => ?_)
      refine w115_10 rfl ?_
      refine w115_11 ?_
      refine w115_13 (k := c11 L (by decide) ?_)
      refine w115_16 ?_
      exact k
    · show am_wp pr (d + 60) 246 0 [(0, .ref 124)] [] _ _
      refine w246_0 rfl ?_
      refine w246_1 ?_
      rw [f 124 (by decide) (by decide), e1]
      refine w246_4 (fun hQ => absurd hQ (fun q => q rfl)) (fun _ => ?_)
      refine w246_7 rfl ?_
      refine w246_8 ?_
      refine w246_10 (k := c165 L (by decide) ?_)
      refine w246_13 ?_
      exact k
  | succ v =>
    have v16 : v < 16 := r.past.1
    show am_wp pr (d + 60) 115 0 [(0, .ref 64)] [] _ _
    refine w115_0 rfl ?_
    refine w115_1 (L.2 _ _ _ rfl) ?_
    refine w115_4 ?_
    rw [hu]
    refine w115_7 (fun _ => ?_) (fun hQ => absurd (fun q => absurd ((nI_eq (a := v + 1) (b := 0) (by omega) (by omega)).mp q) (by omega)) hQ)
    refine w115_17 rfl ?_
    refine w115_18 rfl ?_
    refine w115_19 (L.2 _ _ _ rfl) ?_
    refine w115_22 rfl ?_
    refine w115_23 (L.2 _ _ _ rfl) ?_
    refine w115_26 (k := c116 L r.hc (fun I1 f1 hC => ?_))
    refine w115_29 (k := c14 L ?_)
    refine w115_32 ⟨_, rfl, ?_⟩
    have e1 : ∀ a, a ≠ 64 → a ≠ 65 → a ≠ 68 → a ≠ 69 → a ≠ 90 → am_u I1 64 16 0 a = I a := fun a a0 a1 a2 a3 a4 => by rw [am_u_ne a0, f1 a a1 a2 a3 a4]
    refine c246 (kp := I 126) (lf := I 141) L ⟨e1 126 (by decide) (by decide) (by decide) (by decide) (by decide), by rw [e1 124 (by decide) (by decide) (by decide) (by decide) (by decide)]; exact hm, by rw [e1 141 (by decide) (by decide) (by decide) (by decide) (by decide)]; exact fun _ _ _ _ => rfl⟩ v16 (fun I2 g1 g2 g3 hM => ?_)
    have e2 : ∀ a, a ≠ 124 → a ≠ 126 → a ≠ 64 → I2 a = I1 a := fun a a1 a2 a3 => by rw [g1 a a1 a2, am_u_ne a3]
    have e3 : ∀ a, a ≠ 124 → a ≠ 126 → a ≠ 64 → a ≠ 65 → a ≠ 68 → a ≠ 69 → a ≠ 90 → I2 a = I a := fun a a1 a2 a3 a4 a5 a6 a7 => by rw [e2 a a1 a2 a3, f1 a a4 a5 a6 a7]
    have e64 : ∀ q, q ≠ 16 → I2 64 q = I 64 q := fun q hq => by rw [g1 64 (by decide) (by decide), am_u_at hq, f1 64 (by decide) (by decide) (by decide) (by decide)]
    have e124 : ∀ q, q ≠ 35 → q ≠ 0 → I2 124 q = I 124 q := fun q h1 h2 => by rw [g2 q h1 h2, e1 124 (by decide) (by decide) (by decide) (by decide) (by decide)]
    refine am_oi_0 (am_R_hands (kp' := g_un (I 126) (I 141) v) (lf := I 141) (u' := v) r ?_ hM (fun j hj => if_neg (by omega)) (fun a ha => e3 a (by omega) (by omega) (by omega) (by omega) (by omega) (by omega) (by omega)) ⟨e64 13 (by decide), e64 14 (by decide), by rw [g1 64 (by decide) (by decide), am_u_self]⟩ ⟨g3, e124 6 (by decide) (by decide), e124 13 (by decide) (by decide), e124 14 (by decide) (by decide), e124 40 (by decide) (by decide), e124 48 (by decide) (by decide)⟩) rfl
    obtain ⟨c1, c2, c3, c4⟩ := hC
    refine ⟨am_HR_cg 65 (fun a b1 b2 => e2 a (by omega) (by omega) (by omega)) rfl c1, c2, ?_, ?_⟩
    · rw [e2 90 (by decide) (by decide) (by decide)]; exact c3
    · rw [e2 91 (by decide) (by decide) (by decide)]; exact c4
end
