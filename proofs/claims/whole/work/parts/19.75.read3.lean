/-! both sides' calls: terms, counts, what was drawn, how likely so few doze -/
section
variable {pr : am_Pr} {d : Nat} {S : List (Nat × Nat)} {I I' : Nat → Nat → Int32} {J : Nat → Nat → Int64} {P : Nat → Nat → Option Nat} {Q : Option Value → am_H → Prop} {n l s u tp n' s' u' tp' : Nat} {kp kp' : Nat → Int32}
/-- a term is set, on both sides -/
theorem am_tm0 {x : Int32} {M : Nat} (hM : M < 1000) (h : 0 ≤ x ∧ x ≤ nI M) : ∃ v, v ≤ M ∧ x = nI v := by
  obtain ⟨j, hj, e⟩ := nI_of2 (M := nI M) (n := M) (nI_toInt (by omega)) (Int32.not_lt.mpr h.1) h.2
  exact ⟨j, hj, e⟩
theorem am_R_t0 (r : am_R S I P n l s u tp) {y : Int32} (hy : ∃ v, v ≤ 999 ∧ y = nI v) : am_R S (am_u (am_u (am_u (am_u (am_u (am_u I 69 0 y) 90 0 0) 64 16 0) 126 43 y) 124 35 0) 124 0 0) P n l s 0 tp := by
  have hr := r.hr
  have n7 := hr.n7
  generalize hI4 : am_u (am_u (am_u (am_u (am_u (am_u I 69 0 y) 90 0 0) 64 16 0) 126 43 y) 124 35 0) 124 0 0 = I4
  have eh : ∀ q, 0 ≤ q → I4 65 q = I 65 q := fun q _ => by rw [← hI4, am_u_ne (by decide), am_u_ne (by decide), am_u_ne (by decide), am_u_ne (by decide), am_u_ne (by decide), am_u_ne (by decide)]
  have er : ∀ a, a ≠ 69 ∧ a ≠ 126 ∧ a ≠ 64 ∧ a ≠ 124 ∧ a ≠ 90 → I4 a = I a := fun a ha => by rw [← hI4, am_u_ne ha.2.2.2.1, am_u_ne ha.2.2.2.1, am_u_ne ha.2.1, am_u_ne ha.2.2.1, am_u_ne ha.2.2.2.2, am_u_ne ha.1]
  have ek : ∀ j, j ≠ 43 → I4 126 j = I 126 j := fun j hj => by rw [← hI4, am_u_ne (by decide), am_u_ne (by decide), am_u_at hj, am_u_ne (by decide), am_u_ne (by decide), am_u_ne (by decide)]
  have e69 : ∀ j, j ≠ 0 → I4 69 j = I 69 j := fun j hj => by rw [← hI4, am_u_ne (by decide), am_u_ne (by decide), am_u_ne (by decide), am_u_ne (by decide), am_u_ne (by decide), am_u_at hj]
  have z69 : I4 69 0 = y := by rw [← hI4, am_u_ne (by decide), am_u_ne (by decide), am_u_ne (by decide), am_u_ne (by decide), am_u_ne (by decide), am_u_self]
  have zk : I4 126 43 = y := by rw [← hI4, am_u_ne (by decide), am_u_ne (by decide), am_u_self]
  have e64 : ∀ q, q ≠ 16 → I4 64 q = I 64 q := fun q hq => by rw [← hI4, am_u_ne (by decide), am_u_ne (by decide), am_u_ne (by decide), am_u_at hq, am_u_ne (by decide), am_u_ne (by decide)]
  have e124 : ∀ q, q ≠ 0 → q ≠ 35 → I4 124 q = I 124 q := fun q hq h2 => by rw [← hI4, am_u_at hq, am_u_at h2, am_u_ne (by decide), am_u_ne (by decide), am_u_ne (by decide), am_u_ne (by decide)]
  refine am_R_tk (n' := n) (s' := s) (u' := 0) r (fun a ha => er a (by omega)) (fun j hj => ek j (by omega)) ⟨e64 13 (by decide), e64 14 (by decide), ?_⟩ ⟨?_, e124 6 (by decide) (by decide), e124 13 (by decide) (by decide), e124 14 (by decide) (by decide), e124 40 (by decide) (by decide), e124 48 (by decide) (by decide)⟩ ?_ ⟨by omega, ?_, ?_, am_PA_0⟩
  · rw [← hI4, am_u_ne (by decide), am_u_ne (by decide), am_u_ne (by decide), am_u_self]
  · rw [← hI4, am_u_self]
  · refine am_HR_mk ?_ ?_ ?_ ?_ ?_ ?_ ?_ ?_ ?_ ?_ ?_ ?_ ?_ ?_ ?_ ?_
    · exact ⟨hr.n7, hr.l6, hr.s6⟩
    · show I4 65 0 = nI n ∧ (I4 126) 73 = nI n
      rw [eh 0 (by omega), ek 73 (by omega)]
      exact hr 1
    · intro mq hmq
      by_cases hmz : mq < n
      · show am_bit (I4 65 1) mq = 1 ↔ mq < n ∧ (I4 126) (35 + mq) = 1
        rw [eh 1 (by omega), ek (35 + mq) (by omega)]
        exact hr 2 mq hmq
      · show am_bit (I4 65 1) mq = 1 ↔ mq < n ∧ (I4 126) (35 + mq) = 1
        rw [eh 1 (by omega), hr.he mq hmq]
        exact ⟨fun q => absurd q.1 hmz, fun q => absurd q.1 hmz⟩
    · intro mq hmq
      show (I4 126) (35 + mq) = 0 ∨ (I4 126) (35 + mq) = 1
      rw [ek (35 + mq) (by omega)]
      exact hr 3 mq hmq
    · show I4 65 2 = (I4 126) 42 ∧ ∃ x, x < 32 ∧ (I4 126) 42 = nI x
      rw [eh 2 (by omega), ek 42 (by omega)]
      exact hr 4
    · show I4 65 3 = nI l ∧ (I4 126) 75 = nI l
      rw [eh 3 (by omega), ek 75 (by omega)]
      exact hr 5
    · show I4 65 4 = (I4 126) 76 ∧ ((I4 126) 76 = -1 ∨ ∃ f, f < l ∧ (I4 126) 76 = nI f)
      rw [eh 4 (by omega), ek 76 (by omega)]
      exact hr 6
    · show I4 65 5 = nI s ∧ (I4 126) 74 = nI s
      rw [eh 5 (by omega), ek 74 (by omega)]
      exact hr 7
    · intro mq hmq
      show I4 66 mq = (I4 126) (44 + mq) ∧ ∃ x, 1 ≤ x ∧ x ≤ 9 ∧ (I4 126) (44 + mq) = nI x
      rw [er 66 (by omega), ek (44 + mq) (by omega)]
      exact hr 8 mq hmq
    · intro mq hmq
      show I4 67 mq = (I4 126) (51 + mq)
      rw [er 67 (by omega), ek (51 + mq) (by omega)]
      exact hr 9 mq hmq
    · intro jq hjq
      show I4 68 jq = (I4 126) jq ∧ ∃ x, x ≤ 9 ∧ (I4 126) jq = nI x
      rw [er 68 (by omega), ek jq (by omega)]
      exact hr 10 jq hjq
    · show I4 69 0 = I4 126 43 ∧ ∃ x, x ≤ 999 ∧ I4 126 43 = nI x
      rw [z69, zk]
      exact ⟨rfl, hy⟩
    · show I4 69 1 = I4 126 70 ∧ ∃ x, x ≤ 10 ∧ I4 126 70 = nI x
      rw [e69 1 (by omega), ek 70 (by omega)]
      exact hr 12
    · show I4 69 2 = I4 126 71
      rw [e69 2 (by omega), ek 71 (by omega)]
      exact hr 13
    · show I4 69 3 = I4 126 72 ∧ ∃ x, x ≤ 99 ∧ I4 126 72 = nI x
      rw [e69 3 (by omega), ek 72 (by omega)]
      exact hr 14
    · intro iq hiq
      have hs6 := hr.s6
      show ∃ a b, a < 5 ∧ b < 5 ∧ I4 71 iq = nI a ∧ (I4 126) (58 + 2 * iq) = nI a ∧ I4 72 iq = nI b ∧ (I4 126) (58 + 2 * iq + 1) = nI b
      rw [er 71 (by omega), er 72 (by omega), ek (58 + 2 * iq) (by omega), ek (58 + 2 * iq + 1) (by omega)]
      exact hr 15 iq hiq
  · rw [← hI4, am_u_ne (by decide), am_u_ne (by decide), am_u_ne (by decide), am_u_ne (by decide), am_u_self]; rfl
  · rw [← hI4, am_u_at (by decide), am_u_self]; rfl
theorem am_R_t1 (r : am_R S I P n l s u tp) {y : Int32} (hy : ∃ v, v ≤ 10 ∧ y = nI v) : am_R S (am_u (am_u (am_u (am_u (am_u (am_u I 69 1 y) 90 0 0) 64 16 0) 126 70 y) 124 35 0) 124 0 0) P n l s 0 tp := by
  have hr := r.hr
  have n7 := hr.n7
  generalize hI4 : am_u (am_u (am_u (am_u (am_u (am_u I 69 1 y) 90 0 0) 64 16 0) 126 70 y) 124 35 0) 124 0 0 = I4
  have eh : ∀ q, 0 ≤ q → I4 65 q = I 65 q := fun q _ => by rw [← hI4, am_u_ne (by decide), am_u_ne (by decide), am_u_ne (by decide), am_u_ne (by decide), am_u_ne (by decide), am_u_ne (by decide)]
  have er : ∀ a, a ≠ 69 ∧ a ≠ 126 ∧ a ≠ 64 ∧ a ≠ 124 ∧ a ≠ 90 → I4 a = I a := fun a ha => by rw [← hI4, am_u_ne ha.2.2.2.1, am_u_ne ha.2.2.2.1, am_u_ne ha.2.1, am_u_ne ha.2.2.1, am_u_ne ha.2.2.2.2, am_u_ne ha.1]
  have ek : ∀ j, j ≠ 70 → I4 126 j = I 126 j := fun j hj => by rw [← hI4, am_u_ne (by decide), am_u_ne (by decide), am_u_at hj, am_u_ne (by decide), am_u_ne (by decide), am_u_ne (by decide)]
  have e69 : ∀ j, j ≠ 1 → I4 69 j = I 69 j := fun j hj => by rw [← hI4, am_u_ne (by decide), am_u_ne (by decide), am_u_ne (by decide), am_u_ne (by decide), am_u_ne (by decide), am_u_at hj]
  have z69 : I4 69 1 = y := by rw [← hI4, am_u_ne (by decide), am_u_ne (by decide), am_u_ne (by decide), am_u_ne (by decide), am_u_ne (by decide), am_u_self]
  have zk : I4 126 70 = y := by rw [← hI4, am_u_ne (by decide), am_u_ne (by decide), am_u_self]
  have e64 : ∀ q, q ≠ 16 → I4 64 q = I 64 q := fun q hq => by rw [← hI4, am_u_ne (by decide), am_u_ne (by decide), am_u_ne (by decide), am_u_at hq, am_u_ne (by decide), am_u_ne (by decide)]
  have e124 : ∀ q, q ≠ 0 → q ≠ 35 → I4 124 q = I 124 q := fun q hq h2 => by rw [← hI4, am_u_at hq, am_u_at h2, am_u_ne (by decide), am_u_ne (by decide), am_u_ne (by decide), am_u_ne (by decide)]
  refine am_R_tk (n' := n) (s' := s) (u' := 0) r (fun a ha => er a (by omega)) (fun j hj => ek j (by omega)) ⟨e64 13 (by decide), e64 14 (by decide), ?_⟩ ⟨?_, e124 6 (by decide) (by decide), e124 13 (by decide) (by decide), e124 14 (by decide) (by decide), e124 40 (by decide) (by decide), e124 48 (by decide) (by decide)⟩ ?_ ⟨by omega, ?_, ?_, am_PA_0⟩
  · rw [← hI4, am_u_ne (by decide), am_u_ne (by decide), am_u_ne (by decide), am_u_self]
  · rw [← hI4, am_u_self]
  · refine am_HR_mk ?_ ?_ ?_ ?_ ?_ ?_ ?_ ?_ ?_ ?_ ?_ ?_ ?_ ?_ ?_ ?_
    · exact ⟨hr.n7, hr.l6, hr.s6⟩
    · show I4 65 0 = nI n ∧ (I4 126) 73 = nI n
      rw [eh 0 (by omega), ek 73 (by omega)]
      exact hr 1
    · intro mq hmq
      by_cases hmz : mq < n
      · show am_bit (I4 65 1) mq = 1 ↔ mq < n ∧ (I4 126) (35 + mq) = 1
        rw [eh 1 (by omega), ek (35 + mq) (by omega)]
        exact hr 2 mq hmq
      · show am_bit (I4 65 1) mq = 1 ↔ mq < n ∧ (I4 126) (35 + mq) = 1
        rw [eh 1 (by omega), hr.he mq hmq]
        exact ⟨fun q => absurd q.1 hmz, fun q => absurd q.1 hmz⟩
    · intro mq hmq
      show (I4 126) (35 + mq) = 0 ∨ (I4 126) (35 + mq) = 1
      rw [ek (35 + mq) (by omega)]
      exact hr 3 mq hmq
    · show I4 65 2 = (I4 126) 42 ∧ ∃ x, x < 32 ∧ (I4 126) 42 = nI x
      rw [eh 2 (by omega), ek 42 (by omega)]
      exact hr 4
    · show I4 65 3 = nI l ∧ (I4 126) 75 = nI l
      rw [eh 3 (by omega), ek 75 (by omega)]
      exact hr 5
    · show I4 65 4 = (I4 126) 76 ∧ ((I4 126) 76 = -1 ∨ ∃ f, f < l ∧ (I4 126) 76 = nI f)
      rw [eh 4 (by omega), ek 76 (by omega)]
      exact hr 6
    · show I4 65 5 = nI s ∧ (I4 126) 74 = nI s
      rw [eh 5 (by omega), ek 74 (by omega)]
      exact hr 7
    · intro mq hmq
      show I4 66 mq = (I4 126) (44 + mq) ∧ ∃ x, 1 ≤ x ∧ x ≤ 9 ∧ (I4 126) (44 + mq) = nI x
      rw [er 66 (by omega), ek (44 + mq) (by omega)]
      exact hr 8 mq hmq
    · intro mq hmq
      show I4 67 mq = (I4 126) (51 + mq)
      rw [er 67 (by omega), ek (51 + mq) (by omega)]
      exact hr 9 mq hmq
    · intro jq hjq
      show I4 68 jq = (I4 126) jq ∧ ∃ x, x ≤ 9 ∧ (I4 126) jq = nI x
      rw [er 68 (by omega), ek jq (by omega)]
      exact hr 10 jq hjq
    · show I4 69 0 = I4 126 43 ∧ ∃ x, x ≤ 999 ∧ I4 126 43 = nI x
      rw [e69 0 (by omega), ek 43 (by omega)]
      exact hr 11
    · show I4 69 1 = I4 126 70 ∧ ∃ x, x ≤ 10 ∧ I4 126 70 = nI x
      rw [z69, zk]
      exact ⟨rfl, hy⟩
    · show I4 69 2 = I4 126 71
      rw [e69 2 (by omega), ek 71 (by omega)]
      exact hr 13
    · show I4 69 3 = I4 126 72 ∧ ∃ x, x ≤ 99 ∧ I4 126 72 = nI x
      rw [e69 3 (by omega), ek 72 (by omega)]
      exact hr 14
    · intro iq hiq
      have hs6 := hr.s6
      show ∃ a b, a < 5 ∧ b < 5 ∧ I4 71 iq = nI a ∧ (I4 126) (58 + 2 * iq) = nI a ∧ I4 72 iq = nI b ∧ (I4 126) (58 + 2 * iq + 1) = nI b
      rw [er 71 (by omega), er 72 (by omega), ek (58 + 2 * iq) (by omega), ek (58 + 2 * iq + 1) (by omega)]
      exact hr 15 iq hiq
  · rw [← hI4, am_u_ne (by decide), am_u_ne (by decide), am_u_ne (by decide), am_u_ne (by decide), am_u_self]; rfl
  · rw [← hI4, am_u_at (by decide), am_u_self]; rfl
theorem am_R_t2 (r : am_R S I P n l s u tp) {y : Int32} (hy : ∃ v, v ≤ 9 ∧ y = nI v) : am_R S (am_u (am_u (am_u (am_u (am_u (am_u I 69 2 y) 90 0 0) 64 16 0) 126 71 y) 124 35 0) 124 0 0) P n l s 0 tp := by
  have hr := r.hr
  have n7 := hr.n7
  generalize hI4 : am_u (am_u (am_u (am_u (am_u (am_u I 69 2 y) 90 0 0) 64 16 0) 126 71 y) 124 35 0) 124 0 0 = I4
  have eh : ∀ q, 0 ≤ q → I4 65 q = I 65 q := fun q _ => by rw [← hI4, am_u_ne (by decide), am_u_ne (by decide), am_u_ne (by decide), am_u_ne (by decide), am_u_ne (by decide), am_u_ne (by decide)]
  have er : ∀ a, a ≠ 69 ∧ a ≠ 126 ∧ a ≠ 64 ∧ a ≠ 124 ∧ a ≠ 90 → I4 a = I a := fun a ha => by rw [← hI4, am_u_ne ha.2.2.2.1, am_u_ne ha.2.2.2.1, am_u_ne ha.2.1, am_u_ne ha.2.2.1, am_u_ne ha.2.2.2.2, am_u_ne ha.1]
  have ek : ∀ j, j ≠ 71 → I4 126 j = I 126 j := fun j hj => by rw [← hI4, am_u_ne (by decide), am_u_ne (by decide), am_u_at hj, am_u_ne (by decide), am_u_ne (by decide), am_u_ne (by decide)]
  have e69 : ∀ j, j ≠ 2 → I4 69 j = I 69 j := fun j hj => by rw [← hI4, am_u_ne (by decide), am_u_ne (by decide), am_u_ne (by decide), am_u_ne (by decide), am_u_ne (by decide), am_u_at hj]
  have z69 : I4 69 2 = y := by rw [← hI4, am_u_ne (by decide), am_u_ne (by decide), am_u_ne (by decide), am_u_ne (by decide), am_u_ne (by decide), am_u_self]
  have zk : I4 126 71 = y := by rw [← hI4, am_u_ne (by decide), am_u_ne (by decide), am_u_self]
  have e64 : ∀ q, q ≠ 16 → I4 64 q = I 64 q := fun q hq => by rw [← hI4, am_u_ne (by decide), am_u_ne (by decide), am_u_ne (by decide), am_u_at hq, am_u_ne (by decide), am_u_ne (by decide)]
  have e124 : ∀ q, q ≠ 0 → q ≠ 35 → I4 124 q = I 124 q := fun q hq h2 => by rw [← hI4, am_u_at hq, am_u_at h2, am_u_ne (by decide), am_u_ne (by decide), am_u_ne (by decide), am_u_ne (by decide)]
  refine am_R_tk (n' := n) (s' := s) (u' := 0) r (fun a ha => er a (by omega)) (fun j hj => ek j (by omega)) ⟨e64 13 (by decide), e64 14 (by decide), ?_⟩ ⟨?_, e124 6 (by decide) (by decide), e124 13 (by decide) (by decide), e124 14 (by decide) (by decide), e124 40 (by decide) (by decide), e124 48 (by decide) (by decide)⟩ ?_ ⟨by omega, ?_, ?_, am_PA_0⟩
  · rw [← hI4, am_u_ne (by decide), am_u_ne (by decide), am_u_ne (by decide), am_u_self]
  · rw [← hI4, am_u_self]
  · refine am_HR_mk ?_ ?_ ?_ ?_ ?_ ?_ ?_ ?_ ?_ ?_ ?_ ?_ ?_ ?_ ?_ ?_
    · exact ⟨hr.n7, hr.l6, hr.s6⟩
    · show I4 65 0 = nI n ∧ (I4 126) 73 = nI n
      rw [eh 0 (by omega), ek 73 (by omega)]
      exact hr 1
    · intro mq hmq
      by_cases hmz : mq < n
      · show am_bit (I4 65 1) mq = 1 ↔ mq < n ∧ (I4 126) (35 + mq) = 1
        rw [eh 1 (by omega), ek (35 + mq) (by omega)]
        exact hr 2 mq hmq
      · show am_bit (I4 65 1) mq = 1 ↔ mq < n ∧ (I4 126) (35 + mq) = 1
        rw [eh 1 (by omega), hr.he mq hmq]
        exact ⟨fun q => absurd q.1 hmz, fun q => absurd q.1 hmz⟩
    · intro mq hmq
      show (I4 126) (35 + mq) = 0 ∨ (I4 126) (35 + mq) = 1
      rw [ek (35 + mq) (by omega)]
      exact hr 3 mq hmq
    · show I4 65 2 = (I4 126) 42 ∧ ∃ x, x < 32 ∧ (I4 126) 42 = nI x
      rw [eh 2 (by omega), ek 42 (by omega)]
      exact hr 4
    · show I4 65 3 = nI l ∧ (I4 126) 75 = nI l
      rw [eh 3 (by omega), ek 75 (by omega)]
      exact hr 5
    · show I4 65 4 = (I4 126) 76 ∧ ((I4 126) 76 = -1 ∨ ∃ f, f < l ∧ (I4 126) 76 = nI f)
      rw [eh 4 (by omega), ek 76 (by omega)]
      exact hr 6
    · show I4 65 5 = nI s ∧ (I4 126) 74 = nI s
      rw [eh 5 (by omega), ek 74 (by omega)]
      exact hr 7
    · intro mq hmq
      show I4 66 mq = (I4 126) (44 + mq) ∧ ∃ x, 1 ≤ x ∧ x ≤ 9 ∧ (I4 126) (44 + mq) = nI x
      rw [er 66 (by omega), ek (44 + mq) (by omega)]
      exact hr 8 mq hmq
    · intro mq hmq
      show I4 67 mq = (I4 126) (51 + mq)
      rw [er 67 (by omega), ek (51 + mq) (by omega)]
      exact hr 9 mq hmq
    · intro jq hjq
      show I4 68 jq = (I4 126) jq ∧ ∃ x, x ≤ 9 ∧ (I4 126) jq = nI x
      rw [er 68 (by omega), ek jq (by omega)]
      exact hr 10 jq hjq
    · show I4 69 0 = I4 126 43 ∧ ∃ x, x ≤ 999 ∧ I4 126 43 = nI x
      rw [e69 0 (by omega), ek 43 (by omega)]
      exact hr 11
    · show I4 69 1 = I4 126 70 ∧ ∃ x, x ≤ 10 ∧ I4 126 70 = nI x
      rw [e69 1 (by omega), ek 70 (by omega)]
      exact hr 12
    · show I4 69 2 = I4 126 71
      rw [z69, zk]
    · show I4 69 3 = I4 126 72 ∧ ∃ x, x ≤ 99 ∧ I4 126 72 = nI x
      rw [e69 3 (by omega), ek 72 (by omega)]
      exact hr 14
    · intro iq hiq
      have hs6 := hr.s6
      show ∃ a b, a < 5 ∧ b < 5 ∧ I4 71 iq = nI a ∧ (I4 126) (58 + 2 * iq) = nI a ∧ I4 72 iq = nI b ∧ (I4 126) (58 + 2 * iq + 1) = nI b
      rw [er 71 (by omega), er 72 (by omega), ek (58 + 2 * iq) (by omega), ek (58 + 2 * iq + 1) (by omega)]
      exact hr 15 iq hiq
  · rw [← hI4, am_u_ne (by decide), am_u_ne (by decide), am_u_ne (by decide), am_u_ne (by decide), am_u_self]; rfl
  · rw [← hI4, am_u_at (by decide), am_u_self]; rfl
theorem am_R_t3 (r : am_R S I P n l s u tp) {y : Int32} (hy : ∃ v, v ≤ 99 ∧ y = nI v) : am_R S (am_u (am_u (am_u (am_u (am_u (am_u I 69 3 y) 90 0 0) 64 16 0) 126 72 y) 124 35 0) 124 0 0) P n l s 0 tp := by
  have hr := r.hr
  have n7 := hr.n7
  generalize hI4 : am_u (am_u (am_u (am_u (am_u (am_u I 69 3 y) 90 0 0) 64 16 0) 126 72 y) 124 35 0) 124 0 0 = I4
  have eh : ∀ q, 0 ≤ q → I4 65 q = I 65 q := fun q _ => by rw [← hI4, am_u_ne (by decide), am_u_ne (by decide), am_u_ne (by decide), am_u_ne (by decide), am_u_ne (by decide), am_u_ne (by decide)]
  have er : ∀ a, a ≠ 69 ∧ a ≠ 126 ∧ a ≠ 64 ∧ a ≠ 124 ∧ a ≠ 90 → I4 a = I a := fun a ha => by rw [← hI4, am_u_ne ha.2.2.2.1, am_u_ne ha.2.2.2.1, am_u_ne ha.2.1, am_u_ne ha.2.2.1, am_u_ne ha.2.2.2.2, am_u_ne ha.1]
  have ek : ∀ j, j ≠ 72 → I4 126 j = I 126 j := fun j hj => by rw [← hI4, am_u_ne (by decide), am_u_ne (by decide), am_u_at hj, am_u_ne (by decide), am_u_ne (by decide), am_u_ne (by decide)]
  have e69 : ∀ j, j ≠ 3 → I4 69 j = I 69 j := fun j hj => by rw [← hI4, am_u_ne (by decide), am_u_ne (by decide), am_u_ne (by decide), am_u_ne (by decide), am_u_ne (by decide), am_u_at hj]
  have z69 : I4 69 3 = y := by rw [← hI4, am_u_ne (by decide), am_u_ne (by decide), am_u_ne (by decide), am_u_ne (by decide), am_u_ne (by decide), am_u_self]
  have zk : I4 126 72 = y := by rw [← hI4, am_u_ne (by decide), am_u_ne (by decide), am_u_self]
  have e64 : ∀ q, q ≠ 16 → I4 64 q = I 64 q := fun q hq => by rw [← hI4, am_u_ne (by decide), am_u_ne (by decide), am_u_ne (by decide), am_u_at hq, am_u_ne (by decide), am_u_ne (by decide)]
  have e124 : ∀ q, q ≠ 0 → q ≠ 35 → I4 124 q = I 124 q := fun q hq h2 => by rw [← hI4, am_u_at hq, am_u_at h2, am_u_ne (by decide), am_u_ne (by decide), am_u_ne (by decide), am_u_ne (by decide)]
  refine am_R_tk (n' := n) (s' := s) (u' := 0) r (fun a ha => er a (by omega)) (fun j hj => ek j (by omega)) ⟨e64 13 (by decide), e64 14 (by decide), ?_⟩ ⟨?_, e124 6 (by decide) (by decide), e124 13 (by decide) (by decide), e124 14 (by decide) (by decide), e124 40 (by decide) (by decide), e124 48 (by decide) (by decide)⟩ ?_ ⟨by omega, ?_, ?_, am_PA_0⟩
  · rw [← hI4, am_u_ne (by decide), am_u_ne (by decide), am_u_ne (by decide), am_u_self]
  · rw [← hI4, am_u_self]
  · refine am_HR_mk ?_ ?_ ?_ ?_ ?_ ?_ ?_ ?_ ?_ ?_ ?_ ?_ ?_ ?_ ?_ ?_
    · exact ⟨hr.n7, hr.l6, hr.s6⟩
    · show I4 65 0 = nI n ∧ (I4 126) 73 = nI n
      rw [eh 0 (by omega), ek 73 (by omega)]
      exact hr 1
    · intro mq hmq
      by_cases hmz : mq < n
      · show am_bit (I4 65 1) mq = 1 ↔ mq < n ∧ (I4 126) (35 + mq) = 1
        rw [eh 1 (by omega), ek (35 + mq) (by omega)]
        exact hr 2 mq hmq
      · show am_bit (I4 65 1) mq = 1 ↔ mq < n ∧ (I4 126) (35 + mq) = 1
        rw [eh 1 (by omega), hr.he mq hmq]
        exact ⟨fun q => absurd q.1 hmz, fun q => absurd q.1 hmz⟩
    · intro mq hmq
      show (I4 126) (35 + mq) = 0 ∨ (I4 126) (35 + mq) = 1
      rw [ek (35 + mq) (by omega)]
      exact hr 3 mq hmq
    · show I4 65 2 = (I4 126) 42 ∧ ∃ x, x < 32 ∧ (I4 126) 42 = nI x
      rw [eh 2 (by omega), ek 42 (by omega)]
      exact hr 4
    · show I4 65 3 = nI l ∧ (I4 126) 75 = nI l
      rw [eh 3 (by omega), ek 75 (by omega)]
      exact hr 5
    · show I4 65 4 = (I4 126) 76 ∧ ((I4 126) 76 = -1 ∨ ∃ f, f < l ∧ (I4 126) 76 = nI f)
      rw [eh 4 (by omega), ek 76 (by omega)]
      exact hr 6
    · show I4 65 5 = nI s ∧ (I4 126) 74 = nI s
      rw [eh 5 (by omega), ek 74 (by omega)]
      exact hr 7
    · intro mq hmq
      show I4 66 mq = (I4 126) (44 + mq) ∧ ∃ x, 1 ≤ x ∧ x ≤ 9 ∧ (I4 126) (44 + mq) = nI x
      rw [er 66 (by omega), ek (44 + mq) (by omega)]
      exact hr 8 mq hmq
    · intro mq hmq
      show I4 67 mq = (I4 126) (51 + mq)
      rw [er 67 (by omega), ek (51 + mq) (by omega)]
      exact hr 9 mq hmq
    · intro jq hjq
      show I4 68 jq = (I4 126) jq ∧ ∃ x, x ≤ 9 ∧ (I4 126) jq = nI x
      rw [er 68 (by omega), ek jq (by omega)]
      exact hr 10 jq hjq
    · show I4 69 0 = I4 126 43 ∧ ∃ x, x ≤ 999 ∧ I4 126 43 = nI x
      rw [e69 0 (by omega), ek 43 (by omega)]
      exact hr 11
    · show I4 69 1 = I4 126 70 ∧ ∃ x, x ≤ 10 ∧ I4 126 70 = nI x
      rw [e69 1 (by omega), ek 70 (by omega)]
      exact hr 12
    · show I4 69 2 = I4 126 71
      rw [e69 2 (by omega), ek 71 (by omega)]
      exact hr 13
    · show I4 69 3 = I4 126 72 ∧ ∃ x, x ≤ 99 ∧ I4 126 72 = nI x
      rw [z69, zk]
      exact ⟨rfl, hy⟩
    · intro iq hiq
      have hs6 := hr.s6
      show ∃ a b, a < 5 ∧ b < 5 ∧ I4 71 iq = nI a ∧ (I4 126) (58 + 2 * iq) = nI a ∧ I4 72 iq = nI b ∧ (I4 126) (58 + 2 * iq + 1) = nI b
      rw [er 71 (by omega), er 72 (by omega), ek (58 + 2 * iq) (by omega), ek (58 + 2 * iq + 1) (by omega)]
      exact hr 15 iq hiq
  · rw [← hI4, am_u_ne (by decide), am_u_ne (by decide), am_u_ne (by decide), am_u_ne (by decide), am_u_self]; rfl
  · rw [← hI4, am_u_at (by decide), am_u_self]; rfl
theorem am_tmx {a0 a1 a2 a3 : Int32} (h0 : a0 = a1) : a0 = a1 := h0
/-- terms -/
theorem op_4 (r : am_R S I P n l s u tp) {x y : Int32} : am_op pr (d + 60) S I J P 40 [.ref 64, .int x, .int y] 210 [.ref 124, .int x, .int y] := by
  have hr := r.hr
  have L := r.L
  have hp90 := L.p90
  rcases am_sw0_3 x with rfl | rfl | rfl | rfl | hx
  · by_cases hy : 0 ≤ y ∧ y ≤ 999
    · show am_wp pr (d + 60) 40 0 [(0, .ref 64), (1, .int 0), (2, .int y)] [] _ _
      refine w40_0 rfl ?_
      refine w40_1 (fun hQ => absurd hQ (by decide)) (fun _ => ?_)
      refine w40_4 rfl ?_
      refine w40_5 ?_
      refine w40_8S (by decide) rfl (by decide) ?_
      refine w40_9 (fun hQ => absurd hQ (by decide)) (fun _ => ?_)
      refine w40_12 rfl ?_
      refine w40_13 (fun hQ => absurd hQ (Int32.not_lt.mpr hy.1)) (fun _ => ?_)
      refine w40_16 rfl ?_
      refine w40_17 ?_
      refine w40_20 rfl ?_
      refine w40_21S (by decide) rfl (by decide) ?_
      refine w40_22 (fun _ => ?_) (fun hQ => absurd hy.2 hQ)
      refine w40_31 rfl ?_
      refine w40_32 (L.2 _ _ _ rfl) ?_
      refine w40_35 (L.2 _ _ _ rfl) ?_
      refine w40_38 rfl ?_
      refine w40_39 (L.sh rfl) (by decide) ?_
      refine w40_40 ?_
      refine w40_41 rfl ?_
      refine w40_42 (L.2 _ _ _ rfl) ?_
      refine w40_45 (L.2 _ _ _ rfl) ?_
      refine w40_48 rfl ?_
      refine w40_49 rfl ?_
      refine w40_50 (L.sh rfl) (by decide) ?_
      refine w40_51 rfl ?_
      refine w40_52 (L.2 _ _ _ rfl) ?_
      refine w40_55 (k := c12 hp90 ?_)
      refine w40_58 rfl ?_
      refine w40_59 rfl ?_
      refine w40_60 (k := c14 L ?_)
      refine w40_63 ⟨_, rfl, ?_⟩
      show am_wp pr (d + 60) 210 0 [(0, .ref 124), (1, .int 0), (2, .int y)] [] _ _
      refine w210_0 rfl ?_
      refine w210_1 rfl ?_
      refine w210_2 (k := ?_)
      show am_wp pr (d + 59) 211 0 [(0, .int 0), (1, .int y)] [] _ _
      refine w211_0 rfl ?_
      refine w211_1_0 ?_
      refine w211_32 rfl ?_
      refine w211_33 ?_
      refine w211_34 ?_
      refine w211_37 (k := c164 ?_)
      rw [am_b_t hy]
      refine w211_40 (by rfl) ?_
      skip
      refine w210_5 (fun _ => ?_) (fun hQ => absurd am_n01 hQ)
      refine w210_14 rfl ?_
      refine w210_15 (L.2 _ _ _ rfl) ?_
      refine w210_18 rfl ?_
      refine w210_19 (k := c212 (w := 0) (by decide) ?_)
      refine w210_22 (L.sh rfl) (by decide) ?_
      refine w210_23 ?_
      refine w210_24 rfl ?_
      refine w210_25 (L.2 _ _ _ rfl) ?_
      refine w210_28 rfl ?_
      refine w210_29 (k := c212 (w := 0) (by decide) ?_)
      refine w210_32 rfl ?_
      refine w210_33 (L.sh rfl) (by decide) ?_
      refine w210_34 rfl ?_
      refine w210_35 rfl ?_
      refine w210_36 (k := c168 L ?_)
      refine w210_39 ?_
      refine am_oi_0 (am_R_t0 r (am_tm0 (M := 999) (by decide) hy)) ?_
      rw [am_u_ne (by decide), am_u_ne (by decide), am_u_ne (by decide)]
      exact hr.td.symm
    · refine op_rf r (-1) (fun Q k => ?_) (fun I1 J1 f Q k => ?_)
      · show am_wp pr (d + 60) 40 0 [(0, .ref 64), (1, .int 0), (2, .int y)] [] _ _
        refine w40_0 rfl ?_
        refine w40_1 (fun hQ => absurd hQ (by decide)) (fun _ => ?_)
        refine w40_4 rfl ?_
        refine w40_5 ?_
        refine w40_8S (by decide) rfl (by decide) ?_
        refine w40_9 (fun hQ => absurd hQ (by decide)) (fun _ => ?_)
        refine w40_12 rfl ?_
        refine w40_13 (fun h13 => ?_) (fun h13 => ?_)
        · refine w40_25 rfl ?_
          refine w40_26 ?_
          refine w40_27 (k := c11 L (by decide) ?_)
          refine w40_30 ?_
          exact k
        · replace h13 := Int32.not_lt.mp h13
          refine w40_16 rfl ?_
          refine w40_17 ?_
          refine w40_20 rfl ?_
          refine w40_21S (by decide) rfl (by decide) ?_
          refine w40_22 (fun h22 => ?_) (fun h22 => ?_)
          · exact absurd ⟨h13, h22⟩ hy
          · replace h22 := Int32.not_le.mp h22
            refine w40_25 rfl ?_
            refine w40_26 ?_
            refine w40_27 (k := c11 L (by decide) ?_)
            refine w40_30 ?_
            exact k
      · show am_wp pr (d + 60) 210 0 [(0, .ref 124), (1, .int 0), (2, .int y)] [] _ _
        refine w210_0 rfl ?_
        refine w210_1 rfl ?_
        refine w210_2 (k := ?_)
        show am_wp pr (d + 59) 211 0 [(0, .int 0), (1, .int y)] [] _ _
        refine w211_0 rfl ?_
        refine w211_1_0 ?_
        refine w211_32 rfl ?_
        refine w211_33 ?_
        refine w211_34 ?_
        refine w211_37 (k := c164 ?_)
        rw [am_b_f hy]
        refine w211_40 (by rfl) ?_
        skip
        refine w210_5 (fun hQ => absurd hQ (by decide)) (fun _ => ?_)
        refine w210_8 rfl ?_
        refine w210_9 ?_
        refine w210_10 (k := c165 L (by decide) ?_)
        refine w210_13 ?_
        exact k
  · by_cases hy : 0 ≤ y ∧ y ≤ 10
    · show am_wp pr (d + 60) 40 0 [(0, .ref 64), (1, .int 1), (2, .int y)] [] _ _
      refine w40_0 rfl ?_
      refine w40_1 (fun hQ => absurd hQ (by decide)) (fun _ => ?_)
      refine w40_4 rfl ?_
      refine w40_5 ?_
      refine w40_8S (by decide) rfl (by decide) ?_
      refine w40_9 (fun hQ => absurd hQ (by decide)) (fun _ => ?_)
      refine w40_12 rfl ?_
      refine w40_13 (fun hQ => absurd hQ (Int32.not_lt.mpr hy.1)) (fun _ => ?_)
      refine w40_16 rfl ?_
      refine w40_17 ?_
      refine w40_20 rfl ?_
      refine w40_21S (by decide) rfl (by decide) ?_
      refine w40_22 (fun _ => ?_) (fun hQ => absurd hy.2 hQ)
      refine w40_31 rfl ?_
      refine w40_32 (L.2 _ _ _ rfl) ?_
      refine w40_35 (L.2 _ _ _ rfl) ?_
      refine w40_38 rfl ?_
      refine w40_39 (L.sh rfl) (by decide) ?_
      refine w40_40 ?_
      refine w40_41 rfl ?_
      refine w40_42 (L.2 _ _ _ rfl) ?_
      refine w40_45 (L.2 _ _ _ rfl) ?_
      refine w40_48 rfl ?_
      refine w40_49 rfl ?_
      refine w40_50 (L.sh rfl) (by decide) ?_
      refine w40_51 rfl ?_
      refine w40_52 (L.2 _ _ _ rfl) ?_
      refine w40_55 (k := c12 hp90 ?_)
      refine w40_58 rfl ?_
      refine w40_59 rfl ?_
      refine w40_60 (k := c14 L ?_)
      refine w40_63 ⟨_, rfl, ?_⟩
      show am_wp pr (d + 60) 210 0 [(0, .ref 124), (1, .int 1), (2, .int y)] [] _ _
      refine w210_0 rfl ?_
      refine w210_1 rfl ?_
      refine w210_2 (k := ?_)
      show am_wp pr (d + 59) 211 0 [(0, .int 1), (1, .int y)] [] _ _
      refine w211_0 rfl ?_
      refine w211_1_1 ?_
      refine w211_41 rfl ?_
      refine w211_42 ?_
      refine w211_43 ?_
      refine w211_45 (k := c164 ?_)
      rw [am_b_t hy]
      refine w211_48 (by rfl) ?_
      skip
      refine w210_5 (fun _ => ?_) (fun hQ => absurd am_n01 hQ)
      refine w210_14 rfl ?_
      refine w210_15 (L.2 _ _ _ rfl) ?_
      refine w210_18 rfl ?_
      refine w210_19 (k := c212 (w := 1) (by decide) ?_)
      refine w210_22 (L.sh rfl) (by decide) ?_
      refine w210_23 ?_
      refine w210_24 rfl ?_
      refine w210_25 (L.2 _ _ _ rfl) ?_
      refine w210_28 rfl ?_
      refine w210_29 (k := c212 (w := 1) (by decide) ?_)
      refine w210_32 rfl ?_
      refine w210_33 (L.sh rfl) (by decide) ?_
      refine w210_34 rfl ?_
      refine w210_35 rfl ?_
      refine w210_36 (k := c168 L ?_)
      refine w210_39 ?_
      refine am_oi_0 (am_R_t1 r (am_tm0 (M := 10) (by decide) hy)) ?_
      rw [am_u_ne (by decide), am_u_ne (by decide), am_u_ne (by decide)]
      exact hr.tz.symm
    · refine op_rf r (-1) (fun Q k => ?_) (fun I1 J1 f Q k => ?_)
      · show am_wp pr (d + 60) 40 0 [(0, .ref 64), (1, .int 1), (2, .int y)] [] _ _
        refine w40_0 rfl ?_
        refine w40_1 (fun hQ => absurd hQ (by decide)) (fun _ => ?_)
        refine w40_4 rfl ?_
        refine w40_5 ?_
        refine w40_8S (by decide) rfl (by decide) ?_
        refine w40_9 (fun hQ => absurd hQ (by decide)) (fun _ => ?_)
        refine w40_12 rfl ?_
        refine w40_13 (fun h13 => ?_) (fun h13 => ?_)
        · refine w40_25 rfl ?_
          refine w40_26 ?_
          refine w40_27 (k := c11 L (by decide) ?_)
          refine w40_30 ?_
          exact k
        · replace h13 := Int32.not_lt.mp h13
          refine w40_16 rfl ?_
          refine w40_17 ?_
          refine w40_20 rfl ?_
          refine w40_21S (by decide) rfl (by decide) ?_
          refine w40_22 (fun h22 => ?_) (fun h22 => ?_)
          · exact absurd ⟨h13, h22⟩ hy
          · replace h22 := Int32.not_le.mp h22
            refine w40_25 rfl ?_
            refine w40_26 ?_
            refine w40_27 (k := c11 L (by decide) ?_)
            refine w40_30 ?_
            exact k
      · show am_wp pr (d + 60) 210 0 [(0, .ref 124), (1, .int 1), (2, .int y)] [] _ _
        refine w210_0 rfl ?_
        refine w210_1 rfl ?_
        refine w210_2 (k := ?_)
        show am_wp pr (d + 59) 211 0 [(0, .int 1), (1, .int y)] [] _ _
        refine w211_0 rfl ?_
        refine w211_1_1 ?_
        refine w211_41 rfl ?_
        refine w211_42 ?_
        refine w211_43 ?_
        refine w211_45 (k := c164 ?_)
        rw [am_b_f hy]
        refine w211_48 (by rfl) ?_
        skip
        refine w210_5 (fun hQ => absurd hQ (by decide)) (fun _ => ?_)
        refine w210_8 rfl ?_
        refine w210_9 ?_
        refine w210_10 (k := c165 L (by decide) ?_)
        refine w210_13 ?_
        exact k
  · by_cases hy : 0 ≤ y ∧ y ≤ 9
    · show am_wp pr (d + 60) 40 0 [(0, .ref 64), (1, .int 2), (2, .int y)] [] _ _
      refine w40_0 rfl ?_
      refine w40_1 (fun hQ => absurd hQ (by decide)) (fun _ => ?_)
      refine w40_4 rfl ?_
      refine w40_5 ?_
      refine w40_8S (by decide) rfl (by decide) ?_
      refine w40_9 (fun hQ => absurd hQ (by decide)) (fun _ => ?_)
      refine w40_12 rfl ?_
      refine w40_13 (fun hQ => absurd hQ (Int32.not_lt.mpr hy.1)) (fun _ => ?_)
      refine w40_16 rfl ?_
      refine w40_17 ?_
      refine w40_20 rfl ?_
      refine w40_21S (by decide) rfl (by decide) ?_
      refine w40_22 (fun _ => ?_) (fun hQ => absurd hy.2 hQ)
      refine w40_31 rfl ?_
      refine w40_32 (L.2 _ _ _ rfl) ?_
      refine w40_35 (L.2 _ _ _ rfl) ?_
      refine w40_38 rfl ?_
      refine w40_39 (L.sh rfl) (by decide) ?_
      refine w40_40 ?_
      refine w40_41 rfl ?_
      refine w40_42 (L.2 _ _ _ rfl) ?_
      refine w40_45 (L.2 _ _ _ rfl) ?_
      refine w40_48 rfl ?_
      refine w40_49 rfl ?_
      refine w40_50 (L.sh rfl) (by decide) ?_
      refine w40_51 rfl ?_
      refine w40_52 (L.2 _ _ _ rfl) ?_
      refine w40_55 (k := c12 hp90 ?_)
      refine w40_58 rfl ?_
      refine w40_59 rfl ?_
      refine w40_60 (k := c14 L ?_)
      refine w40_63 ⟨_, rfl, ?_⟩
      show am_wp pr (d + 60) 210 0 [(0, .ref 124), (1, .int 2), (2, .int y)] [] _ _
      refine w210_0 rfl ?_
      refine w210_1 rfl ?_
      refine w210_2 (k := ?_)
      show am_wp pr (d + 59) 211 0 [(0, .int 2), (1, .int y)] [] _ _
      refine w211_0 rfl ?_
      refine w211_1_2 ?_
      refine w211_49 rfl ?_
      refine w211_50 ?_
      refine w211_51 ?_
      refine w211_53 (k := c164 ?_)
      rw [am_b_t hy]
      refine w211_56 (by rfl) ?_
      skip
      refine w210_5 (fun _ => ?_) (fun hQ => absurd am_n01 hQ)
      refine w210_14 rfl ?_
      refine w210_15 (L.2 _ _ _ rfl) ?_
      refine w210_18 rfl ?_
      refine w210_19 (k := c212 (w := 2) (by decide) ?_)
      refine w210_22 (L.sh rfl) (by decide) ?_
      refine w210_23 ?_
      refine w210_24 rfl ?_
      refine w210_25 (L.2 _ _ _ rfl) ?_
      refine w210_28 rfl ?_
      refine w210_29 (k := c212 (w := 2) (by decide) ?_)
      refine w210_32 rfl ?_
      refine w210_33 (L.sh rfl) (by decide) ?_
      refine w210_34 rfl ?_
      refine w210_35 rfl ?_
      refine w210_36 (k := c168 L ?_)
      refine w210_39 ?_
      refine am_oi_0 (am_R_t2 r (am_tm0 (M := 9) (by decide) hy)) ?_
      rw [am_u_ne (by decide), am_u_ne (by decide), am_u_ne (by decide)]
      exact hr.tm.symm
    · refine op_rf r (-1) (fun Q k => ?_) (fun I1 J1 f Q k => ?_)
      · show am_wp pr (d + 60) 40 0 [(0, .ref 64), (1, .int 2), (2, .int y)] [] _ _
        refine w40_0 rfl ?_
        refine w40_1 (fun hQ => absurd hQ (by decide)) (fun _ => ?_)
        refine w40_4 rfl ?_
        refine w40_5 ?_
        refine w40_8S (by decide) rfl (by decide) ?_
        refine w40_9 (fun hQ => absurd hQ (by decide)) (fun _ => ?_)
        refine w40_12 rfl ?_
        refine w40_13 (fun h13 => ?_) (fun h13 => ?_)
        · refine w40_25 rfl ?_
          refine w40_26 ?_
          refine w40_27 (k := c11 L (by decide) ?_)
          refine w40_30 ?_
          exact k
        · replace h13 := Int32.not_lt.mp h13
          refine w40_16 rfl ?_
          refine w40_17 ?_
          refine w40_20 rfl ?_
          refine w40_21S (by decide) rfl (by decide) ?_
          refine w40_22 (fun h22 => ?_) (fun h22 => ?_)
          · exact absurd ⟨h13, h22⟩ hy
          · replace h22 := Int32.not_le.mp h22
            refine w40_25 rfl ?_
            refine w40_26 ?_
            refine w40_27 (k := c11 L (by decide) ?_)
            refine w40_30 ?_
            exact k
      · show am_wp pr (d + 60) 210 0 [(0, .ref 124), (1, .int 2), (2, .int y)] [] _ _
        refine w210_0 rfl ?_
        refine w210_1 rfl ?_
        refine w210_2 (k := ?_)
        show am_wp pr (d + 59) 211 0 [(0, .int 2), (1, .int y)] [] _ _
        refine w211_0 rfl ?_
        refine w211_1_2 ?_
        refine w211_49 rfl ?_
        refine w211_50 ?_
        refine w211_51 ?_
        refine w211_53 (k := c164 ?_)
        rw [am_b_f hy]
        refine w211_56 (by rfl) ?_
        skip
        refine w210_5 (fun hQ => absurd hQ (by decide)) (fun _ => ?_)
        refine w210_8 rfl ?_
        refine w210_9 ?_
        refine w210_10 (k := c165 L (by decide) ?_)
        refine w210_13 ?_
        exact k
  · by_cases hy : 0 ≤ y ∧ y ≤ 99
    · show am_wp pr (d + 60) 40 0 [(0, .ref 64), (1, .int 3), (2, .int y)] [] _ _
      refine w40_0 rfl ?_
      refine w40_1 (fun hQ => absurd hQ (by decide)) (fun _ => ?_)
      refine w40_4 rfl ?_
      refine w40_5 ?_
      refine w40_8S (by decide) rfl (by decide) ?_
      refine w40_9 (fun hQ => absurd hQ (by decide)) (fun _ => ?_)
      refine w40_12 rfl ?_
      refine w40_13 (fun hQ => absurd hQ (Int32.not_lt.mpr hy.1)) (fun _ => ?_)
      refine w40_16 rfl ?_
      refine w40_17 ?_
      refine w40_20 rfl ?_
      refine w40_21S (by decide) rfl (by decide) ?_
      refine w40_22 (fun _ => ?_) (fun hQ => absurd hy.2 hQ)
      refine w40_31 rfl ?_
      refine w40_32 (L.2 _ _ _ rfl) ?_
      refine w40_35 (L.2 _ _ _ rfl) ?_
      refine w40_38 rfl ?_
      refine w40_39 (L.sh rfl) (by decide) ?_
      refine w40_40 ?_
      refine w40_41 rfl ?_
      refine w40_42 (L.2 _ _ _ rfl) ?_
      refine w40_45 (L.2 _ _ _ rfl) ?_
      refine w40_48 rfl ?_
      refine w40_49 rfl ?_
      refine w40_50 (L.sh rfl) (by decide) ?_
      refine w40_51 rfl ?_
      refine w40_52 (L.2 _ _ _ rfl) ?_
      refine w40_55 (k := c12 hp90 ?_)
      refine w40_58 rfl ?_
      refine w40_59 rfl ?_
      refine w40_60 (k := c14 L ?_)
      refine w40_63 ⟨_, rfl, ?_⟩
      show am_wp pr (d + 60) 210 0 [(0, .ref 124), (1, .int 3), (2, .int y)] [] _ _
      refine w210_0 rfl ?_
      refine w210_1 rfl ?_
      refine w210_2 (k := ?_)
      show am_wp pr (d + 59) 211 0 [(0, .int 3), (1, .int y)] [] _ _
      refine w211_0 rfl ?_
      refine w211_1_3 ?_
      refine w211_57 rfl ?_
      refine w211_58 ?_
      refine w211_59 ?_
      refine w211_61 (k := c164 ?_)
      rw [am_b_t hy]
      refine w211_64 (by rfl) ?_
      skip
      refine w210_5 (fun _ => ?_) (fun hQ => absurd am_n01 hQ)
      refine w210_14 rfl ?_
      refine w210_15 (L.2 _ _ _ rfl) ?_
      refine w210_18 rfl ?_
      refine w210_19 (k := c212 (w := 3) (by decide) ?_)
      refine w210_22 (L.sh rfl) (by decide) ?_
      refine w210_23 ?_
      refine w210_24 rfl ?_
      refine w210_25 (L.2 _ _ _ rfl) ?_
      refine w210_28 rfl ?_
      refine w210_29 (k := c212 (w := 3) (by decide) ?_)
      refine w210_32 rfl ?_
      refine w210_33 (L.sh rfl) (by decide) ?_
      refine w210_34 rfl ?_
      refine w210_35 rfl ?_
      refine w210_36 (k := c168 L ?_)
      refine w210_39 ?_
      refine am_oi_0 (am_R_t3 r (am_tm0 (M := 99) (by decide) hy)) ?_
      rw [am_u_ne (by decide), am_u_ne (by decide), am_u_ne (by decide)]
      exact hr.tn.symm
    · refine op_rf r (-1) (fun Q k => ?_) (fun I1 J1 f Q k => ?_)
      · show am_wp pr (d + 60) 40 0 [(0, .ref 64), (1, .int 3), (2, .int y)] [] _ _
        refine w40_0 rfl ?_
        refine w40_1 (fun hQ => absurd hQ (by decide)) (fun _ => ?_)
        refine w40_4 rfl ?_
        refine w40_5 ?_
        refine w40_8S (by decide) rfl (by decide) ?_
        refine w40_9 (fun hQ => absurd hQ (by decide)) (fun _ => ?_)
        refine w40_12 rfl ?_
        refine w40_13 (fun h13 => ?_) (fun h13 => ?_)
        · refine w40_25 rfl ?_
          refine w40_26 ?_
          refine w40_27 (k := c11 L (by decide) ?_)
          refine w40_30 ?_
          exact k
        · replace h13 := Int32.not_lt.mp h13
          refine w40_16 rfl ?_
          refine w40_17 ?_
          refine w40_20 rfl ?_
          refine w40_21S (by decide) rfl (by decide) ?_
          refine w40_22 (fun h22 => ?_) (fun h22 => ?_)
          · exact absurd ⟨h13, h22⟩ hy
          · replace h22 := Int32.not_le.mp h22
            refine w40_25 rfl ?_
            refine w40_26 ?_
            refine w40_27 (k := c11 L (by decide) ?_)
            refine w40_30 ?_
            exact k
      · show am_wp pr (d + 60) 210 0 [(0, .ref 124), (1, .int 3), (2, .int y)] [] _ _
        refine w210_0 rfl ?_
        refine w210_1 rfl ?_
        refine w210_2 (k := ?_)
        show am_wp pr (d + 59) 211 0 [(0, .int 3), (1, .int y)] [] _ _
        refine w211_0 rfl ?_
        refine w211_1_3 ?_
        refine w211_57 rfl ?_
        refine w211_58 ?_
        refine w211_59 ?_
        refine w211_61 (k := c164 ?_)
        rw [am_b_f hy]
        refine w211_64 (by rfl) ?_
        skip
        refine w210_5 (fun hQ => absurd hQ (by decide)) (fun _ => ?_)
        refine w210_8 rfl ?_
        refine w210_9 ?_
        refine w210_10 (k := c165 L (by decide) ?_)
        refine w210_13 ?_
        exact k
  · refine op_rf r (-1) (fun Q k => ?_) (fun I1 J1 f Q k => ?_)
    · show am_wp pr (d + 60) 40 0 [(0, .ref 64), (1, .int x), (2, .int y)] [] _ _
      refine w40_0 rfl ?_
      refine w40_1 (fun h1 => ?_) (fun h1 => ?_)
      · refine w40_25 rfl ?_
        refine w40_26 ?_
        refine w40_27 (k := c11 L (by decide) ?_)
        refine w40_30 ?_
        exact k
      · replace h1 := Int32.not_lt.mp h1
        refine w40_4 rfl ?_
        refine w40_5 ?_
        refine w40_8S (by decide) rfl (by decide) ?_
        refine w40_9 (fun h9 => ?_) (fun h9 => ?_)
        · refine w40_25 rfl ?_
          refine w40_26 ?_
          refine w40_27 (k := c11 L (by decide) ?_)
          refine w40_30 ?_
          exact k
        · replace h9 := Int32.not_le.mp h9
          exact absurd hx (by simp only [Int32.lt_iff_toInt_lt, Int32.le_iff_toInt_le, ← Int32.toInt_inj, am_z0, am_z1, am_z2, am_z3, am_z4, am_z5, am_z6, am_z7, am_z8, am_z9, am_z10, am_z12, am_z16, am_z20, am_z99, am_z999, am_zm1, am_zo4, am_zo5, am_zo7] at *; omega)
    · show am_wp pr (d + 60) 210 0 [(0, .ref 124), (1, .int x), (2, .int y)] [] _ _
      refine w210_0 rfl ?_
      refine w210_1 rfl ?_
      refine w210_2 (k := ?_)
      show am_wp pr (d + 59) 211 0 [(0, .int x), (1, .int y)] [] _ _
      refine w211_0 rfl ?_
      refine w211_1_d hx ?_
      refine w211_65 ?_
      refine w211_66 (by first | rfl | exact am_narrow_b _) ?_
      skip
      refine w210_5 (fun hQ => absurd hQ (by decide)) (fun _ => ?_)
      refine w210_8 rfl ?_
      refine w210_9 ?_
      refine w210_10 (k := c165 L (by decide) ?_)
      refine w210_13 ?_
      exact k
end
