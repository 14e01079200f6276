/-! the reference reckons along the tokens: sums -/
/-- where it goes, and whether it is broken -/
def v_s (I : Nat → Nat → Int32) (g : Nat) (br : Int32) : Nat → Nat → Int32 := am_u (am_u I 124 22 (nI g)) 124 24 br
theorem v_s_go (I : Nat → Nat → Int32) (g : Nat) (br : Int32) : v_s I g br 124 22 = nI g := by
  unfold v_s
  rw [am_u_at (by decide), am_u_self]
theorem v_s_br (I : Nat → Nat → Int32) (g : Nat) (br : Int32) : v_s I g br 124 24 = br := am_u_self
theorem v_s_ne {I : Nat → Nat → Int32} {g : Nat} {br : Int32} {a : Nat} (h : a ≠ 124) : v_s I g br a = I a := by
  unfold v_s
  rw [am_u_ne h, am_u_ne h]
theorem v_s_at {I : Nat → Nat → Int32} {g : Nat} {br : Int32} {q : Nat} (h : q ≠ 22) (h2 : q ≠ 24) : v_s I g br 124 q = I 124 q := by
  unfold v_s
  rw [am_u_at h2, am_u_at h]
theorem v_s_22 (I : Nat → Nat → Int32) (g g2 : Nat) (br : Int32) : am_u (v_s I g br) 124 22 (nI g2) = v_s I g2 br := by
  unfold v_s
  funext a j
  rw [am_u_get, am_u_get, am_u_get, am_u_get, am_u_get]
  by_cases h1 : a = 124 ∧ j = 22
  · rw [if_pos h1, if_neg (by omega), if_pos h1]
  · rw [if_neg h1]
    by_cases h2 : a = 124 ∧ j = 24
    · rw [if_pos h2, if_pos h2]
    · rw [if_neg h2, if_neg h2, if_neg h1, if_neg h1]
theorem v_s_24 (I : Nat → Nat → Int32) (g : Nat) (br b2 : Int32) : am_u (v_s I g br) 124 24 b2 = v_s I g b2 := by
  unfold v_s
  funext a j
  simp only [am_u_get]
  by_cases h2 : a = 124 ∧ j = 24
  · rw [if_pos h2, if_pos h2]
  · rw [if_neg h2, if_neg h2, if_neg h2]
/-- what the words of orders tell -/
def o_env (I : Nat → Nat → Int32) (n : Nat) : Nat → Nat → Int32 := fun c k => if c = 14 then (if k < n then I 126 (44 + k) else -1) else if c = 15 then m_hm (I 126) n else if c = 16 then I 126 43 else if c = 17 then I 124 27 else if c = 18 then I 124 28 else if c = 19 then t_on (I 126 42) else I 137 k
/-- tokens T from base on, words w -/
def v_E (S : List (Nat × Nat)) (I : Nat → Nat → Int32) (P : Nat → Nat → Option Nat) (T : Tk) (base N : Nat) (w : Nat → Nat → Int32) : Prop :=
  am_Lay S P ∧ base + N ≤ 2800 ∧ I 124 23 = nI (base + N) ∧ (∀ i, i < N → T.1 i = I 126 (84 + base + i) ∧ T.2.1 i = I 126 (2884 + base + i)) ∧ (∀ i, N ≤ i → T.1 i = 0) ∧ (T.2.2 = false ∧ I 124 25 = 0 ∧ (∀ c, 8 ≤ c → c ≤ 16 → I 136 (c - 8) = w c 0) ∨ T.2.2 = true ∧ I 124 25 = 1 ∧ ∃ n, n ≤ 7 ∧ I 126 73 = nI n ∧ w = o_env I n)
theorem v_E.lt {S : List (Nat × Nat)} {I : Nat → Nat → Int32} {P : Nat → Nat → Option Nat} {T : Tk} {base N : Nat} {w : Nat → Nat → Int32} (E : v_E S I P T base N w) {i : Nat} (h : ¬ T.1 i = 0) : i < N := Nat.lt_of_not_le (fun z => h (E.2.2.2.2.1 i z))
/-- alive: live, and not broken -/
def v_M (al : Bool) (live b0 : Int32) : Prop := (al = true ∧ live = 1 ∧ b0 = 0) ∨ (al = false ∧ (live = 0 ∧ (b0 = 0 ∨ b0 = 1) ∨ live = 1 ∧ b0 = 1))
def v_R {α : Type} (al : Bool) (b0 : Int32) (r : Option α) (v : α) (br : Int32) : Prop := if al = true then (br = 0 ∧ r = some v ∨ br = 1 ∧ r = none) else br = b0
theorem v_M.live {al : Bool} {live b0 : Int32} (h : v_M al live b0) : live = 0 ∨ live = 1 := by
  rcases h with h | ⟨-, h | h⟩
  · exact Or.inr h.2.1
  · exact Or.inl h.1
  · exact Or.inr h.1
theorem v_M.b0 {al : Bool} {live b0 : Int32} (h : v_M al live b0) : b0 = 0 ∨ b0 = 1 := by
  rcases h with h | ⟨-, h | h⟩
  · exact Or.inl h.2.2
  · exact h.2
  · exact Or.inr h.2
/-- what is reckoned next: alive no more, if it was broken -/
theorem v_M.next {α : Type} {al : Bool} {live b0 br : Int32} {r : Option α} {v : α} (h : v_M al live b0) (hr : v_R al b0 r v br) : (al = true ∧ live = 1 ∧ br = 0 ∧ r = some v) ∨ (v_M false live br ∧ (al = true → br = 1 ∧ r = none) ∧ (al = false → br = b0)) := by
  rcases h with ⟨rfl, rfl, rfl⟩ | ⟨rfl, h⟩
  · unfold v_R at hr
    rw [if_pos rfl] at hr
    rcases hr with ⟨rfl, h2⟩ | ⟨rfl, h2⟩
    · exact Or.inl ⟨rfl, rfl, rfl, h2⟩
    · exact Or.inr ⟨Or.inr ⟨rfl, Or.inr ⟨rfl, rfl⟩⟩, fun _ => ⟨rfl, h2⟩, fun z => absurd z (by decide)⟩
  · unfold v_R at hr
    rw [if_neg (by decide)] at hr
    subst hr
    exact Or.inr ⟨Or.inr ⟨rfl, h⟩, fun z => absurd z (by decide), fun _ => rfl⟩
section
variable {pr : am_Pr} {d : Nat} {S : List (Nat × Nat)} {I : Nat → Nat → Int32} {J : Nat → Nat → Int64} {P : Nat → Nat → Option Nat} {Q : Option Value → am_H → Prop} {T : Tk} {base N : Nat} {w : Nat → Nat → Int32}
/-- codeAt -/
theorem c184 (E : v_E S I P T base N w) {g i : Nat} {br : Int32} (hi : base + i < 100000) (k : Q (some (.int (T.1 i))) (S, v_s I g br, J, P)) : am_ev pr d 184 [.ref 124, .int (nI (base + i))] (S, v_s I g br, J, P) Q := by
  obtain ⟨L, e1, e2, e3, e4, e5⟩ := E
  show am_wp pr d 184 0 [(0, .ref 124), (1, .int (nI (base + i)))] [] _ _
  by_cases h : i < N
  · refine w184_0 rfl ?_
    refine w184_1 rfl ?_
    refine w184_2 ?_
    rw [v_s_at (by decide) (by decide), e2]
    refine w184_5 (fun h => absurd h (am_nlt (by omega) (by omega))) (fun _ => ?_)
    refine w184_8 rfl ?_
    refine w184_9 (L.2 _ _ _ rfl) ?_
    refine w184_12 ?_
    refine w184_14 rfl ?_
    refine w184_15 ?_
    rw [nz_a84]
    refine w184_16 (L.sh rfl) (am_in_nI (by omega) (by decide)) ?_
    rw [am_clN (by omega), v_s_ne (by decide)]
    refine w184_17 ?_
    refine w184_21 ?_
    rw [(e3 i h).1, Nat.add_assoc] at k
    exact k
  · refine w184_0 rfl ?_
    refine w184_1 rfl ?_
    refine w184_2 ?_
    rw [v_s_at (by decide) (by decide), e2]
    refine w184_5 (fun _ => ?_) (fun h => absurd (nI_le (by omega) (by omega)) h)
    refine w184_20 ?_
    refine w184_21 ?_
    rw [e4 i (by omega)] at k
    exact k
/-- sign -/
theorem c188 {x y : Int32} (e : 100 + x = y) (k : Q (some (.int y)) (S, I, J, P)) : am_ev pr d 188 [.int x] (S, I, J, P) Q := by
  subst e
  show am_wp pr d 188 0 [(0, .int x)] [] _ _
  refine w188_0 ?_
  refine w188_2 rfl ?_
  refine w188_3 ?_
  refine w188_4 ?_
  exact k
/-- passes0 -/
theorem c189 (E : v_E S I P T base N w) {i : Nat} {br c : Int32} (hi : base + i < 99999) (k1 : T.1 i = c → Q (some (.int 1)) (S, v_s I (base + (i + 1)) br, J, P)) (k2 : ¬ T.1 i = c → Q (some (.int 0)) (S, v_s I (base + i) br, J, P)) : am_ev pr (d + 1) 189 [.ref 124, .int c] (S, v_s I (base + i) br, J, P) Q := by
  have L := E.1
  show am_wp pr (d + 1) 189 0 [(0, .ref 124), (1, .int c)] [] _ _
  refine w189_0 rfl ?_
  refine w189_1 rfl ?_
  refine w189_2 ?_
  rw [v_s_go]
  refine w189_5 (k := c184 E (by omega) ?_)
  refine w189_8 rfl ?_
  refine w189_9 (fun h9 => ?_) (fun h9 => ?_)
  · refine w189_16 ?_
    refine w189_17 ?_
    refine w189_18 rfl ?_
    refine w189_19 (fun h19 => ?_) (fun h19 => ?_)
    · refine w189_32 rfl ?_
      refine w189_33 (by first | rfl | exact am_narrow_b _) ?_
      first | exact absurd h19 (by decide) | exact k1 h9 | exact k2 h9
    · refine w189_22 rfl ?_
      refine w189_23 rfl ?_
      refine w189_24 ?_
      rw [v_s_go]
      refine w189_27 ?_
      refine w189_28 ?_
      rw [nI_1]
      refine w189_29 ?_
      rw [v_s_22, Nat.add_assoc]
      refine w189_32 rfl ?_
      refine w189_33 (by first | rfl | exact am_narrow_b _) ?_
      first | exact absurd h19 (by decide) | exact k1 h9 | exact k2 h9
  · replace h9 := Decidable.not_not.mp h9
    refine w189_12 ?_
    refine w189_13 ?_
    refine w189_17 ?_
    refine w189_18 rfl ?_
    refine w189_19 (fun h19 => ?_) (fun h19 => ?_)
    · refine w189_32 rfl ?_
      refine w189_33 (by first | rfl | exact am_narrow_b _) ?_
      first | exact absurd h19 (by decide) | exact k1 h9 | exact k2 h9
    · refine w189_22 rfl ?_
      refine w189_23 rfl ?_
      refine w189_24 ?_
      rw [v_s_go]
      refine w189_27 ?_
      refine w189_28 ?_
      rw [nI_1]
      refine w189_29 ?_
      rw [v_s_22, Nat.add_assoc]
      refine w189_32 rfl ?_
      refine w189_33 (by first | rfl | exact am_narrow_b _) ?_
      first | exact absurd h19 (by decide) | exact k1 h9 | exact k2 h9
/-- bounded -/
theorem c192 (L : am_Lay S P) {g : Nat} {v : Int64} {live br : Int32} (hl : live = 0 ∨ live = 1) (hb : br = 0 ∨ br = 1) (k : ∀ x br2, (live = 1 → br = 0 → (br2 = 0 ∧ e_bd v = some x ∨ br2 = 1 ∧ e_bd v = none)) → (¬ (live = 1 ∧ br = 0) → br2 = br) → Q (some (.long x)) (S, v_s I g br2, J, P)) : am_ev pr d 192 [.ref 124, .long v, .int live] (S, v_s I g br, J, P) Q := by
  show am_wp pr d 192 0 [(0, .ref 124), (1, .long v), (3, .int live)] [] _ _
  have kb : (1000000000 < v ∨ v < -1000000000) → live = 1 → Q (some (.long 0)) (S, v_s I g 1, J, P) := by
    intro h h1
    refine k 0 1 (fun _ _ => Or.inr ⟨rfl, e_bd_n h⟩) (fun z => ?_)
    rcases hb with q | q
    · exact absurd ⟨h1, q⟩ z
    · exact q.symm
  rcases hl with rfl | rfl
  · rcases hb with rfl | rfl
    · refine w192_0 rfl ?_
      refine w192_1 (fun _ => ?_) (fun h => absurd rfl h)
      refine w192_25 rfl ?_
      refine w192_26 ?_
      rw [v_s_br]
      refine w192_29 (fun _ => ?_) (fun h => absurd rfl h)
      refine w192_36 rfl ?_
      refine w192_37 ?_
      exact k v 0 (fun z => absurd z (by decide)) (fun _ => rfl)
    · refine w192_0 rfl ?_
      refine w192_1 (fun _ => ?_) (fun h => absurd rfl h)
      refine w192_25 rfl ?_
      refine w192_26 ?_
      rw [v_s_br]
      refine w192_29 (fun h => absurd h (by decide)) (fun _ => ?_)
      refine w192_32 ?_
      refine w192_33 ?_
      refine w192_37 ?_
      exact k 0 1 (fun z => absurd z (by decide)) (fun _ => rfl)
  · rcases hb with rfl | rfl
    · refine w192_0 rfl ?_
      refine w192_1 (fun h => absurd h (by decide)) (fun _ => ?_)
      refine w192_4 rfl ?_
      refine w192_5 ?_
      refine w192_8 ?_
      refine w192_9 (fun h9 => ?_) (fun h9 => ?_)
      · replace kb := kb (by first | exact Or.inl ((lg_cmp_gt _ _).mp h9) | exact Or.inr ((lg_cmp_lt _ _).mp h17)) rfl
        refine w192_20 rfl ?_
        refine w192_21 ?_
        refine w192_22 (by decide) ?_
        rw [v_s_24]
        refine w192_25 rfl ?_
        refine w192_26 ?_
        rw [v_s_br]
        refine w192_29 (fun h => absurd h (by decide)) (fun _ => ?_)
        refine w192_32 ?_
        refine w192_33 ?_
        refine w192_37 ?_
        exact kb
      · replace h9 := Int32.not_lt.mp h9
        refine w192_12 rfl ?_
        refine w192_13 ?_
        refine w192_16 ?_
        refine w192_17 (fun h17 => ?_) (fun h17 => ?_)
        · refine w192_25 rfl ?_
          refine w192_26 ?_
          rw [v_s_br]
          refine w192_29 (fun _ => ?_) (fun h => absurd rfl h)
          refine w192_36 rfl ?_
          refine w192_37 ?_
          exact k v 0 (fun _ _ => Or.inl ⟨rfl, e_bd_s (fun z => z.elim (fun q => absurd ((lg_cmp_le _ _).mp h9) (Int64.not_le.mpr q)) (fun q => absurd ((lg_cmp_ge _ _).mp h17) (Int64.not_le.mpr q)))⟩) (fun z => absurd ⟨rfl, rfl⟩ z)
        · replace h17 := Int32.not_le.mp h17
          replace kb := kb (by first | exact Or.inl ((lg_cmp_gt _ _).mp h9) | exact Or.inr ((lg_cmp_lt _ _).mp h17)) rfl
          refine w192_20 rfl ?_
          refine w192_21 ?_
          refine w192_22 (by decide) ?_
          rw [v_s_24]
          refine w192_25 rfl ?_
          refine w192_26 ?_
          rw [v_s_br]
          refine w192_29 (fun h => absurd h (by decide)) (fun _ => ?_)
          refine w192_32 ?_
          refine w192_33 ?_
          refine w192_37 ?_
          exact kb
    · have kd : ∀ x, Q (some (.long x)) (S, v_s I g 1, J, P) := fun x => k x 1 (fun _ z => absurd z (by decide)) (fun _ => rfl)
      refine w192_0 rfl ?_
      refine w192_1 (fun h => absurd h (by decide)) (fun _ => ?_)
      refine w192_4 rfl ?_
      refine w192_5 ?_
      refine w192_8 ?_
      refine w192_9 (fun h9 => ?_) (fun h9 => ?_)
      · refine w192_20 rfl ?_
        refine w192_21 ?_
        refine w192_22 (by decide) ?_
        rw [v_s_24]
        refine w192_25 rfl ?_
        refine w192_26 ?_
        rw [v_s_br]
        refine w192_29 (fun h => absurd h (by decide)) (fun _ => ?_)
        refine w192_32 ?_
        refine w192_33 ?_
        refine w192_37 ?_
        exact kd _
      · replace h9 := Int32.not_lt.mp h9
        refine w192_12 rfl ?_
        refine w192_13 ?_
        refine w192_16 ?_
        refine w192_17 (fun h17 => ?_) (fun h17 => ?_)
        · refine w192_25 rfl ?_
          refine w192_26 ?_
          rw [v_s_br]
          refine w192_29 (fun h => absurd h (by decide)) (fun _ => ?_)
          refine w192_32 ?_
          refine w192_33 ?_
          refine w192_37 ?_
          exact kd _
        · replace h17 := Int32.not_le.mp h17
          refine w192_20 rfl ?_
          refine w192_21 ?_
          refine w192_22 (by decide) ?_
          rw [v_s_24]
          refine w192_25 rfl ?_
          refine w192_26 ?_
          rw [v_s_br]
          refine w192_29 (fun h => absurd h (by decide)) (fun _ => ?_)
          refine w192_32 ?_
          refine w192_33 ?_
          refine w192_37 ?_
          exact kd _
/-- isMember, memberMany, hereMany while it goes -/
theorem c190 (E : v_E S I P T base N w) (hT : T.2.2 = true) {c k0 g : Nat} {br : Int32} (hk : k_ok true c k0) (k : Q (some (.int (w c k0))) (S, v_s I g br, J, P)) : am_ev pr (d + 3) 190 [.ref 124, .int (nI c), .int (nI k0)] (S, v_s I g br, J, P) Q := by
  obtain ⟨L, e1, e2, e3, e4, e5⟩ := E
  rcases e5 with ⟨z, -⟩ | ⟨-, -, n, n7, hn, rfl⟩
  · rw [hT] at z
    exact absurd z (by decide)
  have e126 : v_s I g br 126 = I 126 := v_s_ne (by decide)
  have hn2 : v_s I g br 126 73 = nI n := by rw [e126]; exact hn
  unfold k_ok at hk
  rw [if_pos rfl] at hk
  show am_wp pr (d + 3) 190 0 [(0, .ref 124), (1, .int (nI c)), (2, .int (nI k0))] [] _ _
  rcases (show c = 14 ∨ c = 15 ∨ c = 16 ∨ c = 17 ∨ c = 18 ∨ c = 19 ∨ c = 20 by omega) with rfl | rfl | rfl | rfl | rfl | rfl | rfl
  · have hk6 := hk.2.2.1 rfl
    change Q (some (.int (if k0 < n then I 126 (44 + k0) else -1))) _ at k
    refine w190_0 rfl ?_
    refine w190_1_14 ?_
    refine w190_40 rfl ?_
    refine w190_41 rfl ?_
    refine w190_42 (k := c174 L hn2 n7 ?_)
    refine w190_45 (fun h45 => ?_) (fun h45 => ?_)
    · refine w190_60 ?_
      refine w190_61 ?_
      first | (rw [if_pos ((nI_ltI (by omega) (by omega)).mp (am_b_1 h45).2)] at k; exact k) | (rw [if_neg (fun z => (am_b_0 _).mp h45 ⟨nI_pos' (by omega), nI_lt z (by omega)⟩)] at k; exact k)
    · refine w190_48 rfl ?_
      refine w190_49 (L.2 _ _ _ rfl) ?_
      refine w190_52 ?_
      refine w190_54 rfl ?_
      refine w190_55 ?_
      rw [nz_a44]
      refine w190_56 (L.sh rfl) (am_in_nI (by omega) (by decide)) ?_
      rw [am_clN (by omega), e126]
      refine w190_57 ?_
      refine w190_61 ?_
      first | (rw [if_pos ((nI_ltI (by omega) (by omega)).mp (am_b_1 h45).2)] at k; exact k) | (rw [if_neg (fun z => (am_b_0 _).mp h45 ⟨nI_pos' (by omega), nI_lt z (by omega)⟩)] at k; exact k)
  · refine w190_0 rfl ?_
    refine w190_1_15 ?_
    refine w190_62 rfl ?_
    refine w190_63 (k := c183 L hn2 n7 ?_)
    rw [e126]
    refine w190_66 ?_
    exact k
  · refine w190_0 rfl ?_
    refine w190_1_16 ?_
    refine w190_67 rfl ?_
    refine w190_68 (L.2 _ _ _ rfl) ?_
    refine w190_71 ?_
    refine w190_73 (L.sh rfl) (by decide) ?_
    rw [e126]
    refine w190_74 ?_
    exact k
  · refine w190_0 rfl ?_
    refine w190_1_17 ?_
    refine w190_75 rfl ?_
    refine w190_76 ?_
    rw [v_s_at (by decide) (by decide)]
    refine w190_79 ?_
    exact k
  · refine w190_0 rfl ?_
    refine w190_1_18 ?_
    refine w190_80 rfl ?_
    refine w190_81 ?_
    rw [v_s_at (by decide) (by decide)]
    refine w190_84 ?_
    exact k
  · refine w190_0 rfl ?_
    refine w190_1_19 ?_
    refine w190_85 rfl ?_
    refine w190_86 (L.2 _ _ _ rfl) ?_
    refine w190_89 ?_
    refine w190_91 (L.sh rfl) (by decide) ?_
    rw [show (42 : Int32).toNatClampNeg = 42 from rfl, e126]
    refine w190_92 (k := c191 ?_)
    refine w190_95 ?_
    exact k
  · have hk4 := hk.2.2.2 rfl
    refine w190_0 rfl ?_
    refine w190_1_d (by decide) ?_
    refine w190_96 rfl ?_
    refine w190_97 (L.2 _ _ _ rfl) ?_
    refine w190_100 rfl ?_
    refine w190_101 (L.sh rfl) (am_in_nI (by omega) (by decide)) ?_
    rw [am_clN (by omega), v_s_ne (by decide)]
    refine w190_102 ?_
    exact k
end
