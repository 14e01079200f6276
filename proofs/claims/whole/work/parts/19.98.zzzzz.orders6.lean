/-! orders run: a clause gone along; a deed -/
section
variable {pr : am_Pr} {d : Nat} {S : List (Nat × Nat)} {I I' M M' : Nat → Nat → Int32} {J : Nat → Nat → Int64} {P : Nat → Nat → Option Nat} {Q : Option Value → am_H → Prop} {n : Nat} {kp lf : Nat → Int32} {u : Nat} {lw : Option (List Cl)} {T : Tk} {N : Nat} {al : Bool} {live : Int32}
/-- what going along leaves alone -/
def o_M (I I' : Nat → Nat → Int32) : Prop := (∀ a, a ≠ 124 → ¬ (136 ≤ a ∧ a ≤ 140) → I' a = I a) ∧ ∀ q, (q < 22 ∨ 25 < q) → (q < 42 ∨ 45 < q) → I' 124 q = I 124 q
/-- what the sums came to -/
def o_S (w : Nat → Nat → Int32) (es : List Ex) (ok : Int32) (F : Nat → Int64) : Prop := (ok = 1 ∧ ∀ (q : Nat) (e : Ex), es[q]? = some e → e.1 w = some (F q)) ∨ (ok = 0 ∧ ∃ (q : Nat) (e : Ex), es[q]? = some e ∧ e.1 w = none)
theorem o_S1 {w : Nat → Nat → Int32} {a : Ex} {ok : Int32} {F : Nat → Int64} (h : (ok = 1 ∧ a.1 w = some (F 0)) ∨ (ok = 0 ∧ a.1 w = none)) : o_S w [a] ok F := by
  rcases h with ⟨h1, h2⟩ | ⟨h1, h2⟩
  · refine Or.inl ⟨h1, fun q e hq => ?_⟩
    match q, hq with
    | 0, hq => cases hq; exact h2
    | q + 1, hq => cases hq
  · exact Or.inr ⟨h1, 0, a, rfl, h2⟩
theorem o_S3 {w : Nat → Nat → Int32} {a b c : Ex} {k1 k2 k3 : Int32} {F : Nat → Int64} (h1 : (k1 = 1 ∧ a.1 w = some (F 0)) ∨ (k1 = 0 ∧ a.1 w = none)) (h2 : (k2 = k1 ∧ b.1 w = some (F 1)) ∨ (k2 = 0 ∧ b.1 w = none)) (h3 : (k3 = k2 ∧ c.1 w = some (F 2)) ∨ (k3 = 0 ∧ c.1 w = none)) : o_S w [a, b, c] k3 F := by
  rcases h3 with ⟨r3, h3⟩ | ⟨r3, h3⟩
  · rcases h2 with ⟨r2, h2⟩ | ⟨r2, h2⟩
    · rcases h1 with ⟨r1, h1⟩ | ⟨r1, h1⟩
      · refine Or.inl ⟨by rw [r3, r2, r1], fun q e hq => ?_⟩
        match q, hq with
        | 0, hq => cases hq; exact h1
        | 1, hq => cases hq; exact h2
        | 2, hq => cases hq; exact h3
        | q + 3, hq => cases hq
      · exact Or.inr ⟨by rw [r3, r2, r1], 0, a, rfl, h1⟩
    · exact Or.inr ⟨by rw [r3, r2], 1, b, rfl, h2⟩
  · exact Or.inr ⟨r3, 2, c, rfl, h3⟩
/-- goesAlong -/
theorem c293 (L : am_Lay S P) (hT : T.2.2 = true) {X : Cl} {f i lv j lv' : Nat} (hp : p_cl T f i lv = pOk X j lv') (hN : N ≤ 400) (h41 : I 124 41 = nI (2400 + i)) (htk : ∀ i, i < N → T.1 i = I 126 (2484 + i) ∧ T.2.1 i = I 126 (5284 + i)) (h0 : ∀ i, N ≤ i → T.1 i = 0) (hk : I 126 = kp) (hn : kp 73 = nI n) (n7 : n ≤ 7) (hlw : m_lw kp lw) (hl : live = if al = true then 1 else 0) (k : ∀ I' J' w0, (al = true → ∀ x c q, k_dm x c q → w0 c q = o_w kp n (I 124 27) (I 124 28) (g_vF kp n lw) c q) → o_M I I' → I' 124 42 = nI X.2.2.1 → I' 124 22 = nI (2400 + (j + 1)) → (al = true → I' 124 43 = nI X.1 ∧ I' 124 45 = am_b (e_if w0 X.2.2.2 = true) ∧ o_S w0 X.2.1 (I' 124 44) (J' 147)) → Q none (S, I', J', P)) : am_ev pr (d + 46) 293 [.ref 124, .int (nI (2400 + N)), .int live] (S, I, J, P) Q := by
  show am_wp pr (d + 46) 293 0 [(0, .ref 124), (1, .int (nI (2400 + N))), (2, .int live)] [] _ _
  obtain ⟨hd, j1, lx, hh, hp⟩ := pBind_ok hp
  rw [if_pos hT] at hp
  obtain ⟨t, j2, ly, ht, hp⟩ := pBind_ok hp
  obtain ⟨te, j3, lz, hte, hp⟩ := pBind_ok hp
  obtain ⟨r1, r2, r3⟩ := pOk_inj hp
  subst r1
  subst r2
  have main : ∀ I1 : Nat → Nat → Int32, (∀ a, a ≠ 124 → ¬ (136 ≤ a ∧ a ≤ 140) → I1 a = I a) → (∀ q, (q < 22 ∨ 25 < q) → I1 124 q = I 124 q) → (al = true → ∀ b, b < 5 → I1 137 b = g_vF kp n lw b) → ∀ lvv, am_ld1 lvv 0 = some (.ref 124) → am_ld1 lvv 1 = some (.int (nI (2400 + N))) → am_ld1 lvv 2 = some (.int live) → am_wp pr (d + 46) 293 8 lvv [] (S, I1, J, P) Q := by
    intro I1 f1 f2 f3 lvv l0 l1 l2
    have e41 : am_u (am_u I1 124 25 1) 124 23 (nI (2400 + N)) 124 41 = nI (2400 + i) := by rw [am_u_at (by decide), am_u_at (by decide), f2 41 (by decide)]; exact h41
    refine w293_8 l0 ?_
    refine w293_9 ?_
    refine w293_10 (Or.inr rfl) ?_
    refine w293_13 l0 ?_
    refine w293_14 l1 ?_
    refine w293_15 ?_
    refine w293_18 l0 ?_
    refine w293_19 l0 ?_
    refine w293_20 ?_
    rw [e41]
    refine w293_23 ?_
    refine w293_26 l0 ?_
    refine w293_27 l0 ?_
    refine w293_28 l0 ?_
    generalize hM : am_u (am_u (am_u I1 124 25 1) 124 23 (nI (2400 + N))) 124 22 (nI (2400 + i)) = M
    have m1 : ∀ a, a ≠ 124 → M a = I1 a := fun a ha => by rw [← hM, am_u_ne ha, am_u_ne ha, am_u_ne ha]
    have m2 : ∀ q, q ≠ 22 → q ≠ 23 → q ≠ 25 → M 124 q = I1 124 q := fun q q1 q2 q3 => by rw [← hM, am_u_at q1, am_u_at q2, am_u_at q3]
    have m22 : M 124 22 = nI (2400 + i) := by rw [← hM, am_u_self]
    have m23 : M 124 23 = nI (2400 + N) := by rw [← hM, am_u_at (by decide), am_u_self]
    have m25 : M 124 25 = 1 := by rw [← hM, am_u_at (by decide), am_u_at (by decide), am_u_self]
    have k126 : M 126 = kp := by rw [m1 126 (by decide), f1 126 (by decide) (by decide)]; exact hk
    have E : v_E S M P T 2400 N (o_env M n) := by
      refine ⟨L, by omega, m23, fun q hq => ?_, h0, Or.inr ⟨hT, m25, n, n7, by rw [k126]; exact hn, rfl⟩⟩
      rw [k126, ← hk]
      exact htk q hq
    have hw0 : al = true → ∀ x c q, k_dm x c q → o_env M n c q = o_w kp n (I 124 27) (I 124 28) (g_vF kp n lw) c q := by
      intro z x c q hc
      obtain ⟨hc1, hc2, hc3⟩ := hc
      unfold o_env o_w
      rw [k126, m2 27 (by decide) (by decide) (by decide), m2 28 (by decide) (by decide) (by decide), f2 27 (by decide), f2 28 (by decide), m1 137 (by decide)]
      by_cases hq5 : q < 5
      · rw [f3 z q hq5]
      · have c20 : c ≠ 20 := fun e => hq5 (hc3 e).1
        rcases (show c = 14 ∨ c = 15 ∨ c = 16 ∨ c = 17 ∨ c = 18 ∨ c = 19 by omega) with rfl | rfl | rfl | rfl | rfl | rfl <;> rfl
    have hho := p_head_o hT hh
    have iN : i < N := by
      refine p_lt h0 ?_
      rcases hho with y | ⟨y | y, -⟩ | y
      · rw [y.1]; decide
      · rw [y]; decide
      · rw [y]; decide
      · rw [y.1]; decide
    have j1N : j1 ≤ N := (p_head_le h0 hh).2.1
    have g22 : am_u M 124 43 (T.1 i) 124 22 = nI (2400 + i) := by rw [am_u_at (by decide)]; exact m22
    refine w293_29 ?_
    rw [m22]
    refine w293_32 (k := c184m E (by omega) ?_ m22)
    refine w293_35 ?_
    refine w293_38 l0 ?_
    refine w293_39 rfl ?_
    refine w293_40 ?_
    rw [g22]
    refine w293_43 ?_
    refine w293_44 ?_
    rw [nI_1, Nat.add_assoc]
    refine w293_45 ?_
    refine w293_48 l0 ?_
    refine w293_49 ?_
    refine w293_50 (Or.inr rfl) ?_
    generalize hM2 : am_u (am_u (am_u M 124 43 (T.1 i)) 124 22 (nI (2400 + (i + 1)))) 124 44 1 = M2
    have x1 : ∀ a, a ≠ 124 → M2 a = M a := fun a ha => by rw [← hM2, am_u_ne ha, am_u_ne ha, am_u_ne ha]
    have x2 : ∀ q, q ≠ 22 → q ≠ 43 → q ≠ 44 → M2 124 q = M 124 q := fun q q1 q2 q3 => by rw [← hM2, am_u_at q3, am_u_at q1, am_u_at q2]
    have x43 : M2 124 43 = T.1 i := by rw [← hM2, am_u_at (by decide), am_u_at (by decide), am_u_self]
    have x22 : M2 124 22 = nI (2400 + (i + 1)) := by rw [← hM2, am_u_at (by decide), am_u_self]
    have x44 : M2 124 44 = 1 := by rw [← hM2, am_u_self]
    have E2 : v_E S M2 P T 2400 N (o_env M n) := v_E_cg x1 (x2 _ (by decide) (by decide) (by decide)) (x2 _ (by decide) (by decide) (by decide)) (x2 _ (by decide) (by decide) (by decide)) (x2 _ (by decide) (by decide) (by decide)) E
    have fin : T.1 i = nI hd.1 → ∀ (M3 : Nat → Nat → Int32) (J3 : Nat → Nat → Int64), (∀ a, a ≠ 124 → M3 a = M2 a) → (∀ x, x ≠ 22 → x ≠ 24 → x ≠ 44 → M3 124 x = M2 124 x) → v_E S M3 P T 2400 N (o_env M n) → M3 124 22 = nI (2400 + j1) → (al = true → o_S (o_env M n) hd.2 (M3 124 44) (J3 147)) → ∀ lvv, am_ld1 lvv 0 = some (.ref 124) → am_ld1 lvv 2 = some (.int live) → am_wp pr (d + 46) 293 151 lvv [] (S, M3, J3, P) Q := by
      intro hhd M3 J3 a1 a2 E3 g3 o3 lvv l0 l2
      refine c293u (al := al) E3 g3 ht hte j1N hl (fun M4 b1 b2 b22 b42 b45 => ?_) _ l0 l2
      refine k M4 J3 (o_env M n) hw0 ⟨fun a h1 h2 => ?_, fun q q1 q2 => ?_⟩ b42 b22 (fun z => ⟨?_, b45 z, ?_⟩)
      · rw [b1 a h1, a1 a h1, x1 a h1, m1 a h1]; exact f1 a h1 h2
      · rw [b2 q (by omega) (by omega) (by omega) (by omega), a2 q (by omega) (by omega) (by omega), x2 q (by omega) (by omega) (by omega), m2 q (by omega) (by omega) (by omega)]; exact f2 q q1
      · rw [b2 43 (by decide) (by decide) (by decide) (by decide), a2 43 (by decide) (by decide) (by decide), x43]; exact hhd
      · rw [b2 44 (by decide) (by decide) (by decide) (by decide)]; exact o3 z
    rcases hho with ⟨y1, y2, y3⟩ | ⟨y0, y1, a, y2, y3⟩ | ⟨y1, a, b, c, ja, jb, la, lb, y2, y3, y4, y5, y6, y7⟩
    · refine w293_53 l0 ?_
      refine w293_54 ?_
      rw [x43]
      refine w293_57 ?_
      refine w293_59 (fun hQ => absurd hQ (fun q => q y1)) (fun _ => ?_)
      refine w293_62 ?_
      refine w293_63 ?_
      refine w293_80 ?_
      refine w293_81 ?_
      refine w293_82 ?_
      refine w293_84 rfl ?_
      refine w293_86 rfl ?_
      refine w293_87 (fun _ => ?_) (fun hQ => absurd (by decide) hQ)
      refine fin (by rw [y1, y2]; rfl) M2 J (fun _ _ => rfl) (fun _ _ _ _ => rfl) E2 (by rw [y3]; exact x22) (fun z => ?_) _ l0 l2
      rw [y2]
      exact Or.inl ⟨x44, fun q e hq => by cases hq⟩
    · have n26 : ¬ T.1 i = 26 := by rcases y0 with z | z <;> rw [z] <;> decide
      have n23 : ¬ T.1 i = 23 := by rcases y0 with z | z <;> rw [z] <;> decide
      refine w293_53 l0 ?_
      refine w293_54 ?_
      rw [x43]
      refine w293_57 ?_
      refine w293_59 (fun _ => ?_) (fun hQ => absurd n26 hQ)
      refine w293_66 l0 ?_
      refine w293_67 ?_
      rw [x43]
      refine w293_70 ?_
      refine w293_72 (fun _ => ?_) (fun hQ => absurd n23 hQ)
      refine w293_79 ?_
      refine w293_80 ?_
      refine w293_81 ?_
      refine w293_82 ?_
      refine w293_84 rfl ?_
      refine w293_86 rfl ?_
      refine w293_87 (fun hQ => absurd hQ (by decide)) (fun _ => ?_)
      refine w293_90 rfl ?_
      refine w293_92 (fun _ => ?_) (fun hQ => absurd (by decide) hQ)
      refine c293t (al := al) (q := 0) (m := 1) E2 (by decide) x22 y2 (by omega) (Or.inr x44) hl (fun M3 J3 a1 a2 E3 g3 c1 c2 c3 => ?_) _ l0 l2 rfl rfl
      intro lvv l0 l2 l3 l4
      refine w293_84 l4 ?_
      refine w293_86 l3 ?_
      refine w293_87 (fun _ => ?_) (fun hQ => absurd (by decide) hQ)
      refine fin y1 M3 J3 a1 a2 E3 g3 (fun z => ?_) _ l0 l2
      rw [y3]
      refine o_S1 ?_
      have q := c2 z
      rw [x44] at q
      exact q
    · have n26 : ¬ T.1 i = 26 := by rw [y1]; decide
      have jaN : ja < N := p_lt h0 (by rw [y3]; decide)
      have jbN : jb < N := p_lt h0 (by rw [y5]; decide)
      refine w293_53 l0 ?_
      refine w293_54 ?_
      rw [x43]
      refine w293_57 ?_
      refine w293_59 (fun _ => ?_) (fun hQ => absurd n26 hQ)
      refine w293_66 l0 ?_
      refine w293_67 ?_
      rw [x43]
      refine w293_70 ?_
      refine w293_72 (fun hQ => absurd hQ (fun q => q y1)) (fun _ => ?_)
      refine w293_75 ?_
      refine w293_76 ?_
      refine w293_80 ?_
      refine w293_81 ?_
      refine w293_82 ?_
      refine w293_84 rfl ?_
      refine w293_86 rfl ?_
      refine w293_87 (fun hQ => absurd hQ (by decide)) (fun _ => ?_)
      refine w293_90 rfl ?_
      refine w293_92 (fun _ => ?_) (fun hQ => absurd (by decide) hQ)
      refine c293t (al := al) (q := 0) (m := 3) E2 (by decide) x22 y2 (by omega) (Or.inr x44) hl (fun M3 J3 a1 a2 E3 g3 c1 c2 c3 => ?_) _ l0 l2 rfl rfl
      intro lvv l0 l2 l3 l4
      have sw : ∀ (M5 : Nat → Nat → Int32) (g : Nat), v_E S M5 P T 2400 N (o_env M n) → v_E S (am_u M5 124 22 (nI g)) P T 2400 N (o_env M n) := fun M5 g E5 => v_E_cg (fun a ha => am_u_ne ha) (am_u_at (by decide)) (am_u_at (by decide)) (am_u_at (by decide)) (am_u_at (by decide)) E5
      refine w293_84 l4 ?_
      refine w293_86 l3 ?_
      refine w293_87 (fun hQ => absurd hQ (by decide)) (fun _ => ?_)
      refine w293_90 l4 ?_
      refine w293_92 (fun hQ => absurd hQ (by decide)) (fun _ => ?_)
      refine w293_95 l0 ?_
      refine w293_96 rfl ?_
      refine w293_97 ?_
      rw [g3]
      refine w293_100 ?_
      refine w293_101 ?_
      rw [nI_1, Nat.add_assoc]
      refine w293_102 ?_
      refine c293t (al := al) (q := 1) (m := 3) (sw M3 _ E3) (by decide) am_u_self y4 (by omega) (by rw [am_u_at (by decide)]; exact c3) hl (fun M4 J4 b1 b2 E4 g4 e1 e2 e3 => ?_) _ l0 l2 l3 l4
      intro lvv l0 l2 l3 l4
      refine w293_84 l4 ?_
      refine w293_86 l3 ?_
      refine w293_87 (fun hQ => absurd hQ (by decide)) (fun _ => ?_)
      refine w293_90 l4 ?_
      refine w293_92 (fun hQ => absurd hQ (by decide)) (fun _ => ?_)
      refine w293_95 l0 ?_
      refine w293_96 rfl ?_
      refine w293_97 ?_
      rw [g4]
      refine w293_100 ?_
      refine w293_101 ?_
      rw [nI_1, Nat.add_assoc]
      refine w293_102 ?_
      refine c293t (al := al) (q := 2) (m := 3) (sw M4 _ E4) (by decide) am_u_self y6 (by omega) (by rw [am_u_at (by decide)]; exact e3) hl (fun M5 J5 d1 d2 E5 g5 h1 h2 h3 => ?_) _ l0 l2 l3 l4
      intro lvv l0 l2 l3 l4
      refine w293_84 l4 ?_
      refine w293_86 l3 ?_
      refine w293_87 (fun _ => ?_) (fun hQ => absurd (by decide) hQ)
      refine fin (by rw [y1, y7]; rfl) M5 J5 (fun a ha => by rw [d1 a ha, am_u_ne ha, b1 a ha, am_u_ne ha, a1 a ha]) (fun x z1 z2 z3 => by rw [d2 x z1 z2 z3, am_u_at z1, b2 x z1 z2 z3, am_u_at z1, a2 x z1 z2 z3]) E5 g5 (fun z => ?_) _ l0 l2
      rw [y7]
      have q0 := c2 z
      have q1 := e2 z
      have q2 := h2 z
      rw [x44, ← e1 0 (by decide), ← h1 0 (by decide)] at q0
      rw [am_u_at (show (44 : Nat) ≠ 22 by decide), ← h1 1 (by decide)] at q1
      rw [am_u_at (show (44 : Nat) ≠ 22 by decide)] at q2
      exact o_S3 q0 q1 q2
  cases hal : al with
  | true =>
    rw [hal, if_pos rfl] at hl
    subst hl
    refine w293_0 rfl ?_
    refine w293_1 (fun hQ => absurd hQ (by decide)) (fun _ => ?_)
    refine w293_4 rfl ?_
    refine w293_5 (k := c294 (d := d) L hk hn n7 hlw (fun I1 f1 f2 f3 => ?_))
    exact main I1 f1 f2 (fun _ => f3) _ rfl rfl rfl
  | false =>
    rw [hal, if_neg (by decide)] at hl
    subst hl
    refine w293_0 rfl ?_
    refine w293_1 (fun _ => ?_) (fun hQ => absurd rfl hQ)
    exact main I (fun _ _ _ => rfl) (fun _ _ => rfl) (fun z => by rw [hal] at z; cases z) _ rfl rfl rfl
end
