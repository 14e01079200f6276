/-! all that is told is laid, by the reference; both sides then tell the same -/
def m_f2 (I I' : Nat → Nat → Int32) : Prop := (∀ a, a ≠ 124 → a ≠ 136 → a ≠ 138 → a ≠ 139 → a ≠ 140 → I' a = I a) ∧ ∀ q, (q < 22 ∨ 25 < q) → I' 124 q = I 124 q
theorem m_f2.tr {I I1 I2 : Nat → Nat → Int32} (h : m_f2 I I1) (h2 : m_f2 I1 I2) : m_f2 I I2 := ⟨fun a q1 q2 q3 q4 q5 => (h2.1 a q1 q2 q3 q4 q5).trans (h.1 a q1 q2 q3 q4 q5), fun q hq => (h2.2 q hq).trans (h.2 q hq)⟩
theorem m_fr.f2 {I I' : Nat → Nat → Int32} (h : m_fr I I') : m_f2 I I' := ⟨fun a q1 q2 _ _ _ => h.1 a q1 q2, h.2⟩
theorem m_f2_u {I : Nat → Nat → Int32} {a j : Nat} {x : Int32} (h : a = 138 ∨ a = 139 ∨ a = 140) : m_f2 I (am_u I a j x) := ⟨fun b _ _ h1 h2 h3 => am_u_ne (by omega), fun q _ => by rw [am_u_ne (by omega)]⟩
theorem m_f2_0 (I : Nat → Nat → Int32) : m_f2 I I := ⟨fun _ _ _ _ _ _ => rfl, fun _ _ => rfl⟩
/-- what is laid, of the seats below z -/
def m_ld (I : Nat → Nat → Int32) (kp : Nat → Int32) (n : Nat) (lw : Option (List Cl)) (z : Nat) : Prop := ∀ q x, x < 5 → q * 5 + x < z → I 138 (q * 5 + x) = a_sp kp n lw q x ∧ I 139 (q * 5 + x) = a_va kp n lw q x ∧ I 140 (q * 5 + x) = am_b (a_ba kp n lw q x = 1)
theorem m_te1 (kp : Nat → Int32) (n : Nat) (lw : Option (List Cl)) (m b : Nat) : m_te kp n lw 1 m b (kp (44 + m)) = a_sp kp n lw m b := by cases lw <;> rfl
theorem m_te2 (kp : Nat → Int32) (n : Nat) (lw : Option (List Cl)) (m b : Nat) : m_te kp n lw 2 m b (kp (m * 5 + b)) = a_va kp n lw m b := by cases lw <;> rfl
theorem m_te3 (kp : Nat → Int32) (n : Nat) (lw : Option (List Cl)) (m b : Nat) : m_te kp n lw 3 m b 0 = a_ba kp n lw m b := by cases lw <;> rfl
theorem m_ld_next {I I1 I2 I3 : Nat → Nat → Int32} {kp : Nat → Int32} {n m b : Nat} {lw : Option (List Cl)} {v : Int32} (hb : b < 5) (h : m_ld I kp n lw (m * 5 + b)) (f1 : m_fr I I1) (f2 : m_fr (am_u I1 138 (m * 5 + b) (a_sp kp n lw m b)) I2) (f3 : m_fr (am_u I2 139 (m * 5 + b) (a_va kp n lw m b)) I3) (hv : v = am_b (a_ba kp n lw m b = 1)) : m_ld (am_u I3 140 (m * 5 + b) v) kp n lw (m * 5 + (b + 1)) := by
  intro q x hx hz
  have e138 : I3 138 = am_u I1 138 (m * 5 + b) (a_sp kp n lw m b) 138 := by
    rw [f3.1 138 (by decide) (by decide), am_u_ne (by decide), f2.1 138 (by decide) (by decide)]
  have e139 : I3 139 = am_u I2 139 (m * 5 + b) (a_va kp n lw m b) 139 := f3.1 139 (by decide) (by decide)
  have e140 : I3 140 = I 140 := by
    rw [f3.1 140 (by decide) (by decide), am_u_ne (by decide), f2.1 140 (by decide) (by decide), am_u_ne (by decide), f1.1 140 (by decide) (by decide)]
  have g138 : I1 138 = I 138 := f1.1 138 (by decide) (by decide)
  have g139 : I2 139 = I 139 := by rw [f2.1 139 (by decide) (by decide), am_u_ne (by decide), f1.1 139 (by decide) (by decide)]
  rw [am_u_ne (show 138 ≠ 140 by decide), am_u_ne (show 139 ≠ 140 by decide), e138, e139]
  by_cases z : q * 5 + x = m * 5 + b
  · have z1 : q = m := by omega
    have z2 : x = b := by omega
    subst z1
    subst z2
    exact ⟨am_u_self, am_u_self, by rw [am_u_self]; exact hv⟩
  · rw [am_u_at z, am_u_at z, am_u_at z, e140, g138, g139]
    exact h q x hx (by omega)
section
variable {pr : am_Pr} {d : Nat} {S : List (Nat × Nat)} {I : Nat → Nat → Int32} {J : Nat → Nat → Int64} {P : Nat → Nat → Option Nat} {Q : Option Value → am_H → Prop}
/-- laysTold -/
theorem c178 (L : am_Lay S P) {n : Nat} {kp : Nat → Int32} {lw : Option (List Cl)} (hk : I 126 = kp) (hn : kp 73 = nI n) (n7 : n ≤ 7) (hlw : m_lw kp lw) (k : ∀ I', m_f2 I I' → m_ld I' kp n lw (n * 5) → Q none (S, I', J, P)) : am_ev pr (d + 44) 178 [.ref 124] (S, I, J, P) Q := by
  show am_wp pr (d + 44) 178 0 [(0, .ref 124)] [] _ _
  refine w178_0 ?_
  refine w178_1 ?_
  refine am_for (fun m => ∀ I', m_f2 I I' → m_ld I' kp n lw (m * 5) → ∀ lv, am_ld1 lv 0 = some (.ref 124) → am_ld1 lv 1 = some (.int (nI m)) → am_wp pr (d + 44) 178 2 lv [] (S, I', J, P) Q) n ?_ ?_ I (m_f2_0 I) (fun q x _ h => absurd h (by omega)) _ rfl rfl
  · intro m hm ih I1 f1 g1 lv l0 l1
    have hm7 : m < 7 := by omega
    have e1 : I1 126 = kp := by rw [f1.1 126 (by decide) (by decide) (by decide) (by decide) (by decide)]; exact hk
    refine w178_2 l1 ?_
    refine w178_3 l0 ?_
    refine w178_4 (k := c171 L ?_)
    rw [e1, hn]
    refine w178_7 (fun hQ => absurd hQ (am_nlt hm (by omega))) (fun _ => ?_)
    refine w178_10 ?_
    refine w178_11 ?_
    refine am_for (fun b => ∀ I', m_f2 I I' → m_ld I' kp n lw (m * 5 + b) → ∀ lv, am_ld1 lv 0 = some (.ref 124) → am_ld1 lv 1 = some (.int (nI m)) → am_ld1 lv 2 = some (.int (nI b)) → am_wp pr (d + 44) 178 12 lv [] (S, I', J, P) Q) 5 ?_ ?_ I1 f1 g1 _ l0 l1 rfl
    · clear l0 l1 lv e1 f1 g1 I1
      intro b hb ih I1 f1 g1 lv l0 l1 l2
      have e1 : I1 126 = kp := by rw [f1.1 126 (by decide) (by decide) (by decide) (by decide) (by decide)]; exact hk
      refine w178_12 l2 ?_
      refine w178_13 ?_
      refine w178_14 (fun hQ => absurd hQ (am_nlt hb (by decide))) (fun _ => ?_)
      refine w178_17 l0 ?_
      refine w178_18 (L.2 _ _ _ rfl) ?_
      refine w178_21 ?_
      refine w178_22 l1 ?_
      refine w178_23 ?_
      refine w178_24 l2 ?_
      refine w178_25 ?_
      refine w178_26 l0 ?_
      refine w178_27 ?_
      refine w178_28 l1 ?_
      refine w178_29 l2 ?_
      refine w178_30 l0 ?_
      refine w178_31 (L.2 _ _ _ rfl) ?_
      refine w178_34 ?_
      refine w178_36 l1 ?_
      refine w178_37 ?_
      rw [nz_a44]
      refine w178_38 (L.sh rfl) (am_in_nI (by omega) (by decide)) ?_
      rw [am_clN (by omega), e1]
      refine w178_39 (k := c179 (hd := 1) L e1 hn n7 hm7 hb hlw (by decide) (fun I2 f2 => ?_))
      rw [m_te1]
      refine w178_42 (L.sh rfl) (am_inb' hm7 hb) ?_
      rw [am_clb' hm7 hb]
      have f2' : m_f2 I (am_u I2 138 (m * 5 + b) (a_sp kp n lw m b)) := (f1.tr f2.f2).tr (m_f2_u (Or.inl rfl))
      have e2 : am_u I2 138 (m * 5 + b) (a_sp kp n lw m b) 126 = kp := by rw [f2'.1 126 (by decide) (by decide) (by decide) (by decide) (by decide)]; exact hk
      refine w178_43 l0 ?_
      refine w178_44 (L.2 _ _ _ rfl) ?_
      refine w178_47 ?_
      refine w178_48 l1 ?_
      refine w178_49 ?_
      refine w178_50 l2 ?_
      refine w178_51 ?_
      refine w178_52 l0 ?_
      refine w178_53 ?_
      refine w178_54 l1 ?_
      refine w178_55 l2 ?_
      refine w178_56 l0 ?_
      refine w178_57 l1 ?_
      refine w178_58 l2 ?_
      refine w178_59 (k := c175 L hm7 hb ?_)
      rw [e2]
      refine w178_62 (k := c179 (hd := 2) L e2 hn n7 hm7 hb hlw (by decide) (fun I3 f3 => ?_))
      rw [m_te2]
      refine w178_65 (L.sh rfl) (am_inb' hm7 hb) ?_
      rw [am_clb' hm7 hb]
      have f3' : m_f2 I (am_u I3 139 (m * 5 + b) (a_va kp n lw m b)) := (f2'.tr f3.f2).tr (m_f2_u (Or.inr (Or.inl rfl)))
      have e3 : am_u I3 139 (m * 5 + b) (a_va kp n lw m b) 126 = kp := by rw [f3'.1 126 (by decide) (by decide) (by decide) (by decide) (by decide)]; exact hk
      refine w178_66 l0 ?_
      refine w178_67 (L.2 _ _ _ rfl) ?_
      refine w178_70 ?_
      refine w178_71 l1 ?_
      refine w178_72 ?_
      refine w178_73 l2 ?_
      refine w178_74 ?_
      refine w178_75 l0 ?_
      refine w178_76 ?_
      refine w178_77 l1 ?_
      refine w178_78 l2 ?_
      refine w178_79 ?_
      refine w178_80 (k := c179 (hd := 3) L e3 hn n7 hm7 hb hlw (by decide) (fun I4 f4 => ?_))
      rw [m_te3]
      refine w178_83 ?_
      refine w178_84 (fun h84 => ?_) (fun h84 => ?_)
      · refine w178_91 ?_
        refine w178_92Z (L.sh rfl) (am_inb' hm7 hb) ?_
        rw [am_clb' hm7 hb]
        refine w178_93 l2 ?_
        refine w178_96 ?_
        first | exact ih _ ((f3'.tr f4.f2).tr (m_f2_u (Or.inr (Or.inr rfl)))) (m_ld_next hb g1 f2 f3 f4 (am_b_t h84).symm) _ l0 l1 (am_nx b) | exact ih _ ((f3'.tr f4.f2).tr (m_f2_u (Or.inr (Or.inr rfl)))) (m_ld_next hb g1 f2 f3 f4 (am_b_f h84).symm) _ l0 l1 (am_nx b)
      · replace h84 := Decidable.not_not.mp h84
        refine w178_87 ?_
        refine w178_88 ?_
        refine w178_92Z (L.sh rfl) (am_inb' hm7 hb) ?_
        rw [am_clb' hm7 hb]
        refine w178_93 l2 ?_
        refine w178_96 ?_
        first | exact ih _ ((f3'.tr f4.f2).tr (m_f2_u (Or.inr (Or.inr rfl)))) (m_ld_next hb g1 f2 f3 f4 (am_b_t h84).symm) _ l0 l1 (am_nx b) | exact ih _ ((f3'.tr f4.f2).tr (m_f2_u (Or.inr (Or.inr rfl)))) (m_ld_next hb g1 f2 f3 f4 (am_b_f h84).symm) _ l0 l1 (am_nx b)
    · clear l0 l1 lv e1 f1 g1 I1
      intro I1 f1 g1 lv l0 l1 l2
      refine w178_12 l2 ?_
      refine w178_13 ?_
      refine w178_14 (fun _ => ?_) (fun hQ => absurd (Int32.le_refl _) hQ)
      refine w178_99 l1 ?_
      refine w178_102 ?_
      exact ih I1 f1 (by rw [show (m + 1) * 5 = m * 5 + 5 by omega]; exact g1) _ l0 (am_nx m)
  · intro I1 f1 g1 lv l0 l1
    have e1 : I1 126 = kp := by rw [f1.1 126 (by decide) (by decide) (by decide) (by decide) (by decide)]; exact hk
    refine w178_2 l1 ?_
    refine w178_3 l0 ?_
    refine w178_4 (k := c171 L ?_)
    rw [e1, hn]
    refine w178_7 (fun _ => ?_) (fun hQ => absurd (Int32.le_refl _) hQ)
    refine w178_105 ?_
    exact k _ f1 g1
end
