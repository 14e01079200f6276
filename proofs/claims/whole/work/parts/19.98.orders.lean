/-! orders run: the class reckons -/
section
variable {pr : am_Pr} {d : Nat} {S : List (Nat × Nat)} {I : Nat → Nat → Int32} {J : Nat → Nat → Int64} {P : Nat → Nat → Option Nat} {Q : Option Value → am_H → Prop} {o : Bool} {t wr z p : Nat} {w : Nat → Nat → Int32}
theorem c25X {e : Ex} (hg : k_GX o e) (E : k_E o S (am_u I 119 0 0) P t wr z w) (hzI : I t 1 = nI z) (h119 : t + 6 < 119) (hat : k_at (I (t + 1 + 4)) (I (t + 1 + 5)) p (e.2 ++ [(0, 0)])) (hz : p + e.2.length < z) (hdp : k_dep e.2 ≤ 64) (k1 : ∀ x J', e.1 w = some x → Q (some (.int x.toInt32)) (S, am_u I 119 0 0, J', P)) (k2 : ∀ J', e.1 w = none → Q (some (.int 0)) (S, am_u I 119 0 1, J', P)) : am_ev pr (d + 1) 25 [.ref 119, .ref t, .int (nI p), .ref wr] (S, I, J, P) Q := by
  show am_wp pr (d + 1) 25 0 [(0, .ref 119), (1, .ref t), (2, .int (nI p)), (3, .ref wr)] [] _ _
  have E2 := E
  obtain ⟨L, ⟨N, ht, hzN, hN⟩, hb, hw, hww⟩ := E2
  have h4 : t + 1 + 4 ≠ 119 := by omega
  have h5 : t + 1 + 5 ≠ 119 := by omega
  refine w25_0 rfl ?_
  refine w25_1 ?_
  refine w25_2 (by decide) ?_
  refine w25_5 rfl ?_
  refine w25_6 (fun _ => ?_) (fun hQ => absurd (nI_pos' (by omega)) hQ)
  refine w25_11 ?_
  refine w25_12 ?_
  refine w25_14 rfl ?_
  refine w25_15 ?_
  rw [am_u_ne (show t ≠ 119 by omega), hzI]
  refine w25_18 rfl ?_
  refine w25_19 (ht.2.1 4 (by decide)) ?_
  refine w25_22 (ht.sh rfl) (by decide) ?_
  refine w25_23 rfl ?_
  refine w25_24 (ht.2.1 5 (by decide)) ?_
  refine w25_27 (ht.sh rfl) (by decide) ?_
  refine w25_28 ?_
  refine w25_31 ?_
  rw [k_min hzN (by omega)]
  refine w25_34 ?_
  refine w25_36 rfl ?_
  refine w25_37 ?_
  refine hg.2 pr d S (am_u I 119 0 0) P Q t wr z w E ?_ p 0 J ?_ (by omega) (by omega) ?_ _ rfl rfl rfl rfl rfl rfl
  · intro hn J'
    rw [k_0u]
    exact k2 J' hn
  · rw [am_u_ne h4, am_u_ne h5]
    exact k_at_l hat
  · intro x J' hx _ hJ
    have h3 := (k_at_h (k_at_r hat)).1
    refine k_end E (by omega) (by rw [am_u_ne h4]; exact h3) ?_
    rw [hJ]
    exact k1 x J' hx
theorem c25T {e : Te} (hg : k_GT o e) (E : k_E o S (am_u I 119 0 0) P t wr z w) (hzI : I t 1 = nI z) (h119 : t + 6 < 119) (hat : k_at (I (t + 1 + 4)) (I (t + 1 + 5)) p (e.2 p ++ [(0, 0)])) (hz : p + (e.2 p).length < z) (hdp : k_dep (e.2 p) ≤ 64) (k1 : ∀ x J', e.1 w = some x → Q (some (.int (if x = true then 1 else 0))) (S, am_u I 119 0 0, J', P)) (k2 : ∀ J', e.1 w = none → Q (some (.int 0)) (S, am_u I 119 0 1, J', P)) : am_ev pr (d + 1) 25 [.ref 119, .ref t, .int (nI p), .ref wr] (S, I, J, P) Q := by
  show am_wp pr (d + 1) 25 0 [(0, .ref 119), (1, .ref t), (2, .int (nI p)), (3, .ref wr)] [] _ _
  have E2 := E
  obtain ⟨L, ⟨N, ht, hzN, hN⟩, hb, hw, hww⟩ := E2
  have h4 : t + 1 + 4 ≠ 119 := by omega
  have h5 : t + 1 + 5 ≠ 119 := by omega
  refine w25_0 rfl ?_
  refine w25_1 ?_
  refine w25_2 (by decide) ?_
  refine w25_5 rfl ?_
  refine w25_6 (fun _ => ?_) (fun hQ => absurd (nI_pos' (by omega)) hQ)
  refine w25_11 ?_
  refine w25_12 ?_
  refine w25_14 rfl ?_
  refine w25_15 ?_
  rw [am_u_ne (show t ≠ 119 by omega), hzI]
  refine w25_18 rfl ?_
  refine w25_19 (ht.2.1 4 (by decide)) ?_
  refine w25_22 (ht.sh rfl) (by decide) ?_
  refine w25_23 rfl ?_
  refine w25_24 (ht.2.1 5 (by decide)) ?_
  refine w25_27 (ht.sh rfl) (by decide) ?_
  refine w25_28 ?_
  refine w25_31 ?_
  rw [k_min hzN (by omega)]
  refine w25_34 ?_
  refine w25_36 rfl ?_
  refine w25_37 ?_
  refine (hg p).2 pr d S (am_u I 119 0 0) P Q t wr z w E ?_ 0 J ?_ (by omega) (by omega) ?_ _ rfl rfl rfl rfl rfl rfl
  · intro hn J'
    rw [k_0u]
    exact k2 J' hn
  · rw [am_u_ne h4, am_u_ne h5]
    exact k_at_l hat
  · intro x J' hx _ hJ
    have h3 := (k_at_h (k_at_r hat)).1
    refine k_end E (by omega) (by rw [am_u_ne h4]; exact h3) ?_
    rw [hJ]
    have := k1 x J' hx
    cases x
    · exact this
    · exact this
end
/-- what the words of orders tell: members, day, how many orders were done, what the latest put had, votes -/
def o_w (kp : Nat → Int32) (n : Nat) (dn lt : Int32) (F : Nat → Int32) : Nat → Nat → Int32 := fun c k => if c = 14 then (if k < n then kp (44 + k) else -1) else if c = 15 then m_hm kp n else if c = 16 then kp 43 else if c = 17 then dn else if c = 18 then lt else if c = 19 then t_on (kp 42) else F k
/-- a sum of a clause; none there: 0 -/
def o_v (w : Nat → Nat → Int32) (es : List Ex) (j : Nat) : Option Int32 := match es[j]? with | none => some 0 | some e => (e.1 w).map (fun x => x.toInt32)
section
variable {pr : am_Pr} {d : Nat} {S : List (Nat × Nat)} {I I' : Nat → Nat → Int32} {J : Nat → Nat → Int64} {P : Nat → Nat → Option Nat} {Q : Option Value → am_H → Prop} {n l s u : Nat} {kp lf : Nat → Int32} {lw : Option (Nat × List Cl)} {w : Nat → Nat → Int32} {t wr z : Nat} {x : Int32}
theorem c25n (L : am_Lay S P) (k : Q (some (.int 0)) (S, am_u I 119 0 0, J, P)) : am_ev pr d 25 [.ref 119, .ref t, .int (-1), .ref wr] (S, I, J, P) Q := by
  show am_wp pr d 25 0 [(0, .ref 119), (1, .ref t), (2, .int (-1)), (3, .ref wr)] [] _ _
  refine w25_0 rfl ?_
  refine w25_1 ?_
  refine w25_2 (by decide) ?_
  refine w25_5 rfl ?_
  refine w25_6 (fun hQ => absurd hQ (by decide)) (fun _ => ?_)
  refine w25_9 ?_
  refine w25_10 ?_
  exact k
/-- a clause's sum -/
theorem c25J (E : k_E true S (am_u I 119 0 0) P 101 wr z w) (hzI : I 101 1 = nI z) {c : Nat} {X : Cl} (hT : am_TC (I 102) (I 103) (I 104) (I 105) (I 106) (I 107) z c X) (hX : ∀ e ∈ X.2.1, k_X true e ∧ k_dep e.2 ≤ 50) {j : Nat} (hj : j < 3) (k : ∀ v br J', (o_v w X.2.1 j = some v ∧ br = 0 ∨ o_v w X.2.1 j = none ∧ br = 1 ∧ v = 0) → Q (some (.int v)) (S, am_u I 119 0 br, J', P)) : am_ev pr (d + 1) 25 [.ref 119, .ref 101, .int (I 104 (c * 3 + j)), .ref wr] (S, I, J, P) Q := by
  obtain ⟨-, -, a3, a4, -, -⟩ := hT
  cases hc : X.2.1[j]? with
  | none =>
    rw [a4 j (List.getElem?_eq_none_iff.mp hc) hj]
    refine c25n E.1 (k 0 0 J (Or.inl ⟨?_, rfl⟩))
    unfold o_v
    rw [hc]
  | some e =>
    obtain ⟨p, p1, p2, p3⟩ := a3 j e hc
    obtain ⟨h1, h2⟩ := hX e (List.mem_of_getElem? hc)
    rw [p1]
    refine c25X h1.1 E hzI (by decide) p3 p2 (by omega) (fun y J' hy => k _ _ J' (Or.inl ⟨?_, rfl⟩)) (fun J' hy => k _ _ J' (Or.inr ⟨?_, rfl, rfl⟩))
    · unfold o_v
      rw [hc]
      show (e.1 w).map _ = _
      rw [hy]
      rfl
    · unfold o_v
      rw [hc]
      show (e.1 w).map _ = _
      rw [hy]
      rfl
/-- fillOrderWords -/
theorem c98 (L : am_Lay S P) (hr : am_HR I 65 kp n l s) (hx : am_lw S I P (P 70) kp l (kp 76) lw) (k : ∀ I' J', (∀ a, a ≠ 108 → (a < 109 ∨ (113 < a ∧ a ≠ 118 ∧ a ≠ 119)) → I' a = I a) → I' 108 0 = kp 43 → I' 108 1 = I 108 1 → I' 108 2 = I 108 2 → I' 108 3 = m_hm kp n → I' 108 4 = t_on (kp 42) → (∀ b, b < 5 → am_bit x b = 1 → I' 108 (5 + b) = g_vF kp n (lw.map Prod.snd) b) → (∀ m, m < 7 → I' 108 (10 + m) = if m < n then kp (44 + m) else -1) → Q none (S, I', J', P)) : am_ev pr (d + 5) 98 [.ref 64, .int x] (S, I, J, P) Q := by
  have n7 := hr.n7
  have hh := L.h65
  obtain ⟨s0, s1, s2⟩ := am_here7 n7 hr.he
  obtain ⟨s3, s4, s5⟩ := hr.ks
  have e1 : I 65 1 = nI s0 := s2
  have e2 : I 65 2 = nI s3 := by rw [hr.st]; exact s5
  have eo : t_on (nI s0) = m_hm kp n := by rw [← e1]; exact t_on_hm n7 hr.he hr.k01
  have et : t_on (nI s3) = t_on (kp 42) := by rw [s5]
  have e69 : I 69 0 = kp 43 := hr.td
  show am_wp pr (d + 5) 98 0 [(0, .ref 64), (1, .int x)] [] _ _
  refine w98_0 rfl ?_
  refine w98_1 (L.2 _ _ _ rfl) ?_
  refine w98_4 ?_
  refine w98_5 rfl ?_
  refine w98_6 (L.2 _ _ _ rfl) ?_
  refine w98_9 (L.2 _ _ _ rfl) ?_
  refine w98_12 ?_
  refine w98_13 (L.sh rfl) (by decide) ?_
  rw [show Int32.toNatClampNeg 0 = 0 from rfl, e69]
  refine w98_14 (L.sh rfl) (by decide) ?_
  rw [show Int32.toNatClampNeg 0 = 0 from rfl]
  refine w98_15 rfl ?_
  refine w98_16 (L.2 _ _ _ rfl) ?_
  refine w98_19 ?_
  refine w98_20 rfl ?_
  refine w98_21 (L.2 _ _ _ rfl) ?_
  refine w98_24 ?_
  rw [am_u_ne (by decide), e1]
  refine w98_27 (k := c23 s1 ?_)
  rw [eo]
  refine w98_30 (L.sh rfl) (by decide) ?_
  rw [show Int32.toNatClampNeg 3 = 3 from rfl]
  refine w98_31 rfl ?_
  refine w98_32 (L.2 _ _ _ rfl) ?_
  refine w98_35 ?_
  refine w98_36 rfl ?_
  refine w98_37 (L.2 _ _ _ rfl) ?_
  refine w98_40 ?_
  rw [am_u_ne (by decide), am_u_ne (by decide), e2]
  refine w98_43 (k := c23 (by omega) ?_)
  rw [et]
  refine w98_46 (L.sh rfl) (by decide) ?_
  rw [show Int32.toNatClampNeg 4 = 4 from rfl]
  refine w98_47 ?_
  refine w98_48 ?_
  generalize hI1 : am_u (am_u (am_u I 108 0 (kp 43)) 108 3 (m_hm kp n)) 108 4 (t_on (kp 42)) = I1
  have q0 : I1 108 0 = kp 43 := by rw [← hI1, am_u_at (by decide), am_u_at (by decide), am_u_self]
  have q1 : I1 108 1 = I 108 1 := by rw [← hI1, am_u_at (by decide), am_u_at (by decide), am_u_at (by decide)]
  have q2 : I1 108 2 = I 108 2 := by rw [← hI1, am_u_at (by decide), am_u_at (by decide), am_u_at (by decide)]
  have q3 : I1 108 3 = m_hm kp n := by rw [← hI1, am_u_at (by decide), am_u_self]
  have q4 : I1 108 4 = t_on (kp 42) := by rw [← hI1, am_u_self]
  have qf : ∀ a, a ≠ 108 → I1 a = I a := fun a ha => by rw [← hI1, am_u_ne ha, am_u_ne ha, am_u_ne ha]
  refine am_for (fun b => ∀ (I2 : Nat → Nat → Int32) (J2 : Nat → Nat → Int64), (∀ a, a ≠ 108 → (a < 109 ∨ (113 < a ∧ a ≠ 118 ∧ a ≠ 119)) → I2 a = I a) → (∀ j, j < 5 → I2 108 j = I1 108 j) → (∀ q, q < b → am_bit x q = 1 → I2 108 (5 + q) = g_vF kp n (lw.map Prod.snd) q) → ∀ lvv, am_ld1 lvv 0 = some (.ref 64) → am_ld1 lvv 1 = some (.int x) → am_ld1 lvv 2 = some (.int (nI b)) → am_wp pr (d + 5) 98 49 lvv [] (S, I2, J2, P) Q) 5 ?_ ?_ I1 J (fun a a1 _ => qf a a1) (fun _ _ => rfl) (fun q hq => absurd hq (Nat.not_lt_zero q)) _ rfl rfl rfl
  · intro b hb ih I2 J2 f1 f2 f3 lvv l0 l1 l2
    have hr2 : am_HR I2 65 kp n l s := am_HR_cg 65 (fun a a1 a2 => f1 a (by omega) (by omega)) rfl hr
    have hx2 : am_lw S I2 P (P 70) kp l (kp 76) lw := am_lw_cg hr.l6 (fun a ha => f1 a (by omega) (by omega)) (fun _ _ => rfl) hx
    by_cases ha : am_bit x b = 1
    · refine w98_49 l2 ?_
      refine w98_50 ?_
      refine w98_51 (fun hQ => absurd hQ (am_nlt (n := 5) hb (by decide))) (fun _ => ?_)
      refine w98_54 l1 ?_
      refine w98_55 l2 ?_
      refine w98_56 (k := c17b ?_)
      rw [ha]
      refine w98_59 ?_
      refine w98_60 (fun hQ => absurd hQ (fun q => q rfl)) (fun _ => ?_)
      refine w98_63 l0 ?_
      refine w98_64 l2 ?_
      refine w98_65 (k := c20 L hr2 hx2 hb (fun I3 J3 g1 g2 g3 g4 => ?_))
      have e3 : t_vo (I3 110) (t_fa (I3 111) (I3 113 b) b) b = g_vF kp n (lw.map Prod.snd) b := b_for g3 (m_can_ld kp n (lw.map Prod.snd) (n * 5)) n7 hb
      refine w98_68 l0 ?_
      refine w98_69 (L.2 _ _ _ rfl) ?_
      refine w98_72 ?_
      refine w98_73 l2 ?_
      refine w98_74 ?_
      rw [show (5 : Int32) + nI b = nI (5 + b) from nI_add 5 b]
      refine w98_75 l0 ?_
      refine w98_76 (L.2 _ _ _ rfl) ?_
      refine w98_79 l2 ?_
      refine w98_80 (k := c30 L hb ?_)
      rw [e3]
      refine w98_83 (L.sh rfl) (am_in_nI (by omega) (by decide)) ?_
      rw [am_clN (by omega)]
      refine w98_84 l2 ?_
      refine w98_87 ?_
      refine ih _ _ (fun a a1 a2 => by rw [am_u_ne a1, g1 a (by omega)]; exact f1 a a1 a2) (fun j hj => by rw [am_u_at (by omega), g1 108 (by omega)]; exact f2 j hj) (fun q hq hb' => ?_) _ l0 l1 (am_nx b)
      by_cases e : q = b
      · rw [e, am_u_self]
      · rw [am_u_at (by omega), g1 108 (by omega)]
        exact f3 q (by omega) hb'
    · refine w98_49 l2 ?_
      refine w98_50 ?_
      refine w98_51 (fun hQ => absurd hQ (am_nlt (n := 5) hb (by decide))) (fun _ => ?_)
      refine w98_54 l1 ?_
      refine w98_55 l2 ?_
      refine w98_56 (k := c17b ?_)
      refine w98_59 ?_
      refine w98_60 (fun _ => ?_) (fun hQ => absurd ha hQ)
      refine w98_84 l2 ?_
      refine w98_87 ?_
      refine ih I2 J2 f1 f2 (fun q hq hb' => ?_) _ l0 l1 (am_nx b)
      by_cases e : q = b
      · rw [e] at hb'
        exact absurd hb' ha
      · exact f3 q (by omega) hb'
  · intro I2 J2 f1 f2 f3 lvv l0 l1 l2
    refine w98_49 l2 ?_
    refine w98_50 ?_
    refine w98_51 (fun _ => ?_) (fun hQ => absurd (Int32.le_refl _) hQ)
    refine w98_90 ?_
    refine w98_91 ?_
    refine am_for (fun m => ∀ (I3 : Nat → Nat → Int32), (∀ a, a ≠ 108 → I3 a = I2 a) → (∀ j, j < 10 → I3 108 j = I2 108 j) → (∀ q, q < m → I3 108 (10 + q) = if q < n then kp (44 + q) else -1) → ∀ lvv, am_ld1 lvv 0 = some (.ref 64) → am_ld1 lvv 2 = some (.int (nI m)) → am_wp pr (d + 5) 98 92 lvv [] (S, I3, J2, P) Q) 7 ?_ ?_ I2 (fun _ _ => rfl) (fun _ _ => rfl) (fun q hq => absurd hq (Nat.not_lt_zero q)) _ l0 rfl
    · intro m hm ih I3 g1 g2 g3 lvv l0 l2
      have e65 : I3 65 0 = nI n := by rw [g1 65 (by decide), f1 65 (by decide) (by decide)]; exact hr.hn
      have nx : ∀ v : Int32, v = (if m < n then kp (44 + m) else -1) → ∀ lvv, am_ld1 lvv 0 = some (.ref 64) → am_ld1 lvv 2 = some (.int (nI m)) → am_wp pr (d + 5) 98 131 lvv [] (S, am_u I3 108 (10 + m) v, J2, P) Q := by
        intro v hv lvv l0 l2
        refine w98_131 l2 ?_
        refine w98_134 ?_
        refine ih _ (fun a ha => by rw [am_u_ne ha]; exact g1 a ha) (fun j hj => by rw [am_u_at (by omega)]; exact g2 j hj) (fun q hq => ?_) _ l0 (am_nx m)
        by_cases e : q = m
        · rw [e, am_u_self]; exact hv
        · rw [am_u_at (by omega)]; exact g3 q (by omega)
      by_cases hmn : m < n
      · have em : I3 66 m = kp (44 + m) := by rw [g1 66 (by decide), f1 66 (by decide) (by decide)]; exact hr.vo m hmn
        refine w98_92 l2 ?_
        refine w98_93 ?_
        refine w98_95 (fun hQ => absurd hQ (am_nlt (n := 7) hm (by decide))) (fun _ => ?_)
        refine w98_98 l0 ?_
        refine w98_99 (L.2 _ _ _ rfl) ?_
        refine w98_102 ?_
        refine w98_104 l2 ?_
        refine w98_105 ?_
        rw [show (10 : Int32) + nI m = nI (10 + m) from nI_add 10 m]
        refine w98_106 l0 ?_
        refine w98_107 (L.2 _ _ _ rfl) ?_
        refine w98_110 l2 ?_
        refine w98_111 (k := c16 hh ?_)
        rw [e65, am_b_t ⟨nI_pos' (by omega), nI_lt hmn (by omega), nI_lt (b := 7) hm (by decide)⟩]
        refine w98_114 (fun hQ => absurd hQ (by decide)) (fun _ => ?_)
        refine w98_117 l0 ?_
        refine w98_118 (L.2 _ _ _ rfl) ?_
        refine w98_121 (L.2 _ _ _ rfl) ?_
        refine w98_124 l2 ?_
        refine w98_125 (L.sh rfl) (am_in_nI hm (by decide)) ?_
        rw [am_clN (by omega), em]
        refine w98_126 ?_
        refine w98_130 (L.sh rfl) (am_in_nI (by omega) (by decide)) ?_
        rw [am_clN (by omega)]
        exact nx _ (by rw [if_pos hmn]) _ l0 l2
      · refine w98_92 l2 ?_
        refine w98_93 ?_
        refine w98_95 (fun hQ => absurd hQ (am_nlt (n := 7) hm (by decide))) (fun _ => ?_)
        refine w98_98 l0 ?_
        refine w98_99 (L.2 _ _ _ rfl) ?_
        refine w98_102 ?_
        refine w98_104 l2 ?_
        refine w98_105 ?_
        rw [show (10 : Int32) + nI m = nI (10 + m) from nI_add 10 m]
        refine w98_106 l0 ?_
        refine w98_107 (L.2 _ _ _ rfl) ?_
        refine w98_110 l2 ?_
        refine w98_111 (k := c16 hh ?_)
        rw [e65, am_b_f (fun q => hmn ((nI_ltI (by omega) (by omega)).mp q.2.1))]
        refine w98_114 (fun _ => ?_) (fun hQ => absurd rfl hQ)
        refine w98_129 ?_
        refine w98_130 (L.sh rfl) (am_in_nI (by omega) (by decide)) ?_
        rw [am_clN (by omega)]
        exact nx _ (by rw [if_neg hmn]) _ l0 l2
    · intro I3 g1 g2 g3 lvv l0 l2
      refine w98_92 l2 ?_
      refine w98_93 ?_
      refine w98_95 (fun _ => ?_) (fun hQ => absurd (Int32.le_refl _) hQ)
      refine w98_137 ?_
      refine k I3 J2 (fun a a1 a2 => by rw [g1 a a1]; exact f1 a a1 a2) ?_ ?_ ?_ ?_ ?_ (fun b hb hbb => by rw [g2 _ (by omega)]; exact f3 b hb hbb) g3
      · rw [g2 0 (by decide), f2 0 (by decide)]; exact q0
      · rw [g2 1 (by decide), f2 1 (by decide)]; exact q1
      · rw [g2 2 (by decide), f2 2 (by decide)]; exact q2
      · rw [g2 3 (by decide), f2 3 (by decide)]; exact q3
      · rw [g2 4 (by decide), f2 4 (by decide)]; exact q4
/-- Past: copyFrom -/
theorem c96b {p q : Nat} (hp : am_Pa S P p) (hq : am_Pa S P q) (ne : p + 1 < q ∨ q + 1 < p) (k : ∀ I', (∀ a, a ≠ p → a ≠ p + 1 → I' a = I a) → I' p 0 = I q 0 → (∀ j, j < 48 → I' (p + 1) j = I (q + 1) j) → Q none (S, I', J, P)) : am_ev pr (d + 1) 96 [.ref p, .ref q] (S, I, J, P) Q := by
  show am_wp pr (d + 1) 96 0 [(0, .ref p), (1, .ref q)] [] _ _
  refine w96_0 rfl ?_
  refine w96_1 rfl ?_
  refine w96_2 ?_ (am_Pa.sh0 hq)
  refine w96_5 ?_ (am_Pa.sh0 hp)
  refine w96_8 rfl ?_
  refine w96_9 hq.2.1 ?_ (am_Pa.sh0 hq)
  refine w96_12 ?_
  refine w96_13 rfl ?_
  refine w96_14 hp.2.1 ?_ (am_Pa.sh0 hp)
  refine w96_17 ?_
  refine w96_18 ?_
  refine w96_20 hq.2.2 hp.2.2 (by decide) (by decide) (by decide) (by decide) (by decide) ?_
  generalize hI2 : am_row (am_u I p 0 (I q 0)) (p + 1) (va_cpy (am_u I p 0 (I q 0) (q + 1)) (am_u I p 0 (I q 0) (p + 1)) (Int32.toNatClampNeg 0) (Int32.toNatClampNeg 0) (Int32.toNatClampNeg 48)) = I2
  obtain ⟨a1, b1⟩ := cp_st (m := 48) rfl hI2
  refine w96_23 ?_
  refine k I2 (fun a h1 h2 => by rw [a1 a h2, am_u_ne h1]) ?_ (fun j hj => ?_)
  · rw [a1 p (by omega), am_u_self]
  · rw [b1 j hj, am_u_ne (by omega)]
end
