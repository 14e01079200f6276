/-! both sides' calls: hands -/
section
variable {pr : am_Pr} {d : Nat} {S : List (Nat × Nat)} {I : Nat → Nat → Int32} {J : Nat → Nat → Int64} {P : Nat → Nat → Option Nat} {Q : Option Value → am_H → Prop} {n l s u tp : Nat} {kp lf kp' : Nat → Int32} {lw : Option (Nat × List Cl)} {lv0 : Option (List Cl)}
/-- what is made of an answer -/
def an_c (S : List (Nat × Nat)) (P : Nat → Nat → Option Nat) (Q : Option Value → am_H → Prop) : Option Value → am_H → Prop := fun r τ => ∃ v I1 J1, r = some (.int v) ∧ τ = (S, I1, J1, P) ∧ -7 < v ∧ (v < 0 → Q (some (.int v)) (S, rf_c I1 v, J1, P)) ∧ (¬ v < 0 → Q (some (.int v)) (S, am_u I1 64 16 0, J1, P))
def an_m (S : List (Nat × Nat)) (P : Nat → Nat → Option Nat) (Q : Option Value → am_H → Prop) : Option Value → am_H → Prop := fun r τ => ∃ v I1 J1, r = some (.int v) ∧ τ = (S, I1, J1, P) ∧ -7 < v ∧ (v < 0 → Q (some (.int v)) (S, rf_m I1 v, J1, P)) ∧ (¬ v < 0 → Q (some (.int v)) (S, am_u I1 124 0 0, J1, P))
theorem c110 (L : am_Lay S P) {x : Int32} (h : am_ev pr (d + 1) 100 [.ref 64, .int x] (S, I, J, P) (an_c S P Q)) : am_ev pr (d + 2) 110 [.ref 64, .int x] (S, I, J, P) Q := by
  show am_wp pr (d + 2) 110 0 [(0, .ref 64), (1, .int x)] [] _ _
  refine w110_0 rfl ?_
  refine w110_1 rfl ?_
  refine w110_2 rfl ?_
  refine w110_3 (k := am_ev_mono h ?_)
  rintro _ _ ⟨v, I1, J1, rfl, rfl, h1, h2, h3⟩
  refine w110_6 (k := c111 L h1 (fun q => ?_) (fun q => ?_))
  · exact w110_9 (h2 q)
  · exact w110_9 (h3 q)
theorem c112 (L : am_Lay S P) {x : Int32} (h : am_ev pr (d + 1) 102 [.ref 64, .int x] (S, I, J, P) (an_c S P Q)) : am_ev pr (d + 2) 112 [.ref 64, .int x] (S, I, J, P) Q := by
  show am_wp pr (d + 2) 112 0 [(0, .ref 64), (1, .int x)] [] _ _
  refine w112_0 rfl ?_
  refine w112_1 rfl ?_
  refine w112_2 rfl ?_
  refine w112_3 (k := am_ev_mono h ?_)
  rintro _ _ ⟨v, I1, J1, rfl, rfl, h1, h2, h3⟩
  refine w112_6 (k := c111 L h1 (fun q => ?_) (fun q => ?_))
  · exact w112_9 (h2 q)
  · exact w112_9 (h3 q)
theorem c113 (L : am_Lay S P) {x y z : Int32} (h : am_ev pr (d + 1) 103 [.ref 64, .int x, .int y, .int z] (S, I, J, P) (an_c S P Q)) : am_ev pr (d + 2) 113 [.ref 64, .int x, .int y, .int z] (S, I, J, P) Q := by
  show am_wp pr (d + 2) 113 0 [(0, .ref 64), (1, .int x), (2, .int y), (3, .int z)] [] _ _
  refine w113_0 rfl ?_
  refine w113_1 rfl ?_
  refine w113_2 rfl ?_
  refine w113_3 rfl ?_
  refine w113_4 rfl ?_
  refine w113_5 (k := am_ev_mono h ?_)
  rintro _ _ ⟨v, I1, J1, rfl, rfl, h1, h2, h3⟩
  refine w113_8 (k := c111 L h1 (fun q => ?_) (fun q => ?_))
  · exact w113_11 (h2 q)
  · exact w113_11 (h3 q)
theorem c114 (L : am_Lay S P) (h : am_ev pr (d + 1) 104 [.ref 64] (S, I, J, P) (an_c S P Q)) : am_ev pr (d + 2) 114 [.ref 64] (S, I, J, P) Q := by
  show am_wp pr (d + 2) 114 0 [(0, .ref 64)] [] _ _
  refine w114_0 rfl ?_
  refine w114_1 rfl ?_
  refine w114_2 (k := am_ev_mono h ?_)
  rintro _ _ ⟨v, I1, J1, rfl, rfl, h1, h2, h3⟩
  refine w114_5 (k := c111 L h1 (fun q => ?_) (fun q => ?_))
  · exact w114_8 (h2 q)
  · exact w114_8 (h3 q)
theorem c247 (L : am_Lay S P) {x : Int32} (h : am_ev pr (d + 1) 248 [.ref 124, .int x] (S, I, J, P) (an_m S P Q)) : am_ev pr (d + 2) 247 [.ref 124, .int x] (S, I, J, P) Q := by
  show am_wp pr (d + 2) 247 0 [(0, .ref 124), (1, .int x)] [] _ _
  refine w247_0 rfl ?_
  refine w247_1 rfl ?_
  refine w247_2 rfl ?_
  refine w247_3 (k := am_ev_mono h ?_)
  rintro _ _ ⟨v, I1, J1, rfl, rfl, h1, h2, h3⟩
  refine w247_6 (k := c251 L h1 (fun q => ?_) (fun q => ?_))
  · exact w247_9 (h2 q)
  · exact w247_9 (h3 q)
theorem c252 (L : am_Lay S P) {x : Int32} (h : am_ev pr (d + 1) 253 [.ref 124, .int x] (S, I, J, P) (an_m S P Q)) : am_ev pr (d + 2) 252 [.ref 124, .int x] (S, I, J, P) Q := by
  show am_wp pr (d + 2) 252 0 [(0, .ref 124), (1, .int x)] [] _ _
  refine w252_0 rfl ?_
  refine w252_1 rfl ?_
  refine w252_2 rfl ?_
  refine w252_3 (k := am_ev_mono h ?_)
  rintro _ _ ⟨v, I1, J1, rfl, rfl, h1, h2, h3⟩
  refine w252_6 (k := c251 L h1 (fun q => ?_) (fun q => ?_))
  · exact w252_9 (h2 q)
  · exact w252_9 (h3 q)
theorem c254 (L : am_Lay S P) {x y z : Int32} (h : am_ev pr (d + 1) 255 [.ref 124, .int x, .int y, .int z] (S, I, J, P) (an_m S P Q)) : am_ev pr (d + 2) 254 [.ref 124, .int x, .int y, .int z] (S, I, J, P) Q := by
  show am_wp pr (d + 2) 254 0 [(0, .ref 124), (1, .int x), (2, .int y), (3, .int z)] [] _ _
  refine w254_0 rfl ?_
  refine w254_1 rfl ?_
  refine w254_2 rfl ?_
  refine w254_3 rfl ?_
  refine w254_4 rfl ?_
  refine w254_5 (k := am_ev_mono h ?_)
  rintro _ _ ⟨v, I1, J1, rfl, rfl, h1, h2, h3⟩
  refine w254_8 (k := c251 L h1 (fun q => ?_) (fun q => ?_))
  · exact w254_11 (h2 q)
  · exact w254_11 (h3 q)
theorem c256 (L : am_Lay S P) (h : am_ev pr (d + 1) 257 [.ref 124] (S, I, J, P) (an_m S P Q)) : am_ev pr (d + 2) 256 [.ref 124] (S, I, J, P) Q := by
  show am_wp pr (d + 2) 256 0 [(0, .ref 124)] [] _ _
  refine w256_0 rfl ?_
  refine w256_1 rfl ?_
  refine w256_2 (k := am_ev_mono h ?_)
  rintro _ _ ⟨v, I1, J1, rfl, rfl, h1, h2, h3⟩
  refine w256_5 (k := c251 L h1 (fun q => ?_) (fun q => ?_))
  · exact w256_8 (h2 q)
  · exact w256_8 (h3 q)
theorem rf_m_ps {A B : Nat → Nat → Int32} {x : Int32} (h : am_ps A B) : am_ps (rf_m A x) (rf_m B x) := by
  obtain ⟨e, h96, ⟨h1, h2, h3⟩, f0, f6, f13, f14, f35, f40, f48⟩ := h
  have f : ∀ q, q ≠ 0 → B 124 q = A 124 q → rf_m B x 124 q = rf_m A x 124 q := fun q hq e => by rw [rf_m_124 hq, rf_m_124 hq, e]
  refine ⟨fun a ha => ?_, ?_, ⟨?_, ?_, ?_⟩, ?_, f 6 (by decide) f6, f 13 (by decide) f13, f 14 (by decide) f14, f 35 (by decide) f35, f 40 (by decide) f40, f 48 (by decide) f48⟩
  · by_cases z : a = 125
    · subst z
      funext j
      rw [rf_m_125, rf_m_125, e 125 ha]
    · have z2 : a ≠ 124 := by unfold am_pers at ha; omega
      rw [rf_m_ne z2 z, rf_m_ne z2 z, e a ha]
  · rw [rf_m_ne (by decide) (by decide), rf_m_ne (by decide) (by decide), h96]
  · rw [rf_m_ne (by decide) (by decide), rf_m_ne (by decide) (by decide), h1]
  · rw [rf_m_ne (by decide) (by decide), rf_m_ne (by decide) (by decide), h2]
  · rw [rf_m_ne (by decide) (by decide), rf_m_ne (by decide) (by decide), h3]
  · rw [rf_m_0, rf_m_0]
/-- both refuse, having looked -/
theorem op_ng (r : am_R S I P n l s u tp) {mc mm dc dm : Nat} {ac am : List Value} (x : Int32) (hx0 : x < 0) (hx7 : -7 < x) (wc : ∀ I J (Q : Option Value → am_H → Prop), am_ev pr (d + 59) dc ac (S, I, J, P) (an_c S P Q) → am_ev pr (d + 60) mc ac (S, I, J, P) Q) (wm : ∀ I J (Q : Option Value → am_H → Prop), am_ev pr (d + 59) dm am (S, I, J, P) (an_m S P Q) → am_ev pr (d + 60) mm am (S, I, J, P) Q) (hc : ∀ Q : Option Value → am_H → Prop, (∀ I' J', am_ps I I' → Q (some (.int x)) (S, I', J', P)) → am_ev pr (d + 59) dc ac (S, I, J, P) Q) (hm : ∀ I1 J1, I1 126 = I 126 → I1 124 35 = I 124 35 → ∀ Q : Option Value → am_H → Prop, (∀ I2, am_ps I1 I2 → Q (some (.int x)) (S, I2, J1, P)) → am_ev pr (d + 59) dm am (S, I1, J1, P) Q) : am_op pr (d + 60) S I J P mc ac mm am := by
  refine wc _ _ _ (hc _ (fun I1 J1 h1 => ⟨x, I1, J1, rfl, rfl, hx7, fun _ => ⟨x, rfl, ?_⟩, fun q => absurd hx0 q⟩))
  refine wm _ _ _ (hm _ _ (by rw [rf_c_ne (by decide) (by decide), h1.r (by unfold am_pers; omega)]) (by rw [rf_c_ne (by decide) (by decide)]; exact h1.2.2.2.2.2.2.2.1) _ (fun I2 h2 => ⟨x, I2, J1, rfl, rfl, hx7, fun _ => ?_, fun q => absurd hx0 q⟩))
  exact am_oi_0 (am_R_ps (am_R_rf (am_R_ps r h1) x) (rf_m_ps h2)) rfl
/-- both do it -/
theorem op_hd (r : am_R S I P n l s u tp) {mc mm dc dm u' : Nat} {ac am : List Value} (v : Int32) (hv0 : ¬ v < 0) (k77 : ∀ j, 77 ≤ j → kp' j = I 126 j) (wc : ∀ I J (Q : Option Value → am_H → Prop), am_ev pr (d + 59) dc ac (S, I, J, P) (an_c S P Q) → am_ev pr (d + 60) mc ac (S, I, J, P) Q) (wm : ∀ I J (Q : Option Value → am_H → Prop), am_ev pr (d + 59) dm am (S, I, J, P) (an_m S P Q) → am_ev pr (d + 60) mm am (S, I, J, P) Q) (hc : ∀ Q : Option Value → am_H → Prop, (∀ I' J', (∀ a, ¬ (65 ≤ a ∧ a ≤ 72) → a ≠ 90 → a ≠ 91 → ¬ (109 ≤ a ∧ a ≤ 119) → I' a = I a) → HC I' kp' lf n l s u' → Q (some (.int v)) (S, I', J', P)) → am_ev pr (d + 59) dc ac (S, I, J, P) Q) (hm : ∀ I1 J1, HM I1 (I 126) (I 141) u → ∀ Q : Option Value → am_H → Prop, (∀ I2, (∀ a, a ≠ 124 → a ≠ 126 → a ≠ 141 → a ≠ 136 → ¬ (138 ≤ a ∧ a ≤ 140) → I2 a = I1 a) → (∀ q, (q < 22 ∨ 25 < q) → q ≠ 35 → I2 124 q = I1 124 q) → HM I2 kp' lf u' → Q (some (.int v)) (S, I2, J1, P)) → am_ev pr (d + 59) dm am (S, I1, J1, P) Q) : am_op pr (d + 60) S I J P mc ac mm am := by
  have h7 : -7 < v := Int32.lt_of_lt_of_le (by decide) (Int32.not_lt.mp hv0)
  refine wc _ _ _ (hc _ (fun I1 J1 h1 hC => ⟨v, I1, J1, rfl, rfl, h7, fun q => absurd q hv0, fun _ => ⟨v, rfl, ?_⟩⟩))
  have e1 : ∀ a, a ≠ 64 → ¬ (65 ≤ a ∧ a ≤ 72) → a ≠ 90 → a ≠ 91 → ¬ (109 ≤ a ∧ a ≤ 119) → am_u I1 64 16 0 a = I a := fun a a0 a1 a2 a3 a4 => by rw [am_u_ne a0, h1 a a1 a2 a3 a4]
  refine wm _ _ _ (hm _ _ ⟨e1 126 (by decide) (by decide) (by decide) (by decide) (by decide), ?_, ?_⟩ _ (fun I2 h2 h3 hM => ⟨v, I2, J1, rfl, rfl, h7, fun q => absurd q hv0, fun _ => ?_⟩))
  · rw [e1 124 (by decide) (by decide) (by decide) (by decide) (by decide)]; exact r.past.2.2.1
  · rw [e1 141 (by decide) (by decide) (by decide) (by decide) (by decide)]; exact fun _ _ _ _ => rfl
  · have e2 : ∀ a, a ≠ 64 → a ≠ 124 → a ≠ 126 → a ≠ 141 → a ≠ 136 → ¬ (138 ≤ a ∧ a ≤ 140) → ¬ (65 ≤ a ∧ a ≤ 72) → a ≠ 90 → a ≠ 91 → ¬ (109 ≤ a ∧ a ≤ 119) → am_u I2 124 0 0 a = I a := fun a b0 b1 b2 b3 b4 b5 b6 b7 b8 b9 => by rw [am_u_ne b1, h2 a b1 b2 b3 b4 b5, e1 a b0 b6 b7 b8 b9]
    have e3 : ∀ a, a ≠ 64 → a ≠ 124 → a ≠ 126 → a ≠ 141 → a ≠ 136 → ¬ (138 ≤ a ∧ a ≤ 140) → am_u I2 124 0 0 a = I1 a := fun a b0 b1 b2 b3 b4 b5 => by rw [am_u_ne b1, h2 a b1 b2 b3 b4 b5, am_u_ne b0]
    have e64 : ∀ q, q ≠ 16 → am_u I2 124 0 0 64 q = I 64 q := fun q hq => by rw [am_u_ne (by decide), h2 64 (by decide) (by decide) (by decide) (by decide) (by decide), am_u_at hq, h1 64 (by decide) (by decide) (by decide) (by decide)]
    have e124 : ∀ q, (q < 22 ∨ 25 < q) → q ≠ 35 → q ≠ 0 → am_u I2 124 0 0 124 q = I 124 q := fun q a1 a2 a3 => by rw [am_u_at a3, h3 q a1 a2, e1 124 (by decide) (by decide) (by decide) (by decide) (by decide)]
    refine am_oi_0 (am_R_hands (kp' := kp') (lf := lf) (u' := u') r ?_ ?_ k77 (fun a ha => e2 a (by omega) (by omega) (by omega) (by omega) (by omega) (by omega) (by omega) (by omega) (by omega) (by omega)) ⟨e64 13 (by decide), e64 14 (by decide), ?_⟩ ⟨am_u_self, e124 6 (by omega) (by decide) (by decide), e124 13 (by omega) (by decide) (by decide), e124 14 (by omega) (by decide) (by decide), e124 40 (by omega) (by decide) (by decide), e124 48 (by omega) (by decide) (by decide)⟩) rfl
    · obtain ⟨c1, c2, c3, c4⟩ := hC
      refine ⟨am_HR_cg 65 (fun a b1 b2 => e3 a (by omega) (by omega) (by omega) (by omega) (by omega) (by omega)) rfl c1, c2, ?_, ?_⟩
      · rw [e3 90 (by decide) (by decide) (by decide) (by decide) (by decide) (by decide)]; exact c3
      · rw [e3 91 (by decide) (by decide) (by decide) (by decide) (by decide) (by decide)]; exact c4
    · obtain ⟨m1, m2, m3⟩ := hM
      refine ⟨by rw [am_u_ne (by decide)]; exact m1, by rw [am_u_at (by decide)]; exact m2, by rw [am_u_ne (by decide)]; exact m3⟩
    · rw [am_u_ne (by decide), h2 64 (by decide) (by decide) (by decide) (by decide) (by decide), am_u_self]
theorem nI_nn {x : Int32} {v : Nat} (h : x = nI v) (hv : v < 2 ^ 31) : ¬ x < 0 := by rw [h]; exact nI_pos hv
/-- go -/
theorem op_15 (r : am_R S I P n l s u tp) {x : Int32} : am_op pr (d + 60) S I J P 112 [.ref 64, .int x] 252 [.ref 124, .int x] := by
  have hr := r.hr
  have n7 := hr.n7
  have L := r.L
  rcases am_pk7 x n7 with ⟨m, hm, rfl⟩ | hx
  · refine op_hd (kp' := g_go (I 126) m) (lf := g_kp (I 141) u (I 126) 1) (u' := g_m u + 1) r (1 - I 126 (35 + m)) ?_ (fun j hj => if_neg (by omega)) (fun _ _ _ h => c112 L h) (fun _ _ _ h => c252 L h) (fun Q k => c102 L r.hc hm (fun I' f hC => k I' J (fun a a1 a2 a3 a4 => f a (by omega) a2 a3) hC)) (fun I1 J1 hM Q k => c253 L hM r.past.1 hr.kn n7 hm (fun I2 f1 f2 hM2 => k I2 (fun a a1 a2 a3 _ _ => f1 a a1 a2 a3) (fun q _ hq => f2 q hq) hM2))
    rcases hr.k01 m hm with q | q <;> rw [q] <;> decide
  · exact op_ng r (-2) (by decide) (by decide) (fun _ _ _ h => c112 L h) (fun _ _ _ h => c252 L h) (fun Q k => c102n L hr hx (k I J (am_ps_0 I))) (fun I1 J1 e _ Q k => c253n L (by rw [e]; exact hr.kn) n7 hx (k I1 (am_ps_0 I1)))
/-- pass -/
theorem op_17 (r : am_R S I P n l s u tp) : am_op pr (d + 60) S I J P 114 [.ref 64] 256 [.ref 124] := by
  have hr := r.hr
  have n7 := hr.n7
  have L := r.L
  obtain ⟨v, hv, ev⟩ := hr.dr
  by_cases hv2 : v < 999
  · refine op_hd (kp' := g_pa (I 126) n) (lf := g_kp (I 141) u (I 126) 3) (u' := g_m u + 1) r (nI n - m_hm (I 126) n) ?_ (fun j hj => (g_pa_k ev).1 j (by omega) (by omega)) (fun _ _ _ h => c114 L h) (fun _ _ _ h => c256 L h) (fun Q k => c104 L r.hc ev hv2 (fun I' f hC => k I' J (fun a a1 a2 a3 a4 => f a (by omega) (by omega) a2 a3) hC)) (fun I1 J1 hM Q k => c257 L hM r.past.1 hr.kn n7 ev hv2 (fun I2 f1 f2 hM2 => k I2 (fun a a1 a2 a3 _ _ => f1 a a1 a2 a3) (fun q _ hq => f2 q hq) hM2))
    obtain ⟨a, b, e1, e2, -⟩ := am_came n hr.k01
    rw [e2, am_nsub (by omega)]
    exact nI_pos (by omega)
  · have ev2 : I 126 43 = nI 999 := by rw [ev]; congr 1; omega
    exact op_ng r (-3) (by decide) (by decide) (fun _ _ _ h => c114 L h) (fun _ _ _ h => c256 L h) (fun Q k => c104n L hr ev2 (k I J (am_ps_0 I))) (fun I1 J1 e _ Q k => c257n L (by rw [e]; exact ev2) (k I1 (am_ps_0 I1)))
/-- put -/
theorem op_14 (r : am_R S I P n l s u tp) {x : Int32} : am_op pr (d + 60) S I J P 110 [.ref 64, .int x] 247 [.ref 124, .int x] := by
  have hr := r.hr
  have n7 := hr.n7
  have L := r.L
  obtain ⟨lw, hx⟩ := r.lw
  have hlw := hx.m hr.l6
  rcases am_pk5 x with ⟨b, hb, rfl⟩ | hx5
  · by_cases hc : g_ca (I 126) n (lw.map Prod.snd) b
    · refine op_hd (kp' := g_put (I 126) b) (lf := g_kp (I 141) u (I 126) 0) (u' := g_m u + 1) r (g_vF (I 126) n (lw.map Prod.snd) b) ?_ (fun j hj => if_neg (by omega)) (fun _ _ _ h => c110 L h) (fun _ _ _ h => c247 L h) (fun Q k => c100 L r.hc hx hb (fun _ I' J' f hC => k I' J' (fun a a1 a2 a3 a4 => f a (by omega) a2 a3 (by omega) (by omega) (by omega)) hC) (fun q => absurd hc q)) (fun I1 J1 hM Q k => c248 L hM r.past.1 hr.kn n7 hlw hb (fun _ I2 f1 f2 hM2 => k I2 f1 f2 hM2) (fun q => absurd hc q))
      obtain ⟨x, x1, x2⟩ := am_sum_nn (c := 9) (f := fun m => if am_bit (m_fa (I 126) (m_can (I 126) n (lw.map Prod.snd) 140) (m_can (I 126) n (lw.map Prod.snd) 139) n b (m_all n)) m = 1 then m_can (I 126) n (lw.map Prod.snd) 138 (m * 5 + b) else 0) n (fun m hm => by
        by_cases z : am_bit (m_fa (I 126) (m_can (I 126) n (lw.map Prod.snd) 140) (m_can (I 126) n (lw.map Prod.snd) 139) n b (m_all n)) m = 1
        · obtain ⟨y, y1, y2⟩ := a_sp_9 (lw := lw.map Prod.snd) (b := b) hr hm
          exact ⟨y, y1, (if_pos z).trans (((m_can_ld (I 126) n (lw.map Prod.snd) (n * 5)).sp hb hm).trans y2)⟩
        · exact ⟨0, by decide, if_neg z⟩)
      exact nI_nn (x := g_vF (I 126) n (lw.map Prod.snd) b) x2 (by omega)
    · exact op_ng r (-3) (by decide) (by decide) (fun _ _ _ h => c110 L h) (fun _ _ _ h => c247 L h) (fun Q k => c100 L r.hc hx hb (fun q => absurd q hc) (fun _ I' J' f => k I' J' f.ps)) (fun I1 J1 e e2 Q k => c248 (lf := I1 141) (u := u) L ⟨e, e2.trans r.past.2.2.1, fun _ _ _ _ => rfl⟩ r.past.1 hr.kn n7 hlw hb (fun q => absurd q hc) (fun _ I2 f => k I2 f.ps))
  · exact op_ng r (-1) (by decide) (by decide) (fun _ _ _ h => c110 L h) (fun _ _ _ h => c247 L h) (fun Q k => c100n hx5 (k I J (am_ps_0 I))) (fun I1 J1 e _ Q k => c248n hx5 (k I1 (am_ps_0 I1)))
/-- sway -/
theorem op_16 (r : am_R S I P n l s u tp) {x y z : Int32} : am_op pr (d + 60) S I J P 113 [.ref 64, .int x, .int y, .int z] 254 [.ref 124, .int x, .int y, .int z] := by
  have hr := r.hr
  have n7 := hr.n7
  have L := r.L
  by_cases hyes : ∃ m b w, m < n ∧ b < 5 ∧ w ≤ 9 ∧ x = nI m ∧ y = nI b ∧ z = nI w ∧ ¬ I 126 (m * 5 + b) = nI w
  · obtain ⟨m, b, w, hm, hb, hw, rfl, rfl, rfl, hne⟩ := hyes
    obtain ⟨v, v1, v2⟩ := hr.wr (m * 5 + b) (by omega)
    exact op_hd (kp' := g_sw (I 126) (m * 5 + b) (nI w)) (lf := g_kp (I 141) u (I 126) 2) (u' := g_m u + 1) r (I 126 (m * 5 + b)) (nI_nn v2 (by omega)) (fun j hj => if_neg (by omega)) (fun _ _ _ h => c113 L h) (fun _ _ _ h => c254 L h) (fun Q k => c103 L r.hc hm hb hw hne (fun I' f hC => k I' J (fun a a1 a2 a3 a4 => f a (by omega) a2 a3) hC)) (fun I1 J1 hM Q k => c255 L hM r.past.1 hr.kn n7 hm hb hw hne (fun I2 f1 f2 hM2 => k I2 (fun a a1 a2 a3 _ _ => f1 a a1 a2 a3) (fun q _ hq => f2 q hq) hM2))
  · have hno : ∀ m b, m < n → b < 5 → x = nI m → y = nI b → 0 ≤ z ∧ z ≤ 9 → I 126 (m * 5 + b) = z := by
      intro m b hm hb hx hy hz
      apply Classical.byContradiction
      intro q
      obtain ⟨w, hw, rfl⟩ := nI_of2 (M := 9) (n := 9) (by decide) (Int32.not_lt.mpr hz.1) hz.2
      exact hyes ⟨m, b, w, hm, hb, hw, hx, hy, rfl, q⟩
    have key : ∀ v : Int32, v < 0 → -7 < v → ((¬ ((0 ≤ y ∧ y < 5) ∧ 0 ≤ z ∧ z ≤ 9)) → v = -1) → (((0 ≤ y ∧ y < 5) ∧ 0 ≤ z ∧ z ≤ 9) → ¬ (0 ≤ x ∧ x < nI n) → v = -2) → (((0 ≤ y ∧ y < 5) ∧ 0 ≤ z ∧ z ≤ 9) → (0 ≤ x ∧ x < nI n) → v = -3) → am_op pr (d + 60) S I J P 113 [.ref 64, .int x, .int y, .int z] 254 [.ref 124, .int x, .int y, .int z] := by
      intro v v1 v2 q1 q2 q3
      have q4 : ∀ m b, m < n → b < 5 → x = nI m → y = nI b → 0 ≤ z ∧ z ≤ 9 → v = -3 := fun m b hm hb hx hy hz => q3 ⟨by rw [hy]; exact ⟨nI_pos' (by omega), nI_lt (b := 5) hb (by decide)⟩, hz⟩ (by rw [hx]; exact ⟨nI_pos' (by omega), nI_lt hm (by omega)⟩)
      refine op_ng r v v1 v2 (fun _ _ _ h => c113 L h) (fun _ _ _ h => c254 L h) (fun Q k => c103n L hr (fun a => ?_) (fun a b => ?_) (fun m b hm hb hx hy hz _ => ?_) hno) (fun I1 J1 e _ Q k => c255n L e hr.kn n7 (fun a => ?_) (fun a b => ?_) (fun m b hm hb hx hy hz _ => ?_) hno)
      · rw [← q1 a]; exact k I J (am_ps_0 I)
      · rw [← q2 a b]; exact k I J (am_ps_0 I)
      · rw [← q4 m b hm hb hx hy hz]; exact k I J (am_ps_0 I)
      · rw [← q1 a]; exact k I1 (am_ps_0 I1)
      · rw [← q2 a b]; exact k I1 (am_ps_0 I1)
      · rw [← q4 m b hm hb hx hy hz]; exact k I1 (am_ps_0 I1)
    by_cases hyz : (0 ≤ y ∧ y < 5) ∧ 0 ≤ z ∧ z ≤ 9
    · by_cases hx : 0 ≤ x ∧ x < nI n
      · exact key (-3) (by decide) (by decide) (fun q => absurd hyz q) (fun _ q => absurd hx q) (fun _ _ => rfl)
      · exact key (-2) (by decide) (by decide) (fun q => absurd hyz q) (fun _ _ => rfl) (fun _ q => absurd q hx)
    · exact key (-1) (by decide) (by decide) (fun _ => rfl) (fun q => absurd q hyz) (fun q => absurd q hyz)
end
