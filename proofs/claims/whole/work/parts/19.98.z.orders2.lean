/-! orders run: the class obeys -/
/-- a deed that can be: its head, its numbers; what it gives, what it leaves -/
def o_D (n : Nat) (lw : Option (List Cl)) (kp lf : Nat → Int32) (u hd : Nat) (x y z v : Int32) (kp' lf' : Nat → Int32) (u' : Nat) : Prop :=
  (hd = 21 ∧ ∃ b, b < 5 ∧ x = nI b ∧ g_ca kp n lw b ∧ v = g_vF kp n lw b ∧ kp' = g_put kp b ∧ lf' = g_kp lf u kp 0 ∧ u' = g_m u + 1)
  ∨ (hd = 22 ∧ ∃ m, m < n ∧ x = nI m ∧ v = 1 - kp (35 + m) ∧ kp' = g_go kp m ∧ lf' = g_kp lf u kp 1 ∧ u' = g_m u + 1)
  ∨ (hd = 23 ∧ ∃ m b w, m < n ∧ b < 5 ∧ w ≤ 9 ∧ x = nI m ∧ y = nI b ∧ z = nI w ∧ ¬ kp (m * 5 + b) = nI w ∧ v = kp (m * 5 + b) ∧ kp' = g_sw kp (m * 5 + b) (nI w) ∧ lf' = g_kp lf u kp 2 ∧ u' = g_m u + 1)
  ∨ (hd = 26 ∧ ∃ t, kp 43 = nI t ∧ t < 999 ∧ v = nI n - m_hm kp n ∧ kp' = g_pa kp n ∧ lf' = g_kp lf u kp 3 ∧ u' = g_m u + 1)
/-- what lasts while orders run: the row, the past, how many, how many orders were done, what the latest put had -/
abbrev OS : Type := (Nat → Int32) × (Nat → Int32) × Nat × Int32 × Int32
def o_e (n : Nat) (lw : Option (List Cl)) (σ : OS) : Nat → Nat → Int32 := o_w σ.1 n σ.2.2.2.1 σ.2.2.2.2 (g_vF σ.1 n lw)
/-- a clause run once -/
def o_T (n : Nat) (lw : Option (List Cl)) (x : Cl) (σ σ' : OS) : Prop :=
  (e_if (o_e n lw σ) x.2.2.2 = false ∧ σ' = σ) ∨ (e_if (o_e n lw σ) x.2.2.2 = true ∧ ∃ a b c v kp' lf' u', o_v (o_e n lw σ) x.2.1 0 = some a ∧ o_v (o_e n lw σ) x.2.1 1 = some b ∧ o_v (o_e n lw σ) x.2.1 2 = some c ∧ o_D n lw σ.1 σ.2.1 σ.2.2.1 x.1 a b c v kp' lf' u' ∧ ¬ v < 0 ∧ σ' = (kp', lf', u', σ.2.2.2.1 + 1, if x.1 = 21 then v else σ.2.2.2.2))
section
variable {pr : am_Pr} {d : Nat} {S : List (Nat × Nat)} {I I' : Nat → Nat → Int32} {J : Nat → Nat → Int64} {P : Nat → Nat → Option Nat} {Q : Option Value → am_H → Prop} {n l s u : Nat} {kp lf : Nat → Int32} {lw : Option (Nat × List Cl)} {hd : Nat} {x y z : Int32}
/-- what running orders leaves alone -/
def o_F (I I' : Nat → Nat → Int32) : Prop := ∀ a, (a < 65 ∨ 72 < a) → a ≠ 90 → a ≠ 91 → a ≠ 108 → ¬ (109 ≤ a ∧ a ≤ 119) → I' a = I a
theorem o_F.tr {I1 I2 : Nat → Nat → Int32} (a : o_F I I1) (b : o_F I1 I2) : o_F I I2 := fun q h1 h2 h3 h4 h5 => (b q h1 h2 h3 h4 h5).trans (a q h1 h2 h3 h4 h5)
theorem g_vF_nn (hr : am_HR I 65 kp n l s) {lw : Option (List Cl)} {b : Nat} (hb : b < 5) : ¬ g_vF kp n lw b < 0 := by
  obtain ⟨x, x1, x2⟩ := am_sum_nn (c := 9) (f := fun m => if am_bit (m_fa kp (m_can kp n lw 140) (m_can kp n lw 139) n b (m_all n)) m = 1 then m_can kp n lw 138 (m * 5 + b) else 0) n (fun m hm => by
    by_cases z : am_bit (m_fa kp (m_can kp n lw 140) (m_can kp n lw 139) n b (m_all n)) m = 1
    · obtain ⟨y, y1, y2⟩ := a_sp_9 (lw := lw) (b := b) hr hm
      exact ⟨y, y1, (if_pos z).trans (((m_can_ld kp n lw (n * 5)).sp hb hm).trans y2)⟩
    · exact ⟨0, by decide, if_neg z⟩)
  have n7 := hr.n7
  exact nI_nn (x := g_vF kp n lw b) x2 (by omega)
/-- carryOut: done -/
theorem c99y (L : am_Lay S P) (h : HC I kp lf n l s u) (hx : am_lw S I P (P 70) kp l (kp 76) lw) {v : Int32} {kp' lf' : Nat → Int32} {u' : Nat} (D : o_D n (lw.map Prod.snd) kp lf u hd x y z v kp' lf' u') (k : ∀ I' J', o_F I I' → HC I' kp' lf' n l s u' → (∀ j, j ≠ 2 → I' 108 j = I 108 j) → I' 108 2 = (if hd = 21 then v else I 108 2) → ¬ v < 0 → Q (some (.int v)) (S, I', J', P)) : am_ev pr (d + 6) 99 [.ref 64, .int (nI (k_kind hd)), .int x, .int y, .int z] (S, I, J, P) Q := by
  have hr := h.1
  have n7 := hr.n7
  show am_wp pr (d + 6) 99 0 [(0, .ref 64), (1, .int (nI (k_kind hd))), (2, .int x), (3, .int y), (4, .int z)] [] _ _
  rcases D with ⟨rfl, b, hb, rfl, hc, rfl, rfl, rfl, rfl⟩ | ⟨rfl, m, hm, rfl, rfl, rfl, rfl, rfl⟩ | ⟨rfl, m, b, w, hm, hb, hw, rfl, rfl, rfl, hne, rfl, rfl, rfl, rfl⟩ | ⟨rfl, t, ht, ht9, rfl, rfl, rfl, rfl⟩
  · refine w99_0 rfl ?_
    refine w99_1_0 ?_
    refine w99_28 rfl ?_
    refine w99_29 (L.2 _ _ _ rfl) ?_
    refine w99_32 ?_
    refine w99_33 rfl ?_
    refine w99_34 rfl ?_
    refine w99_35 (k := c100 (d := d) L h hx hb (fun _ I' J' f hC => ?_) (fun q => absurd hc q))
    have nn := g_vF_nn (lw := lw.map Prod.snd) hr hb
    refine w99_38 (L.sh rfl) (by decide) ?_
    rw [show Int32.toNatClampNeg 2 = 2 from rfl]
    refine w99_39 rfl ?_
    refine w99_40 (L.2 _ _ _ rfl) ?_
    refine w99_43 ?_
    refine w99_44 (L.sh rfl) (by decide) ?_
    rw [show Int32.toNatClampNeg 2 = 2 from rfl, am_u_self]
    refine w99_45 ?_
    refine k _ J' (fun a a1 a2 a3 a4 a5 => ?_) ⟨?_, hC.2.1, ?_, ?_⟩ (fun j hj => ?_) ?_ nn
    · rw [am_u_ne a4]; exact f a (by omega) a2 a3 (by omega) (by omega) (by omega)
    · exact am_HR_cg 65 (fun a b1 b2 => am_u_ne (by omega)) rfl hC.1
    · rw [am_u_ne (by decide)]; exact hC.2.2.1
    · rw [am_u_ne (by decide)]; exact hC.2.2.2
    · rw [am_u_at hj, f 108 (by decide) (by decide) (by decide) (by decide) (by decide) (by decide)]
    · rw [am_u_self, if_pos rfl]
  · refine w99_0 rfl ?_
    refine w99_1_1 ?_
    refine w99_46 rfl ?_
    refine w99_47 rfl ?_
    refine w99_48 (k := c102 (d := d + 3) L h hm (fun I' f hC => ?_))
    have nn : ¬ (1 - kp (35 + m)) < 0 := by rcases hr.k01 m hm with q | q <;> rw [q] <;> decide
    refine w99_51 ?_
    exact k I' J (fun a a1 a2 a3 a4 a5 => f a (by omega) a2 a3) hC (fun j _ => by rw [f 108 (by decide) (by decide) (by decide)]) (by rw [f 108 (by decide) (by decide) (by decide), if_neg (by decide)]) nn
  · refine w99_0 rfl ?_
    refine w99_1_2 ?_
    refine w99_52 rfl ?_
    refine w99_53 rfl ?_
    refine w99_54 rfl ?_
    refine w99_55 rfl ?_
    refine w99_57 (k := c103 (d := d + 3) L h hm hb hw hne (fun I' f hC => ?_))
    obtain ⟨q, q1, q2⟩ := hr.wr (m * 5 + b) (by omega)
    have nn : ¬ kp (m * 5 + b) < 0 := nI_nn q2 (by omega)
    refine w99_60 ?_
    exact k I' J (fun a a1 a2 a3 a4 a5 => f a (by omega) a2 a3) hC (fun j _ => by rw [f 108 (by decide) (by decide) (by decide)]) (by rw [f 108 (by decide) (by decide) (by decide), if_neg (by decide)]) nn
  · refine w99_0 rfl ?_
    refine w99_1_d (Or.inr (by decide)) ?_
    refine w99_61 rfl ?_
    refine w99_62 (k := c104 (d := d + 3) L h ht ht9 (fun I' f hC => ?_))
    have nn : ¬ (nI n - m_hm kp n) < 0 := by
      obtain ⟨a, b, e1, e2, -⟩ := am_came n hr.k01
      rw [e2, am_nsub (by omega)]
      exact nI_pos (by omega)
    refine w99_65 ?_
    exact k I' J (fun a a1 a2 a3 a4 a5 => f a (by omega) (by omega) a2 a3) hC (fun j _ => by rw [f 108 (by decide) (by decide) (by decide) (by decide)]) (by rw [f 108 (by decide) (by decide) (by decide) (by decide), if_neg (by decide)]) nn
/-- carryOut: it can't be -/
theorem c99n (L : am_Lay S P) (h : HC I kp lf n l s u) (hx : am_lw S I P (P 70) kp l (kp 76) lw) (hh : hd = 21 ∨ hd = 22 ∨ hd = 23 ∨ hd = 26) (D : ¬ ∃ v kp' lf' u', o_D n (lw.map Prod.snd) kp lf u hd x y z v kp' lf' u') (k : ∀ v I' J', o_F I I' → v < 0 → Q (some (.int v)) (S, I', J', P)) : am_ev pr (d + 6) 99 [.ref 64, .int (nI (k_kind hd)), .int x, .int y, .int z] (S, I, J, P) Q := by
  have hr := h.1
  have n7 := hr.n7
  show am_wp pr (d + 6) 99 0 [(0, .ref 64), (1, .int (nI (k_kind hd))), (2, .int x), (3, .int y), (4, .int z)] [] _ _
  rcases hh with rfl | rfl | rfl | rfl
  · refine w99_0 rfl ?_
    refine w99_1_0 ?_
    refine w99_28 rfl ?_
    refine w99_29 (L.2 _ _ _ rfl) ?_
    refine w99_32 ?_
    refine w99_33 rfl ?_
    refine w99_34 rfl ?_
    have fin : ∀ v I' J', tb_fr I I' → v < 0 → ∀ lvv, am_ld1 lvv 0 = some (.ref 64) → am_wp pr (d + 6) 99 38 lvv [.int v, .int 2, .ref 108] (S, I', J', P) Q := by
      intro v I' J' f hv lvv l0
      refine w99_38 (L.sh rfl) (by decide) ?_
      rw [show Int32.toNatClampNeg 2 = 2 from rfl]
      refine w99_39 l0 ?_
      refine w99_40 (L.2 _ _ _ rfl) ?_
      refine w99_43 ?_
      refine w99_44 (L.sh rfl) (by decide) ?_
      rw [show Int32.toNatClampNeg 2 = 2 from rfl, am_u_self]
      refine w99_45 ?_
      exact k v _ J' (fun a a1 a2 a3 a4 a5 => by rw [am_u_ne a4]; exact f a (by omega)) hv
    rcases am_pk5 x with ⟨b, hb, rfl⟩ | hx5
    · refine w99_35 (k := c100 (d := d) L h hx hb (fun hc => absurd ⟨_, _, _, _, Or.inl ⟨rfl, b, hb, rfl, hc, rfl, rfl, rfl, rfl⟩⟩ D) (fun _ I' J' f => ?_))
      exact fin _ I' J' f (by decide) _ rfl
    · refine w99_35 (k := c100n (d := d + 3) hx5 ?_)
      exact fin _ I J (fun _ _ => rfl) (by decide) _ rfl
  · refine w99_0 rfl ?_
    refine w99_1_1 ?_
    refine w99_46 rfl ?_
    refine w99_47 rfl ?_
    have hm : ¬ (0 ≤ x ∧ x < nI n) := by
      intro q
      rcases am_pk7 x n7 with ⟨m, hm, rfl⟩ | w
      · exact D ⟨_, _, _, _, Or.inr (Or.inl ⟨rfl, m, hm, rfl, rfl, rfl, rfl, rfl⟩)⟩
      · exact w q
    refine w99_48 (k := c102n (d := d + 3) L hr hm ?_)
    refine w99_51 ?_
    exact k _ I J (fun _ _ _ _ _ _ => rfl) (by decide)
  · refine w99_0 rfl ?_
    refine w99_1_2 ?_
    refine w99_52 rfl ?_
    refine w99_53 rfl ?_
    refine w99_54 rfl ?_
    refine w99_55 rfl ?_
    have hno : ∀ m b, m < n → b < 5 → x = nI m → y = nI b → 0 ≤ z ∧ z ≤ 9 → kp (m * 5 + b) = z := by
      intro m b hm hb hx hy hz
      apply Classical.byContradiction
      intro q
      obtain ⟨w, hw, rfl⟩ := nI_of2 (M := 9) (n := 9) (by decide) (Int32.not_lt.mpr hz.1) hz.2
      exact D ⟨_, _, _, _, Or.inr (Or.inr (Or.inl ⟨rfl, m, b, w, hm, hb, hw, hx, hy, rfl, q, rfl, rfl, rfl, rfl⟩))⟩
    refine w99_57 (k := c103n (d := d + 3) L hr (fun _ => ?_) (fun _ _ => ?_) (fun m b _ _ _ _ _ _ => ?_) hno)
    · refine w99_60 ?_
      exact k _ I J (fun _ _ _ _ _ _ => rfl) (by decide)
    · refine w99_60 ?_
      exact k _ I J (fun _ _ _ _ _ _ => rfl) (by decide)
    · refine w99_60 ?_
      exact k _ I J (fun _ _ _ _ _ _ => rfl) (by decide)
  · refine w99_0 rfl ?_
    refine w99_1_d (Or.inr (by decide)) ?_
    refine w99_61 rfl ?_
    obtain ⟨t, t9, ht⟩ := hr.dr
    have ht2 : kp 43 = nI 999 := by
      by_cases q : t < 999
      · exact absurd ⟨_, _, _, _, Or.inr (Or.inr (Or.inr ⟨rfl, t, ht, q, rfl, rfl, rfl, rfl⟩))⟩ D
      · rw [ht]; congr 1; omega
    refine w99_62 (k := c104n (d := d + 3) L hr ht2 ?_)
    refine w99_65 ?_
    exact k _ I J (fun _ _ _ _ _ _ => rfl) (by decide)
/-- what a clause tells does not change by a row of votes that nobody asked for -/
theorem o_v_DX {q : Int32} {w1 w2 : Nat → Nat → Int32} {es : List Ex} (hD : ∀ (j : Nat) (e : Ex), es[j]? = some e → k_DX q e) (hw : ∀ c k, k_dm q c k → w1 c k = w2 c k) (j : Nat) : o_v w1 es j = o_v w2 es j := by
  unfold o_v
  cases hc : es[j]? with
  | none => rfl
  | some e =>
    show (e.1 w1).map _ = (e.1 w2).map _
    rw [hD j e hc w1 w2 hw]
theorem e_if_DT {q : Int32} {w1 w2 : Nat → Nat → Int32} {te : Option Te} (hD : ∀ t, te = some t → k_DT q t) (hw : ∀ c k, k_dm q c k → w1 c k = w2 c k) : e_if w1 te = e_if w2 te := by
  cases te with
  | none => rfl
  | some t =>
    show (t.1 w1).getD false = (t.1 w2).getD false
    rw [hD t rfl w1 w2 hw]
/-- runOnce -/
theorem c97 (L : am_Lay S P) {σ : OS} (h : HC I σ.1 σ.2.1 n l s σ.2.2.1) (hx : am_lw S I P (P 70) σ.1 l (σ.1 76) lw) (h1 : I 108 1 = σ.2.2.2.1) (h2 : I 108 2 = σ.2.2.2.2) {xs : List Cl} (hTI : am_TI S I P 101 xs) {c : Nat} {X : Cl} (hX : xs[c]? = some X) (hcl : k_cl true X) (hDC : k_DC (I 101 2) X) (ky : ∀ σ' I' J', o_T n (lw.map Prod.snd) X σ σ' → o_F I I' → HC I' σ'.1 σ'.2.1 n l s σ'.2.2.1 → I' 108 1 = σ'.2.2.2.1 → I' 108 2 = σ'.2.2.2.2 → Q (some (.int 1)) (S, I', J', P)) (kn : (¬ ∃ σ', o_T n (lw.map Prod.snd) X σ σ') → ∀ I' J', o_F I I' → Q (some (.int 0)) (S, I', J', P)) : am_ev pr (d + 7) 97 [.ref 64, .ref 101, .int (nI c)] (S, I, J, P) Q := by
  obtain ⟨N, z, q1, q2, q3, q4, q5, q6, q7⟩ := id hTI
  have hc : c < xs.length := (List.getElem?_eq_some_iff.mp hX).1
  have hr := h.1
  have n7 := hr.n7
  obtain ⟨cl1, cl2, cl3, cl4⟩ := id hcl
  rw [if_pos rfl] at cl1
  show am_wp pr (d + 7) 97 0 [(0, .ref 64), (1, .ref 101), (2, .int (nI c))] [] _ _
  refine w97_0 rfl ?_
  refine w97_1 (fun hQ => absurd hQ (nI_pos (by omega))) (fun _ => ?_)
  refine w97_4 rfl ?_
  refine w97_5 ?_
  refine w97_7 (fun _ => ?_) (fun hQ => absurd (nI_lt (b := 12) (by omega) (by decide)) hQ)
  refine w97_12 rfl ?_
  refine w97_13 rfl ?_
  refine w97_14 ?_
  refine w97_17 (k := c98 (d := d + 1) L hr hx (fun I1 J1 f1 g0 g1 g2 g3 g4 g5 g6 => ?_))
  have hTC : am_TC (I1 102) (I1 103) (I1 104) (I1 105) (I1 106) (I1 107) z c X := by
    rw [f1 102 (by decide) (by decide), f1 103 (by decide) (by decide), f1 104 (by decide) (by decide), f1 105 (by decide) (by decide), f1 106 (by decide) (by decide), f1 107 (by decide) (by decide)]
    exact q7 c X hX
  have z1 : I1 101 1 = nI z := by rw [f1 101 (by decide) (by decide)]; exact q6
  have F1 : o_F I I1 := fun a _ _ _ a4 a5 => f1 a a4 (by omega)
  have hC1 : HC I1 σ.1 σ.2.1 n l s σ.2.2.1 := ⟨am_HR_cg 65 (fun a b1 b2 => f1 a (by omega) (by omega)) rfl hr, h.2.1, by rw [f1 90 (by decide) (by decide)]; exact h.2.2.1, by rw [f1 91 (by decide) (by decide)]; exact h.2.2.2⟩
  /- the class's words, and those of the reference -/
  obtain ⟨w, hw⟩ : ∃ w : Nat → Nat → Int32, w = fun c k => if c = 20 then I1 108 (5 + k) else o_e n (lw.map Prod.snd) σ c k := ⟨_, rfl⟩
  have hww : ∀ c k, k_dm (I 101 2) c k → w c k = o_e n (lw.map Prod.snd) σ c k := by
    intro c k hck
    rw [hw]
    by_cases e : c = 20
    · obtain ⟨e1, e2⟩ := hck.2.2 e
      show (if c = 20 then _ else _) = _
      rw [if_pos e, g5 k e1 e2, e]
      rfl
    · show (if c = 20 then _ else _) = _
      rw [if_neg e]
  have hif := e_if_DT (te := X.2.2.2) hDC.2 hww
  have hov := fun j => o_v_DX (es := X.2.1) hDC.1 hww j
  have KE : ∀ I2 : Nat → Nat → Int32, (∀ a, a ≠ 119 → I2 a = I1 a) → k_E true S (am_u I2 119 0 0) P 101 108 z w := by
    intro I2 e2
    refine ⟨L, ⟨N, q1, q5, q2⟩, am_u_self, L.sh rfl, fun c k hk => ?_⟩
    rw [am_u_ne (by decide), e2 108 (by decide), hw]
    unfold k_ok at hk
    rw [if_pos rfl] at hk
    obtain ⟨k1, k2, k3, k4⟩ := hk
    rcases (show c = 14 ∨ c = 15 ∨ c = 16 ∨ c = 17 ∨ c = 18 ∨ c = 19 ∨ c = 20 by omega) with rfl | rfl | rfl | rfl | rfl | rfl | rfl
    · exact g6 k (by have := k3 rfl; omega)
    · exact g3
    · exact g0
    · exact g1.trans h1
    · exact g2.trans h2
    · exact g4
    · rfl
  have e119 : ∀ (I2 : Nat → Nat → Int32) (b : Int32), (∀ a, a ≠ 119 → I2 a = I1 a) → ∀ a, a ≠ 119 → am_u I2 119 0 b a = I1 a := fun I2 b e2 a ha => by rw [am_u_ne ha]; exact e2 a ha
  /- behind the test -/
  have k58 : e_if (o_e n (lw.map Prod.snd) σ) X.2.2.2 = true → ∀ (I2 : Nat → Nat → Int32) (J2 : Nat → Nat → Int64), (∀ a, a ≠ 119 → I2 a = I1 a) → ∀ lvv, am_ld1 lvv 0 = some (.ref 64) → am_ld1 lvv 1 = some (.ref 101) → am_ld1 lvv 2 = some (.int (nI c)) → am_ld1 lvv 3 = some (.ref 119) → am_wp pr (d + 7) 97 58 lvv [] (S, I2, J2, P) Q := by
    intro hyes I2 J2 e2 lvv l0 l1 l2 l3
    have e3 : nI c * 3 = nI (c * 3) := pk_mul c 3
    have tc : ∀ I2 : Nat → Nat → Int32, (∀ a, a ≠ 119 → I2 a = I1 a) → am_TC (I2 102) (I2 103) (I2 104) (I2 105) (I2 106) (I2 107) z c X := fun I2 e2 => by
      rw [e2 102 (by decide), e2 103 (by decide), e2 104 (by decide), e2 105 (by decide), e2 106 (by decide), e2 107 (by decide)]
      exact hTC
    have zz : ∀ I2 : Nat → Nat → Int32, (∀ a, a ≠ 119 → I2 a = I1 a) → I2 101 1 = nI z := fun I2 e2 => by rw [e2 101 (by decide)]; exact z1
    refine w97_58 l3 ?_
    refine w97_59 l1 ?_
    refine w97_60 l1 ?_
    refine w97_61 (L.2 _ _ _ rfl) ?_
    refine w97_64 l2 ?_
    refine w97_65 ?_
    refine w97_66 ?_
    rw [e3]
    refine w97_67 (L.sh rfl) (am_in_nI (by omega) (by decide)) ?_
    rw [am_clN (by omega)]
    refine w97_68 l0 ?_
    refine w97_69 (L.2 _ _ _ rfl) ?_
    refine w97_72 (k := c25J (d := d + 5) (j := 0) (KE I2 e2) (zz I2 e2) (tc I2 e2) cl2 (by decide) (fun v0 b0 J3 hv0 => ?_))
    refine w97_75 ?_
    refine w97_77 l3 ?_
    refine w97_78 ?_
    rw [am_u_self]
    refine w97_81 ?_
    refine w97_83 l3 ?_
    refine w97_84 l1 ?_
    refine w97_85 l1 ?_
    refine w97_86 (L.2 _ _ _ rfl) ?_
    refine w97_89 l2 ?_
    refine w97_90 ?_
    refine w97_91 ?_
    rw [e3]
    refine w97_92 ?_
    refine w97_93 ?_
    rw [show nI (c * 3) + 1 = nI (c * 3 + 1) from nI_add _ 1]
    refine w97_94 (L.sh rfl) (am_in_nI (by omega) (by decide)) ?_
    rw [am_clN (by omega)]
    refine w97_95 l0 ?_
    refine w97_96 (L.2 _ _ _ rfl) ?_
    refine w97_99 (k := c25J (d := d + 5) (j := 1) (KE _ (e119 I2 b0 e2)) (zz _ (e119 I2 b0 e2)) (tc _ (e119 I2 b0 e2)) cl2 (by decide) (fun v1 b1 J4 hv1 => ?_))
    rw [am_u_uu]
    refine w97_102 ?_
    refine w97_104 rfl ?_
    refine w97_106 l3 ?_
    refine w97_107 ?_
    rw [am_u_self]
    refine w97_110 ?_
    refine w97_111 ?_
    refine w97_113 l3 ?_
    refine w97_114 l1 ?_
    refine w97_115 l1 ?_
    refine w97_116 (L.2 _ _ _ rfl) ?_
    refine w97_119 l2 ?_
    refine w97_120 ?_
    refine w97_121 ?_
    rw [e3]
    refine w97_122 ?_
    refine w97_123 ?_
    rw [show nI (c * 3) + 2 = nI (c * 3 + 2) from nI_add _ 2]
    refine w97_124 (L.sh rfl) (am_in_nI (by omega) (by decide)) ?_
    rw [am_clN (by omega)]
    refine w97_125 l0 ?_
    refine w97_126 (L.2 _ _ _ rfl) ?_
    refine w97_129 (k := c25J (d := d + 5) (j := 2) (KE _ (e119 I2 b1 e2)) (zz _ (e119 I2 b1 e2)) (tc _ (e119 I2 b1 e2)) cl2 (by decide) (fun v2 b2 J5 hv2 => ?_))
    rw [am_u_uu]
    rw [hov 0] at hv0
    rw [hov 1] at hv1
    rw [hov 2] at hv2
    have kd : am_u I2 119 0 b2 102 c = nI (k_kind X.1) := by rw [e119 I2 b2 e2 102 (by decide)]; exact hTC.1
    have hC2 : HC (am_u I2 119 0 b2) σ.1 σ.2.1 n l s σ.2.2.1 := ⟨am_HR_cg 65 (fun a a1 a2 => e119 I2 b2 e2 a (by omega)) rfl hC1.1, hC1.2.1, by rw [e119 I2 b2 e2 90 (by decide)]; exact hC1.2.2.1, by rw [e119 I2 b2 e2 91 (by decide)]; exact hC1.2.2.2⟩
    have hx2 : am_lw S (am_u I2 119 0 b2) P (P 70) σ.1 l (σ.1 76) lw := am_lw_cg hr.l6 (fun a ha => by rw [e119 I2 b2 e2 a (by omega), f1 a (by omega) (by omega)]) (fun _ _ => rfl) hx
    have F2 : o_F I (am_u I2 119 0 b2) := F1.tr (fun a _ _ _ _ a5 => e119 I2 b2 e2 a (by omega))
    have stop : (¬ ∃ σ', o_T n (lw.map Prod.snd) X σ σ') → ∀ lvv I' J', o_F I I' → am_wp pr (d + 7) 97 167 lvv [] (S, I', J', P) Q := by
      intro hn lvv I' J' hF
      refine w97_167 ?_
      refine w97_168 (by first | rfl | exact am_narrow_b _) ?_
      exact kn hn I' J' hF
    refine w97_132 ?_
    refine w97_134 rfl ?_
    refine w97_136 l3 ?_
    refine w97_137 ?_
    rw [am_u_self]
    refine w97_140 ?_
    refine w97_141 ?_
    by_cases hall : b0 = 0 ∧ b1 = 0 ∧ b2 = 0
    · obtain ⟨rfl, rfl, rfl⟩ := hall
      have y0 : o_v (o_e n (lw.map Prod.snd) σ) X.2.1 0 = some v0 := hv0.elim (fun q => q.1) (fun q => absurd q.2.1 (by decide))
      have y1 : o_v (o_e n (lw.map Prod.snd) σ) X.2.1 1 = some v1 := hv1.elim (fun q => q.1) (fun q => absurd q.2.1 (by decide))
      have y2 : o_v (o_e n (lw.map Prod.snd) σ) X.2.1 2 = some v2 := hv2.elim (fun q => q.1) (fun q => absurd q.2.1 (by decide))
      refine w97_143 rfl ?_
      refine w97_145 (fun hQ => absurd hQ (fun q => q (by decide))) (fun _ => ?_)
      refine w97_148 l0 ?_
      refine w97_149 l1 ?_
      refine w97_150 (L.2 _ _ _ rfl) ?_
      refine w97_153 l2 ?_
      refine w97_154 (L.sh rfl) (am_in_nI (by omega) (by decide)) ?_
      rw [am_clN (by omega), kd]
      refine w97_155 rfl ?_
      refine w97_157 rfl ?_
      refine w97_159 rfl ?_
      by_cases hD : ∃ v kp' lf' u', o_D n (lw.map Prod.snd) σ.1 σ.2.1 σ.2.2.1 X.1 v0 v1 v2 v kp' lf' u'
      · obtain ⟨v, kp', lf', u', hD⟩ := hD
        refine w97_161 (k := c99y (d := d) L hC2 hx2 hD (fun I3 J6 g1' g2' g3' g4' nn => ?_))
        have e108 : I3 108 1 = σ.2.2.2.1 := by rw [g3' 1 (by decide), e119 I2 0 e2 108 (by decide)]; exact g1.trans h1
        have e1082 : I3 108 2 = (if X.1 = 21 then v else σ.2.2.2.2) := by rw [g4', e119 I2 0 e2 108 (by decide), g2, h2]
        refine w97_164 (fun _ => ?_) (fun hQ => absurd (Int32.not_lt.mp nn) hQ)
        refine w97_169 l0 ?_
        refine w97_170 (L.2 _ _ _ rfl) ?_
        refine w97_173 ?_
        refine w97_174 ⟨rfl, rfl⟩ ?_
        refine w97_175 (L.sh rfl) (by decide) ?_
        rw [show Int32.toNatClampNeg 1 = 1 from rfl, e108]
        refine w97_176 ?_
        refine w97_177 ?_
        refine w97_178 (L.sh rfl) (by decide) ?_
        rw [show Int32.toNatClampNeg 1 = 1 from rfl]
        refine w97_179 ?_
        refine w97_180 (by first | rfl | exact am_narrow_b _) ?_
        refine ky (kp', lf', u', σ.2.2.2.1 + 1, if X.1 = 21 then v else σ.2.2.2.2) _ J6 (Or.inr ⟨hyes, v0, v1, v2, v, kp', lf', u', y0, y1, y2, hD, nn, rfl⟩) (F2.tr (g1'.tr (fun a _ _ _ a4 _ => am_u_ne a4))) ⟨?_, g2'.2.1, ?_, ?_⟩ am_u_self ?_
        · exact am_HR_cg 65 (fun a b1 b2 => am_u_ne (by omega)) rfl g2'.1
        · rw [am_u_ne (by decide)]; exact g2'.2.2.1
        · rw [am_u_ne (by decide)]; exact g2'.2.2.2
        · rw [am_u_at (by decide)]; exact e1082
      · have hn : ¬ ∃ σ', o_T n (lw.map Prod.snd) X σ σ' := by
          rintro ⟨σ', ⟨q, -⟩ | ⟨-, a, b, c', v, kp', lf', u', w1, w2, w3, w4, -, -⟩⟩
          · rw [hyes] at q; cases q
          · rw [y0] at w1
            rw [y1] at w2
            rw [y2] at w3
            cases w1
            cases w2
            cases w3
            exact hD ⟨v, kp', lf', u', w4⟩
        refine w97_161 (k := c99n (d := d) L hC2 hx2 (by rcases cl1 with q | q | q | q <;> rw [q.1] <;> simp) hD (fun v I3 J6 g1' nn => ?_))
        refine w97_164 (fun w => absurd nn (Int32.not_lt.mpr w)) (fun _ => ?_)
        exact stop hn _ I3 J6 (F2.tr g1')
    · have hn : ¬ ∃ σ', o_T n (lw.map Prod.snd) X σ σ' := by
        rintro ⟨σ', ⟨q, -⟩ | ⟨-, a, b, c', v, kp', lf', u', w1, w2, w3, w4, -, -⟩⟩
        · rw [hyes] at q; cases q
        · refine hall ⟨?_, ?_, ?_⟩
          · exact hv0.elim (fun q => q.2) (fun q => by rw [q.1] at w1; cases w1)
          · exact hv1.elim (fun q => q.2) (fun q => by rw [q.1] at w2; cases w2)
          · exact hv2.elim (fun q => q.2) (fun q => by rw [q.1] at w3; cases w3)
      have hb : ¬ (b0 ||| b1 ||| b2 = 0) := by
        have z0 : b0 = 0 ∨ b0 = 1 := hv0.elim (fun q => Or.inl q.2) (fun q => Or.inr q.2.1)
        have z1 : b1 = 0 ∨ b1 = 1 := hv1.elim (fun q => Or.inl q.2) (fun q => Or.inr q.2.1)
        have z2 : b2 = 0 ∨ b2 = 1 := hv2.elim (fun q => Or.inl q.2) (fun q => Or.inr q.2.1)
        rcases z0 with rfl | rfl <;> rcases z1 with rfl | rfl <;> rcases z2 with rfl | rfl
        · exact absurd ⟨rfl, rfl, rfl⟩ hall
        all_goals decide
      refine w97_143 rfl ?_
      refine w97_145 (fun _ => ?_) (fun hQ => absurd hb hQ)
      exact stop hn _ _ _ F2
  cases hte : X.2.2.2 with
  | none =>
    have hta : I1 105 c = -1 := hTC.2.2.2.2.2 hte
    have hyes : e_if (o_e n (lw.map Prod.snd) σ) X.2.2.2 = true := by rw [hte]; rfl
    refine w97_20 rfl ?_
    refine w97_21 (L.2 _ _ _ rfl) ?_
    refine w97_24 (L.2 _ _ _ rfl) ?_
    refine w97_27 ?_
    refine w97_28 rfl ?_
    refine w97_29 (L.2 _ _ _ rfl) ?_
    refine w97_32 rfl ?_
    refine w97_33 (L.sh rfl) (am_in_nI (by omega) (by decide)) ?_
    rw [am_clN (by omega), hta]
    refine w97_34 ?_
    refine w97_36 rfl ?_
    refine w97_38 ?_
    refine w97_39 (fun _ => ?_) (fun hQ => absurd rfl hQ)
    exact k58 hyes I1 J1 (fun _ _ => rfl) _ rfl rfl rfl rfl
  | some te =>
    obtain ⟨p, p1, p2, p3⟩ := hTC.2.2.2.2.1 te hte
    obtain ⟨t1, t2⟩ := cl4 te hte
    have hif2 : (te.1 w).getD false = e_if (o_e n (lw.map Prod.snd) σ) X.2.2.2 := by
      rw [← hif, hte]
      rfl
    have skip : e_if (o_e n (lw.map Prod.snd) σ) X.2.2.2 = false → ∀ (I2 : Nat → Nat → Int32) (J2 : Nat → Nat → Int64), (∀ a, a ≠ 119 → I2 a = I1 a) → ∀ lvv, am_wp pr (d + 7) 97 56 lvv [] (S, I2, J2, P) Q := by
      intro hno I2 J2 e2 lvv
      refine w97_56 ?_
      refine w97_57 (by first | rfl | exact am_narrow_b _) ?_
      refine ky σ I2 J2 (Or.inl ⟨hno, rfl⟩) (F1.tr (fun a _ _ _ _ a5 => e2 a (by omega))) ⟨am_HR_cg 65 (fun a a1 a2 => e2 a (by omega)) rfl hC1.1, hC1.2.1, ?_, ?_⟩ ?_ ?_
      · rw [e2 90 (by decide)]; exact hC1.2.2.1
      · rw [e2 91 (by decide)]; exact hC1.2.2.2
      · rw [e2 108 (by decide)]; exact g1.trans h1
      · rw [e2 108 (by decide)]; exact g2.trans h2
    have dp := t2 p
    refine w97_20 rfl ?_
    refine w97_21 (L.2 _ _ _ rfl) ?_
    refine w97_24 (L.2 _ _ _ rfl) ?_
    refine w97_27 ?_
    refine w97_28 rfl ?_
    refine w97_29 (L.2 _ _ _ rfl) ?_
    refine w97_32 rfl ?_
    refine w97_33 (L.sh rfl) (am_in_nI (by omega) (by decide)) ?_
    rw [am_clN (by omega), p1]
    refine w97_34 ?_
    refine w97_36 rfl ?_
    refine w97_38 ?_
    refine w97_39 (fun hQ => absurd hQ (nI_nm1 (by omega))) (fun _ => ?_)
    refine w97_42 rfl ?_
    refine w97_43 rfl ?_
    refine w97_44 rfl ?_
    refine w97_46 rfl ?_
    refine w97_47 (L.2 _ _ _ rfl) ?_
    refine w97_50 (k := c25T (d := d + 5) t1 (KE I1 (fun _ _ => rfl)) z1 (by decide) p3 p2 (by omega) (fun y J2 hy => ?_) (fun J2 hy => ?_))
    · rw [hy] at hif2
      cases y with
      | true =>
        refine w97_53 (fun _ => ?_) (fun w => absurd (by decide) w)
        exact k58 hif2.symm _ J2 (fun a ha => am_u_ne ha) _ rfl rfl rfl rfl
      | false =>
        refine w97_53 (fun w => absurd rfl w) (fun _ => ?_)
        exact skip hif2.symm _ J2 (fun a ha => am_u_ne ha) _
    · rw [hy] at hif2
      refine w97_53 (fun w => absurd rfl w) (fun _ => ?_)
      exact skip hif2.symm _ J2 (fun a ha => am_u_ne ha) _
end
