/-! sums and tests that are reckoned as they tell -/
def k_dep (c : List (Nat × Int32)) : Nat := c.countP (fun s => decide (s.1 < 3))
theorem k_dep_app (a b : List (Nat × Int32)) : k_dep (a ++ b) = k_dep a + k_dep b := List.countP_append
theorem k_dep_cons (c : Nat) (v : Int32) (b : List (Nat × Int32)) (h : 3 ≤ c) : k_dep ((c, v) :: b) = k_dep b := by
  unfold k_dep
  rw [List.countP_cons_of_neg]
  simp
  omega
theorem k_dep_op (c : Nat) (v : Int32) (h : 3 ≤ c) : k_dep [(c, v)] = 0 := k_dep_cons c v [] h
theorem k_at_l {st wi : Nat → Int32} {p : Nat} {a b : List (Nat × Int32)} (h : k_at st wi p (a ++ b)) : k_at st wi p a := by
  intro i c v e
  refine h i c v ?_
  have hi : i < a.length := by
    rcases Nat.lt_or_ge i a.length with z | z
    · exact z
    · rw [List.getElem?_eq_none z] at e
      cases e
  rw [List.getElem?_append_left hi]
  exact e
theorem k_at_r {st wi : Nat → Int32} {p : Nat} {a b : List (Nat × Int32)} (h : k_at st wi p (a ++ b)) : k_at st wi (p + a.length) b := by
  intro i c v e
  rw [Nat.add_assoc]
  refine h (a.length + i) c v ?_
  rw [List.getElem?_append_right (by omega), Nat.add_sub_cancel_left]
  exact e
theorem k_at_h {st wi : Nat → Int32} {p c : Nat} {v : Int32} {b : List (Nat × Int32)} (h : k_at st wi p ((c, v) :: b)) : st p = nI c ∧ wi p = v := h 0 c v rfl
theorem k_at_t {st wi : Nat → Int32} {p c : Nat} {v : Int32} {b : List (Nat × Int32)} (h : k_at st wi p ((c, v) :: b)) : k_at st wi (p + 1) b := by
  intro i c2 v2 e
  rw [Nat.add_assoc, Nat.add_comm 1 i]
  exact h (i + 1) c2 v2 e
def k_GX (o : Bool) (e : Ex) : Prop := 1 ≤ k_dep e.2 ∧ ∀ (pr : am_Pr) (d : Nat) (S : List (Nat × Nat)) (I : Nat → Nat → Int32) (P : Nat → Nat → Option Nat) (Q : Option Value → am_H → Prop) (t wr z : Nat) (w : Nat → Nat → Int32), k_E o S I P t wr z w → (e.1 w = none → ∀ J', Q (some (.int 0)) (S, am_u I 119 0 1, J', P)) → ∀ (p q : Nat) (J : Nat → Nat → Int64), k_at (I (t + 1 + 4)) (I (t + 1 + 5)) p e.2 → p + e.2.length ≤ z → q + k_dep e.2 ≤ 64 → (∀ (x : Int64) (J' : Nat → Nat → Int64), e.1 w = some x → (∀ j, j < q → J' 120 j = J 120 j) → J' 120 q = x → k_run pr d S I P Q t wr z (p + e.2.length) (q + 1) J') → k_run pr d S I P Q t wr z p q J
def k_GT (o : Bool) (e : Te) : Prop := ∀ p : Nat, 1 ≤ k_dep (e.2 p) ∧ ∀ (pr : am_Pr) (d : Nat) (S : List (Nat × Nat)) (I : Nat → Nat → Int32) (P : Nat → Nat → Option Nat) (Q : Option Value → am_H → Prop) (t wr z : Nat) (w : Nat → Nat → Int32), k_E o S I P t wr z w → (e.1 w = none → ∀ J', Q (some (.int 0)) (S, am_u I 119 0 1, J', P)) → ∀ (q : Nat) (J : Nat → Nat → Int64), k_at (I (t + 1 + 4)) (I (t + 1 + 5)) p (e.2 p) → p + (e.2 p).length ≤ z → q + k_dep (e.2 p) ≤ 64 → (∀ (x : Bool) (J' : Nat → Nat → Int64), e.1 w = some x → (∀ j, j < q → J' 120 j = J 120 j) → J' 120 q = (if x = true then 1 else 0) → k_run pr d S I P Q t wr z (p + (e.2 p).length) (q + 1) J') → k_run pr d S I P Q t wr z p q J
theorem k_GX_num (o : Bool) (v : Int32) : k_GX o (x_num v) := by
  refine ⟨Nat.le_refl 1, ?_⟩
  intro pr d S I P Q t wr z w E hB p q J ha hz hq k
  obtain ⟨h1, h2⟩ := k_at_h ha
  exact k_num E (by exact hz) (by exact hq) h1 h2 (k _ _ rfl (fun j hj => am_u_at (by omega)) am_u_self)
theorem k_GX_word (o : Bool) {c k : Nat} (h : k_ok o c k) : k_GX o (x_word o c k) := by
  refine ⟨Nat.le_refl 1, ?_⟩
  intro pr d S I P Q t wr z w E hB p q J ha hz hq k
  obtain ⟨h1, h2⟩ := k_at_h ha
  exact k_wrd E (by exact hz) (by exact hq) h h1 h2 (k _ _ rfl (fun j hj => am_u_at (by omega)) am_u_self)
theorem k_GX_bin (o : Bool) {op : Nat} (hop : op < 5) {a b : Ex} (ha : k_GX o a) (hb : k_GX o b) : k_GX o (x_bin op a b) := by
  have hd : k_dep (a.2 ++ b.2 ++ [(3 + op, 0)]) = k_dep a.2 + k_dep b.2 := by
    rw [k_dep_app, k_dep_app, k_dep_op _ _ (by omega), Nat.add_zero]
  have hl : (a.2 ++ b.2 ++ [(3 + op, (0 : Int32))]).length = a.2.length + b.2.length + 1 := by
    rw [List.length_append, List.length_append]
    rfl
  have ha1 := ha.1
  have hb1 := hb.1
  refine ⟨?_, ?_⟩
  · show 1 ≤ k_dep (a.2 ++ b.2 ++ [(3 + op, 0)])
    omega
  intro pr d S I P Q t wr z w E hB p q J hat hz hq k
  change ((a.1 w).bind (fun x => (b.1 w).bind (fun y => e_op op x y))) = none → _ at hB
  change k_at (I (t + 1 + 4)) (I (t + 1 + 5)) p (a.2 ++ b.2 ++ [(3 + op, 0)]) at hat
  change p + (a.2 ++ b.2 ++ [(3 + op, (0 : Int32))]).length ≤ z at hz
  change q + k_dep (a.2 ++ b.2 ++ [(3 + op, 0)]) ≤ 64 at hq
  change ∀ (x : Int64) (J' : Nat → Nat → Int64), ((a.1 w).bind (fun x => (b.1 w).bind (fun y => e_op op x y))) = some x → (∀ j, j < q → J' 120 j = J 120 j) → J' 120 q = x → k_run pr d S I P Q t wr z (p + (a.2 ++ b.2 ++ [(3 + op, (0 : Int32))]).length) (q + 1) J' at k
  rw [hl] at hz k
  rw [hd] at hq
  have h1 := k_at_l (k_at_l hat)
  have h2 := k_at_r (k_at_l hat)
  have h3 := k_at_h (k_at_r hat)
  rw [List.length_append, ← Nat.add_assoc] at h3
  refine ha.2 pr d S I P Q t wr z w E (fun hn => hB (by rw [hn]; rfl)) p q J h1 (by omega) (by omega) ?_
  intro x J1 hx g1 g2
  refine hb.2 pr d S I P Q t wr z w E (fun hn => hB (by rw [hx, hn]; rfl)) (p + a.2.length) (q + 1) J1 h2 (by omega) (by omega) ?_
  intro y J2 hy g3 g4
  refine k_bin E (by omega) (by omega) hop h3.1 (fun hn => hB (by rw [g3 q (by omega), g2, g4] at hn; rw [hx, hy]; exact hn)) ?_
  intro v hv
  rw [g3 q (by omega), g2, g4] at hv
  have := k v (am_u J2 120 q v) (by rw [hx, hy]; exact hv) (fun j hj => by rw [am_u_at (by omega), g3 j (by omega), g1 j hj]) am_u_self
  rw [show p + (a.2.length + b.2.length + 1) = p + a.2.length + b.2.length + 1 by omega] at this
  exact this
theorem k_GT_cmp (o : Bool) {op : Nat} (hop : op < 3) {a b : Ex} (ha : k_GX o a) (hb : k_GX o b) : k_GT o (y_cmp op a b) := by
  intro p
  have hd : k_dep (a.2 ++ b.2 ++ [(8 + op, 0)]) = k_dep a.2 + k_dep b.2 := by
    rw [k_dep_app, k_dep_app, k_dep_op _ _ (by omega), Nat.add_zero]
  have hl : (a.2 ++ b.2 ++ [(8 + op, (0 : Int32))]).length = a.2.length + b.2.length + 1 := by
    rw [List.length_append, List.length_append]
    rfl
  have ha1 := ha.1
  have hb1 := hb.1
  refine ⟨?_, ?_⟩
  · show 1 ≤ k_dep (a.2 ++ b.2 ++ [(8 + op, 0)])
    omega
  intro pr d S I P Q t wr z w E hB q J hat hz hq k
  change ((a.1 w).bind (fun x => (b.1 w).bind (fun y => some (e_cm op x y)))) = none → _ at hB
  change k_at (I (t + 1 + 4)) (I (t + 1 + 5)) p (a.2 ++ b.2 ++ [(8 + op, 0)]) at hat
  change p + (a.2 ++ b.2 ++ [(8 + op, (0 : Int32))]).length ≤ z at hz
  change q + k_dep (a.2 ++ b.2 ++ [(8 + op, 0)]) ≤ 64 at hq
  change ∀ (x : Bool) (J' : Nat → Nat → Int64), ((a.1 w).bind (fun x => (b.1 w).bind (fun y => some (e_cm op x y)))) = some x → (∀ j, j < q → J' 120 j = J 120 j) → J' 120 q = (if x = true then 1 else 0) → k_run pr d S I P Q t wr z (p + (a.2 ++ b.2 ++ [(8 + op, (0 : Int32))]).length) (q + 1) J' at k
  rw [hl] at hz k
  rw [hd] at hq
  have h1 := k_at_l (k_at_l hat)
  have h2 := k_at_r (k_at_l hat)
  have h3 := k_at_h (k_at_r hat)
  rw [List.length_append, ← Nat.add_assoc] at h3
  refine ha.2 pr d S I P Q t wr z w E (fun hn => hB (by rw [hn]; rfl)) p q J h1 (by omega) (by omega) ?_
  intro x J1 hx g1 g2
  refine hb.2 pr d S I P Q t wr z w E (fun hn => hB (by rw [hx, hn]; rfl)) (p + a.2.length) (q + 1) J1 h2 (by omega) (by omega) ?_
  intro y J2 hy g3 g4
  refine k_cmp E (by omega) (by omega) hop h3.1 ?_
  rw [g3 q (by omega), g2, g4]
  have := k (e_cm op x y) (am_u J2 120 q (if e_cm op x y = true then 1 else 0)) (by rw [hx, hy]; rfl) (fun j hj => by rw [am_u_at (by omega), g3 j (by omega), g1 j hj]) am_u_self
  rw [show p + (a.2.length + b.2.length + 1) = p + a.2.length + b.2.length + 1 by omega] at this
  exact this
theorem k_GT_neg (o : Bool) {a : Te} (ha : k_GT o a) : k_GT o (y_neg a) := by
  intro p
  have hd : k_dep (a.2 p ++ [(11, 0)]) = k_dep (a.2 p) := by
    rw [k_dep_app, k_dep_op _ _ (by omega), Nat.add_zero]
  have hl : (a.2 p ++ [(11, (0 : Int32))]).length = (a.2 p).length + 1 := by
    rw [List.length_append]
    rfl
  have ha1 := (ha p).1
  refine ⟨?_, ?_⟩
  · show 1 ≤ k_dep (a.2 p ++ [(11, 0)])
    omega
  intro pr d S I P Q t wr z w E hB q J hat hz hq k
  change ((a.1 w).map (fun x => !x)) = none → _ at hB
  change k_at (I (t + 1 + 4)) (I (t + 1 + 5)) p (a.2 p ++ [(11, 0)]) at hat
  change p + (a.2 p ++ [(11, (0 : Int32))]).length ≤ z at hz
  change q + k_dep (a.2 p ++ [(11, 0)]) ≤ 64 at hq
  change ∀ (x : Bool) (J' : Nat → Nat → Int64), ((a.1 w).map (fun x => !x)) = some x → (∀ j, j < q → J' 120 j = J 120 j) → J' 120 q = (if x = true then 1 else 0) → k_run pr d S I P Q t wr z (p + (a.2 p ++ [(11, (0 : Int32))]).length) (q + 1) J' at k
  rw [hl] at hz k
  rw [hd] at hq
  have h1 := k_at_l hat
  have h3 := k_at_h (k_at_r hat)
  refine (ha p).2 pr d S I P Q t wr z w E (fun hn => hB (by rw [hn]; rfl)) q J h1 (by omega) (by omega) ?_
  intro x J1 hx g1 g2
  refine k_not E (by omega) (by omega) h3.1 ?_
  rw [g2]
  have := k (!x) (am_u J1 120 q (if (!x) = true then 1 else 0)) (by rw [hx]; rfl) (fun j hj => by rw [am_u_at (by omega), g1 j hj]) am_u_self
  rw [← Nat.add_assoc] at this
  cases x
  · exact this
  · exact this
theorem k_01 : ¬ (1 : Int64) = 0 := by decide
theorem k_GT_or (o : Bool) {a b : Te} (ha : k_GT o a) (hb : k_GT o b) : k_GT o (y_or a b) := by
  intro p
  generalize hp2 : p + (a.2 p).length + 1 = p2
  have e2 : (y_or a b).2 p = a.2 p ++ (12, nI (p2 + (b.2 p2).length)) :: b.2 p2 := by
    subst hp2
    rfl
  have hd : k_dep (a.2 p ++ (12, nI (p2 + (b.2 p2).length)) :: b.2 p2) = k_dep (a.2 p) + k_dep (b.2 p2) := by
    rw [k_dep_app, k_dep_cons _ _ _ (by omega)]
  have hl : (a.2 p ++ (12, nI (p2 + (b.2 p2).length)) :: b.2 p2).length = (a.2 p).length + 1 + (b.2 p2).length := by
    rw [List.length_append, List.length_cons]
    omega
  have ha1 := (ha p).1
  refine ⟨?_, ?_⟩
  · rw [e2]
    omega
  intro pr d S I P Q t wr z w E hB q J hat hz hq k
  rw [e2] at hat hz hq k
  change ((a.1 w).bind (fun x => if x then some true else b.1 w)) = none → _ at hB
  change ∀ (x : Bool) (J' : Nat → Nat → Int64), ((a.1 w).bind (fun x => if x then some true else b.1 w)) = some x → _ at k
  rw [hl] at hz k
  rw [hd] at hq
  have hz3 : z ≤ 480 := by
    obtain ⟨_, ⟨N, _, h1, h2⟩, _⟩ := E
    omega
  have h1 := k_at_l hat
  have h3 := k_at_h (k_at_r hat)
  have h4 := k_at_t (k_at_r hat)
  rw [hp2] at h4
  refine (ha p).2 pr d S I P Q t wr z w E (fun hn => hB (by rw [hn]; rfl)) q J h1 (by omega) (by omega) ?_
  intro x J1 hx g1 g2
  refine k_or E (tg := p2 + (b.2 p2).length) (by omega) (by omega) (by omega) (by omega) h3.1 h3.2 ?_ ?_
  · intro z1
    rw [g2] at z1
    cases x with
    | false => exact absurd rfl z1
    | true =>
      have := k true J1 (by rw [hx]; rfl) g1 g2
      rw [show p + ((a.2 p).length + 1 + (b.2 p2).length) = p2 + (b.2 p2).length by omega] at this
      exact this
  · intro z1
    rw [g2] at z1
    cases x with
    | true => exact absurd z1 k_01
    | false =>
      rw [hp2]
      refine (hb p2).2 pr d S I P Q t wr z w E (fun hn => hB (by rw [hx]; exact hn)) q J1 h4 (by omega) (by omega) ?_
      intro y J2 hy g3 g4
      have := k y J2 (by rw [hx]; exact hy) (fun j hj => (g3 j hj).trans (g1 j hj)) g4
      rw [show p + ((a.2 p).length + 1 + (b.2 p2).length) = p2 + (b.2 p2).length by omega] at this
      exact this
theorem k_GT_and (o : Bool) {a b : Te} (ha : k_GT o a) (hb : k_GT o b) : k_GT o (y_and a b) := by
  intro p
  generalize hp2 : p + (a.2 p).length + 1 = p2
  have e2 : (y_and a b).2 p = a.2 p ++ (13, nI (p2 + (b.2 p2).length)) :: b.2 p2 := by
    subst hp2
    rfl
  have hd : k_dep (a.2 p ++ (13, nI (p2 + (b.2 p2).length)) :: b.2 p2) = k_dep (a.2 p) + k_dep (b.2 p2) := by
    rw [k_dep_app, k_dep_cons _ _ _ (by omega)]
  have hl : (a.2 p ++ (13, nI (p2 + (b.2 p2).length)) :: b.2 p2).length = (a.2 p).length + 1 + (b.2 p2).length := by
    rw [List.length_append, List.length_cons]
    omega
  have ha1 := (ha p).1
  refine ⟨?_, ?_⟩
  · rw [e2]
    omega
  intro pr d S I P Q t wr z w E hB q J hat hz hq k
  rw [e2] at hat hz hq k
  change ((a.1 w).bind (fun x => if x then b.1 w else some false)) = none → _ at hB
  change ∀ (x : Bool) (J' : Nat → Nat → Int64), ((a.1 w).bind (fun x => if x then b.1 w else some false)) = some x → _ at k
  rw [hl] at hz k
  rw [hd] at hq
  have hz3 : z ≤ 480 := by
    obtain ⟨_, ⟨N, _, h1, h2⟩, _⟩ := E
    omega
  have h1 := k_at_l hat
  have h3 := k_at_h (k_at_r hat)
  have h4 := k_at_t (k_at_r hat)
  rw [hp2] at h4
  refine (ha p).2 pr d S I P Q t wr z w E (fun hn => hB (by rw [hn]; rfl)) q J h1 (by omega) (by omega) ?_
  intro x J1 hx g1 g2
  refine k_and E (tg := p2 + (b.2 p2).length) (by omega) (by omega) (by omega) (by omega) h3.1 h3.2 ?_ ?_
  · intro z1
    rw [g2] at z1
    cases x with
    | true => exact absurd z1 k_01
    | false =>
      have := k false J1 (by rw [hx]; rfl) g1 g2
      rw [show p + ((a.2 p).length + 1 + (b.2 p2).length) = p2 + (b.2 p2).length by omega] at this
      exact this
  · intro z1
    rw [g2] at z1
    cases x with
    | false => exact absurd rfl z1
    | true =>
      rw [hp2]
      refine (hb p2).2 pr d S I P Q t wr z w E (fun hn => hB (by rw [hx]; exact hn)) q J1 h4 (by omega) (by omega) ?_
      intro y J2 hy g3 g4
      have := k y J2 (by rw [hx]; exact hy) (fun j hj => (g3 j hj).trans (g1 j hj)) g4
      rw [show p + ((a.2 p).length + 1 + (b.2 p2).length) = p2 + (b.2 p2).length by omega] at this
      exact this
section
variable {pr : am_Pr} {d : Nat} {S : List (Nat × Nat)} {I : Nat → Nat → Int32} {J : Nat → Nat → Int64} {P : Nat → Nat → Option Nat} {Q : Option Value → am_H → Prop} {o : Bool} {t wr z p : Nat} {w : Nat → Nat → Int32}
theorem k_min {a b : Nat} (h : a ≤ b) (hb : b < 1000) : (if (if Int32.ofNat b < Int32.ofNat b then Int32.ofNat b else Int32.ofNat b) < nI a then (if Int32.ofNat b < Int32.ofNat b then Int32.ofNat b else Int32.ofNat b) else nI a) = nI a := by
  rw [if_neg (Int32.not_lt.mpr (by rw [if_neg (fun z => Int32.lt_irrefl z)]; exact nI_le h (by omega)))]
theorem k_0u : am_u (am_u I 119 0 0) 119 0 1 = am_u I 119 0 1 := by
  funext a j
  rw [am_u_get, am_u_get, am_u_get]
  split
  · rfl
  · rfl
/-- reckon: a sum -/
theorem c25x {e : Ex} (hg : k_GX o e) (E : k_E o S (am_u I 119 0 0) P t wr z w) (hzI : I t 1 = nI z) (h119 : 119 < t) (hat : k_at (I (t + 1 + 4)) (I (t + 1 + 5)) p (e.2 ++ [(0, 0)])) (hz : p + e.2.length < z) (hdp : k_dep e.2 ≤ 64) (k1 : ∀ x J', e.1 w = some x → Q (some (.int x.toInt32)) (S, am_u I 119 0 0, J', P)) (k2 : ∀ J', e.1 w = none → Q (some (.int 0)) (S, am_u I 119 0 1, J', P)) : am_ev pr (d + 1) 25 [.ref 119, .ref t, .int (nI p), .ref wr] (S, I, J, P) Q := by
  show am_wp pr (d + 1) 25 0 [(0, .ref 119), (1, .ref t), (2, .int (nI p)), (3, .ref wr)] [] _ _
  have E2 := E
  obtain ⟨L, ⟨N, ht, hzN, hN⟩, hb, hw, hww⟩ := E2
  have h4 : t + 1 + 4 ≠ 119 := by omega
  have h5 : t + 1 + 5 ≠ 119 := by omega
  refine w25_0 rfl ?_
  refine w25_1 ?_
  refine w25_2 (by decide) ?_
  refine w25_5 rfl ?_
  refine w25_6 (fun _ => ?_) (fun h => absurd (nI_pos' (by omega)) h)
  refine w25_11 ?_
  refine w25_12 ?_
  refine w25_14 rfl ?_
  refine w25_15 ?_
  rw [am_u_ne (show t ≠ 119 by omega), hzI]
  refine w25_18 rfl ?_
  refine w25_19 (ht.2.1 4 (by decide)) ?_
  refine w25_22 (ht.sh rfl) (by decide) ?_
  refine w25_23 rfl ?_
  refine w25_24 (ht.2.1 5 (by decide)) ?_
  refine w25_27 (ht.sh rfl) (by decide) ?_
  refine w25_28 ?_
  refine w25_31 ?_
  rw [k_min hzN (by omega)]
  refine w25_34 ?_
  refine w25_36 rfl ?_
  refine w25_37 ?_
  refine hg.2 pr d S (am_u I 119 0 0) P Q t wr z w E ?_ p 0 J ?_ (by omega) (by omega) ?_ _ rfl rfl rfl rfl rfl rfl
  · intro hn J'
    rw [k_0u]
    exact k2 J' hn
  · rw [am_u_ne h4, am_u_ne h5]
    exact k_at_l hat
  · intro x J' hx _ hJ
    have h3 := (k_at_h (k_at_r hat)).1
    refine k_end E (by omega) (by rw [am_u_ne h4]; exact h3) ?_
    rw [hJ]
    exact k1 x J' hx
/-- reckon: a test -/
theorem c25t {e : Te} (hg : k_GT o e) (E : k_E o S (am_u I 119 0 0) P t wr z w) (hzI : I t 1 = nI z) (h119 : 119 < t) (hat : k_at (I (t + 1 + 4)) (I (t + 1 + 5)) p (e.2 p ++ [(0, 0)])) (hz : p + (e.2 p).length < z) (hdp : k_dep (e.2 p) ≤ 64) (k1 : ∀ x J', e.1 w = some x → Q (some (.int (if x = true then 1 else 0))) (S, am_u I 119 0 0, J', P)) (k2 : ∀ J', e.1 w = none → Q (some (.int 0)) (S, am_u I 119 0 1, J', P)) : am_ev pr (d + 1) 25 [.ref 119, .ref t, .int (nI p), .ref wr] (S, I, J, P) Q := by
  show am_wp pr (d + 1) 25 0 [(0, .ref 119), (1, .ref t), (2, .int (nI p)), (3, .ref wr)] [] _ _
  have E2 := E
  obtain ⟨L, ⟨N, ht, hzN, hN⟩, hb, hw, hww⟩ := E2
  have h4 : t + 1 + 4 ≠ 119 := by omega
  have h5 : t + 1 + 5 ≠ 119 := by omega
  refine w25_0 rfl ?_
  refine w25_1 ?_
  refine w25_2 (by decide) ?_
  refine w25_5 rfl ?_
  refine w25_6 (fun _ => ?_) (fun h => absurd (nI_pos' (by omega)) h)
  refine w25_11 ?_
  refine w25_12 ?_
  refine w25_14 rfl ?_
  refine w25_15 ?_
  rw [am_u_ne (show t ≠ 119 by omega), hzI]
  refine w25_18 rfl ?_
  refine w25_19 (ht.2.1 4 (by decide)) ?_
  refine w25_22 (ht.sh rfl) (by decide) ?_
  refine w25_23 rfl ?_
  refine w25_24 (ht.2.1 5 (by decide)) ?_
  refine w25_27 (ht.sh rfl) (by decide) ?_
  refine w25_28 ?_
  refine w25_31 ?_
  rw [k_min hzN (by omega)]
  refine w25_34 ?_
  refine w25_36 rfl ?_
  refine w25_37 ?_
  refine (hg p).2 pr d S (am_u I 119 0 0) P Q t wr z w E ?_ 0 J ?_ (by omega) (by omega) ?_ _ rfl rfl rfl rfl rfl rfl
  · intro hn J'
    rw [k_0u]
    exact k2 J' hn
  · rw [am_u_ne h4, am_u_ne h5]
    exact k_at_l hat
  · intro x J' hx _ hJ
    have h3 := (k_at_h (k_at_r hat)).1
    refine k_end E (by omega) (by rw [am_u_ne h4]; exact h3) ?_
    rw [hJ]
    have := k1 x J' hx
    cases x
    · exact this
    · exact this
end
