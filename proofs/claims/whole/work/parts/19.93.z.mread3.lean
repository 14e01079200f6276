/-! the reference reads: clauses, texts -/
section
variable {pr : am_Pr} {d : Nat} {S : List (Nat × Nat)} {I : Nat → Nat → Int32} {J : Nat → Nat → Int64} {P : Nat → Nat → Option Nat} {Q : Option Value → am_H → Prop} {T : Tk} {N i lv f : Nat} {pl : Nat → Nat}
/-- what is asked of the rest where reading went well, where it did not -/
def r_kg {α : Type} (S : List (Nat × Nat)) (I : Nat → Nat → Int32) (J : Nat → Nat → Int64) (P : Nat → Nat → Option Nat) (R : (α × Nat × Nat) ⊕ Nat) (Q : Option Value → am_H → Prop) : Prop := ∀ e' j lv', R = .inl (e', j, lv') → Q none (S, r_s I j lv' (-1), J, P)
def r_kb {α : Type} (S : List (Nat × Nat)) (I : Nat → Nat → Int32) (J : Nat → Nat → Int64) (P : Nat → Nat → Option Nat) (pl : Nat → Nat) (N : Nat) (R : (α × Nat × Nat) ⊕ Nat) (Q : Option Value → am_H → Prop) : Prop := ∀ j i' lv', R = .inr j → j ≤ N → Q none (S, r_s I i' lv' (nI (pl j)), J, P)
def p_rest (T : Tk) (f : Nat) (h : Nat × List Ex) (j lv : Nat) : PR Cl := pBind (if T.2.2 = true then p_times T j lv else pOk 1 j lv) (fun t j2 lv2 => pBind (p_if T f j2 lv2) (fun te j3 lv3 => pOk (h.1, h.2, t, te) j3 lv3))
def p_rest2 (T : Tk) (f : Nat) (h : Nat × List Ex) (t j lv : Nat) : PR Cl := pBind (p_if T f j lv) (fun te j3 lv3 => pOk (h.1, h.2, t, te) j3 lv3)
theorem p_cl_eq : p_cl T f i lv = pBind (p_head T f i lv) (fun h j lv1 => p_rest T f h j lv1) := rfl
/-- the end of a clause of a law -/
theorem c241i (E : r_E S I P T N pl) {h : Nat × List Ex} {t : Nat} {R : (Cl × Nat × Nat) ⊕ Nat} (hR : p_rest2 T f h t i lv = some R) (hi : i ≤ N) (hl : lv ≤ 50) (kg : r_kg S I J P R Q) (kb : r_kb S I J P pl N R Q) : ∀ lvv, am_ld1 lvv 0 = some (.ref 124) → am_wp pr (d + 34) 241 29 lvv [] (S, r_s I i lv (-1), J, P) Q := by
  have L := E.1
  have h0 := E.2.2.2.1
  intro lvv l0
  refine w241_29 l0 ?_
  refine w241_30 ?_
  unfold p_rest2 p_if at hR
  refine w241_31 (k := c228 E hi (fun q => ?_) (fun q => ?_))
  · have hi2 : i < N := p_lt h0 (by rw [q]; decide)
    rw [if_pos q] at hR
    refine w241_34 (fun w => absurd w (by decide)) (fun _ => ?_)
    refine w241_37 l0 ?_
    refine w241_38 ?_
    rcases pBind_some hR with ⟨te, j1, l1, h1, h2⟩ | ⟨j1, h1, h2⟩
    · obtain ⟨t', h3, h4⟩ := pMap_ok h1
      refine w241_39 (k := c238 (d := d) (dp := 0) E h3 (by omega) hi2 hl (fun e' j lv' hR' => ?_) (fun j i' lv' hR' => by cases hR'))
      cases hR'
      exact w241_42 (kg _ _ _ (Option.some.inj h2).symm)
    · rcases pMap_some h1 with ⟨a, ia, la, h3, h4⟩ | ⟨ja, h3, h4⟩
      · cases h4
      · cases h4
        refine w241_39 (k := c238 (d := d) (dp := 0) E h3 (by omega) hi2 hl (fun e' j lv' hR' => by cases hR') (fun j i' lv' hR' hj => ?_))
        cases hR'
        exact w241_42 (kb _ _ _ h2 hj)
  · rw [if_neg q] at hR
    refine w241_34 (fun _ => ?_) (fun w => absurd rfl w)
    exact w241_42 (kg _ _ _ (Option.some.inj hR).symm)
theorem c241x (L : am_Lay S P) (hb : ¬ I 124 21 = -1) (k : Q none (S, I, J, P)) : ∀ lv, am_ld1 lv 0 = some (.ref 124) → am_wp pr (d + 2) 241 29 lv [] (S, I, J, P) Q := by
  intro lvv l0
  refine w241_29 l0 ?_
  refine w241_30 ?_
  refine w241_31 (k := c228d L hb ?_)
  refine w241_34 (fun _ => ?_) (fun hQ => absurd rfl hQ)
  refine w241_42 ?_
  exact k
/-- readClause -/
theorem c241 (E : r_E S I P T N pl) (of : T.2.2 = false) {R : (Cl × Nat × Nat) ⊕ Nat} (hR : p_cl T f i lv = some R) (hi : i ≤ N) (hl : lv ≤ 50) (kg : r_kg S I J P R Q) (kb : r_kb S I J P pl N R Q) : am_ev pr (d + 34) 241 [.ref 124] (S, r_s I i lv (-1), J, P) Q := by
  have L := E.1
  have h0 := E.2.2.2.1
  have hr : ∀ h j lv1, p_rest T f h j lv1 = p_rest2 T f h 1 j lv1 := by
    intro h j lv1
    unfold p_rest
    rw [if_neg (by rw [of]; decide)]
    rfl
  show am_wp pr (d + 34) 241 0 [(0, .ref 124)] [] _ _
  have k16 : ∀ hd : Nat, pBind (pMap (fun a => (hd, [a])) (p_sum T f 0 (i + 1) lv)) (fun h j lv1 => p_rest T f h j lv1) = some R → i < N → ∀ lvv, am_ld1 lvv 0 = some (.ref 124) → am_wp pr (d + 34) 241 16 lvv [] (S, r_s I (i + 1) lv (-1), J, P) Q := by
    intro hd hh hi2 lvv l0
    refine w241_16 l0 ?_
    refine w241_17 ?_
    rcases pBind_some hh with ⟨hv, j1, l1, h1, h2⟩ | ⟨j1, h1, h2⟩
    · obtain ⟨a, h3, h4⟩ := pMap_ok h1
      rw [hr] at h2
      refine w241_18 (k := c230 (d := d + 3) (dp := 0) E h3 (by omega) hi2 hl (fun e' j lv' hR' => ?_) (fun j i' lv' hR' => by cases hR'))
      cases hR'
      refine w241_21 ?_
      exact c241i (d := d) E h2 (p_sum_le h0 h3 hi2) ((p_sum_len h3).2.2 hl) kg kb _ l0
    · rcases pMap_some h1 with ⟨a, ia, la, h3, h4⟩ | ⟨ja, h3, h4⟩
      · cases h4
      · cases h4
        refine w241_18 (k := c230 (d := d + 3) (dp := 0) E h3 (by omega) hi2 hl (fun e' j lv' hR' => by cases hR') (fun j i' lv' hR' hj => ?_))
        cases hR'
        refine w241_21 ?_
        exact c241x L (r_dead E hj) (kb _ _ _ h2 hj) _ l0
  rw [p_cl_eq] at hR
  unfold p_head at hR
  rw [if_neg (show ¬ T.2.2 = true by rw [of]; decide)] at hR
  refine w241_0 rfl ?_
  refine w241_1 ?_
  refine w241_2 (k := c228 E hi (fun q => ?_) (fun q1 => ?_))
  · rw [if_pos q] at hR
    exact w241_5 (fun _ => k16 1 hR (p_lt h0 (by rw [q]; decide)) _ rfl) (fun w => absurd (by decide) w)
  · rw [if_neg q1] at hR
    refine w241_5 (fun w => absurd rfl w) (fun _ => ?_)
    refine w241_8 rfl ?_
    refine w241_9 ?_
    refine w241_10 (k := c228 E hi (fun q => ?_) (fun q2 => ?_))
    · rw [if_pos q] at hR
      exact w241_13 (fun w => absurd w (by decide)) (fun _ => k16 2 hR (p_lt h0 (by rw [q]; decide)) _ rfl)
    · rw [if_neg q2] at hR
      refine w241_13 (fun _ => ?_) (fun w => absurd rfl w)
      refine w241_24 rfl ?_
      refine w241_25 ?_
      refine w241_26 (k := c234 E hi (fun q => ?_) (fun q3 => ?_))
      · rw [if_pos q] at hR
        have hh : p_rest T f (3, []) (i + 1) lv = some R := hR
        rw [hr] at hh
        exact c241i (d := d) E hh (p_lt h0 (by rw [q]; decide)) hl kg kb _ rfl
      · rw [if_neg q3] at hR
        exact c241x L (r_dead E hi) (kb _ _ _ (Option.some.inj hR).symm hi) _ rfl
/-- the end of an order -/
theorem c227i (E : r_E S I P T N pl) {h : Nat × List Ex} {t : Nat} {R : (Cl × Nat × Nat) ⊕ Nat} (hR : p_rest2 T f h t i lv = some R) (hi : i ≤ N) (hl : lv ≤ 50) (kg : r_kg S I J P R Q) (kb : r_kb S I J P pl N R Q) : ∀ lvv, am_ld1 lvv 0 = some (.ref 124) → am_wp pr (d + 34) 227 77 lvv [] (S, r_s I i lv (-1), J, P) Q := by
  have L := E.1
  have h0 := E.2.2.2.1
  intro lvv l0
  refine w227_77 l0 ?_
  refine w227_78 ?_
  unfold p_rest2 p_if at hR
  refine w227_79 (k := c228 E hi (fun q => ?_) (fun q => ?_))
  · have hi2 : i < N := p_lt h0 (by rw [q]; decide)
    rw [if_pos q] at hR
    refine w227_82 (fun w => absurd w (by decide)) (fun _ => ?_)
    refine w227_85 l0 ?_
    refine w227_86 ?_
    rcases pBind_some hR with ⟨te, j1, l1, h1, h2⟩ | ⟨j1, h1, h2⟩
    · obtain ⟨t', h3, h4⟩ := pMap_ok h1
      refine w227_87 (k := c238 (d := d) (dp := 0) E h3 (by omega) hi2 hl (fun e' j lv' hR' => ?_) (fun j i' lv' hR' => by cases hR'))
      cases hR'
      exact w227_90 (kg _ _ _ (Option.some.inj h2).symm)
    · rcases pMap_some h1 with ⟨a, ia, la, h3, h4⟩ | ⟨ja, h3, h4⟩
      · cases h4
      · cases h4
        refine w227_87 (k := c238 (d := d) (dp := 0) E h3 (by omega) hi2 hl (fun e' j lv' hR' => by cases hR') (fun j i' lv' hR' hj => ?_))
        cases hR'
        exact w227_90 (kb _ _ _ h2 hj)
  · rw [if_neg q] at hR
    refine w227_82 (fun _ => ?_) (fun w => absurd rfl w)
    exact w227_90 (kg _ _ _ (Option.some.inj hR).symm)
theorem c227x (L : am_Lay S P) (hb : ¬ I 124 21 = -1) (k : Q none (S, I, J, P)) : ∀ lv, am_ld1 lv 0 = some (.ref 124) → am_wp pr (d + 3) 227 61 lv [] (S, I, J, P) Q := by
  intro lvv l0
  refine w227_61 l0 ?_
  refine w227_62 ?_
  refine w227_64 (k := c228d L hb ?_)
  refine w227_67 (fun _ => ?_) (fun hQ => absurd rfl hQ)
  refine w227_77 l0 ?_
  refine w227_78 ?_
  refine w227_79 (k := c228d L hb ?_)
  refine w227_82 (fun _ => ?_) (fun hQ => absurd rfl hQ)
  refine w227_90 ?_
  exact k
theorem c227t (E : r_E S I P T N pl) (o : T.2.2 = true) {h : Nat × List Ex} {R : (Cl × Nat × Nat) ⊕ Nat} (hR : p_rest T f h i lv = some R) (hi : i ≤ N) (hl : lv ≤ 50) (kg : r_kg S I J P R Q) (kb : r_kb S I J P pl N R Q) : ∀ lvv, am_ld1 lvv 0 = some (.ref 124) → am_wp pr (d + 34) 227 61 lvv [] (S, r_s I i lv (-1), J, P) Q := by
  have L := E.1
  have h0 := E.2.2.2.1
  intro lvv l0
  unfold p_rest at hR
  rw [if_pos o] at hR
  unfold p_times at hR
  refine w227_61 l0 ?_
  refine w227_62 ?_
  refine w227_64 (k := c228 E hi (fun q => ?_) (fun q => ?_))
  · have hi2 : i < N := p_lt h0 (by rw [q]; decide)
    rw [if_pos q] at hR
    refine w227_67 (fun w => absurd w (by decide)) (fun _ => ?_)
    refine w227_70 l0 ?_
    refine w227_71 ?_
    refine w227_72 ?_
    refine w227_74 (k := c236 E hi2 (fun w => ?_) (fun w => ?_))
    · rw [if_pos w] at hR
      exact c227i (d := d) E hR (p_lt h0 (by rw [w.1]; decide)) hl kg kb _ l0
    · rw [if_neg w] at hR
      refine w227_77 l0 ?_
      refine w227_78 ?_
      refine w227_79 (k := c228d L (r_dead E hi2) ?_)
      refine w227_82 (fun _ => ?_) (fun hQ => absurd rfl hQ)
      refine w227_90 ?_
      exact kb _ _ _ (Option.some.inj hR).symm hi2
  · rw [if_neg q] at hR
    refine w227_67 (fun _ => ?_) (fun w => absurd rfl w)
    exact c227i (d := d) E hR hi hl kg kb _ l0
/-- readOrder -/
theorem c227 (E : r_E S I P T N pl) (o : T.2.2 = true) {R : (Cl × Nat × Nat) ⊕ Nat} (hR : p_cl T f i lv = some R) (hi : i ≤ N) (hl : lv ≤ 50) (kg : r_kg S I J P R Q) (kb : r_kb S I J P pl N R Q) : am_ev pr (d + 34) 227 [.ref 124] (S, r_s I i lv (-1), J, P) Q := by
  have L := E.1
  have h0 := E.2.2.2.1
  show am_wp pr (d + 34) 227 0 [(0, .ref 124)] [] _ _
  have k47 : ∀ hd : Nat, pBind (pMap (fun a => (hd, [a])) (p_sum T f 0 (i + 1) lv)) (fun h j lv1 => p_rest T f h j lv1) = some R → i < N → ∀ lvv, am_ld1 lvv 0 = some (.ref 124) → am_wp pr (d + 34) 227 47 lvv [] (S, r_s I (i + 1) lv (-1), J, P) Q := by
    intro hd hh hi2 lvv l0
    refine w227_47 l0 ?_
    refine w227_48 ?_
    rcases pBind_some hh with ⟨hv, j1, l1, h1, h2⟩ | ⟨j1, h1, h2⟩
    · obtain ⟨a, h3, h4⟩ := pMap_ok h1
      refine w227_49 (k := c230 (d := d + 3) (dp := 0) E h3 (by omega) hi2 hl (fun e' j lv' hR' => ?_) (fun j i' lv' hR' => by cases hR'))
      cases hR'
      refine w227_52 ?_
      exact c227t (d := d) E o h2 (p_sum_le h0 h3 hi2) ((p_sum_len h3).2.2 hl) kg kb _ l0
    · rcases pMap_some h1 with ⟨a, ia, la, h3, h4⟩ | ⟨ja, h3, h4⟩
      · cases h4
      · cases h4
        refine w227_49 (k := c230 (d := d + 3) (dp := 0) E h3 (by omega) hi2 hl (fun e' j lv' hR' => by cases hR') (fun j i' lv' hR' hj => ?_))
        cases hR'
        refine w227_52 ?_
        exact c227x L (r_dead E hj) (kb _ _ _ h2 hj) _ l0
  rw [p_cl_eq] at hR
  unfold p_head at hR
  rw [if_pos o] at hR
  refine w227_0 rfl ?_
  refine w227_1 ?_
  refine w227_3 (k := c228 E hi (fun q => ?_) (fun q1 => ?_))
  · rw [if_pos q] at hR
    have hi2 : i < N := p_lt h0 (by rw [q]; decide)
    refine w227_6 (fun w => absurd w (by decide)) (fun _ => ?_)
    refine w227_9 rfl ?_
    refine w227_10 ?_
    have dead1 : ∀ j i' lv', R = .inr j → j ≤ N → ∀ lvv, am_ld1 lvv 0 = some (.ref 124) → am_wp pr (d + 34) 227 14 lvv [] (S, r_s I i' lv' (nI (pl j)), J, P) Q := by
      intro j i' lv' hRR hj lvv l0
      have hd := r_dead E (i' := i') (lv' := lv') hj
      refine w227_14 l0 ?_
      refine w227_15 ?_
      refine w227_17 (k := c237d (d := d + 2) L hd ?_)
      refine w227_20 l0 ?_
      refine w227_21 ?_
      refine w227_23 (k := c237d (d := d + 2) L hd ?_)
      refine w227_26 ?_
      exact c227x L hd (kb _ _ _ hRR hj) _ l0
    have dead2 : ∀ j i' lv', R = .inr j → j ≤ N → ∀ lvv, am_ld1 lvv 0 = some (.ref 124) → am_wp pr (d + 34) 227 20 lvv [] (S, r_s I i' lv' (nI (pl j)), J, P) Q := by
      intro j i' lv' hRR hj lvv l0
      have hd := r_dead E (i' := i') (lv' := lv') hj
      refine w227_20 l0 ?_
      refine w227_21 ?_
      refine w227_23 (k := c237d (d := d + 2) L hd ?_)
      refine w227_26 ?_
      exact c227x L hd (kb _ _ _ hRR hj) _ l0
    rcases pBind_some hR with ⟨hv, j1, l1, h1, h2⟩ | ⟨j1, h1, h2⟩
    · obtain ⟨a, ja, la, y1, y2⟩ := pBind_ok h1
      obtain ⟨b, jb, lb, y3, y4⟩ := pBind_ok y2
      obtain ⟨c, jc, lc, y5, y6⟩ := pBind_ok y4
      have la50 := (p_sum_len y1).2.2 hl
      have hja := p_sum_le h0 y1 hi2
      refine w227_11 (k := c230 (d := d + 3) (dp := 0) E y1 (by omega) hi2 hl (fun e' j lv' hR' => ?_) (fun j i' lv' hR' => by cases hR'))
      cases hR'
      have yb := y3
      unfold p_more at yb
      have hb24 : T.1 ja = 24 := Classical.byContradiction (fun w => by rw [if_neg w] at yb; cases yb)
      rw [if_pos hb24] at yb
      have hja2 : ja < N := p_lt h0 (by rw [hb24]; decide)
      have lb50 := (p_sum_len yb).2.2 la50
      have hjb := p_sum_le h0 yb hja2
      have yc := y5
      unfold p_more at yc
      have hb25 : T.1 jb = 25 := Classical.byContradiction (fun w => by rw [if_neg w] at yc; cases yc)
      rw [if_pos hb25] at yc
      have hjb2 : jb < N := p_lt h0 (by rw [hb25]; decide)
      have lc50 := (p_sum_len yc).2.2 lb50
      have hjc := p_sum_le h0 yc hjb2
      refine w227_14 rfl ?_
      refine w227_15 ?_
      refine w227_17 (k := c237 (d := d + 2) E (by decide) y3 hja la50 (fun e' j lv' hR' => ?_) (fun j i' lv' hR' => by cases hR'))
      cases hR'
      refine w227_20 rfl ?_
      refine w227_21 ?_
      refine w227_23 (k := c237 (d := d + 2) E (by decide) y5 hjb lb50 (fun e' j lv' hR' => ?_) (fun j i' lv' hR' => by cases hR'))
      cases hR'
      refine w227_26 ?_
      obtain ⟨rfl, rfl, rfl⟩ := pOk_inj y6
      exact c227t (d := d) E o h2 hjc lc50 kg kb _ rfl
    · rcases pBind_some h1 with ⟨a, ja, la, y1, y2⟩ | ⟨ja, y1, y2⟩
      · have la50 := (p_sum_len y1).2.2 hl
        have hja := p_sum_le h0 y1 hi2
        refine w227_11 (k := c230 (d := d + 3) (dp := 0) E y1 (by omega) hi2 hl (fun e' j lv' hR' => ?_) (fun j i' lv' hR' => by cases hR'))
        cases hR'
        refine w227_14 rfl ?_
        refine w227_15 ?_
        rcases pBind_some y2 with ⟨b, jb, lb, y3, y4⟩ | ⟨jb, y3, y4⟩
        · refine w227_17 (k := c237 (d := d + 2) E (by decide) y3 hja la50 (fun e' j lv' hR' => ?_) (fun j i' lv' hR' => by cases hR'))
          cases hR'
          have yb := y3
          unfold p_more at yb
          have hb24 : T.1 ja = 24 := Classical.byContradiction (fun w => by rw [if_neg w] at yb; cases yb)
          rw [if_pos hb24] at yb
          have hja2 : ja < N := p_lt h0 (by rw [hb24]; decide)
          have lb50 := (p_sum_len yb).2.2 la50
          have hjb := p_sum_le h0 yb hja2
          refine w227_20 rfl ?_
          refine w227_21 ?_
          rcases pBind_some y4 with ⟨c, jc, lc, y5, y6⟩ | ⟨jc, y5, y6⟩
          · cases y6
          · cases y6
            refine w227_23 (k := c237 (d := d + 2) E (by decide) y5 hjb lb50 (fun e' j lv' hR' => by cases hR') (fun j i' lv' hR' hj => ?_))
            cases hR'
            refine w227_26 ?_
            exact c227x L (r_dead E hj) (kb _ _ _ h2 hj) _ rfl
        · cases y4
          refine w227_17 (k := c237 (d := d + 2) E (by decide) y3 hja la50 (fun e' j lv' hR' => by cases hR') (fun j i' lv' hR' hj => ?_))
          cases hR'
          exact dead2 _ _ _ h2 hj _ rfl
      · cases y2
        refine w227_11 (k := c230 (d := d + 3) (dp := 0) E y1 (by omega) hi2 hl (fun e' j lv' hR' => by cases hR') (fun j i' lv' hR' hj => ?_))
        cases hR'
        exact dead1 _ _ _ h2 hj _ rfl
  · rw [if_neg q1] at hR
    refine w227_6 (fun _ => ?_) (fun w => absurd rfl w)
    refine w227_29 rfl ?_
    refine w227_30 ?_
    refine w227_32 (k := c228 E hi (fun q => ?_) (fun q2 => ?_))
    · rw [if_pos q] at hR
      exact w227_35 (fun _ => k47 21 hR (p_lt h0 (by rw [q]; decide)) _ rfl) (fun w => absurd (by decide) w)
    · rw [if_neg q2] at hR
      refine w227_35 (fun w => absurd rfl w) (fun _ => ?_)
      refine w227_38 rfl ?_
      refine w227_39 ?_
      refine w227_41 (k := c228 E hi (fun q => ?_) (fun q3 => ?_))
      · rw [if_pos q] at hR
        exact w227_44 (fun w => absurd w (by decide)) (fun _ => k47 22 hR (p_lt h0 (by rw [q]; decide)) _ rfl)
      · rw [if_neg q3] at hR
        refine w227_44 (fun _ => ?_) (fun w => absurd rfl w)
        refine w227_55 rfl ?_
        refine w227_56 ?_
        refine w227_58 (k := c234 E hi (fun q => ?_) (fun q4 => ?_))
        · rw [if_pos q] at hR
          have hh : p_rest T f (26, []) (i + 1) lv = some R := hR
          exact c227t (d := d) E o hh (p_lt h0 (by rw [q]; decide)) hl kg kb _ rfl
        · rw [if_neg q4] at hR
          exact c227x L (r_dead E hi) (kb _ _ _ (Option.some.inj hR).symm hi) _ rfl
/-- readOne -/
theorem c226 (E : r_E S I P T N pl) {R : (Cl × Nat × Nat) ⊕ Nat} (hR : p_cl T f i lv = some R) (hi : i ≤ N) (hl : lv ≤ 50) (kg : r_kg S I J P R Q) (kb : r_kb S I J P pl N R Q) : am_ev pr (d + 35) 226 [.ref 124] (S, r_s I i lv (-1), J, P) Q := by
  have L := E.1
  have g10 : r_s I i lv (-1) 124 10 = (if T.2.2 = true then 1 else 0) := by rw [r_s_at (by decide) (by decide) (by decide)]; exact E.2.2.2.2.1
  show am_wp pr (d + 35) 226 0 [(0, .ref 124)] [] _ _
  by_cases o : T.2.2 = true
  · refine w226_0 rfl ?_
    refine w226_1 ?_
    rw [g10, if_pos o]
    refine w226_4 (fun hQ => absurd hQ (by decide)) (fun _ => ?_)
    refine w226_7 rfl ?_
    refine w226_8 (k := c227 (d := d) E o hR hi hl (fun e' j lv' h => ?_) (fun j i' lv' h hj => ?_))
    · refine w226_11 ?_
      refine w226_18 ?_
      exact kg _ _ _ h
    · refine w226_11 ?_
      refine w226_18 ?_
      exact kb _ _ _ h hj
  · have of : T.2.2 = false := by cases hb : T.2.2 with
      | true => exact absurd hb o
      | false => rfl
    refine w226_0 rfl ?_
    refine w226_1 ?_
    rw [g10, if_neg o]
    refine w226_4 (fun _ => ?_) (fun hQ => absurd rfl hQ)
    refine w226_14 rfl ?_
    refine w226_15 (k := c241 (d := d) E of hR hi hl (fun e' j lv' h => ?_) (fun j i' lv' h hj => ?_))
    · refine w226_18 ?_
      exact kg _ _ _ h
    · refine w226_18 ?_
      exact kb _ _ _ h hj
end
