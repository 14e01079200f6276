/-! the reference reads: tests, clauses, texts -/
section
variable {pr : am_Pr} {d : Nat} {S : List (Nat × Nat)} {I : Nat → Nat → Int32} {J : Nat → Nat → Int64} {P : Nat → Nat → Option Nat} {Q : Option Value → am_H → Prop} {T : Tk} {N i lv : Nat} {pl : Nat → Nat}
theorem r_dead (E : r_E S I P T N pl) {j i' lv' : Nat} (hj : j ≤ N) : ¬ r_s I i' lv' (nI (pl j)) 124 21 = -1 := by rw [r_s_21]; exact pl_m1 E hj
theorem c240n (E : r_E S I P T N pl) {dp D : Nat} : ∀ (f : Nat) (b : Bool) (i : Nat) (b' : Bool) (j : Nat), p_nots T f b i = some (b', j) → i ≤ N → (∀ lvv, am_ld1 lvv 0 = some (.ref 124) → am_ld1 lvv 1 = some (.int (nI dp)) → am_wp pr (D + 2) 240 16 lvv [] (S, r_s I j lv (-1), J, P) Q) → ∀ lvv, am_ld1 lvv 0 = some (.ref 124) → am_ld1 lvv 1 = some (.int (nI dp)) → am_ld1 lvv 2 = some (.int 1) → am_wp pr (D + 2) 240 2 lvv [] (S, r_s I i lv (-1), J, P) Q
  | 0, _, _, _, _, h, _, _ => by cases h
  | f + 1, b, i, b', j, h, hi, k => by
    intro lvv l0 l1 l2
    have L := E.1
    unfold p_nots at h
    refine w240_2 l2 ?_
    refine w240_3 (fun hQ => absurd hQ (by decide)) (fun _ => ?_)
    refine w240_6 l0 ?_
    refine w240_7 ?_
    refine w240_9 (k := c228 E hi (fun q => ?_) (fun q => ?_))
    · rw [if_pos q] at h
      have hi2 : i < N := p_lt E.2.2.2.1 (by rw [q]; decide)
      refine w240_12 ?_
      refine w240_13 ?_
      exact c240n E f _ _ _ _ h hi2 k _ l0 l1 rfl
    · rw [if_neg q] at h
      cases h
      refine w240_12 ?_
      refine w240_13 ?_
      refine w240_2 rfl ?_
      exact w240_3 (fun _ => k _ l0 l1) (fun w => absurd rfl w)
theorem c240x (L : am_Lay S P) (hb : ¬ I 124 21 = -1) (k : Q none (S, I, J, P)) : ∀ lv, am_ld1 lv 0 = some (.ref 124) → am_wp pr (d + 2) 240 16 lv [] (S, I, J, P) Q := by
  intro lvv l0
  refine w240_16 l0 ?_
  refine w240_17 (k := c229 L rfl ?_)
  rw [am_b_f hb]
  refine w240_20 (fun hQ => absurd hQ (fun q => q rfl)) (fun _ => ?_)
  refine w240_23 ?_
  exact k
theorem c240d (L : am_Lay S P) (hb : ¬ I 124 21 = -1) {x : Int32} (k : Q none (S, I, J, P)) : am_ev pr (d + 2) 240 [.ref 124, .int x] (S, I, J, P) Q := by
  show am_wp pr (d + 2) 240 0 [(0, .ref 124), (1, .int x)] [] _ _
  refine w240_0 ?_
  refine w240_1 ?_
  refine w240_2 rfl ?_
  refine w240_3 (fun hQ => absurd hQ (by decide)) (fun _ => ?_)
  refine w240_6 rfl ?_
  refine w240_7 ?_
  refine w240_9 (k := c228d L hb ?_)
  refine w240_12 ?_
  refine w240_13 ?_
  refine w240_2 rfl ?_
  refine w240_3 (fun _ => ?_) (fun hQ => absurd rfl hQ)
  exact c240x L hb k _ rfl
theorem c239x (L : am_Lay S P) (hb : ¬ I 124 21 = -1) (k : Q none (S, I, J, P)) : ∀ lv, am_ld1 lv 0 = some (.ref 124) → am_wp pr (d + 2) 239 5 lv [] (S, I, J, P) Q := by
  intro lvv l0
  refine w239_5 l0 ?_
  refine w239_6 ?_
  refine w239_8 (k := c228d L hb ?_)
  refine w239_11 (fun _ => ?_) (fun hQ => absurd rfl hQ)
  refine w239_22 ?_
  exact k
theorem c239d (L : am_Lay S P) (hb : ¬ I 124 21 = -1) {x : Int32} (k : Q none (S, I, J, P)) : am_ev pr (d + 3) 239 [.ref 124, .int x] (S, I, J, P) Q := by
  show am_wp pr (d + 3) 239 0 [(0, .ref 124), (1, .int x)] [] _ _
  refine w239_0 rfl ?_
  refine w239_1 rfl ?_
  refine w239_2 (k := c240d L hb ?_)
  exact c239x L hb k _ rfl
theorem c238x (L : am_Lay S P) (hb : ¬ I 124 21 = -1) (k : Q none (S, I, J, P)) : ∀ lv, am_ld1 lv 0 = some (.ref 124) → am_wp pr (d + 2) 238 5 lv [] (S, I, J, P) Q := by
  intro lvv l0
  refine w238_5 l0 ?_
  refine w238_6 ?_
  refine w238_7 (k := c228d L hb ?_)
  refine w238_10 (fun _ => ?_) (fun hQ => absurd rfl hQ)
  refine w238_21 ?_
  exact k
/-- two sums with a sign between them -/
theorem c240c (E : r_E S I P T N pl) {f dp : Nat} {R : (Te × Nat × Nat) ⊕ Nat} (h : p_cmp T f dp i lv = some R) (hdp : dp ≤ 8) (hi : i ≤ N) (hl : lv ≤ 50) (kg : ∀ e' j lv', R = .inl (e', j, lv') → Q none (S, r_s I j lv' (-1), J, P)) (kb : ∀ j i' lv', R = .inr j → j ≤ N → Q none (S, r_s I i' lv' (nI (pl j)), J, P)) : ∀ lvv, am_ld1 lvv 0 = some (.ref 124) → am_ld1 lvv 1 = some (.int (nI dp)) → am_wp pr (d + 3 * (8 - dp) + 7) 240 90 lvv [] (S, r_s I i lv (-1), J, P) Q := by
  have L := E.1
  have h0 := E.2.2.2.1
  intro lvv l0 l1
  refine w240_90 l0 ?_
  refine w240_91 l1 ?_
  have kd : ∀ j i' lv', R = .inr j → j ≤ N → ∀ lvv, am_ld1 lvv 0 = some (.ref 124) → am_ld1 lvv 1 = some (.int (nI dp)) → am_wp pr (d + 3 * (8 - dp) + 7) 240 95 lvv [] (S, r_s I i' lv' (nI (pl j)), J, P) Q := by
    intro j i' lv' hR hj lvv l0 l1
    have hd := r_dead E (i' := i') (lv' := lv') hj
    refine w240_95 l0 ?_
    refine w240_96 ?_
    refine w240_98 (k := c188 (y := 160) (by decide) ?_)
    refine w240_101 (k := c228d L hd ?_)
    refine w240_104 (fun hQ => absurd hQ (fun q => q rfl)) (fun _ => ?_)
    refine w240_107 l0 ?_
    refine w240_108 ?_
    refine w240_110 (k := c188 (y := 162) (by decide) ?_)
    refine w240_113 (k := c228d L hd ?_)
    refine w240_116 (fun hQ => absurd hQ (fun q => q rfl)) (fun _ => ?_)
    refine w240_119 l0 ?_
    refine w240_120 ?_
    refine w240_122 (k := c188 (y := 161) (by decide) ?_)
    refine w240_125 (k := c234d L hd ?_)
    refine w240_128 l0 ?_
    refine w240_129 l1 ?_
    refine w240_130 (k := c230d L hd ?_)
    refine w240_133 ?_
    exact kb j i' lv' hR hj
  rcases pBind_some h with ⟨a, j1, l1', h1, h2⟩ | ⟨j1, h1, h2⟩
  · refine w240_92 (k := c230 E h1 hdp hi hl (fun e' j lv' hR => ?_) (fun j i' lv' hR hj => by cases hR))
    first | obtain ⟨rfl, rfl, rfl⟩ := s_inl3 hR | obtain rfl := s_inr hR | cases hR
    have hj := p_sum_le h0 h1 hi
    have hl2 := (p_sum_len h1).2.2 hl
    have k128 : ∀ op, p_opc (T.1 j) = some op → ∀ lvv, am_ld1 lvv 0 = some (.ref 124) → am_ld1 lvv 1 = some (.int (nI dp)) → am_wp pr (d + 3 * (8 - dp) + 7) 240 128 lvv [] (S, r_s I (j + 1) lv' (-1), J, P) Q := by
      intro op hop lvv l0 l1
      rw [hop] at h2
      have hj2 : j < N := p_lt h0 (by rcases p_opc_some hop with ⟨q, -⟩ | ⟨q, -⟩ | ⟨q, -⟩ <;> rw [q] <;> decide)
      refine w240_128 l0 ?_
      refine w240_129 l1 ?_
      rcases pBind_some h2 with ⟨b, j2, l2, h3, h4⟩ | ⟨j2, h3, h4⟩
      · refine w240_130 (k := c230 E h3 hdp hj2 hl2 (fun e2 jj lw hR => ?_) (fun j i' lv' hR hj => by cases hR))
        first | obtain ⟨rfl, rfl, rfl⟩ := s_inl3 hR | obtain rfl := s_inr hR | cases hR
        exact w240_133 (kg _ _ _ (Option.some.inj h4).symm)
      · refine w240_130 (k := c230 E h3 hdp hj2 hl2 (fun e2 jj lw hR => by cases hR) (fun jj i' lw hR hj => ?_))
        first | obtain ⟨rfl, rfl, rfl⟩ := s_inl3 hR | obtain rfl := s_inr hR | cases hR
        exact w240_133 (kb _ _ _ h4 hj)
    refine w240_95 l0 ?_
    refine w240_96 ?_
    refine w240_98 (k := c188 (y := 160) (by decide) ?_)
    refine w240_101 (k := c228 E hj (fun q => ?_) (fun q1 => ?_))
    · exact w240_104 (fun _ => k128 0 (by unfold p_opc; rw [if_pos q]) _ l0 l1) (fun w => absurd (by decide) w)
    · refine w240_104 (fun w => absurd rfl w) (fun _ => ?_)
      refine w240_107 l0 ?_
      refine w240_108 ?_
      refine w240_110 (k := c188 (y := 162) (by decide) ?_)
      refine w240_113 (k := c228 E hj (fun q => ?_) (fun q2 => ?_))
      · exact w240_116 (fun _ => k128 1 (by unfold p_opc; rw [if_neg q1, if_pos q]) _ l0 l1) (fun w => absurd (by decide) w)
      · refine w240_116 (fun w => absurd rfl w) (fun _ => ?_)
        refine w240_119 l0 ?_
        refine w240_120 ?_
        refine w240_122 (k := c188 (y := 161) (by decide) ?_)
        refine w240_125 (k := c234 E hj (fun q => ?_) (fun q3 => ?_))
        · exact k128 2 (by unfold p_opc; rw [if_neg q1, if_neg q2, if_pos q]) _ l0 l1
        · have hop : p_opc (T.1 j) = none := by unfold p_opc; rw [if_neg q1, if_neg q2, if_neg q3]
          rw [hop] at h2
          have hd := r_dead E (i' := j) (lv' := lv') hj
          refine w240_128 l0 ?_
          refine w240_129 l1 ?_
          refine w240_130 (k := c230d L hd ?_)
          refine w240_133 ?_
          exact kb _ _ _ (Option.some.inj h2).symm hj
  · refine w240_92 (k := c230 E h1 hdp hi hl (fun e' j lv' hR => by cases hR) (fun j i' lv' hR hj => ?_))
    first | obtain ⟨rfl, rfl, rfl⟩ := s_inl3 hR | obtain rfl := s_inr hR | cases hR
    exact kd j i' lv' h2 hj _ l0 l1
def r_T (pr : am_Pr) (S : List (Nat × Nat)) (I : Nat → Nat → Int32) (J : Nat → Nat → Int64) (P : Nat → Nat → Option Nat) (d : Nat) (Q : Option Value → am_H → Prop) (i lv dp m : Nat) : Prop :=
  (m = 0 → am_ev pr (d + 7) 240 [.ref 124, .int (nI dp)] (S, r_s I i lv (-1), J, P) Q)
  ∧ (m = 1 → am_ev pr (d + 8) 239 [.ref 124, .int (nI dp)] (S, r_s I i lv (-1), J, P) Q)
  ∧ (m = 2 → ∀ lvv, am_ld1 lvv 0 = some (.ref 124) → am_ld1 lvv 1 = some (.int (nI dp)) → am_wp pr (d + 8) 239 5 lvv [] (S, r_s I i lv (-1), J, P) Q)
  ∧ (m = 3 → am_ev pr (d + 9) 238 [.ref 124, .int (nI dp)] (S, r_s I i lv (-1), J, P) Q)
  ∧ (4 ≤ m → ∀ lvv, am_ld1 lvv 0 = some (.ref 124) → am_ld1 lvv 1 = some (.int (nI dp)) → am_wp pr (d + 9) 238 5 lvv [] (S, r_s I i lv (-1), J, P) Q)
theorem r_te (E : r_E S I P T N pl) : ∀ (f m dp : Nat) (e : Te) (i lv : Nat) (R : (Te × Nat × Nat) ⊕ Nat), q_go T f m dp e i lv = some R → dp ≤ 8 → i ≤ N → lv ≤ 50 → ∀ (d : Nat) (Q : Option Value → am_H → Prop), (∀ e' j lv', R = .inl (e', j, lv') → Q none (S, r_s I j lv' (-1), J, P)) → (∀ j i' lv', R = .inr j → j ≤ N → Q none (S, r_s I i' lv' (nI (pl j)), J, P)) → r_T pr S I J P (d + 3 * (8 - dp)) Q i lv dp m := by
  have L := E.1
  have h0 := E.2.2.2.1
  have hN := E.2.1
  intro f
  induction f with
  | zero => intro m dp e i lv R h; cases h
  | succ f ih =>
    intro m dp e i lv R h hdp hi hl d Q kg kb
    unfold q_go at h
    unfold r_T
    split at h
    · rename_i hm
      subst hm
      refine ⟨fun _ => ?_, fun z => absurd z (by decide), fun z => absurd z (by decide), fun z => absurd z (by decide), fun z => absurd z (by decide)⟩
      split at h
      · cases h
      · rename_i bb jj hn
        obtain ⟨hjj, -⟩ := p_nots_le h0 f _ _ _ _ hn hi
        show am_wp pr _ 240 0 [(0, .ref 124), (1, .int (nI dp))] [] _ _
        refine w240_0 ?_
        refine w240_1 ?_
        refine c240n (D := d + 3 * (8 - dp) + 5) E f _ _ _ _ hn hi ?_ _ rfl rfl rfl
        intro lvv l0 l1
        have e1 : r_s I jj lv (-1) 133 jj = T.1 jj := by rw [r_s_ne (by decide)]; exact (E.2.2.1 jj hjj).1
        refine w240_16 l0 ?_
        refine w240_17 (k := c229 L r_s_21 ?_)
        rw [am_b_t rfl]
        refine w240_20 (fun _ => ?_) (fun hQ => absurd (by decide) hQ)
        refine w240_24 l0 ?_
        refine w240_25 (L.2 _ _ _ rfl) ?_
        refine w240_28 l0 ?_
        refine w240_29 ?_
        rw [r_s_19]
        refine w240_32 (L.sh rfl) (am_in_nI (by omega) (by decide)) ?_
        rw [am_clN (by omega), e1]
        refine w240_33 ?_
        refine w240_34 rfl ?_
        refine w240_35 ?_
        refine w240_37 (k := c188 (y := 140) (by decide) ?_)
        rcases pMap_some h with ⟨a, ia, la, h1, h2⟩ | ⟨ja, h1, h2⟩
        · split at h1
          · rename_i h140
            split at h1
            · cases h1
            · rename_i hdp8
              have hi2 : jj < N := p_lt h0 (by rw [h140]; decide)
              obtain ⟨i2, y1, y2, y3⟩ := p_must_ok h1
              rw [show d + 3 * (8 - dp) + 5 + 2 = (d + 3 * (8 - (dp + 1)) + 9) + 1 by omega]
              refine w240_40 (fun q => absurd h140 q) (fun _ => ?_)
              refine w240_43 l1 ?_
              refine w240_44 ?_
              refine w240_46 (fun _ => ?_) (fun hQ => absurd (nI_ne (b := 8) hdp8 (by omega) (by decide)) hQ)
              refine w240_53 l0 ?_
              refine w240_54 (k := c229 L r_s_21 ?_)
              rw [am_b_t rfl]
              refine w240_57 (fun _ => ?_) (fun hQ => absurd (by decide) hQ)
              refine w240_61 l0 ?_
              refine w240_62 rfl ?_
              refine w240_63 ?_
              rw [r_s_19]
              refine w240_66 ?_
              refine w240_67 ?_
              rw [nI_1]
              refine w240_68 ?_
              rw [r_s_u19]
              refine w240_71 l0 ?_
              refine w240_72 l1 ?_
              refine w240_73 ?_
              refine w240_74 ?_
              rw [nI_1]
              refine w240_75 (k := (ih 3 (dp + 1) e (jj + 1) lv _ y1 (by omega) hi2 hl d _ (fun e' j lv' hR => ?_) (fun j i' lv' hR hj => by cases hR)).2.2.2.1 rfl)
              first | obtain ⟨rfl, rfl, rfl⟩ := s_inl3 hR | obtain rfl := s_inr hR | cases hR
              have hj := q_go_le h0 f _ _ _ _ _ _ _ _ y1 hi2
              refine w240_78 l0 ?_
              refine w240_79 ?_
              refine w240_81 (k := c188 (y := 141) (by decide) ?_)
              refine w240_84 (k := c234 E hj (fun q => ?_) (fun q => absurd y2 q))
              refine w240_87 ?_
              refine w240_133 ?_
              exact kg _ _ _ (by rw [h2, y3])
          · rename_i h140
            refine w240_40 (fun _ => ?_) (fun q => absurd h140 q)
            refine c240c (d := d) E h1 hdp hjj hl (fun e' j lv' hR => ?_) (fun j i' lv' hR hj => by cases hR) _ l0 l1
            first | obtain ⟨rfl, rfl, rfl⟩ := s_inl3 hR | obtain rfl := s_inr hR | cases hR
            exact kg _ _ _ h2
        · split at h1
          · rename_i h140
            have hi2 : jj < N := p_lt h0 (by rw [h140]; decide)
            refine w240_40 (fun q => absurd h140 q) (fun _ => ?_)
            split at h1
            · rename_i hdp8
              cases h1
              refine w240_43 l1 ?_
              refine w240_44 ?_
              refine w240_46 (fun hQ => absurd hQ (fun q => q (by rw [hdp8]; rfl))) (fun _ => ?_)
              refine w240_49 l0 ?_
              refine w240_50 (k := c233 E hjj ?_)
              refine w240_53 l0 ?_
              refine w240_54 (k := c229 L r_s_21 ?_)
              rw [am_b_f (pl_m1 E hjj)]
              refine w240_57 (fun hQ => absurd hQ (fun q => q rfl)) (fun _ => ?_)
              refine w240_60 ?_
              exact kb _ _ _ h2 hjj
            · rename_i hdp8
              rw [show d + 3 * (8 - dp) + 5 + 2 = (d + 3 * (8 - (dp + 1)) + 9) + 1 by omega]
              refine w240_43 l1 ?_
              refine w240_44 ?_
              refine w240_46 (fun _ => ?_) (fun hQ => absurd (nI_ne (b := 8) hdp8 (by omega) (by decide)) hQ)
              refine w240_53 l0 ?_
              refine w240_54 (k := c229 L r_s_21 ?_)
              rw [am_b_t rfl]
              refine w240_57 (fun _ => ?_) (fun hQ => absurd (by decide) hQ)
              refine w240_61 l0 ?_
              refine w240_62 rfl ?_
              refine w240_63 ?_
              rw [r_s_19]
              refine w240_66 ?_
              refine w240_67 ?_
              rw [nI_1]
              refine w240_68 ?_
              rw [r_s_u19]
              refine w240_71 l0 ?_
              refine w240_72 l1 ?_
              refine w240_73 ?_
              refine w240_74 ?_
              rw [nI_1]
              rcases p_must_some h1 with ⟨a, i2, l2, y1, y2, y3⟩ | ⟨a, i2, l2, y1, y2, y3⟩ | ⟨j2, y1, y2⟩
              · cases y3
              · cases y3
                refine w240_75 (k := (ih 3 (dp + 1) e (jj + 1) lv _ y1 (by omega) hi2 hl d _ (fun e' j lv' hR => ?_) (fun j i' lv' hR hj => by cases hR)).2.2.2.1 rfl)
                first | obtain ⟨rfl, rfl, rfl⟩ := s_inl3 hR | obtain rfl := s_inr hR | cases hR
                have hj := q_go_le h0 f _ _ _ _ _ _ _ _ y1 hi2
                refine w240_78 l0 ?_
                refine w240_79 ?_
                refine w240_81 (k := c188 (y := 141) (by decide) ?_)
                refine w240_84 (k := c234 E hj (fun q => absurd q y2) (fun q => ?_))
                refine w240_87 ?_
                refine w240_133 ?_
                exact kb _ _ _ h2 hj
              · cases y2
                refine w240_75 (k := (ih 3 (dp + 1) e (jj + 1) lv _ y1 (by omega) hi2 hl d _ (fun e' j lv' hR => by cases hR) (fun j i' lv' hR hj => ?_)).2.2.2.1 rfl)
                first | obtain ⟨rfl, rfl, rfl⟩ := s_inl3 hR | obtain rfl := s_inr hR | cases hR
                refine w240_78 l0 ?_
                refine w240_79 ?_
                refine w240_81 (k := c188 (y := 141) (by decide) ?_)
                refine w240_84 (k := c234d L (r_dead E hj) ?_)
                refine w240_87 ?_
                refine w240_133 ?_
                exact kb _ _ _ h2 hj
          · rename_i h140
            refine w240_40 (fun _ => ?_) (fun q => absurd h140 q)
            refine c240c (d := d) E h1 hdp hjj hl (fun e' j lv' hR => by cases hR) (fun j i' lv' hR hj => ?_) _ l0 l1
            first | obtain ⟨rfl, rfl, rfl⟩ := s_inl3 hR | obtain rfl := s_inr hR | cases hR
            exact kb _ _ _ h2 hj
    · split at h
      · rename_i hm0 hm
        subst hm
        refine ⟨fun z => absurd z (by decide), fun _ => ?_, fun z => absurd z (by decide), fun z => absurd z (by decide), fun z => absurd z (by decide)⟩
        show am_wp pr _ 239 0 [(0, .ref 124), (1, .int (nI dp))] [] _ _
        refine w239_0 rfl ?_
        refine w239_1 rfl ?_
        rcases pBind_some h with ⟨e1, i1, l1, h1, h2⟩ | ⟨j1, h1, h2⟩
        · refine w239_2 (k := (ih 0 dp e i lv _ h1 hdp hi hl d _ (fun e' j lv' hR => ?_) (fun j i' lv' hR hj => by cases hR)).1 rfl)
          first | obtain ⟨rfl, rfl, rfl⟩ := s_inl3 hR | obtain rfl := s_inr hR | cases hR
          exact (ih 2 dp e' j lv' R h2 hdp (q_go_le h0 f _ _ _ _ _ _ _ _ h1 hi) ((q_go_len f _ _ _ _ _ _ _ _ h1).2.2.2 hl) d Q kg kb).2.2.1 rfl _ rfl rfl
        · refine w239_2 (k := (ih 0 dp e i lv _ h1 hdp hi hl d _ (fun e' j lv' hR => by cases hR) (fun j i' lv' hR hj => ?_)).1 rfl)
          first | obtain ⟨rfl, rfl, rfl⟩ := s_inl3 hR | obtain rfl := s_inr hR | cases hR
          exact c239x L (r_dead E hj) (kb j i' lv' h2 hj) _ rfl
      · split at h
        · rename_i hm0 hm1 hm
          subst hm
          refine ⟨fun z => absurd z (by decide), fun z => absurd z (by decide), fun _ => ?_, fun z => absurd z (by decide), fun z => absurd z (by decide)⟩
          intro lvv l0 l1
          refine w239_5 l0 ?_
          refine w239_6 ?_
          refine w239_8 (k := c228 E hi (fun q => ?_) (fun q => ?_))
          · rw [if_pos q] at h
            have hi2 : i < N := p_lt h0 (by rw [q]; decide)
            refine w239_11 (fun w => absurd w (by decide)) (fun _ => ?_)
            refine w239_14 l0 ?_
            refine w239_15 l1 ?_
            rcases pBind_some h with ⟨e1, i1, l1', h1, h2⟩ | ⟨j1, h1, h2⟩
            · refine w239_16 (k := (ih 0 dp e (i + 1) lv _ h1 hdp hi2 hl d _ (fun e' j lv' hR => ?_) (fun j i' lv' hR hj => by cases hR)).1 rfl)
              first | obtain ⟨rfl, rfl, rfl⟩ := s_inl3 hR | obtain rfl := s_inr hR | cases hR
              refine w239_19 ?_
              exact (ih 2 dp (y_and e e') j lv' R h2 hdp (q_go_le h0 f _ _ _ _ _ _ _ _ h1 hi2) ((q_go_len f _ _ _ _ _ _ _ _ h1).2.2.2 hl) d Q kg kb).2.2.1 rfl _ l0 l1
            · refine w239_16 (k := (ih 0 dp e (i + 1) lv _ h1 hdp hi2 hl d _ (fun e' j lv' hR => by cases hR) (fun j i' lv' hR hj => ?_)).1 rfl)
              first | obtain ⟨rfl, rfl, rfl⟩ := s_inl3 hR | obtain rfl := s_inr hR | cases hR
              refine w239_19 ?_
              exact c239x L (r_dead E hj) (kb j i' lv' h2 hj) _ l0
          · rw [if_neg q] at h
            refine w239_11 (fun _ => ?_) (fun w => absurd rfl w)
            exact w239_22 (kg _ _ _ (Option.some.inj h).symm)
        · split at h
          · rename_i hm0 hm1 hm2 hm
            subst hm
            refine ⟨fun z => absurd z (by decide), fun z => absurd z (by decide), fun z => absurd z (by decide), fun _ => ?_, fun z => absurd z (by decide)⟩
            show am_wp pr _ 238 0 [(0, .ref 124), (1, .int (nI dp))] [] _ _
            refine w238_0 rfl ?_
            refine w238_1 rfl ?_
            rcases pBind_some h with ⟨e1, i1, l1, h1, h2⟩ | ⟨j1, h1, h2⟩
            · refine w238_2 (k := (ih 1 dp e i lv _ h1 hdp hi hl d _ (fun e' j lv' hR => ?_) (fun j i' lv' hR hj => by cases hR)).2.1 rfl)
              first | obtain ⟨rfl, rfl, rfl⟩ := s_inl3 hR | obtain rfl := s_inr hR | cases hR
              exact (ih 4 dp e' j lv' R h2 hdp (q_go_le h0 f _ _ _ _ _ _ _ _ h1 hi) ((q_go_len f _ _ _ _ _ _ _ _ h1).2.2.2 hl) d Q kg kb).2.2.2.2 (Nat.le_refl 4) _ rfl rfl
            · refine w238_2 (k := (ih 1 dp e i lv _ h1 hdp hi hl d _ (fun e' j lv' hR => by cases hR) (fun j i' lv' hR hj => ?_)).2.1 rfl)
              first | obtain ⟨rfl, rfl, rfl⟩ := s_inl3 hR | obtain rfl := s_inr hR | cases hR
              exact c238x L (r_dead E hj) (kb j i' lv' h2 hj) _ rfl
          · rename_i hm0 hm1 hm2 hm3
            refine ⟨fun z => absurd z hm0, fun z => absurd z hm1, fun z => absurd z hm2, fun z => absurd z hm3, fun _ => ?_⟩
            intro lvv l0 l1
            refine w238_5 l0 ?_
            refine w238_6 ?_
            refine w238_7 (k := c228 E hi (fun q => ?_) (fun q => ?_))
            · rw [if_pos q] at h
              have hi2 : i < N := p_lt h0 (by rw [q]; decide)
              refine w238_10 (fun w => absurd w (by decide)) (fun _ => ?_)
              refine w238_13 l0 ?_
              refine w238_14 l1 ?_
              rcases pBind_some h with ⟨e1, i1, l1', h1, h2⟩ | ⟨j1, h1, h2⟩
              · refine w238_15 (k := (ih 1 dp e (i + 1) lv _ h1 hdp hi2 hl d _ (fun e' j lv' hR => ?_) (fun j i' lv' hR hj => by cases hR)).2.1 rfl)
                first | obtain ⟨rfl, rfl, rfl⟩ := s_inl3 hR | obtain rfl := s_inr hR | cases hR
                refine w238_18 ?_
                exact (ih 4 dp (y_or e e') j lv' R h2 hdp (q_go_le h0 f _ _ _ _ _ _ _ _ h1 hi2) ((q_go_len f _ _ _ _ _ _ _ _ h1).2.2.2 hl) d Q kg kb).2.2.2.2 (Nat.le_refl 4) _ l0 l1
              · refine w238_15 (k := (ih 1 dp e (i + 1) lv _ h1 hdp hi2 hl d _ (fun e' j lv' hR => by cases hR) (fun j i' lv' hR hj => ?_)).2.1 rfl)
                first | obtain ⟨rfl, rfl, rfl⟩ := s_inl3 hR | obtain rfl := s_inr hR | cases hR
                refine w238_18 ?_
                exact c238x L (r_dead E hj) (kb j i' lv' h2 hj) _ l0
            · rw [if_neg q] at h
              refine w238_10 (fun _ => ?_) (fun w => absurd rfl w)
              exact w238_21 (kg _ _ _ (Option.some.inj h).symm)
/-- readTest -/
theorem c238 (E : r_E S I P T N pl) {f dp : Nat} {R : (Te × Nat × Nat) ⊕ Nat} (h : p_test T f dp i lv = some R) (hdp : dp ≤ 8) (hi : i ≤ N) (hl : lv ≤ 50) (kg : ∀ e' j lv', R = .inl (e', j, lv') → Q none (S, r_s I j lv' (-1), J, P)) (kb : ∀ j i' lv', R = .inr j → j ≤ N → Q none (S, r_s I i' lv' (nI (pl j)), J, P)) : am_ev pr (d + 3 * (8 - dp) + 9) 238 [.ref 124, .int (nI dp)] (S, r_s I i lv (-1), J, P) Q := (r_te E f 3 dp y_0 i lv R h hdp hi hl d Q kg kb).2.2.2.1 rfl
/-- readMore -/
theorem c237 (E : r_E S I P T N pl) {f : Nat} {c : Int32} {R : (Ex × Nat × Nat) ⊕ Nat} (hc : ¬ c = 0) (h : p_more T f c i lv = some R) (hi : i ≤ N) (hl : lv ≤ 50) (kg : ∀ e' j lv', R = .inl (e', j, lv') → Q none (S, r_s I j lv' (-1), J, P)) (kb : ∀ j i' lv', R = .inr j → j ≤ N → Q none (S, r_s I i' lv' (nI (pl j)), J, P)) : am_ev pr (d + 31) 237 [.ref 124, .int c] (S, r_s I i lv (-1), J, P) Q := by
  have L := E.1
  show am_wp pr (d + 31) 237 0 [(0, .ref 124), (1, .int c)] [] _ _
  unfold p_more at h
  refine w237_0 rfl ?_
  refine w237_1 rfl ?_
  refine w237_2 (k := c234 E hi (fun q => ?_) (fun q => ?_))
  · rw [if_pos q] at h
    have hi2 : i < N := p_lt E.2.2.2.1 (by rw [q]; exact hc)
    refine w237_5 rfl ?_
    refine w237_6 ?_
    refine w237_7 (k := c230 (d := d) (dp := 0) E h (by omega) hi2 hl (fun e' j lv' hR => ?_) (fun j i' lv' hR hj => ?_))
    · exact w237_10 (kg _ _ _ hR)
    · exact w237_10 (kb _ _ _ hR hj)
  · rw [if_neg q] at h
    refine w237_5 rfl ?_
    refine w237_6 ?_
    refine w237_7 (k := c230d L (r_dead E hi) ?_)
    refine w237_10 ?_
    exact kb _ _ _ (Option.some.inj h).symm hi
theorem c237d (L : am_Lay S P) (hb : ¬ I 124 21 = -1) {c : Int32} (k : Q none (S, I, J, P)) : am_ev pr (d + 31) 237 [.ref 124, .int c] (S, I, J, P) Q := by
  show am_wp pr (d + 31) 237 0 [(0, .ref 124), (1, .int c)] [] _ _
  refine w237_0 rfl ?_
  refine w237_1 rfl ?_
  refine w237_2 (k := c234d L hb ?_)
  refine w237_5 rfl ?_
  refine w237_6 ?_
  refine w237_7 (k := c230d L hb ?_)
  refine w237_10 ?_
  exact k
end
