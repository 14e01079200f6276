/-! the reference reckons along the tokens: sums of all kinds -/
theorem p_lt {T : Tk} {N i : Nat} (h0 : ∀ q, N ≤ q → T.1 q = 0) (h : ¬ T.1 i = 0) : i < N := Nat.lt_of_not_le (fun z => h (h0 i z))
theorem p_leaf_le {T : Tk} {N i lv j lv' : Nat} {e : Ex} (h0 : ∀ q, N ≤ q → T.1 q = 0) (h : p_leaf T i lv = pOk e j lv') : j ≤ N := by
  rcases (p_leaf_cases h).2.2 with ⟨hc, -, rfl⟩ | ⟨c, kk, -, hc, hcc, hc1, -, -, -, rfl⟩ | ⟨c, -, hc, h1, h2, -, -, rfl⟩ | ⟨c, -, hc, h1, h2, -, rfl⟩
  · exact p_lt h0 (by rw [hc]; decide)
  · exact p_lt h0 (by rw [hc1]; decide)
  · exact p_lt h0 (by rw [hc]; exact nI_ne (b := 0) (by omega) (by omega) (by decide))
  · exact p_lt h0 (by rw [hc]; exact nI_ne (b := 0) (by omega) (by omega) (by decide))
theorem p_go_le {T : Tk} {N : Nat} (h0 : ∀ q, N ≤ q → T.1 q = 0) : ∀ (f m dp : Nat) (e : Ex) (i lv : Nat) (e' : Ex) (j lv' : Nat), p_go T f m dp e i lv = pOk e' j lv' → i ≤ N → j ≤ N
  | 0, _, _, _, _, _, _, _, _, h, _ => by cases h
  | f + 1, m, dp, e, i, lv, e', j, lv', h, hi => by
    unfold p_go at h
    split at h
    · split at h
      · split at h
        · exact (pBad_no h).elim
        · obtain ⟨i2, h1, h2, rfl⟩ := p_must_ok h
          exact p_lt h0 (by rw [h2]; decide)
      · exact p_leaf_le h0 h
    · split at h
      · obtain ⟨e1, i1, l1, h1, h2⟩ := pBind_ok h
        exact p_go_le h0 f _ _ _ _ _ _ _ _ h2 (p_go_le h0 f _ _ _ _ _ _ _ _ h1 hi)
      · split at h
        · split at h
          · rename_i op hop
            have hi2 : i < N := p_lt h0 (by rcases p_opt_some hop with ⟨q, -⟩ | ⟨q, -⟩ | ⟨q, -⟩ <;> rw [q] <;> decide)
            obtain ⟨e1, i1, l1, h1, h2⟩ := pBind_ok h
            exact p_go_le h0 f _ _ _ _ _ _ _ _ h2 (p_go_le h0 f _ _ _ _ _ _ _ _ h1 hi2)
          · obtain ⟨-, rfl, -⟩ := pOk_inj h
            exact hi
        · split at h
          · obtain ⟨e1, i1, l1, h1, h2⟩ := pBind_ok h
            exact p_go_le h0 f _ _ _ _ _ _ _ _ h2 (p_go_le h0 f _ _ _ _ _ _ _ _ h1 hi)
          · split at h
            · rename_i op hop
              have hi2 : i < N := p_lt h0 (by rcases p_ops_some hop with ⟨q, -⟩ | ⟨q, -⟩ <;> rw [q] <;> decide)
              obtain ⟨e1, i1, l1, h1, h2⟩ := pBind_ok h
              exact p_go_le h0 f _ _ _ _ _ _ _ _ h2 (p_go_le h0 f _ _ _ _ _ _ _ _ h1 hi2)
            · obtain ⟨-, rfl, -⟩ := pOk_inj h
              exact hi
theorem v_M.dead {live br : Int32} (h : v_M false live br) : ¬ (live = 1 ∧ br = 0) := by
  rintro ⟨rfl, rfl⟩
  rcases h with ⟨z, -⟩ | ⟨-, ⟨z, -⟩ | ⟨-, z⟩⟩
  · cases z
  · exact absurd z (by decide)
  · exact absurd z (by decide)
theorem v_join {al : Bool} {live b0 br : Int32} {e : Ex} {w : Nat → Nat → Int32} {v : Int64} (hM : v_M al live b0) (h1 : v_R al b0 (e.1 w) v br) : ∃ al2, v_M al2 live br ∧ ∀ (br2 : Int32) (v2 : Int64) (e2 : Ex), v_R al2 br (e2.1 w) v2 br2 → ∀ (op : Nat) (v3 : Int64) (br3 : Int32), (live = 1 → br2 = 0 → (br3 = 0 ∧ e_op op v v2 = some v3 ∨ br3 = 1 ∧ e_op op v v2 = none)) → (¬ (live = 1 ∧ br2 = 0) → br3 = br2) → v_R al b0 ((x_bin op e e2).1 w) v3 br3 := by
  rcases hM.next h1 with ⟨rfl, rfl, rfl, hs⟩ | ⟨hF, ha, hb⟩
  · refine ⟨true, Or.inl ⟨rfl, rfl, rfl⟩, ?_⟩
    intro br2 v2 e2 h2 op v3 br3 k1 k2
    unfold v_R at h2 ⊢
    rw [if_pos rfl] at h2 ⊢
    rcases h2 with ⟨rfl, h2⟩ | ⟨rfl, h2⟩
    · have e3 : (x_bin op e e2).1 w = e_op op v v2 := by
        show (e.1 w).bind (fun x => (e2.1 w).bind (fun y => e_op op x y)) = _
        rw [hs, h2]
        rfl
      rw [e3]
      exact k1 rfl rfl
    · have e3 : (x_bin op e e2).1 w = none := by
        show (e.1 w).bind (fun x => (e2.1 w).bind (fun y => e_op op x y)) = _
        rw [hs, h2]
        rfl
      rw [k2 (fun z => absurd z.2 (by decide))]
      exact Or.inr ⟨rfl, e3⟩
  · refine ⟨false, hF, ?_⟩
    intro br2 v2 e2 h2 op v3 br3 k1 k2
    have hbr : br2 = br := by
      unfold v_R at h2
      rw [if_neg (by decide)] at h2
      exact h2
    have h3 : br3 = br := by
      rw [k2 (fun z => hF.dead (by rw [← hbr]; exact z)), hbr]
    cases al with
    | true =>
      obtain ⟨q1, q2⟩ := ha rfl
      unfold v_R
      rw [if_pos rfl, h3]
      refine Or.inr ⟨q1, ?_⟩
      show (e.1 w).bind (fun x => (e2.1 w).bind (fun y => e_op op x y)) = _
      rw [q2]
      rfl
    | false =>
      unfold v_R
      rw [if_neg (by decide), h3]
      exact hb rfl
section
variable {pr : am_Pr} {S : List (Nat × Nat)} {I : Nat → Nat → Int32} {J : Nat → Nat → Int64} {P : Nat → Nat → Option Nat} {T : Tk} {base N : Nat} {w : Nat → Nat → Int32}
def v_G (pr : am_Pr) (S : List (Nat × Nat)) (I : Nat → Nat → Int32) (J : Nat → Nat → Int64) (P : Nat → Nat → Option Nat) (base : Nat) (w : Nat → Nat → Int32) (d : Nat) (live b0 : Int32) (al : Bool) (Q : Option Value → am_H → Prop) (e : Ex) (i m : Nat) : Prop :=
  (m = 0 → am_ev pr (d + 4) 187 [.ref 124, .int live] (S, v_s I (base + i) b0, J, P) Q)
  ∧ (m = 1 → am_ev pr (d + 5) 186 [.ref 124, .int live] (S, v_s I (base + i) b0, J, P) Q)
  ∧ (m = 2 → ∀ v br, v_R al b0 (e.1 w) v br → ∀ lv, am_ld1 lv 0 = some (.ref 124) → am_ld1 lv 1 = some (.int live) → am_ld2 lv 2 = some (.long v) → am_wp pr (d + 5) 186 6 lv [] (S, v_s I (base + i) br, J, P) Q)
  ∧ (m = 3 → am_ev pr (d + 6) 185 [.ref 124, .int live] (S, v_s I (base + i) b0, J, P) Q)
  ∧ (4 ≤ m → ∀ v br, v_R al b0 (e.1 w) v br → ∀ lv, am_ld1 lv 0 = some (.ref 124) → am_ld1 lv 1 = some (.int live) → am_ld2 lv 2 = some (.long v) → am_wp pr (d + 6) 185 6 lv [] (S, v_s I (base + i) br, J, P) Q)
theorem v_go (E : v_E S I P T base N w) : ∀ (f m dp : Nat) (e : Ex) (i lvs : Nat) (e' : Ex) (j lvs' : Nat), p_go T f m dp e i lvs = pOk e' j lvs' → dp ≤ 8 → i ≤ N → ∀ (d : Nat) (al : Bool) (live b0 : Int32) (Q : Option Value → am_H → Prop), v_M al live b0 → (∀ v br, v_R al b0 (e'.1 w) v br → Q (some (.long v)) (S, v_s I (base + j) br, J, P)) → v_G pr S I J P base w (d + 3 * (8 - dp)) live b0 al Q e i m := by
  have L := E.1
  have hbn := E.2.1
  have h0 := E.2.2.2.2.1
  intro f
  induction f with
  | zero => intro m dp e i lvs e' j lvs' h; cases h
  | succ f ih =>
    intro m dp e i lvs e' j lvs' h hdp hi d al live b0 Q hM k
    unfold p_go at h
    unfold v_G
    split at h
    · rename_i hm
      subst hm
      refine ⟨fun _ => ?_, fun z => absurd z (by decide), fun z => absurd z (by decide), fun z => absurd z (by decide), fun z => absurd z (by decide)⟩
      split at h
      · rename_i h191
        split at h
        · exact (pBad_no h).elim
        · rename_i hdp8
          obtain ⟨i2, h1, h2, rfl⟩ := p_must_ok h
          have hi2 : i < N := E.lt (by rw [h191]; decide)
          rw [show d + 3 * (8 - dp) + 4 = (d + 3 * (8 - (dp + 1)) + 6) + 1 by omega]
          show am_wp pr _ 187 0 [(0, .ref 124), (1, .int live)] [] _ _
          refine w187_0 rfl ?_
          refine w187_1 ?_
          refine w187_3 (k := c188 (y := 191) (by decide) ?_)
          refine w187_6 (k := c189 E (by omega) (fun _ => ?_) (fun q => absurd h191 q))
          refine w187_9 (fun h => absurd h (by decide)) (fun _ => ?_)
          refine w187_12 rfl ?_
          refine w187_13 rfl ?_
          refine w187_14 (k := (ih 3 (dp + 1) e (i + 1) lvs e' i2 lvs' h1 (by omega) (by omega) d al live b0 _ hM (fun v br hv => ?_)).2.2.2.1 rfl)
          refine w187_17 ?_
          refine w187_18 rfl ?_
          refine w187_19 rfl ?_
          refine w187_20 ?_
          rw [v_s_go]
          refine w187_23 ?_
          refine w187_24 ?_
          rw [nI_1]
          refine w187_25 ?_
          rw [v_s_22, Nat.add_assoc]
          refine w187_28 rfl ?_
          refine w187_29 ?_
          exact k v br hv
      · rename_i h191
        exact c187l E h h191 hi hM k
    · split at h
      · rename_i hm0 hm
        subst hm
        refine ⟨fun z => absurd z (by decide), fun _ => ?_, fun z => absurd z (by decide), fun z => absurd z (by decide), fun z => absurd z (by decide)⟩
        obtain ⟨e1, i1, l1, h1, h2⟩ := pBind_ok h
        have hi1 := p_go_le h0 f _ _ _ _ _ _ _ _ h1 hi
        show am_wp pr _ 186 0 [(0, .ref 124), (1, .int live)] [] _ _
        refine w186_0 rfl ?_
        refine w186_1 rfl ?_
        refine w186_2 (k := (ih 0 dp e i lvs e1 i1 l1 h1 hdp hi d al live b0 _ hM (fun v br hv => ?_)).1 rfl)
        refine w186_5 ?_
        exact (ih 2 dp e1 i1 l1 e' j lvs' h2 hdp hi1 d al live b0 Q hM k).2.2.1 rfl v br hv _ rfl rfl rfl
      · split at h
        · rename_i hm0 hm1 hm
          subst hm
          refine ⟨fun z => absurd z (by decide), fun z => absurd z (by decide), fun _ => ?_, fun z => absurd z (by decide), fun z => absurd z (by decide)⟩
          intro v br hv lv l0 l1 l2
          split at h
          · rename_i op hop
            obtain ⟨e1, i1, l1', h1, h2⟩ := pBind_ok h
            have hops := p_opt_some hop
            have hi2 : i < N := E.lt (by rcases hops with ⟨q, -⟩ | ⟨q, -⟩ | ⟨q, -⟩ <;> rw [q] <;> decide)
            have hi1 := p_go_le h0 f _ _ _ _ _ _ _ _ h1 hi2
            obtain ⟨al2, hM2, hJ⟩ := v_join hM hv
            have k54 : ∀ lv, am_ld1 lv 0 = some (.ref 124) → am_ld1 lv 1 = some (.int live) → am_ld2 lv 2 = some (.long v) → am_wp pr (d + 3 * (8 - dp) + 5) 186 54 lv [] (S, v_s I (base + i) br, J, P) Q := by
              intro lv l0 l1 l2
              refine w186_54 l0 ?_
              refine w186_55 l0 ?_
              refine w186_56 ?_
              rw [v_s_go]
              refine w186_59 (k := c184 E (by omega) ?_)
              refine w186_62 ?_
              refine w186_64 l0 ?_
              refine w186_65 rfl ?_
              refine w186_66 ?_
              rw [v_s_go]
              refine w186_69 ?_
              refine w186_70 ?_
              rw [nI_1]
              refine w186_71 ?_
              rw [v_s_22, Nat.add_assoc]
              refine w186_74 l0 ?_
              refine w186_75 l1 ?_
              refine w186_76 (k := (ih 0 dp e (i + 1) lvs e1 i1 l1' h1 hdp hi2 d al2 live br _ hM2 (fun v2 br2 hv2 => ?_)).1 rfl)
              refine w186_79 ?_
              refine c186t L hops hM.live ?_ ?_ _ l0 l1 l2 rfl rfl
              · rcases hM2 with ⟨rfl, -, -⟩ | ⟨rfl, z⟩
                · unfold v_R at hv2
                  rw [if_pos rfl] at hv2
                  exact hv2.elim (fun z => Or.inl z.1) (fun z => Or.inr z.1)
                · unfold v_R at hv2
                  rw [if_neg (by decide)] at hv2
                  rw [hv2]
                  exact z.elim (fun y => y.2) (fun y => Or.inr y.2)
              · intro v3 br3 q1 q2
                exact (ih 2 dp (x_bin op e e1) i1 l1' e' j lvs' h2 hdp hi1 d al live b0 Q hM k).2.2.1 rfl v3 br3 (hJ br2 v2 e1 hv2 op v3 br3 q1 q2)
            rcases hops with ⟨q, -⟩ | ⟨q, -⟩ | ⟨q, -⟩
            · refine w186_6 l0 ?_
              refine w186_7 l0 ?_
              refine w186_8 ?_
              rw [v_s_go]
              refine w186_11 (k := c184 E (by omega) ?_)
              rw [q]
              refine w186_14 ?_
              refine w186_16 (k := c188 (y := 142) (by decide) ?_)
              refine w186_19 (fun _ => ?_) (fun h => absurd rfl h)
              exact k54 _ l0 l1 l2
            · refine w186_6 l0 ?_
              refine w186_7 l0 ?_
              refine w186_8 ?_
              rw [v_s_go]
              refine w186_11 (k := c184 E (by omega) ?_)
              rw [q]
              refine w186_14 ?_
              refine w186_16 (k := c188 (y := 142) (by decide) ?_)
              refine w186_19 (fun h => absurd h (by decide)) (fun _ => ?_)
              refine w186_22 l0 ?_
              refine w186_23 l0 ?_
              refine w186_24 ?_
              rw [v_s_go]
              refine w186_27 (k := c184 E (by omega) ?_)
              rw [q]
              refine w186_30 ?_
              refine w186_32 (k := c188 (y := 147) (by decide) ?_)
              refine w186_35 (fun _ => ?_) (fun h => absurd rfl h)
              exact k54 _ l0 l1 l2
            · refine w186_6 l0 ?_
              refine w186_7 l0 ?_
              refine w186_8 ?_
              rw [v_s_go]
              refine w186_11 (k := c184 E (by omega) ?_)
              rw [q]
              refine w186_14 ?_
              refine w186_16 (k := c188 (y := 142) (by decide) ?_)
              refine w186_19 (fun h => absurd h (by decide)) (fun _ => ?_)
              refine w186_22 l0 ?_
              refine w186_23 l0 ?_
              refine w186_24 ?_
              rw [v_s_go]
              refine w186_27 (k := c184 E (by omega) ?_)
              rw [q]
              refine w186_30 ?_
              refine w186_32 (k := c188 (y := 147) (by decide) ?_)
              refine w186_35 (fun h => absurd h (by decide)) (fun _ => ?_)
              refine w186_38 l0 ?_
              refine w186_39 l0 ?_
              refine w186_40 ?_
              rw [v_s_go]
              refine w186_43 (k := c184 E (by omega) ?_)
              rw [q]
              refine w186_46 ?_
              refine w186_48 (k := c188 (y := 137) (by decide) ?_)
              refine w186_51 (fun h => absurd h (fun z => z rfl)) (fun _ => ?_)
              exact k54 _ l0 l1 l2
          · rename_i hop
            obtain ⟨q1, q2, q3⟩ := p_opt_none hop
            obtain ⟨rfl, rfl, -⟩ := pOk_inj h
            refine w186_6 l0 ?_
            refine w186_7 l0 ?_
            refine w186_8 ?_
            rw [v_s_go]
            refine w186_11 (k := c184 E (by omega) ?_)
            refine w186_14 ?_
            refine w186_16 (k := c188 (y := 142) (by decide) ?_)
            refine w186_19 (fun h => absurd h q1) (fun _ => ?_)
            refine w186_22 l0 ?_
            refine w186_23 l0 ?_
            refine w186_24 ?_
            rw [v_s_go]
            refine w186_27 (k := c184 E (by omega) ?_)
            refine w186_30 ?_
            refine w186_32 (k := c188 (y := 147) (by decide) ?_)
            refine w186_35 (fun h => absurd h q2) (fun _ => ?_)
            refine w186_38 l0 ?_
            refine w186_39 l0 ?_
            refine w186_40 ?_
            rw [v_s_go]
            refine w186_43 (k := c184 E (by omega) ?_)
            refine w186_46 ?_
            refine w186_48 (k := c188 (y := 137) (by decide) ?_)
            refine w186_51 (fun _ => ?_) (fun h => absurd q3 h)
            refine w186_168 l2 ?_
            refine w186_169 ?_
            exact k v br hv
        · split at h
          · rename_i hm0 hm1 hm2 hm
            subst hm
            refine ⟨fun z => absurd z (by decide), fun z => absurd z (by decide), fun z => absurd z (by decide), fun _ => ?_, fun z => absurd z (by decide)⟩
            obtain ⟨e1, i1, l1, h1, h2⟩ := pBind_ok h
            have hi1 := p_go_le h0 f _ _ _ _ _ _ _ _ h1 hi
            show am_wp pr _ 185 0 [(0, .ref 124), (1, .int live)] [] _ _
            refine w185_0 rfl ?_
            refine w185_1 rfl ?_
            refine w185_2 (k := (ih 1 dp e i lvs e1 i1 l1 h1 hdp hi d al live b0 _ hM (fun v br hv => ?_)).2.1 rfl)
            refine w185_5 ?_
            exact (ih 4 dp e1 i1 l1 e' j lvs' h2 hdp hi1 d al live b0 Q hM k).2.2.2.2 (Nat.le_refl 4) v br hv _ rfl rfl rfl
          · rename_i hm0 hm1 hm2 hm3
            refine ⟨fun z => absurd z hm0, fun z => absurd z hm1, fun z => absurd z hm2, fun z => absurd z hm3, fun _ => ?_⟩
            intro v br hv lv l0 l1 l2
            split at h
            · rename_i op hop
              obtain ⟨e1, i1, l1', h1, h2⟩ := pBind_ok h
              have hops := p_ops_some hop
              have hi2 : i < N := E.lt (by rcases hops with ⟨q, -⟩ | ⟨q, -⟩ <;> rw [q] <;> decide)
              have hi1 := p_go_le h0 f _ _ _ _ _ _ _ _ h1 hi2
              obtain ⟨al2, hM2, hJ⟩ := v_join hM hv
              have hb2 : ∀ br2 v2, v_R al2 br (e1.1 w) v2 br2 → br2 = 0 ∨ br2 = 1 := by
                intro br2 v2 hv2
                rcases hM2 with ⟨rfl, -, -⟩ | ⟨rfl, z⟩
                · unfold v_R at hv2
                  rw [if_pos rfl] at hv2
                  exact hv2.elim (fun z => Or.inl z.1) (fun z => Or.inr z.1)
                · unfold v_R at hv2
                  rw [if_neg (by decide)] at hv2
                  rw [hv2]
                  exact z.elim (fun y => y.2) (fun y => Or.inr y.2)
              rcases hops with ⟨q, rfl⟩ | ⟨q, rfl⟩
              · refine w185_6 l0 ?_
                refine w185_7 l0 ?_
                refine w185_8 ?_
                rw [v_s_go]
                refine w185_11 (k := c184 E (by omega) ?_)
                rw [q]
                refine w185_14 ?_
                refine w185_16 (k := c188 (y := 143) (by decide) ?_)
                refine w185_19 (fun _ => ?_) (fun h => absurd rfl h)
                refine w185_38 l0 ?_
                refine w185_39 l0 ?_
                refine w185_40 ?_
                rw [v_s_go]
                refine w185_43 (k := c184 E (by omega) ?_)
                rw [q]
                refine w185_46 ?_
                refine w185_48 (k := c188 (y := 143) (by decide) ?_)
                refine w185_51 (fun h => absurd h (fun z => z rfl)) (fun _ => ?_)
                refine w185_54 ?_
                refine w185_55 ?_
                refine w185_59 ?_
                refine w185_61 l0 ?_
                refine w185_62 rfl ?_
                refine w185_63 ?_
                rw [v_s_go]
                refine w185_66 ?_
                refine w185_67 ?_
                rw [nI_1]
                refine w185_68 ?_
                rw [v_s_22, Nat.add_assoc]
                refine w185_71 l0 ?_
                refine w185_72 l1 ?_
                refine w185_73 (k := (ih 1 dp e (i + 1) lvs e1 i1 l1' h1 hdp hi2 d al2 live br _ hM2 (fun v2 br2 hv2 => ?_)).2.1 rfl)
                refine w185_76 ?_
                refine w185_78 l0 ?_
                refine w185_79 rfl ?_
                refine w185_81 (fun h => absurd h (by decide)) (fun _ => ?_)
                refine w185_84 l2 ?_
                refine w185_85 rfl ?_
                refine w185_87 ?_
                refine w185_88 ?_
                refine w185_95 l1 ?_
                refine w185_96 (k := c192 L hM.live (hb2 br2 v2 hv2) (fun v3 br3 q1 q2 => ?_))
                refine w185_99 ?_
                refine w185_100 ?_
                exact (ih 4 dp (x_bin 0 e e1) i1 l1' e' j lvs' h2 hdp hi1 d al live b0 Q hM k).2.2.2.2 (Nat.le_refl 4) v3 br3 (hJ br2 v2 e1 hv2 0 v3 br3 q1 q2) _ l0 l1 rfl
              · refine w185_6 l0 ?_
                refine w185_7 l0 ?_
                refine w185_8 ?_
                rw [v_s_go]
                refine w185_11 (k := c184 E (by omega) ?_)
                rw [q]
                refine w185_14 ?_
                refine w185_16 (k := c188 (y := 143) (by decide) ?_)
                refine w185_19 (fun h => absurd h (by decide)) (fun _ => ?_)
                refine w185_22 l0 ?_
                refine w185_23 l0 ?_
                refine w185_24 ?_
                rw [v_s_go]
                refine w185_27 (k := c184 E (by omega) ?_)
                rw [q]
                refine w185_30 ?_
                refine w185_32 (k := c188 (y := 145) (by decide) ?_)
                refine w185_35 (fun h => absurd h (fun z => z rfl)) (fun _ => ?_)
                refine w185_38 l0 ?_
                refine w185_39 l0 ?_
                refine w185_40 ?_
                rw [v_s_go]
                refine w185_43 (k := c184 E (by omega) ?_)
                rw [q]
                refine w185_46 ?_
                refine w185_48 (k := c188 (y := 143) (by decide) ?_)
                refine w185_51 (fun _ => ?_) (fun h => absurd (by decide) h)
                refine w185_58 ?_
                refine w185_59 ?_
                refine w185_61 l0 ?_
                refine w185_62 rfl ?_
                refine w185_63 ?_
                rw [v_s_go]
                refine w185_66 ?_
                refine w185_67 ?_
                rw [nI_1]
                refine w185_68 ?_
                rw [v_s_22, Nat.add_assoc]
                refine w185_71 l0 ?_
                refine w185_72 l1 ?_
                refine w185_73 (k := (ih 1 dp e (i + 1) lvs e1 i1 l1' h1 hdp hi2 d al2 live br _ hM2 (fun v2 br2 hv2 => ?_)).2.1 rfl)
                refine w185_76 ?_
                refine w185_78 l0 ?_
                refine w185_79 rfl ?_
                refine w185_81 (fun _ => ?_) (fun h => absurd rfl h)
                refine w185_91 l2 ?_
                refine w185_92 rfl ?_
                refine w185_94 ?_
                refine w185_95 l1 ?_
                refine w185_96 (k := c192 L hM.live (hb2 br2 v2 hv2) (fun v3 br3 q1 q2 => ?_))
                refine w185_99 ?_
                refine w185_100 ?_
                exact (ih 4 dp (x_bin 1 e e1) i1 l1' e' j lvs' h2 hdp hi1 d al live b0 Q hM k).2.2.2.2 (Nat.le_refl 4) v3 br3 (hJ br2 v2 e1 hv2 1 v3 br3 q1 q2) _ l0 l1 rfl
            · rename_i hop
              obtain ⟨q1, q2⟩ := p_ops_none hop
              obtain ⟨rfl, rfl, -⟩ := pOk_inj h
              refine w185_6 l0 ?_
              refine w185_7 l0 ?_
              refine w185_8 ?_
              rw [v_s_go]
              refine w185_11 (k := c184 E (by omega) ?_)
              refine w185_14 ?_
              refine w185_16 (k := c188 (y := 143) (by decide) ?_)
              refine w185_19 (fun h => absurd h q1) (fun _ => ?_)
              refine w185_22 l0 ?_
              refine w185_23 l0 ?_
              refine w185_24 ?_
              rw [v_s_go]
              refine w185_27 (k := c184 E (by omega) ?_)
              refine w185_30 ?_
              refine w185_32 (k := c188 (y := 145) (by decide) ?_)
              refine w185_35 (fun _ => ?_) (fun h => absurd q2 h)
              refine w185_103 l2 ?_
              refine w185_104 ?_
              exact k v br hv
/-- sumOf -/
theorem c185 (E : v_E S I P T base N w) {d f dp i lvs j lvs' : Nat} {e : Ex} (h : p_sum T f dp i lvs = pOk e j lvs') (hdp : dp ≤ 8) (hi : i ≤ N) {al : Bool} {live b0 : Int32} {Q : Option Value → am_H → Prop} (hM : v_M al live b0) (k : ∀ v br, v_R al b0 (e.1 w) v br → Q (some (.long v)) (S, v_s I (base + j) br, J, P)) : am_ev pr (d + 3 * (8 - dp) + 6) 185 [.ref 124, .int live] (S, v_s I (base + i) b0, J, P) Q := (v_go E f 3 dp x_0 i lvs e j lvs' h hdp hi d al live b0 Q hM k).2.2.2.1 rfl
end
