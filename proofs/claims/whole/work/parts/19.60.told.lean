/-! the reference reckons along the tokens: tests -/
theorem p_opc_some {c : Int32} {op : Nat} (h : p_opc c = some op) : c = 160 ∧ op = 0 ∨ c = 162 ∧ op = 1 ∨ c = 161 ∧ op = 2 := by
  unfold p_opc at h
  split at h
  · rename_i z; cases h; exact Or.inl ⟨z, rfl⟩
  · split at h
    · rename_i z; cases h; exact Or.inr (Or.inl ⟨z, rfl⟩)
    · split at h
      · rename_i z; cases h; exact Or.inr (Or.inr ⟨z, rfl⟩)
      · cases h
theorem p_nots_le {T : Tk} {N : Nat} (h0 : ∀ q, N ≤ q → T.1 q = 0) : ∀ (f : Nat) (b : Bool) (i : Nat) (b' : Bool) (j : Nat), p_nots T f b i = some (b', j) → i ≤ N → j ≤ N ∧ ¬ T.1 j = 7
  | 0, _, _, _, _, h, _ => by cases h
  | f + 1, b, i, b', j, h, hi => by
    unfold p_nots at h
    split at h
    · rename_i h7
      exact p_nots_le h0 f _ _ _ _ h (p_lt h0 (by rw [h7]; decide))
    · rename_i h7
      cases h
      exact ⟨hi, h7⟩
theorem p_sum_le {T : Tk} {N : Nat} (h0 : ∀ q, N ≤ q → T.1 q = 0) {f dp i lv j lv' : Nat} {e : Ex} (h : p_sum T f dp i lv = pOk e j lv') (hi : i ≤ N) : j ≤ N := p_go_le h0 f _ _ _ _ _ _ _ _ h hi
theorem p_cmp_ok {T : Tk} {f dp i lv j lv' : Nat} {e : Te} (h : p_cmp T f dp i lv = pOk e j lv') : ∃ a j1 l1 op b, p_sum T f dp i lv = pOk a j1 l1 ∧ p_opc (T.1 j1) = some op ∧ p_sum T f dp (j1 + 1) l1 = pOk b j lv' ∧ e = y_cmp op a b := by
  obtain ⟨a, i1, l1, h1, h2⟩ := pBind_ok h
  split at h2
  · rename_i op hop
    obtain ⟨b, i2, l2, h3, h4⟩ := pBind_ok h2
    obtain ⟨rfl, rfl, rfl⟩ := pOk_inj h4
    exact ⟨a, i1, l1, op, b, h1, hop, h3, rfl⟩
  · exact (pBad_no h2).elim
theorem p_cmp_le {T : Tk} {N : Nat} (h0 : ∀ q, N ≤ q → T.1 q = 0) {f dp i lv j lv' : Nat} {e : Te} (h : p_cmp T f dp i lv = pOk e j lv') : j ≤ N := by
  obtain ⟨a, j1, l1, op, b, h1, h2, h3, -⟩ := p_cmp_ok h
  exact p_sum_le h0 h3 (p_lt h0 (by rcases p_opc_some h2 with ⟨q, -⟩ | ⟨q, -⟩ | ⟨q, -⟩ <;> rw [q] <;> decide))
theorem q_go_le {T : Tk} {N : Nat} (h0 : ∀ q, N ≤ q → T.1 q = 0) : ∀ (f m dp : Nat) (e : Te) (i lv : Nat) (e' : Te) (j lv' : Nat), q_go T f m dp e i lv = pOk e' j lv' → i ≤ N → j ≤ N
  | 0, _, _, _, _, _, _, _, _, h, _ => by cases h
  | f + 1, m, dp, e, i, lv, e', j, lv', h, hi => by
    unfold q_go at h
    split at h
    · split at h
      · cases h
      · obtain ⟨t, h1, -⟩ := pMap_ok h
        split at h1
        · split at h1
          · exact (pBad_no h1).elim
          · obtain ⟨i2, -, h2, rfl⟩ := p_must_ok h1
            exact p_lt h0 (by rw [h2]; decide)
        · exact p_cmp_le h0 h1
    · split at h
      · obtain ⟨e1, i1, l1, h1, h2⟩ := pBind_ok h
        exact q_go_le h0 f _ _ _ _ _ _ _ _ h2 (q_go_le h0 f _ _ _ _ _ _ _ _ h1 hi)
      · split at h
        · split at h
          · rename_i h6
            obtain ⟨e1, i1, l1, h1, h2⟩ := pBind_ok h
            exact q_go_le h0 f _ _ _ _ _ _ _ _ h2 (q_go_le h0 f _ _ _ _ _ _ _ _ h1 (p_lt h0 (by rw [h6]; decide)))
          · obtain ⟨-, rfl, -⟩ := pOk_inj h
            exact hi
        · split at h
          · obtain ⟨e1, i1, l1, h1, h2⟩ := pBind_ok h
            exact q_go_le h0 f _ _ _ _ _ _ _ _ h2 (q_go_le h0 f _ _ _ _ _ _ _ _ h1 hi)
          · split at h
            · rename_i h5
              obtain ⟨e1, i1, l1, h1, h2⟩ := pBind_ok h
              exact q_go_le h0 f _ _ _ _ _ _ _ _ h2 (q_go_le h0 f _ _ _ _ _ _ _ _ h1 (p_lt h0 (by rw [h5]; decide)))
            · obtain ⟨-, rfl, -⟩ := pOk_inj h
              exact hi
theorem v_R_f {α : Type} {b0 br : Int32} {r : Option α} {v : α} (h : v_R false b0 r v br) : br = b0 := by
  unfold v_R at h
  rw [if_neg (by decide)] at h
  exact h
theorem v_R_t {α : Type} {b0 br : Int32} {r : Option α} {v : α} (h : v_R true b0 r v br) : br = 0 ∧ r = some v ∨ br = 1 ∧ r = none := by
  unfold v_R at h
  rw [if_pos rfl] at h
  exact h
theorem v_R_i {α : Type} {b0 br : Int32} {r : Option α} {v : α} (h : br = 0 ∧ r = some v ∨ br = 1 ∧ r = none) : v_R true b0 r v br := by
  unfold v_R
  rw [if_pos rfl]
  exact h
theorem v_R_if {α : Type} {b0 br : Int32} {r : Option α} {v : α} (h : br = b0) : v_R false b0 r v br := by
  unfold v_R
  rw [if_neg (by decide)]
  exact h
/-- broken stays so -/
theorem v_R_dead {α β : Type} {al : Bool} {b0 br : Int32} {r : Option α} {r2 : Option β} {v2 : β} (ha : al = true → br = 1 ∧ r = none) (hb : al = false → br = b0) (h : r = none → r2 = none) : v_R al b0 r2 v2 br := by
  cases al with
  | true => exact v_R_i (Or.inr ⟨(ha rfl).1, h (ha rfl).2⟩)
  | false => exact v_R_if (hb rfl)
theorem v_R_b {α : Type} {al : Bool} {live b0 br : Int32} {r : Option α} {v : α} (hM : v_M al live b0) (h : v_R al b0 r v br) : br = 0 ∨ br = 1 := by
  rcases hM.next h with ⟨-, -, z, -⟩ | ⟨z, -⟩
  · exact Or.inl z
  · exact z.b0
theorem v_dead2 {live live2 br : Int32} (h : v_M false live br) (h2 : live2 = live ∨ live2 = 0) : v_M false live2 br := by
  rcases h2 with rfl | rfl
  · exact h
  · exact Or.inr ⟨rfl, Or.inl ⟨rfl, h.b0⟩⟩
theorem v_and {al : Bool} {live b0 br : Int32} {e : Te} {w : Nat → Nat → Int32} {v : Bool} (hM : v_M al live b0) (h1 : v_R al b0 (e.1 w) v br) : ∃ al2, v_M al2 (if v = true then live else 0) br ∧ ∀ (br2 : Int32) (v2 : Bool) (e2 : Te), v_R al2 br (e2.1 w) v2 br2 → v_R al b0 ((y_and e e2).1 w) (v && v2) br2 := by
  have e3 : ∀ e2 : Te, (y_and e e2).1 w = (e.1 w).bind (fun x => if x then e2.1 w else some false) := fun _ => rfl
  rcases hM.next h1 with ⟨rfl, rfl, rfl, hs⟩ | ⟨hF, ha, hb⟩
  · cases v with
    | true =>
      refine ⟨true, Or.inl ⟨rfl, rfl, rfl⟩, fun br2 v2 e2 h2 => ?_⟩
      rw [e3, hs]
      exact v_R_i (v_R_t h2)
    | false =>
      refine ⟨false, Or.inr ⟨rfl, Or.inl ⟨rfl, Or.inl rfl⟩⟩, fun br2 v2 e2 h2 => ?_⟩
      rw [e3, hs, v_R_f h2]
      exact v_R_i (Or.inl ⟨rfl, rfl⟩)
  · refine ⟨false, v_dead2 hF (by cases v <;> simp), fun br2 v2 e2 h2 => ?_⟩
    rw [v_R_f h2, e3]
    exact v_R_dead (r := e.1 w) ha hb (fun z => by rw [z]; rfl)
theorem v_or {al : Bool} {live b0 br : Int32} {e : Te} {w : Nat → Nat → Int32} {v : Bool} (hM : v_M al live b0) (h1 : v_R al b0 (e.1 w) v br) : ∃ al2, v_M al2 (if v = true then 0 else live) br ∧ ∀ (br2 : Int32) (v2 : Bool) (e2 : Te), v_R al2 br (e2.1 w) v2 br2 → v_R al b0 ((y_or e e2).1 w) (v || v2) br2 := by
  have e3 : ∀ e2 : Te, (y_or e e2).1 w = (e.1 w).bind (fun x => if x then some true else e2.1 w) := fun _ => rfl
  rcases hM.next h1 with ⟨rfl, rfl, rfl, hs⟩ | ⟨hF, ha, hb⟩
  · cases v with
    | false =>
      refine ⟨true, Or.inl ⟨rfl, rfl, rfl⟩, fun br2 v2 e2 h2 => ?_⟩
      rw [e3, hs]
      exact v_R_i (v_R_t h2)
    | true =>
      refine ⟨false, Or.inr ⟨rfl, Or.inl ⟨rfl, Or.inl rfl⟩⟩, fun br2 v2 e2 h2 => ?_⟩
      rw [e3, hs, v_R_f h2]
      exact v_R_i (Or.inl ⟨rfl, rfl⟩)
  · refine ⟨false, v_dead2 hF (by cases v <;> simp), fun br2 v2 e2 h2 => ?_⟩
    rw [v_R_f h2, e3]
    exact v_R_dead (r := e.1 w) ha hb (fun z => by rw [z]; rfl)
theorem v_cmp {al : Bool} {live b0 br : Int32} {a : Ex} {w : Nat → Nat → Int32} {v : Int64} (hM : v_M al live b0) (h1 : v_R al b0 (a.1 w) v br) : ∃ al2, v_M al2 live br ∧ ∀ (br2 : Int32) (v2 : Int64) (b : Ex), v_R al2 br (b.1 w) v2 br2 → (live = 1 ∧ br2 = 0 ∧ ∀ op, v_R al b0 ((y_cmp op a b).1 w) (e_cm op v v2) br2) ∨ ((live = 0 ∨ live = 1 ∧ br2 = 1) ∧ ∀ op x, v_R al b0 ((y_cmp op a b).1 w) x br2) := by
  have e3 : ∀ op (b : Ex), (y_cmp op a b).1 w = (a.1 w).bind (fun x => (b.1 w).bind (fun y => some (e_cm op x y))) := fun _ _ => rfl
  rcases hM.next h1 with ⟨rfl, rfl, rfl, hs⟩ | ⟨hF, ha, hb⟩
  · refine ⟨true, Or.inl ⟨rfl, rfl, rfl⟩, fun br2 v2 b h2 => ?_⟩
    rcases v_R_t h2 with ⟨rfl, h3⟩ | ⟨rfl, h3⟩
    · refine Or.inl ⟨rfl, rfl, fun op => ?_⟩
      rw [e3, hs, h3]
      exact v_R_i (Or.inl ⟨rfl, rfl⟩)
    · refine Or.inr ⟨Or.inr ⟨rfl, rfl⟩, fun op x => ?_⟩
      rw [e3, hs, h3]
      exact v_R_i (Or.inr ⟨rfl, rfl⟩)
  · refine ⟨false, hF, fun br2 v2 b h2 => Or.inr ⟨?_, fun op x => ?_⟩⟩
    · rw [v_R_f h2]
      rcases hF with ⟨z, -⟩ | ⟨-, ⟨z, -⟩ | z⟩
      · cases z
      · exact Or.inl z
      · exact Or.inr z
    · rw [v_R_f h2, e3]
      exact v_R_dead (r := a.1 w) ha hb (fun z => by rw [z]; rfl)
theorem v_neg {al : Bool} {b0 br : Int32} {t : Te} {w : Nat → Nat → Int32} {v b : Bool} (h : v_R al b0 (t.1 w) v br) : v_R al b0 ((if b = true then y_neg t else t).1 w) (if b = true then !v else v) br := by
  cases b with
  | false => exact h
  | true =>
    show v_R al b0 ((t.1 w).map (fun x => !x)) (!v) br
    cases al with
    | false => exact v_R_if (v_R_f h)
    | true =>
      rcases v_R_t h with ⟨h1, h2⟩ | ⟨h1, h2⟩
      · rw [h2]
        exact v_R_i (Or.inl ⟨h1, rfl⟩)
      · rw [h2]
        exact v_R_i (Or.inr ⟨h1, rfl⟩)
theorem am_bt : am_b (true = true) = 1 := rfl
theorem am_bf : am_b (false = true) = 0 := rfl
section
variable {pr : am_Pr} {S : List (Nat × Nat)} {I : Nat → Nat → Int32} {J : Nat → Nat → Int64} {P : Nat → Nat → Option Nat} {T : Tk} {base N : Nat} {w : Nat → Nat → Int32}
/-- rows of "not" -/
theorem u_nots (E : v_E S I P T base N w) {d : Nat} {br live : Int32} {Q : Option Value → am_H → Prop} : ∀ (f : Nat) (b : Bool) (i : Nat) (b' : Bool) (j : Nat), p_nots T f b i = some (b', j) → i ≤ N → (∀ lv, am_ld1 lv 0 = some (.ref 124) → am_ld1 lv 1 = some (.int live) → am_ld1 lv 2 = some (.int (am_b (b' = true))) → am_wp pr (d + 2) 195 24 lv [] (S, v_s I (base + j) br, J, P) Q) → (∀ lv, am_ld1 lv 0 = some (.ref 124) → am_ld1 lv 1 = some (.int live) → am_ld1 lv 2 = some (.int (am_b (b = true))) → am_wp pr (d + 2) 195 2 lv [] (S, v_s I (base + i) br, J, P) Q)
  | 0, _, _, _, _, h, _, _ => by cases h
  | f + 1, b, i, b', j, h, hi, k => by
    have L := E.1
    have hbn := E.2.1
    intro lv l0 l1 l2
    unfold p_nots at h
    split at h
    · rename_i h7
      have hi2 : i < N := E.lt (by rw [h7]; decide)
      have ih := u_nots E f (!b) (i + 1) b' j h hi2 k
      cases b with
      | true =>
        refine w195_2 l0 ?_
        refine w195_3 ?_
        refine w195_5 (k := c189 E (by omega) (fun _ => ?_) (fun q => absurd h7 q))
        refine w195_8 (fun h => absurd h (by decide)) (fun _ => ?_)
        refine w195_11 l2 ?_
        refine w195_12 (fun _ => ?_) (fun h => absurd (by decide) h)
        refine w195_19 ?_
        refine w195_20 ?_
        refine w195_21 ?_
        exact ih _ l0 l1 rfl
      | false =>
        refine w195_2 l0 ?_
        refine w195_3 ?_
        refine w195_5 (k := c189 E (by omega) (fun _ => ?_) (fun q => absurd h7 q))
        refine w195_8 (fun h => absurd h (by decide)) (fun _ => ?_)
        refine w195_11 l2 ?_
        refine w195_12 (fun h => absurd h (by decide)) (fun _ => ?_)
        refine w195_15 ?_
        refine w195_16 ?_
        refine w195_20 ?_
        refine w195_21 ?_
        exact ih _ l0 l1 rfl
    · rename_i h7
      cases h
      refine w195_2 l0 ?_
      refine w195_3 ?_
      refine w195_5 (k := c189 E (by omega) (fun q => absurd q h7) (fun _ => ?_))
      refine w195_8 (fun _ => ?_) (fun h => absurd rfl h)
      exact k _ l0 l1 l2
def u_G (pr : am_Pr) (S : List (Nat × Nat)) (I : Nat → Nat → Int32) (J : Nat → Nat → Int64) (P : Nat → Nat → Option Nat) (base : Nat) (w : Nat → Nat → Int32) (d : Nat) (live b0 : Int32) (al : Bool) (Q : Option Value → am_H → Prop) (e : Te) (i m : Nat) : Prop :=
  (m = 0 → am_ev pr (d + 8) 195 [.ref 124, .int live] (S, v_s I (base + i) b0, J, P) Q)
  ∧ (m = 1 → am_ev pr (d + 9) 194 [.ref 124, .int live] (S, v_s I (base + i) b0, J, P) Q)
  ∧ (m = 2 → ∀ (v : Bool) (br : Int32), v_R al b0 (e.1 w) v br → ∀ lv, am_ld1 lv 0 = some (.ref 124) → am_ld1 lv 1 = some (.int live) → am_ld1 lv 2 = some (.int (am_b (v = true))) → am_wp pr (d + 9) 194 6 lv [] (S, v_s I (base + i) br, J, P) Q)
  ∧ (m = 3 → am_ev pr (d + 10) 193 [.ref 124, .int live] (S, v_s I (base + i) b0, J, P) Q)
  ∧ (4 ≤ m → ∀ (v : Bool) (br : Int32), v_R al b0 (e.1 w) v br → ∀ lv, am_ld1 lv 0 = some (.ref 124) → am_ld1 lv 1 = some (.int live) → am_ld1 lv 2 = some (.int (am_b (v = true))) → am_wp pr (d + 10) 193 6 lv [] (S, v_s I (base + i) br, J, P) Q)
/-- positiveOf, of two sums compared -/
theorem c196c (E : v_E S I P T base N w) {d f dp i lvs j lvs' : Nat} {e : Te} (h : p_cmp T f dp i lvs = pOk e j lvs') (h140 : ¬ T.1 i = 140) (hdp : dp ≤ 8) (hi : i ≤ N) {al : Bool} {live b0 : Int32} {Q : Option Value → am_H → Prop} (hM : v_M al live b0) (k : ∀ (v : Bool) (br : Int32), v_R al b0 (e.1 w) v br → Q (some (.int (am_b (v = true)))) (S, v_s I (base + j) br, J, P)) : am_ev pr (d + 3 * (8 - dp) + 7) 196 [.ref 124, .int live] (S, v_s I (base + i) b0, J, P) Q := by
  have L := E.1
  have hbn := E.2.1
  have h0 := E.2.2.2.2.1
  obtain ⟨a, j1, l1, op, b, h1, hop, h2, rfl⟩ := p_cmp_ok h
  have hops := p_opc_some hop
  have hj1 : j1 < N := E.lt (by rcases hops with ⟨q, -⟩ | ⟨q, -⟩ | ⟨q, -⟩ <;> rw [q] <;> decide)
  show am_wp pr _ 196 0 [(0, .ref 124), (1, .int live)] [] _ _
  refine w196_0 rfl ?_
  refine w196_1 ?_
  refine w196_3 (k := c188 (y := 140) (by decide) ?_)
  refine w196_6 (k := c189 E (by omega) (fun q => absurd q h140) (fun _ => ?_))
  refine w196_9 (fun _ => ?_) (fun h => absurd rfl h)
  refine w196_30 rfl ?_
  refine w196_31 rfl ?_
  refine w196_32 (k := c185 E h1 hdp hi hM (fun v br hv => ?_))
  obtain ⟨al2, hM2, hJ⟩ := v_cmp hM hv
  refine w196_35 ?_
  refine w196_36 rfl ?_
  refine w196_37 rfl ?_
  refine w196_38 ?_
  rw [v_s_go]
  refine w196_41 (k := c184 E (by omega) ?_)
  refine w196_44 ?_
  refine w196_46 rfl ?_
  refine w196_47 rfl ?_
  refine w196_48 ?_
  rw [v_s_go]
  refine w196_51 ?_
  refine w196_52 ?_
  rw [nI_1]
  refine w196_53 ?_
  rw [v_s_22, Nat.add_assoc]
  refine w196_56 rfl ?_
  refine w196_57 rfl ?_
  refine w196_58 (k := c185 E h2 hdp (by omega) hM2 (fun v2 br2 hv2 => ?_))
  refine w196_61 ?_
  rcases hJ br2 v2 b hv2 with ⟨rfl, rfl, hr⟩ | ⟨hz, hr⟩
  · have kk := k _ _ (hr op)
    have kt : e_cm op v v2 = true → Q (some (.int 1)) (S, v_s I (base + j) 0, J, P) := fun z => by rw [z] at kk; exact kk
    have kf : ¬ e_cm op v v2 = true → Q (some (.int 0)) (S, v_s I (base + j) 0, J, P) := fun z => by rw [(Bool.not_eq_true _).mp z] at kk; exact kk
    rcases hops with ⟨q, rfl⟩ | ⟨q, rfl⟩ | ⟨q, rfl⟩
    · rw [q]
      have f1 : v < v2 → e_cm 0 v v2 = true := fun z => decide_eq_true z
      have f2 : v2 ≤ v → ¬ e_cm 0 v v2 = true := fun z y => absurd (of_decide_eq_true y) (Int64.not_lt.mpr z)
      refine w196_63 rfl ?_
      refine w196_64 (fun h => absurd h (by decide)) (fun _ => ?_)
      refine w196_67 rfl ?_
      refine w196_68 ?_
      rw [v_s_br]
      refine w196_71 (fun h => absurd h (by decide)) (fun _ => ?_)
      refine w196_74 rfl ?_
      refine w196_76 ?_
      refine w196_78 (k := c188 (y := 160) (by decide) ?_)
      refine w196_81 (fun h => absurd h (fun z => z rfl)) (fun _ => ?_)
      refine w196_84 rfl ?_
      refine w196_85 rfl ?_
      refine w196_87 ?_
      refine w196_88 (fun h88 => ?_) (fun h88 => ?_)
      · refine w196_125 ?_
        refine w196_126 (by first | rfl | exact am_narrow_b _) ?_
        first | exact kt (f1 ((lg_cmp_lt _ _).mp h88)) | exact kf (f2 ((lg_cmp_ge _ _).mp h88))
      · replace h88 := Int32.not_le.mp h88
        refine w196_91 ?_
        refine w196_121 ?_
        refine w196_122 ?_
        refine w196_126 (by first | rfl | exact am_narrow_b _) ?_
        first | exact kt (f1 ((lg_cmp_lt _ _).mp h88)) | exact kf (f2 ((lg_cmp_ge _ _).mp h88))
    · rw [q]
      have f1 : v2 < v → e_cm 1 v v2 = true := fun z => decide_eq_true z
      have f2 : v ≤ v2 → ¬ e_cm 1 v v2 = true := fun z y => absurd (of_decide_eq_true y) (Int64.not_lt.mpr z)
      refine w196_63 rfl ?_
      refine w196_64 (fun h => absurd h (by decide)) (fun _ => ?_)
      refine w196_67 rfl ?_
      refine w196_68 ?_
      rw [v_s_br]
      refine w196_71 (fun h => absurd h (by decide)) (fun _ => ?_)
      refine w196_74 rfl ?_
      refine w196_76 ?_
      refine w196_78 (k := c188 (y := 160) (by decide) ?_)
      refine w196_81 (fun _ => ?_) (fun h => absurd (by decide) h)
      refine w196_94 rfl ?_
      refine w196_96 ?_
      refine w196_98 (k := c188 (y := 162) (by decide) ?_)
      refine w196_101 (fun h => absurd h (fun z => z rfl)) (fun _ => ?_)
      refine w196_104 rfl ?_
      refine w196_105 rfl ?_
      refine w196_107 ?_
      refine w196_108 (fun h108 => ?_) (fun h108 => ?_)
      · refine w196_125 ?_
        refine w196_126 (by first | rfl | exact am_narrow_b _) ?_
        first | exact kt (f1 ((lg_cmp_gt _ _).mp h108)) | exact kf (f2 ((lg_cmp_le _ _).mp h108))
      · replace h108 := Int32.not_le.mp h108
        refine w196_111 ?_
        refine w196_121 ?_
        refine w196_122 ?_
        refine w196_126 (by first | rfl | exact am_narrow_b _) ?_
        first | exact kt (f1 ((lg_cmp_gt _ _).mp h108)) | exact kf (f2 ((lg_cmp_le _ _).mp h108))
    · rw [q]
      have f1 : v = v2 → e_cm 2 v v2 = true := fun z => decide_eq_true z
      have f2 : ¬ v = v2 → ¬ e_cm 2 v v2 = true := fun z y => absurd (of_decide_eq_true y) z
      refine w196_63 rfl ?_
      refine w196_64 (fun h => absurd h (by decide)) (fun _ => ?_)
      refine w196_67 rfl ?_
      refine w196_68 ?_
      rw [v_s_br]
      refine w196_71 (fun h => absurd h (by decide)) (fun _ => ?_)
      refine w196_74 rfl ?_
      refine w196_76 ?_
      refine w196_78 (k := c188 (y := 160) (by decide) ?_)
      refine w196_81 (fun _ => ?_) (fun h => absurd (by decide) h)
      refine w196_94 rfl ?_
      refine w196_96 ?_
      refine w196_98 (k := c188 (y := 162) (by decide) ?_)
      refine w196_101 (fun _ => ?_) (fun h => absurd (by decide) h)
      refine w196_114 rfl ?_
      refine w196_115 rfl ?_
      refine w196_117 ?_
      refine w196_118 (fun h118 => ?_) (fun h118 => ?_)
      · refine w196_125 ?_
        refine w196_126 (by first | rfl | exact am_narrow_b _) ?_
        first | exact kt (f1 ((lg_cmp_eq _ _).mp h118)) | exact kf (f2 (fun z => h118 ((lg_cmp_eq _ _).mpr z)))
      · replace h118 := Decidable.not_not.mp h118
        refine w196_121 ?_
        refine w196_122 ?_
        refine w196_126 (by first | rfl | exact am_narrow_b _) ?_
        first | exact kt (f1 ((lg_cmp_eq _ _).mp h118)) | exact kf (f2 (fun z => h118 ((lg_cmp_eq _ _).mpr z)))
  · have kk := k false br2 (hr op false)
    rcases hz with rfl | ⟨rfl, rfl⟩
    · refine w196_63 rfl ?_
      refine w196_64 (fun _ => ?_) (fun h => absurd rfl h)
      refine w196_125 ?_
      refine w196_126 (by first | rfl | exact am_narrow_b _) ?_
      exact kk
    · refine w196_63 rfl ?_
      refine w196_64 (fun h => absurd h (by decide)) (fun _ => ?_)
      refine w196_67 rfl ?_
      refine w196_68 ?_
      rw [v_s_br]
      refine w196_71 (fun _ => ?_) (fun h => absurd (by decide) h)
      refine w196_125 ?_
      refine w196_126 (by first | rfl | exact am_narrow_b _) ?_
      exact kk
theorem u_go (E : v_E S I P T base N w) : ∀ (f m dp : Nat) (e : Te) (i lvs : Nat) (e' : Te) (j lvs' : Nat), q_go T f m dp e i lvs = pOk e' j lvs' → dp ≤ 8 → i ≤ N → ∀ (d : Nat) (al : Bool) (live b0 : Int32) (Q : Option Value → am_H → Prop), v_M al live b0 → (∀ (v : Bool) (br : Int32), v_R al b0 (e'.1 w) v br → Q (some (.int (am_b (v = true)))) (S, v_s I (base + j) br, J, P)) → u_G pr S I J P base w (d + 4 * (8 - dp)) live b0 al Q e i m := by
  have L := E.1
  have hbn := E.2.1
  have h0 := E.2.2.2.2.1
  intro f
  induction f with
  | zero => intro m dp e i lvs e' j lvs' h; cases h
  | succ f ih =>
    intro m dp e i lvs e' j lvs' h hdp hi d al live b0 Q hM k
    unfold q_go at h
    unfold u_G
    split at h
    · rename_i hm
      subst hm
      refine ⟨fun _ => ?_, fun z => absurd z (by decide), fun z => absurd z (by decide), fun z => absurd z (by decide), fun z => absurd z (by decide)⟩
      split at h
      · cases h
      · rename_i b j0 hb
        obtain ⟨hj0, -⟩ := p_nots_le h0 f _ _ _ _ hb hi
        obtain ⟨t, h1, rfl⟩ := pMap_ok h
        have tail : ∀ (D : Nat) (v : Bool) (br : Int32), v_R al b0 (t.1 w) v br → ∀ lv, am_ld1 lv 2 = some (.int (am_b (b = true))) → am_wp pr D 195 29 lv [.int (am_b (v = true))] (S, v_s I (base + j) br, J, P) Q := by
          intro D v br hv lv l2
          have kk := k _ br (v_neg (b := b) hv)
          cases b with
          | true =>
            cases v with
            | true =>
              refine w195_29 l2 ?_
              refine w195_30 (fun _ => ?_) (fun h => absurd rfl h)
              refine w195_37 ?_
              refine w195_38 (by first | rfl | exact am_narrow_b _) ?_
              exact kk
            | false =>
              refine w195_29 l2 ?_
              refine w195_30 (fun h => absurd h (by decide)) (fun _ => ?_)
              refine w195_33 ?_
              refine w195_34 ?_
              refine w195_38 (by first | rfl | exact am_narrow_b _) ?_
              exact kk
          | false =>
            cases v with
            | true =>
              refine w195_29 l2 ?_
              refine w195_30 (fun h => absurd h (by decide)) (fun _ => ?_)
              refine w195_33 ?_
              refine w195_34 ?_
              refine w195_38 (by first | rfl | exact am_narrow_b _) ?_
              exact kk
            | false =>
              refine w195_29 l2 ?_
              refine w195_30 (fun _ => ?_) (fun h => absurd rfl h)
              refine w195_37 ?_
              refine w195_38 (by first | rfl | exact am_narrow_b _) ?_
              exact kk
        show am_wp pr _ 195 0 [(0, .ref 124), (1, .int live)] [] _ _
        refine w195_0 ?_
        refine w195_1 ?_
        refine u_nots (d := d + 4 * (8 - dp) + 6) E f false i b j0 hb hi ?_ _ rfl rfl rfl
        intro lv l0 l1 l2
        split at h1
        · rename_i h140
          split at h1
          · exact (pBad_no h1).elim
          · rename_i hdp8
            obtain ⟨i2, h3, h4, rfl⟩ := p_must_ok h1
            have hj2 : j0 < N := E.lt (by rw [h140]; decide)
            refine w195_24 l0 ?_
            refine w195_25 l1 ?_
            refine w195_26 (k := ?_)
            rw [show d + 4 * (8 - dp) + 6 + 1 = (d + 4 * (8 - (dp + 1)) + 10) + 1 by omega]
            show am_wp pr _ 196 0 [(0, .ref 124), (1, .int live)] [] _ _
            refine w196_0 rfl ?_
            refine w196_1 ?_
            refine w196_3 (k := c188 (y := 140) (by decide) ?_)
            refine w196_6 (k := c189 E (by omega) (fun _ => ?_) (fun q => absurd h140 q))
            refine w196_9 (fun h => absurd h (by decide)) (fun _ => ?_)
            refine w196_12 rfl ?_
            refine w196_13 rfl ?_
            refine w196_14 (k := (ih 3 (dp + 1) e (j0 + 1) lvs t i2 lvs' h3 (by omega) (by omega) d al live b0 _ hM (fun v br hv => ?_)).2.2.2.1 rfl)
            refine w196_17 ?_
            refine w196_18 rfl ?_
            refine w196_19 rfl ?_
            refine w196_20 ?_
            rw [v_s_go]
            refine w196_23 ?_
            refine w196_24 ?_
            rw [nI_1]
            refine w196_25 ?_
            rw [v_s_22, Nat.add_assoc]
            refine w196_28 rfl ?_
            refine w196_29 (am_b_n _) ?_
            exact tail _ v br hv _ l2
        · rename_i h140
          refine w195_24 l0 ?_
          refine w195_25 l1 ?_
          refine w195_26 (k := ?_)
          rw [show d + 4 * (8 - dp) + 6 + 1 = (d + (8 - dp)) + 3 * (8 - dp) + 7 by omega]
          refine c196c E h1 h140 hdp hj0 hM (fun v br hv => ?_)
          exact tail _ v br hv _ l2
    · split at h
      · rename_i hm0 hm
        subst hm
        refine ⟨fun z => absurd z (by decide), fun _ => ?_, fun z => absurd z (by decide), fun z => absurd z (by decide), fun z => absurd z (by decide)⟩
        obtain ⟨e1, i1, l1, h1, h2⟩ := pBind_ok h
        have hi1 := q_go_le h0 f _ _ _ _ _ _ _ _ h1 hi
        show am_wp pr _ 194 0 [(0, .ref 124), (1, .int live)] [] _ _
        refine w194_0 rfl ?_
        refine w194_1 rfl ?_
        refine w194_2 (k := (ih 0 dp e i lvs e1 i1 l1 h1 hdp hi d al live b0 _ hM (fun v br hv => ?_)).1 rfl)
        refine w194_5 ?_
        exact (ih 2 dp e1 i1 l1 e' j lvs' h2 hdp hi1 d al live b0 Q hM k).2.2.1 rfl v br hv _ rfl rfl rfl
      · split at h
        · rename_i hm0 hm1 hm
          subst hm
          refine ⟨fun z => absurd z (by decide), fun z => absurd z (by decide), fun _ => ?_, fun z => absurd z (by decide), fun z => absurd z (by decide)⟩
          intro v br hv lv l0 l1 l2
          split at h
          · rename_i h6
            obtain ⟨e1, i1, l1', h1, h2⟩ := pBind_ok h
            have hi2 : i < N := E.lt (by rw [h6]; decide)
            have hi1 := q_go_le h0 f _ _ _ _ _ _ _ _ h1 hi2
            obtain ⟨al2, hM2, hJ⟩ := v_and hM hv
            have nx := fun (v2 : Bool) (br2 : Int32) hv2 => (ih 2 dp (y_and e e1) i1 l1' e' j lvs' h2 hdp hi1 d al live b0 Q hM k).2.2.1 rfl (v && v2) br2 (hJ br2 v2 e1 hv2)
            cases v with
            | true =>
              have k28 : ∀ lv, am_ld1 lv 0 = some (.ref 124) → am_ld1 lv 1 = some (.int live) → am_ld1 lv 2 = some (.int 1) → am_wp pr (d + 4 * (8 - dp) + 9) 194 29 lv [.int live, .ref 124] (S, v_s I (base + (i + 1)) br, J, P) Q := by
                intro lv l0 l1 l2
                refine w194_29 (k := (ih 0 dp e (i + 1) lvs e1 i1 l1' h1 hdp hi2 d al2 live br _ hM2 (fun v2 br2 hv2 => ?_)).1 rfl)
                refine w194_32 ?_
                cases v2 with
                | true =>
                  refine w194_33 l2 ?_
                  refine w194_34 (fun h => absurd h (by decide)) (fun _ => ?_)
                  refine w194_37 rfl ?_
                  refine w194_38 (fun h => absurd h (by decide)) (fun _ => ?_)
                  refine w194_41 ?_
                  refine w194_42 ?_
                  refine w194_46 ?_
                  refine w194_47 ?_
                  exact nx true br2 hv2 _ l0 l1 rfl
                | false =>
                  refine w194_33 l2 ?_
                  refine w194_34 (fun h => absurd h (by decide)) (fun _ => ?_)
                  refine w194_37 rfl ?_
                  refine w194_38 (fun _ => ?_) (fun h => absurd rfl h)
                  refine w194_45 ?_
                  refine w194_46 ?_
                  refine w194_47 ?_
                  exact nx false br2 hv2 _ l0 l1 rfl
              rcases hM.live with rfl | rfl
              · refine w194_6 l0 ?_
                refine w194_7 ?_
                refine w194_9 (k := c189 E (by omega) (fun _ => ?_) (fun q => absurd h6 q))
                refine w194_12 (fun h => absurd h (by decide)) (fun _ => ?_)
                refine w194_15 l0 ?_
                refine w194_16 l1 ?_
                refine w194_17 (fun _ => ?_) (fun h => absurd rfl h)
                refine w194_28 ?_
                exact k28 _ l0 l1 l2
              · refine w194_6 l0 ?_
                refine w194_7 ?_
                refine w194_9 (k := c189 E (by omega) (fun _ => ?_) (fun q => absurd h6 q))
                refine w194_12 (fun h => absurd h (by decide)) (fun _ => ?_)
                refine w194_15 l0 ?_
                refine w194_16 l1 ?_
                refine w194_17 (fun h => absurd h (by decide)) (fun _ => ?_)
                refine w194_20 l2 ?_
                refine w194_21 (fun h => absurd h (by decide)) (fun _ => ?_)
                refine w194_24 ?_
                refine w194_25 ?_
                exact k28 _ l0 l1 l2
            | false =>
              have k28 : ∀ lv, am_ld1 lv 0 = some (.ref 124) → am_ld1 lv 1 = some (.int live) → am_ld1 lv 2 = some (.int 0) → am_wp pr (d + 4 * (8 - dp) + 9) 194 29 lv [.int 0, .ref 124] (S, v_s I (base + (i + 1)) br, J, P) Q := by
                intro lv l0 l1 l2
                refine w194_29 (k := (ih 0 dp e (i + 1) lvs e1 i1 l1' h1 hdp hi2 d al2 0 br _ hM2 (fun v2 br2 hv2 => ?_)).1 rfl)
                refine w194_32 ?_
                refine w194_33 l2 ?_
                refine w194_34 (fun _ => ?_) (fun h => absurd rfl h)
                refine w194_45 ?_
                refine w194_46 ?_
                refine w194_47 ?_
                exact nx v2 br2 hv2 _ l0 l1 rfl
              rcases hM.live with rfl | rfl
              · refine w194_6 l0 ?_
                refine w194_7 ?_
                refine w194_9 (k := c189 E (by omega) (fun _ => ?_) (fun q => absurd h6 q))
                refine w194_12 (fun h => absurd h (by decide)) (fun _ => ?_)
                refine w194_15 l0 ?_
                refine w194_16 l1 ?_
                refine w194_17 (fun _ => ?_) (fun h => absurd rfl h)
                refine w194_28 ?_
                exact k28 _ l0 l1 l2
              · refine w194_6 l0 ?_
                refine w194_7 ?_
                refine w194_9 (k := c189 E (by omega) (fun _ => ?_) (fun q => absurd h6 q))
                refine w194_12 (fun h => absurd h (by decide)) (fun _ => ?_)
                refine w194_15 l0 ?_
                refine w194_16 l1 ?_
                refine w194_17 (fun h => absurd h (by decide)) (fun _ => ?_)
                refine w194_20 l2 ?_
                refine w194_21 (fun _ => ?_) (fun h => absurd rfl h)
                refine w194_28 ?_
                exact k28 _ l0 l1 l2
          · rename_i h6
            obtain ⟨rfl, rfl, -⟩ := pOk_inj h
            refine w194_6 l0 ?_
            refine w194_7 ?_
            refine w194_9 (k := c189 E (by omega) (fun q => absurd q h6) (fun _ => ?_))
            refine w194_12 (fun _ => ?_) (fun h => absurd rfl h)
            refine w194_50 l2 ?_
            refine w194_51 (am_b_n _) ?_
            exact k v br hv
        · split at h
          · rename_i hm0 hm1 hm2 hm
            subst hm
            refine ⟨fun z => absurd z (by decide), fun z => absurd z (by decide), fun z => absurd z (by decide), fun _ => ?_, fun z => absurd z (by decide)⟩
            obtain ⟨e1, i1, l1, h1, h2⟩ := pBind_ok h
            have hi1 := q_go_le h0 f _ _ _ _ _ _ _ _ h1 hi
            show am_wp pr _ 193 0 [(0, .ref 124), (1, .int live)] [] _ _
            refine w193_0 rfl ?_
            refine w193_1 rfl ?_
            refine w193_2 (k := (ih 1 dp e i lvs e1 i1 l1 h1 hdp hi d al live b0 _ hM (fun v br hv => ?_)).2.1 rfl)
            refine w193_5 ?_
            exact (ih 4 dp e1 i1 l1 e' j lvs' h2 hdp hi1 d al live b0 Q hM k).2.2.2.2 (Nat.le_refl 4) v br hv _ rfl rfl rfl
          · rename_i hm0 hm1 hm2 hm3
            refine ⟨fun z => absurd z hm0, fun z => absurd z hm1, fun z => absurd z hm2, fun z => absurd z hm3, fun _ => ?_⟩
            intro v br hv lv l0 l1 l2
            split at h
            · rename_i h5
              obtain ⟨e1, i1, l1', h1, h2⟩ := pBind_ok h
              have hi2 : i < N := E.lt (by rw [h5]; decide)
              have hi1 := q_go_le h0 f _ _ _ _ _ _ _ _ h1 hi2
              obtain ⟨al2, hM2, hJ⟩ := v_or hM hv
              have nx := fun (v2 : Bool) (br2 : Int32) hv2 => (ih 4 dp (y_or e e1) i1 l1' e' j lvs' h2 hdp hi1 d al live b0 Q hM k).2.2.2.2 (Nat.le_refl 4) (v || v2) br2 (hJ br2 v2 e1 hv2)
              cases v with
              | false =>
                have k28 : ∀ lv, am_ld1 lv 0 = some (.ref 124) → am_ld1 lv 1 = some (.int live) → am_ld1 lv 2 = some (.int 0) → am_wp pr (d + 4 * (8 - dp) + 10) 193 28 lv [.int live, .ref 124] (S, v_s I (base + (i + 1)) br, J, P) Q := by
                  intro lv l0 l1 l2
                  refine w193_28 (k := (ih 1 dp e (i + 1) lvs e1 i1 l1' h1 hdp hi2 d al2 live br _ hM2 (fun v2 br2 hv2 => ?_)).2.1 rfl)
                  refine w193_31 ?_
                  cases v2 with
                  | true =>
                    refine w193_32 l2 ?_
                    refine w193_33 (fun h => absurd h (by decide)) (fun _ => ?_)
                    refine w193_36 rfl ?_
                    refine w193_37 (fun h => absurd h (by decide)) (fun _ => ?_)
                    refine w193_40 ?_
                    refine w193_41 ?_
                    refine w193_45 ?_
                    refine w193_46 ?_
                    exact nx true br2 hv2 _ l0 l1 rfl
                  | false =>
                    refine w193_32 l2 ?_
                    refine w193_33 (fun h => absurd h (by decide)) (fun _ => ?_)
                    refine w193_36 rfl ?_
                    refine w193_37 (fun _ => ?_) (fun h => absurd rfl h)
                    refine w193_44 ?_
                    refine w193_45 ?_
                    refine w193_46 ?_
                    exact nx false br2 hv2 _ l0 l1 rfl
                rcases hM.live with rfl | rfl
                · refine w193_6 l0 ?_
                  refine w193_7 ?_
                  refine w193_8 (k := c189 E (by omega) (fun _ => ?_) (fun q => absurd h5 q))
                  refine w193_11 (fun h => absurd h (by decide)) (fun _ => ?_)
                  refine w193_14 l0 ?_
                  refine w193_15 l1 ?_
                  refine w193_16 (fun _ => ?_) (fun h => absurd rfl h)
                  refine w193_27 ?_
                  exact k28 _ l0 l1 l2
                · refine w193_6 l0 ?_
                  refine w193_7 ?_
                  refine w193_8 (k := c189 E (by omega) (fun _ => ?_) (fun q => absurd h5 q))
                  refine w193_11 (fun h => absurd h (by decide)) (fun _ => ?_)
                  refine w193_14 l0 ?_
                  refine w193_15 l1 ?_
                  refine w193_16 (fun h => absurd h (by decide)) (fun _ => ?_)
                  refine w193_19 l2 ?_
                  refine w193_20 (fun h => absurd h (by decide)) (fun _ => ?_)
                  refine w193_23 ?_
                  refine w193_24 ?_
                  exact k28 _ l0 l1 l2
              | true =>
                have k28 : ∀ lv, am_ld1 lv 0 = some (.ref 124) → am_ld1 lv 1 = some (.int live) → am_ld1 lv 2 = some (.int 1) → am_wp pr (d + 4 * (8 - dp) + 10) 193 28 lv [.int 0, .ref 124] (S, v_s I (base + (i + 1)) br, J, P) Q := by
                  intro lv l0 l1 l2
                  refine w193_28 (k := (ih 1 dp e (i + 1) lvs e1 i1 l1' h1 hdp hi2 d al2 0 br _ hM2 (fun v2 br2 hv2 => ?_)).2.1 rfl)
                  refine w193_31 ?_
                  refine w193_32 l2 ?_
                  refine w193_33 (fun _ => ?_) (fun h => absurd (by decide) h)
                  refine w193_40 ?_
                  refine w193_41 ?_
                  refine w193_45 ?_
                  refine w193_46 ?_
                  exact nx v2 br2 hv2 _ l0 l1 rfl
                rcases hM.live with rfl | rfl
                · refine w193_6 l0 ?_
                  refine w193_7 ?_
                  refine w193_8 (k := c189 E (by omega) (fun _ => ?_) (fun q => absurd h5 q))
                  refine w193_11 (fun h => absurd h (by decide)) (fun _ => ?_)
                  refine w193_14 l0 ?_
                  refine w193_15 l1 ?_
                  refine w193_16 (fun _ => ?_) (fun h => absurd rfl h)
                  refine w193_27 ?_
                  exact k28 _ l0 l1 l2
                · refine w193_6 l0 ?_
                  refine w193_7 ?_
                  refine w193_8 (k := c189 E (by omega) (fun _ => ?_) (fun q => absurd h5 q))
                  refine w193_11 (fun h => absurd h (by decide)) (fun _ => ?_)
                  refine w193_14 l0 ?_
                  refine w193_15 l1 ?_
                  refine w193_16 (fun h => absurd h (by decide)) (fun _ => ?_)
                  refine w193_19 l2 ?_
                  refine w193_20 (fun _ => ?_) (fun h => absurd (by decide) h)
                  refine w193_27 ?_
                  exact k28 _ l0 l1 l2
            · rename_i h5
              obtain ⟨rfl, rfl, -⟩ := pOk_inj h
              refine w193_6 l0 ?_
              refine w193_7 ?_
              refine w193_8 (k := c189 E (by omega) (fun q => absurd q h5) (fun _ => ?_))
              refine w193_11 (fun _ => ?_) (fun h => absurd rfl h)
              refine w193_49 l2 ?_
              refine w193_50 (am_b_n _) ?_
              exact k v br hv
/-- testOf -/
theorem c193 (E : v_E S I P T base N w) {d f dp i lvs j lvs' : Nat} {e : Te} (h : p_test T f dp i lvs = pOk e j lvs') (hdp : dp ≤ 8) (hi : i ≤ N) {al : Bool} {live b0 : Int32} {Q : Option Value → am_H → Prop} (hM : v_M al live b0) (k : ∀ (v : Bool) (br : Int32), v_R al b0 (e.1 w) v br → Q (some (.int (am_b (v = true)))) (S, v_s I (base + j) br, J, P)) : am_ev pr (d + 4 * (8 - dp) + 10) 193 [.ref 124, .int live] (S, v_s I (base + i) b0, J, P) Q := (u_go E f 3 dp y_0 i lvs e j lvs' h hdp hi d al live b0 Q hM k).2.2.2.1 rfl
end
