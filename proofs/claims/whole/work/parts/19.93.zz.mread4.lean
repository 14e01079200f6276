/-! the reference reads: whole texts -/
theorem p_test_ne {T : Tk} {N : Nat} (h0 : ∀ q, N ≤ q → T.1 q = 0) {f dp i lv : Nat} (hi : i ≤ N) (hf : 6 * (N - i) + 9 ≤ f) : p_test T f dp i lv ≠ none := q_go_ne h0 f 3 _ _ _ _ (by omega) hi (by omega)
theorem p_if_ne {T : Tk} {N : Nat} (h0 : ∀ q, N ≤ q → T.1 q = 0) {f i lv : Nat} (hi : i ≤ N) (hf : 6 * N + 9 ≤ f) : p_if T f i lv ≠ none := by
  unfold p_if
  split
  · rename_i q
    have hi2 : i < N := p_lt h0 (by rw [q]; decide)
    exact pMap_ne (p_test_ne h0 hi2 (by omega))
  · exact pOk_ne
theorem p_if_lv {T : Tk} {f i lv j lv' : Nat} {te : Option Te} (h : p_if T f i lv = pOk te j lv') : i ≤ j ∧ (lv ≤ 50 → lv' ≤ 50) := by
  rcases p_if_ok h with ⟨-, t, -, h2⟩ | ⟨-, -, rfl, rfl⟩
  · obtain ⟨a1, a2, a3, a4⟩ := q_go_len f _ _ _ _ _ _ _ _ h2
    exact ⟨by omega, a4⟩
  · exact ⟨Nat.le_refl _, fun q => q⟩
theorem p_times_le {T : Tk} {N : Nat} (h0 : ∀ q, N ≤ q → T.1 q = 0) {i lv t j lv' : Nat} (h : p_times T i lv = pOk t j lv') (hi : i ≤ N) : j ≤ N ∧ i ≤ j ∧ lv' = lv := by
  unfold p_times at h
  split at h
  · split at h
    · rename_i q w
      have hi2 : i + 1 < N := p_lt h0 (by rw [w.1]; decide)
      obtain ⟨-, rfl, rfl⟩ := pOk_inj h
      exact ⟨by omega, by omega, rfl⟩
    · exact (pBad_no h).elim
  · obtain ⟨-, rfl, rfl⟩ := pOk_inj h
    exact ⟨hi, Nat.le_refl _, rfl⟩
theorem p_times_ne {T : Tk} {i lv : Nat} : p_times T i lv ≠ none := by
  unfold p_times
  split
  · split
    · exact pOk_ne
    · exact pBad_ne
  · exact pOk_ne
theorem p_more_le {T : Tk} {N : Nat} (h0 : ∀ q, N ≤ q → T.1 q = 0) {f i lv j lv' : Nat} {c : Int32} {e : Ex} (hc : ¬ c = 0) (h : p_more T f c i lv = pOk e j lv') : T.1 i = c ∧ i < N ∧ p_sum T f 0 (i + 1) lv = pOk e j lv' ∧ j ≤ N ∧ i < j ∧ (lv ≤ 50 → lv' ≤ 50) := by
  unfold p_more at h
  split at h
  · rename_i q
    have hi2 : i < N := p_lt h0 (by rw [q]; exact hc)
    have a := p_sum_len h
    exact ⟨q, hi2, h, p_sum_le h0 h hi2, by omega, a.2.2⟩
  · exact (pBad_no h).elim
theorem p_more_ne {T : Tk} {N : Nat} (h0 : ∀ q, N ≤ q → T.1 q = 0) {f i lv : Nat} {c : Int32} (hc : ¬ c = 0) (hf : 6 * N + 9 ≤ f) : p_more T f c i lv ≠ none := by
  unfold p_more
  split
  · rename_i q
    have hi2 : i < N := p_lt h0 (by rw [q]; exact hc)
    exact p_sum_ne h0 hi2 (by omega)
  · exact pBad_ne
theorem p_head_le {T : Tk} {N : Nat} (h0 : ∀ q, N ≤ q → T.1 q = 0) {f i lv j lv' : Nat} {h : Nat × List Ex} (hh : p_head T f i lv = pOk h j lv') : i < j ∧ j ≤ N ∧ (lv ≤ 50 → lv' ≤ 50) := by
  have one : ∀ (k : Nat) (c : Int32), ¬ c = 0 → T.1 i = c → pMap (fun a => (k, [a])) (p_sum T f 0 (i + 1) lv) = pOk h j lv' → i < j ∧ j ≤ N ∧ (lv ≤ 50 → lv' ≤ 50) := by
    intro k c hc q hm
    have hi2 : i < N := p_lt h0 (by rw [q]; exact hc)
    obtain ⟨a, h1, -⟩ := pMap_ok hm
    have b := p_sum_len h1
    exact ⟨by omega, p_sum_le h0 h1 hi2, b.2.2⟩
  unfold p_head at hh
  split at hh
  · split at hh
    · rename_i q
      have hi2 : i < N := p_lt h0 (by rw [q]; decide)
      obtain ⟨a, ja, la, y1, y2⟩ := pBind_ok hh
      obtain ⟨b, jb, lb, y3, y4⟩ := pBind_ok y2
      obtain ⟨c, jc, lc, y5, y6⟩ := pBind_ok y4
      obtain ⟨-, rfl, rfl⟩ := pOk_inj y6
      have a1 := p_sum_len y1
      have a2 := p_more_le h0 (by decide) y3
      have a3 := p_more_le h0 (by decide) y5
      exact ⟨by omega, a3.2.2.2.1, fun w => a3.2.2.2.2.2 (a2.2.2.2.2.2 (a1.2.2 w))⟩
    · split at hh
      · rename_i q; exact one _ _ (by decide) q hh
      · split at hh
        · rename_i q; exact one _ _ (by decide) q hh
        · split at hh
          · rename_i q
            have hi2 : i < N := p_lt h0 (by rw [q]; decide)
            obtain ⟨-, rfl, rfl⟩ := pOk_inj hh
            exact ⟨by omega, hi2, fun w => w⟩
          · exact (pBad_no hh).elim
  · split at hh
    · rename_i q; exact one _ _ (by decide) q hh
    · split at hh
      · rename_i q; exact one _ _ (by decide) q hh
      · split at hh
        · rename_i q
          have hi2 : i < N := p_lt h0 (by rw [q]; decide)
          obtain ⟨-, rfl, rfl⟩ := pOk_inj hh
          exact ⟨by omega, hi2, fun w => w⟩
        · exact (pBad_no hh).elim
theorem p_head_ne {T : Tk} {N : Nat} (h0 : ∀ q, N ≤ q → T.1 q = 0) {f i lv : Nat} (hf : 6 * N + 9 ≤ f) : p_head T f i lv ≠ none := by
  have one : ∀ (k : Nat) (c : Int32), ¬ c = 0 → T.1 i = c → pMap (fun a => (k, [a])) (p_sum T f 0 (i + 1) lv) ≠ (none : PR (Nat × List Ex)) := by
    intro k c hc q
    have hi2 : i < N := p_lt h0 (by rw [q]; exact hc)
    exact pMap_ne (p_sum_ne h0 hi2 (by omega))
  unfold p_head
  split
  · split
    · rename_i q
      have hi2 : i < N := p_lt h0 (by rw [q]; decide)
      exact pBind_ne (p_sum_ne h0 hi2 (by omega)) (fun a ja la _ => pBind_ne (p_more_ne h0 (by decide) hf) (fun b jb lb _ => pBind_ne (p_more_ne h0 (by decide) hf) (fun c jc lc _ => pOk_ne)))
    · split
      · rename_i q; exact one _ _ (by decide) q
      · split
        · rename_i q; exact one _ _ (by decide) q
        · split
          · exact pOk_ne
          · exact pBad_ne
  · split
    · rename_i q; exact one _ _ (by decide) q
    · split
      · rename_i q; exact one _ _ (by decide) q
      · split
        · exact pOk_ne
        · exact pBad_ne
theorem p_cl_le {T : Tk} {N : Nat} (h0 : ∀ q, N ≤ q → T.1 q = 0) {f i lv j lv' : Nat} {c : Cl} (h : p_cl T f i lv = pOk c j lv') : i < j ∧ j ≤ N ∧ (lv ≤ 50 → lv' ≤ 50) := by
  obtain ⟨hd, j1, l1, h1, h2⟩ := pBind_ok h
  obtain ⟨t, j2, l2, h3, h4⟩ := pBind_ok h2
  obtain ⟨te, j3, l3, h5, h6⟩ := pBind_ok h4
  obtain ⟨-, rfl, rfl⟩ := pOk_inj h6
  obtain ⟨a1, a2, a3⟩ := p_head_le h0 h1
  have b : j2 ≤ N ∧ j1 ≤ j2 ∧ (l1 ≤ 50 → l2 ≤ 50) := by
    split at h3
    · obtain ⟨c1, c2, c3⟩ := p_times_le h0 h3 a2
      exact ⟨c1, c2, by omega⟩
    · obtain ⟨-, rfl, rfl⟩ := pOk_inj h3
      exact ⟨a2, Nat.le_refl _, fun w => w⟩
  have c := p_if_lv h5
  exact ⟨by omega, p_if_le h0 h5 b.1, fun w => c.2 (b.2.2 (a3 w))⟩
theorem p_cl_ne {T : Tk} {N : Nat} (h0 : ∀ q, N ≤ q → T.1 q = 0) {f i lv : Nat} (hf : 6 * N + 9 ≤ f) : p_cl T f i lv ≠ none := by
  refine pBind_ne (p_head_ne h0 hf) (fun hd j1 l1 h1 => ?_)
  have a := p_head_le h0 h1
  refine pBind_ne ?_ (fun t j2 l2 h3 => ?_)
  · split
    · exact p_times_ne
    · exact pOk_ne
  · have b : j2 ≤ N := by
      split at h3
      · exact (p_times_le h0 h3 a.2.1).1
      · obtain ⟨-, rfl, rfl⟩ := pOk_inj h3
        exact a.2.1
    exact pBind_ne (p_if_ne h0 b hf) (fun _ _ _ _ => pOk_ne)
theorem p_list_ne {T : Tk} {N : Nat} (h0 : ∀ q, N ≤ q → T.1 q = 0) {f : Nat} (hf : 6 * N + 9 ≤ f) : ∀ (r i lv : Nat), p_list T N f r i lv ≠ none
  | 0, i, lv => pBad_ne
  | r + 1, i, lv => by
    unfold p_list
    refine pBind_ne (p_cl_ne h0 hf) (fun c j l _ => ?_)
    show (if j = N then pOk [c] j l else if T.1 j = 159 then pMap (fun cs => c :: cs) (p_list T N f r (j + 1) l) else pBad j) ≠ none
    split
    · exact pOk_ne
    · split
      · exact pMap_ne (p_list_ne h0 hf r _ _)
      · exact pBad_ne
theorem p_read_ne {T : Tk} {N : Nat} (h0 : ∀ q, N ≤ q → T.1 q = 0) (hN : N ≤ 400) : p_read T N ≠ none := p_list_ne h0 (by unfold p_fuel; omega) 12 0 0
/-- what comes behind a clause -/
def p_next (T : Tk) (N f r : Nat) (c : Cl) (j lv : Nat) : PR (List Cl) := if j = N then pOk [c] j lv else if T.1 j = 159 then pMap (fun cs => c :: cs) (p_list T N f r (j + 1) lv) else pBad j
theorem p_list_eq (T : Tk) (N f r i lv : Nat) : p_list T N f (r + 1) i lv = pBind (p_cl T f i lv) (fun c j lv1 => p_next T N f r c j lv1) := rfl
section
variable {pr : am_Pr} {d : Nat} {S : List (Nat × Nat)} {I : Nat → Nat → Int32} {J : Nat → Nat → Int64} {P : Nat → Nat → Option Nat} {Q : Option Value → am_H → Prop} {T : Tk} {N i lv f : Nat} {pl : Nat → Nat}
/-- behind a fault -/
theorem c221x (L : am_Lay S P) {x : Int32} (hx : I 124 21 = x) (hb : ¬ x = -1) (k : Q (some (.int 0)) (S, am_u I 124 14 x, J, P)) : ∀ lv, am_ld1 lv 0 = some (.ref 124) → am_wp pr (d + 2) 221 34 lv [] (S, I, J, P) Q := by
  intro lvv l0
  have hb2 : ¬ I 124 21 = -1 := by rw [hx]; exact hb
  refine w221_34 l0 ?_
  refine w221_35 ?_
  refine w221_37 (k := c188 (y := 159) (by decide) ?_)
  refine w221_40 (k := c228d L hb2 ?_)
  refine w221_43 (fun _ => ?_) (fun hQ => absurd rfl hQ)
  refine w221_73 l0 ?_
  refine w221_74 (k := c229 L hx ?_)
  rw [am_b_f hb]
  refine w221_77 (fun _ => ?_) (fun hQ => absurd rfl hQ)
  refine w221_95 l0 ?_
  refine w221_96 l0 ?_
  refine w221_97 ?_
  rw [hx]
  refine w221_100 ?_
  refine w221_103 l0 ?_
  refine w221_104 (k := c229 (x := x) L (by rw [am_u_at (by decide)]; exact hx) ?_)
  rw [am_b_f hb]
  refine w221_107 (by first | rfl | exact am_narrow_b _) ?_
  exact k
theorem c221l (E : r_E S I P T N pl) (h18 : I 124 18 = nI N) : ∀ (r n i lv : Nat) (c : Cl) (R : (List Cl × Nat × Nat) ⊕ Nat), n + r = 12 → p_next T N f r c i lv = some R → i ≤ N → lv ≤ 50 → (∀ xs lv', R = .inl (xs, N, lv') → Q (some (.int 1)) (S, am_u (r_s I N lv' (-1)) 124 14 (-1), J, P)) → (∀ j i' lv', R = .inr j → j ≤ N → Q (some (.int 0)) (S, am_u (r_s I i' lv' (nI (pl j))) 124 14 (nI (pl j)), J, P)) → ∀ lvv, am_ld1 lvv 0 = some (.ref 124) → am_ld1 lvv 1 = some (.int (nI n)) → am_wp pr (d + 36) 221 34 lvv [] (S, r_s I i lv (-1), J, P) Q := by
  have L := E.1
  have h0 := E.2.2.2.1
  have hN := E.2.1
  intro r
  induction r with
  | zero =>
    intro n i lv c R hn hR hi hl kg kb lvv l0 l1
    unfold p_next at hR
    refine w221_34 l0 ?_
    refine w221_35 ?_
    refine w221_37 (k := c188 (y := 159) (by decide) ?_)
    refine w221_40 (k := c228 E hi (fun q => ?_) (fun q => ?_))
    · have hi2 : i < N := p_lt h0 (by rw [q]; decide)
      rw [if_neg (by omega), if_pos q] at hR
      have hR2 : R = .inr (i + 1) := (Option.some.inj hR).symm
      refine w221_43 (fun hQ => absurd hQ (by decide)) (fun _ => ?_)
      refine w221_46 l1 ?_
      refine w221_47 ?_
      refine w221_49 (fun hQ => absurd hQ (fun w => w (by rw [show n = 12 by omega]; rfl))) (fun _ => ?_)
      refine w221_52 l0 ?_
      refine w221_53 (k := c233 E hi2 ?_)
      have hm := pl_m1 E hi2
      refine w221_56 l0 ?_
      refine w221_57 (k := c229 L r_s_21 ?_)
      rw [am_b_f hm]
      refine w221_60 (fun _ => ?_) (fun hQ => absurd rfl hQ)
      refine w221_67 l1 ?_
      refine w221_70 ?_
      exact c221x L r_s_21 hm (kb _ _ _ hR2 hi2) _ l0
    · rw [if_neg q] at hR
      refine w221_43 (fun _ => ?_) (fun w => absurd rfl w)
      by_cases e : i = N
      · rw [if_pos e] at hR
        subst e
        refine w221_73 l0 ?_
        refine w221_74 (k := c229 L r_s_21 ?_)
        rw [am_b_t rfl]
        refine w221_77 (fun hQ => absurd hQ (by decide)) (fun _ => ?_)
        refine w221_80 l0 ?_
        refine w221_81 ?_
        rw [r_s_19]
        refine w221_84 l0 ?_
        refine w221_85 ?_
        rw [r_s_at (by decide) (by decide) (by decide), h18]
        refine w221_88 (fun _ => ?_) (fun hQ => absurd (Int32.le_refl _) hQ)
        refine w221_95 l0 ?_
        refine w221_96 l0 ?_
        refine w221_97 ?_
        rw [r_s_21]
        refine w221_100 ?_
        refine w221_103 l0 ?_
        refine w221_104 (k := c229 (x := -1) L (by rw [am_u_at (by decide)]; exact r_s_21) ?_)
        rw [am_b_t rfl]
        refine w221_107 (by first | rfl | exact am_narrow_b _) ?_
        exact kg _ _ (Option.some.inj hR).symm
      · rw [if_neg e] at hR
        have hm := pl_m1 E hi
        refine w221_73 l0 ?_
        refine w221_74 (k := c229 L r_s_21 ?_)
        rw [am_b_t rfl]
        refine w221_77 (fun hQ => absurd hQ (by decide)) (fun _ => ?_)
        refine w221_80 l0 ?_
        refine w221_81 ?_
        rw [r_s_19]
        refine w221_84 l0 ?_
        refine w221_85 ?_
        rw [r_s_at (by decide) (by decide) (by decide), h18]
        refine w221_88 (fun hQ => absurd hQ (am_nlt (by omega) (by omega))) (fun _ => ?_)
        refine w221_91 l0 ?_
        refine w221_92 (k := c233 E hi ?_)
        refine w221_95 l0 ?_
        refine w221_96 l0 ?_
        refine w221_97 ?_
        rw [r_s_21]
        refine w221_100 ?_
        refine w221_103 l0 ?_
        refine w221_104 (k := c229 (x := nI (pl i)) L (by rw [am_u_at (by decide)]; exact r_s_21) ?_)
        rw [am_b_f hm]
        refine w221_107 (by first | rfl | exact am_narrow_b _) ?_
        exact kb _ _ _ (Option.some.inj hR).symm hi
  | succ r ih =>
    intro n i lv c R hn hR hi hl kg kb lvv l0 l1
    unfold p_next at hR
    refine w221_34 l0 ?_
    refine w221_35 ?_
    refine w221_37 (k := c188 (y := 159) (by decide) ?_)
    refine w221_40 (k := c228 E hi (fun q => ?_) (fun q => ?_))
    · have hi2 : i < N := p_lt h0 (by rw [q]; decide)
      rw [if_neg (by omega), if_pos q, p_list_eq] at hR
      refine w221_43 (fun hQ => absurd hQ (by decide)) (fun _ => ?_)
      refine w221_46 l1 ?_
      refine w221_47 ?_
      refine w221_49 (fun _ => ?_) (fun hQ => absurd (nI_ne (b := 12) (by omega) (by omega) (by decide)) hQ)
      refine w221_56 l0 ?_
      refine w221_57 (k := c229 L r_s_21 ?_)
      rw [am_b_t rfl]
      refine w221_60 (fun hQ => absurd hQ (by decide)) (fun _ => ?_)
      refine w221_63 l0 ?_
      have hRm := pMap_some hR
      have key : ∀ R2, pBind (p_cl T f (i + 1) lv) (fun c j lv1 => p_next T N f r c j lv1) = some R2 → (∀ xs lv', R2 = .inl (xs, N, lv') → R = .inl (c :: xs, N, lv')) ∧ (∀ j, R2 = .inr j → R = .inr j) := by
        intro R2 h2
        rcases hRm with ⟨a, ia, la, h3, h4⟩ | ⟨ja, h3, h4⟩
        · rw [h2] at h3
          cases h3
          refine ⟨fun xs lv' w => ?_, fun j w => by cases w⟩
          cases w
          exact h4
        · rw [h2] at h3
          cases h3
          exact ⟨fun xs lv' w => (by cases w), fun j w => by cases w; exact h4⟩
      have hne : pBind (p_cl T f (i + 1) lv) (fun c j lv1 => p_next T N f r c j lv1) ≠ none := fun w => by rw [w] at hR; cases hR
      obtain ⟨R2, h2⟩ := Option.ne_none_iff_exists'.mp hne
      obtain ⟨k1, k2⟩ := key R2 h2
      rcases pBind_some h2 with ⟨c2, j2, l2, h3, h4⟩ | ⟨j2, h3, h4⟩
      · have cl := p_cl_le h0 h3
        refine w221_64 (k := c226 (d := d) E h3 hi2 hl (fun e' j lv' w => ?_) (fun j i' lv' w => by cases w))
        cases w
        refine w221_67 l1 ?_
        refine w221_70 ?_
        exact ih (n + 1) j2 l2 c2 R2 (by omega) h4 cl.2.1 (cl.2.2 hl) (fun xs lv' w => kg _ _ (k1 xs lv' w)) (fun j i' lv' w hj => kb _ _ _ (k2 j w) hj) _ l0 (am_nx n)
      · refine w221_64 (k := c226 (d := d) E h3 hi2 hl (fun e' j lv' w => by cases w) (fun j i' lv' w hj => ?_))
        cases w
        refine w221_67 l1 ?_
        refine w221_70 ?_
        exact c221x L r_s_21 (pl_m1 E hj) (kb _ _ _ (k2 _ h4) hj) _ l0
    · rw [if_neg q] at hR
      refine w221_43 (fun _ => ?_) (fun w => absurd rfl w)
      by_cases e : i = N
      · rw [if_pos e] at hR
        subst e
        refine w221_73 l0 ?_
        refine w221_74 (k := c229 L r_s_21 ?_)
        rw [am_b_t rfl]
        refine w221_77 (fun hQ => absurd hQ (by decide)) (fun _ => ?_)
        refine w221_80 l0 ?_
        refine w221_81 ?_
        rw [r_s_19]
        refine w221_84 l0 ?_
        refine w221_85 ?_
        rw [r_s_at (by decide) (by decide) (by decide), h18]
        refine w221_88 (fun _ => ?_) (fun hQ => absurd (Int32.le_refl _) hQ)
        refine w221_95 l0 ?_
        refine w221_96 l0 ?_
        refine w221_97 ?_
        rw [r_s_21]
        refine w221_100 ?_
        refine w221_103 l0 ?_
        refine w221_104 (k := c229 (x := -1) L (by rw [am_u_at (by decide)]; exact r_s_21) ?_)
        rw [am_b_t rfl]
        refine w221_107 (by first | rfl | exact am_narrow_b _) ?_
        exact kg _ _ (Option.some.inj hR).symm
      · rw [if_neg e] at hR
        have hm := pl_m1 E hi
        refine w221_73 l0 ?_
        refine w221_74 (k := c229 L r_s_21 ?_)
        rw [am_b_t rfl]
        refine w221_77 (fun hQ => absurd hQ (by decide)) (fun _ => ?_)
        refine w221_80 l0 ?_
        refine w221_81 ?_
        rw [r_s_19]
        refine w221_84 l0 ?_
        refine w221_85 ?_
        rw [r_s_at (by decide) (by decide) (by decide), h18]
        refine w221_88 (fun hQ => absurd hQ (am_nlt (by omega) (by omega))) (fun _ => ?_)
        refine w221_91 l0 ?_
        refine w221_92 (k := c233 E hi ?_)
        refine w221_95 l0 ?_
        refine w221_96 l0 ?_
        refine w221_97 ?_
        rw [r_s_21]
        refine w221_100 ?_
        refine w221_103 l0 ?_
        refine w221_104 (k := c229 (x := nI (pl i)) L (by rw [am_u_at (by decide)]; exact r_s_21) ?_)
        rw [am_b_f hm]
        refine w221_107 (by first | rfl | exact am_narrow_b _) ?_
        exact kb _ _ _ (Option.some.inj hR).symm hi
/-- what reading leaves alone -/
def r_F (I I' : Nat → Nat → Int32) : Prop := (∀ a, a ≠ 124 → a ≠ 133 → a ≠ 134 → a ≠ 135 → I' a = I a) ∧ (∀ j, j ≠ 8 → j ≠ 9 → j ≠ 10 → j ≠ 13 → j ≠ 14 → (j < 18 ∨ 21 < j) → I' 124 j = I 124 j) ∧ I' 124 13 = 0
/-- reads -/
theorem c221 (L : am_Lay S P) {b : Nat → Nat} {z : Nat} (z400 : z ≤ 400) (hz : I 124 13 = nI z) (hw : ∀ k x, am_wds[k]? = some x → I 130 k = nI x) (hb : ∀ j, j < z → I 131 j = sb (b j)) (hb2 : ∀ j, j < z → b j < 256) {o : Bool} {ts : List (Nat × Nat)} (hts : ts = sc b z (z + 1) 0) {R : (List Cl × Nat × Nat) ⊕ Nat} (hR : p_read (x_T b ts o) ts.length = some R) (g10 : I 124 10 = (if o = true then 1 else 0)) (g8 : I 124 8 = (if o = true then 14 else 8)) (g9 : I 124 9 = (if o = true then 20 else 16)) (kg : ∀ xs lv' I', R = .inl (xs, ts.length, lv') → r_F I I' → I' 124 14 = -1 → I' 124 18 = nI ts.length → (∀ i, i ≤ ts.length → I' 133 i = (x_T b ts o).1 i ∧ I' 134 i = (x_T b ts o).2.1 i) → Q (some (.int 1)) (S, I', J, P)) (kb : ∀ j I', R = .inr j → j ≤ ts.length → r_F I I' → I' 124 14 = nI (t_P z ts j) → Q (some (.int 0)) (S, I', J, P)) : am_ev pr (d + 36) 221 [.ref 124] (S, I, J, P) Q := by
  have hN : ts.length ≤ 400 := by
    have q := sc_len (b := b) (z := z) (z + 1) 0 (by omega)
    rw [← hts] at q
    omega
  have tr := tk_R_of (o := o) hb2 hts
  show am_wp pr (d + 36) 221 0 [(0, .ref 124)] [] _ _
  refine w221_0 rfl ?_
  refine w221_1 rfl ?_
  refine w221_2 ?_
  rw [hz]
  refine w221_5 (k := c222 L z400 hw hb hb2 (fun I2 sf sr => ?_))
  rw [← hts] at sr
  obtain ⟨r1, r2, r3, r4, r5⟩ := sr
  refine w221_8 rfl ?_
  refine w221_9 ?_
  refine w221_10 ?_
  refine w221_13 rfl ?_
  refine w221_14 ?_
  refine w221_15 ?_
  refine w221_18 rfl ?_
  refine w221_19 ?_
  refine w221_20 ?_
  refine w221_23 rfl ?_
  refine w221_24 ?_
  refine w221_25 ?_
  refine w221_28 rfl ?_
  have e : am_u (am_u (am_u (am_u I2 124 13 0) 124 19 0) 124 20 0) 124 21 (-1) = r_s (am_u I2 124 13 0) 0 0 (-1) := rfl
  rw [e]
  have ff : ∀ j, j ≠ 13 → j ≠ 18 → am_u I2 124 13 0 124 j = I 124 j := fun j j1 j2 => by rw [am_u_at j1]; exact sf.2 j j2
  have h18 : am_u I2 124 13 0 124 18 = nI ts.length := by rw [am_u_at (by decide), r2, Nat.zero_add]
  have hE : ∀ i, i ≤ ts.length → I2 133 i = (x_T b ts o).1 i ∧ I2 134 i = (x_T b ts o).2.1 i ∧ I2 135 i = nI (t_P z ts i) ∧ t_P z ts i ≤ 400 := by
    intro i hi
    show I2 133 i = (match ts[i]? with | some q => nI (k_rc b q.1 q.2) | none => 0) ∧ I2 134 i = (match ts[i]? with | some q => nI (k_rn b q.1 q.2) | none => 0) ∧ I2 135 i = nI (match ts[i]? with | some q => q.1 | none => z) ∧ (match ts[i]? with | some q => q.1 | none => z) ≤ 400
    cases hc : ts[i]? with
    | none =>
      have q : ts.length ≤ i := List.getElem?_eq_none_iff.mp hc
      have q2 : i = 0 + ts.length := by omega
      rw [q2]
      exact ⟨r4, r5, r3, z400⟩
    | some q =>
      obtain ⟨p, e⟩ := q
      have q1 := r1 i p e hc
      rw [Nat.zero_add] at q1
      refine ⟨q1.2.1, q1.2.2, q1.1, ?_⟩
      have m := List.mem_of_getElem? hc
      rw [hts] at m
      have q2 := sc_b _ _ _ m
      show p ≤ 400
      have q3 : p < z := q2.2.1
      omega
  have E : r_E S (am_u I2 124 13 0) P (x_T b ts o) ts.length (t_P z ts) := by
    refine ⟨L, hN, fun i hi => ?_, tr.1, ?_, ?_, ?_⟩
    · rw [am_u_ne (by decide), am_u_ne (by decide), am_u_ne (by decide)]
      exact hE i hi
    · rw [ff 10 (by decide) (by decide)]; exact g10
    · rw [ff 8 (by decide) (by decide)]; exact g8
    · rw [ff 9 (by decide) (by decide)]; exact g9
  have fr : ∀ i' lv' x, r_F I (am_u (r_s (am_u I2 124 13 0) i' lv' x) 124 14 x) := by
    intro i' lv' x
    refine ⟨fun a a1 a2 a3 a4 => ?_, fun j j1 j2 j3 j4 j5 j6 => ?_, ?_⟩
    · rw [am_u_ne a1, r_s_ne a1, am_u_ne a1, sf.1 a a1 a2 a3 a4]
    · rw [am_u_at j5, r_s_at (by omega) (by omega) (by omega), ff j j4 (by omega)]
    · rw [am_u_at (by decide), r_s_at (by decide) (by decide) (by decide), am_u_self]
  unfold p_read at hR
  rw [show (12 : Nat) = 11 + 1 from rfl, p_list_eq] at hR
  have kg' : ∀ xs lv', R = .inl (xs, ts.length, lv') → Q (some (.int 1)) (S, am_u (r_s (am_u I2 124 13 0) ts.length lv' (-1)) 124 14 (-1), J, P) := by
    intro xs lv' w
    refine kg xs lv' _ w (fr _ _ _) am_u_self ?_ (fun i hi => ?_)
    · rw [am_u_at (by decide), r_s_at (by decide) (by decide) (by decide)]
      exact h18
    · rw [am_u_ne (by decide), am_u_ne (by decide), r_s_ne (by decide), r_s_ne (by decide), am_u_ne (by decide), am_u_ne (by decide)]
      exact ⟨(hE i hi).1, (hE i hi).2.1⟩
  have kb' : ∀ j i' lv', R = .inr j → j ≤ ts.length → Q (some (.int 0)) (S, am_u (r_s (am_u I2 124 13 0) i' lv' (nI (t_P z ts j))) 124 14 (nI (t_P z ts j)), J, P) := fun j i' lv' w hj => kb j _ w hj (fr _ _ _) am_u_self
  rcases pBind_some hR with ⟨c2, j2, l2, h3, h4⟩ | ⟨j2, h3, h4⟩
  · have cl := p_cl_le tr.1 h3
    refine w221_29 (k := c226 (d := d) E h3 (by omega) (by omega) (fun e' j lv' w => ?_) (fun j i' lv' w => by cases w))
    cases w
    refine w221_32 ?_
    refine w221_33 ?_
    exact c221l (d := d) E h18 11 1 j2 l2 c2 R (by omega) h4 cl.2.1 (cl.2.2 (by omega)) kg' kb' _ rfl rfl
  · refine w221_29 (k := c226 (d := d) E h3 (by omega) (by omega) (fun e' j lv' w => by cases w) (fun j i' lv' w hj => ?_))
    cases w
    refine w221_32 ?_
    refine w221_33 ?_
    exact c221x L r_s_21 (pl_m1 E hj) (kb' _ _ _ h4 hj) _ rfl
/-- readsAs -/
theorem c220 (L : am_Lay S P) {b : Nat → Nat} {z : Nat} (z400 : z ≤ 400) (hz : I 124 13 = nI z) (hw : ∀ k x, am_wds[k]? = some x → I 130 k = nI x) (hb : ∀ j, j < z → I 131 j = sb (b j)) (hb2 : ∀ j, j < z → b j < 256) {o : Bool} {ts : List (Nat × Nat)} (hts : ts = sc b z (z + 1) 0) {R : (List Cl × Nat × Nat) ⊕ Nat} (hR : p_read (x_T b ts o) ts.length = some R) (kg : ∀ xs lv' I', R = .inl (xs, ts.length, lv') → r_F I I' → I' 124 14 = -1 → I' 124 18 = nI ts.length → (∀ i, i ≤ ts.length → I' 133 i = (x_T b ts o).1 i ∧ I' 134 i = (x_T b ts o).2.1 i) → Q (some (.int 1)) (S, I', J, P)) (kb : ∀ j I', R = .inr j → j ≤ ts.length → r_F I I' → I' 124 14 = nI (t_P z ts j) → Q (some (.int 0)) (S, I', J, P)) : am_ev pr (d + 37) 220 [.ref 124, .int (if o = true then 1 else 0)] (S, I, J, P) Q := by
  have main : ∀ I1 : Nat → Nat → Int32, (∀ a, a ≠ 124 → I1 a = I a) → (∀ j, j ≠ 8 → j ≠ 9 → j ≠ 10 → I1 124 j = I 124 j) → I1 124 10 = (if o = true then 1 else 0) → I1 124 8 = (if o = true then 14 else 8) → I1 124 9 = (if o = true then 20 else 16) → ∀ lvv, am_wp pr (d + 37) 220 36 lvv [.ref 124] (S, I1, J, P) Q := by
    intro I1 f1 f2 g10 g8 g9 lvv
    have fr : ∀ I', r_F I1 I' → r_F I I' := fun I' h => ⟨fun a a1 a2 a3 a4 => (h.1 a a1 a2 a3 a4).trans (f1 a a1), fun j j1 j2 j3 j4 j5 j6 => (h.2.1 j j1 j2 j3 j4 j5 j6).trans (f2 j j1 j2 j3), h.2.2⟩
    refine w220_36 (k := c221 (o := o) L z400 (by rw [f2 13 (by decide) (by decide) (by decide)]; exact hz) (by rw [f1 130 (by decide)]; exact hw) (by rw [f1 131 (by decide)]; exact hb) hb2 hts hR g10 g8 g9 (fun xs lv' I' w h1 h2 h3 h4 => ?_) (fun j I' w hj h1 h2 => ?_))
    · exact w220_39 rfl (kg xs lv' I' w (fr I' h1) h2 h3 h4)
    · exact w220_39 rfl (kb j I' w hj (fr I' h1) h2)
  cases o with
  | true =>
    show am_wp pr (d + 37) 220 0 [(0, .ref 124), (1, .int 1)] [] _ _
    refine w220_0 rfl ?_
    refine w220_1 rfl ?_
    refine w220_2 (Or.inr rfl) ?_
    refine w220_5 rfl ?_
    refine w220_6 rfl ?_
    refine w220_7 (fun hQ => absurd hQ (by decide)) (fun _ => ?_)
    refine w220_10 ?_
    refine w220_12 ?_
    refine w220_17 ?_
    refine w220_20 rfl ?_
    refine w220_21 rfl ?_
    refine w220_22 (fun hQ => absurd hQ (by decide)) (fun _ => ?_)
    refine w220_25 ?_
    refine w220_27 ?_
    refine w220_32 ?_
    refine w220_35 rfl ?_
    exact main _ (fun a ha => by rw [am_u_ne ha, am_u_ne ha, am_u_ne ha]) (fun j j1 j2 j3 => by rw [am_u_at j2, am_u_at j1, am_u_at j3]) (by rw [am_u_at (by decide), am_u_at (by decide), am_u_self]; rfl) (by rw [am_u_at (by decide), am_u_self]; rfl) am_u_self _
  | false =>
    show am_wp pr (d + 37) 220 0 [(0, .ref 124), (1, .int 0)] [] _ _
    refine w220_0 rfl ?_
    refine w220_1 rfl ?_
    refine w220_2 (Or.inl rfl) ?_
    refine w220_5 rfl ?_
    refine w220_6 rfl ?_
    refine w220_7 (fun _ => ?_) (fun hQ => absurd rfl hQ)
    refine w220_15 ?_
    refine w220_17 ?_
    refine w220_20 rfl ?_
    refine w220_21 rfl ?_
    refine w220_22 (fun _ => ?_) (fun hQ => absurd rfl hQ)
    refine w220_30 ?_
    refine w220_32 ?_
    refine w220_35 rfl ?_
    exact main _ (fun a ha => by rw [am_u_ne ha, am_u_ne ha, am_u_ne ha]) (fun j j1 j2 j3 => by rw [am_u_at j2, am_u_at j1, am_u_at j3]) (by rw [am_u_at (by decide), am_u_at (by decide), am_u_self]; rfl) (by rw [am_u_at (by decide), am_u_self]; rfl) am_u_self _
/-- lays -/
theorem c242 (L : am_Lay S P) {n t : Nat} (hn : I 124 18 = nI n) (n4 : n ≤ 400) (ht : t < 7) (k : ∀ I', (∀ a, a ≠ 126 → I' a = I a) → (∀ j, j ≠ 77 + t → ¬ (84 + 400 * t ≤ j ∧ j < 84 + 400 * t + n) → ¬ (2884 + 400 * t ≤ j ∧ j < 2884 + 400 * t + n) → I' 126 j = I 126 j) → I' 126 (77 + t) = nI n → (∀ i, i < n → I' 126 (84 + 400 * t + i) = I 133 i ∧ I' 126 (2884 + 400 * t + i) = I 134 i) → Q none (S, I', J, P)) : am_ev pr d 242 [.ref 124, .int (nI t)] (S, I, J, P) Q := by
  show am_wp pr d 242 0 [(0, .ref 124), (1, .int (nI t))] [] _ _
  have e4 : (400 : Int32) * nI t = nI (400 * t) := pk_mul 400 t
  refine w242_0 rfl ?_
  refine w242_1 (L.2 _ _ _ rfl) ?_
  refine w242_4 ?_
  refine w242_6 rfl ?_
  refine w242_7 ?_
  rw [show (77 : Int32) + nI t = nI (77 + t) from nI_add 77 t]
  refine w242_8 rfl ?_
  refine w242_9 ?_
  rw [hn]
  refine w242_12 (L.sh rfl) (am_in_nI (by omega) (by decide)) ?_
  rw [am_clN (by omega)]
  refine w242_13 ?_
  refine w242_14 ?_
  refine am_for (fun m => ∀ I' : Nat → Nat → Int32, (∀ a, a ≠ 126 → I' a = I a) → (∀ j, j ≠ 77 + t → ¬ (84 + 400 * t ≤ j ∧ j < 84 + 400 * t + n) → ¬ (2884 + 400 * t ≤ j ∧ j < 2884 + 400 * t + n) → I' 126 j = I 126 j) → I' 126 (77 + t) = nI n → (∀ i, i < m → I' 126 (84 + 400 * t + i) = I 133 i ∧ I' 126 (2884 + 400 * t + i) = I 134 i) → ∀ lvv, am_ld1 lvv 0 = some (.ref 124) → am_ld1 lvv 1 = some (.int (nI t)) → am_ld1 lvv 2 = some (.int (nI m)) → am_wp pr (d) 242 15 lvv [] (S, I', J, P) Q) n ?_ ?_ _ (fun a ha => am_u_ne ha) (fun j j1 _ _ => am_u_at j1) am_u_self (fun i hi => absurd hi (Nat.not_lt_zero i)) _ rfl rfl rfl
  · intro m hm ih I' f1 f2 f3 f4 lvv l0 l1 l2
    have en : I' 124 18 = nI n := by rw [f1 124 (by decide)]; exact hn
    have e1 : I' 133 m = I 133 m := by rw [f1 133 (by decide)]
    have e2 : ∀ x y, am_u I' 126 x y 134 m = I 134 m := fun x y => by rw [am_u_ne (by decide), f1 134 (by decide)]
    refine w242_15 l2 ?_
    refine w242_16 l0 ?_
    refine w242_17 ?_
    rw [en]
    refine w242_20 (fun hQ => absurd hQ (am_nlt hm (by omega))) (fun _ => ?_)
    refine w242_23 l0 ?_
    refine w242_24 (L.2 _ _ _ rfl) ?_
    refine w242_27 ?_
    refine w242_29 ?_
    refine w242_32 l1 ?_
    refine w242_33 ?_
    rw [e4]
    refine w242_34 ?_
    rw [show (84 : Int32) + nI (400 * t) = nI (84 + 400 * t) from nI_add 84 _]
    refine w242_35 l2 ?_
    refine w242_36 ?_
    rw [nI_add]
    refine w242_37 l0 ?_
    refine w242_38 (L.2 _ _ _ rfl) ?_
    refine w242_41 l2 ?_
    refine w242_42 (L.sh rfl) (am_in_nI (by omega) (by decide)) ?_
    rw [am_clN (by omega), e1]
    refine w242_43 (L.sh rfl) (am_in_nI (by omega) (by decide)) ?_
    rw [am_clN (by omega)]
    refine w242_44 l0 ?_
    refine w242_45 (L.2 _ _ _ rfl) ?_
    refine w242_48 ?_
    refine w242_51 ?_
    refine w242_54 l1 ?_
    refine w242_55 ?_
    rw [e4]
    refine w242_56 ?_
    rw [show (2884 : Int32) + nI (400 * t) = nI (2884 + 400 * t) from nI_add 2884 _]
    refine w242_57 l2 ?_
    refine w242_58 ?_
    rw [nI_add]
    refine w242_59 l0 ?_
    refine w242_60 (L.2 _ _ _ rfl) ?_
    refine w242_63 l2 ?_
    refine w242_64 (L.sh rfl) (am_in_nI (by omega) (by decide)) ?_
    rw [am_clN (by omega), e2]
    refine w242_65 (L.sh rfl) (am_in_nI (by omega) (by decide)) ?_
    rw [am_clN (by omega)]
    refine w242_66 l2 ?_
    refine w242_69 ?_
    refine ih _ (fun a ha => by rw [am_u_ne ha, am_u_ne ha]; exact f1 a ha) (fun j j1 j2 j3 => ?_) ?_ (fun i hi => ?_) _ l0 l1 (am_nx m)
    · rw [am_u_at (by omega), am_u_at (by omega)]
      exact f2 j j1 j2 j3
    · rw [am_u_at (by omega), am_u_at (by omega)]
      exact f3
    · by_cases q : i = m
      · subst q
        exact ⟨by rw [am_u_at (by omega), am_u_self], am_u_self⟩
      · have w := f4 i (by omega)
        exact ⟨by rw [am_u_at (by omega), am_u_at (by omega)]; exact w.1, by rw [am_u_at (by omega), am_u_at (by omega)]; exact w.2⟩
  · intro I' f1 f2 f3 f4 lvv l0 l1 l2
    have en : I' 124 18 = nI n := by rw [f1 124 (by decide)]; exact hn
    refine w242_15 l2 ?_
    refine w242_16 l0 ?_
    refine w242_17 ?_
    rw [en]
    refine w242_20 (fun _ => ?_) (fun hQ => absurd (Int32.le_refl _) hQ)
    refine w242_72 ?_
    exact k I' f1 f2 f3 f4
end
