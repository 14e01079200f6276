/-! the plain machine as rewriting: what holds behind a method's rest -/
def am_wp (pr : am_Pr) (d mi pc : Nat) (lv : List (Nat × Value)) (st : List Value) (σ : am_H) (Q : Option Value → am_H → Prop) : Prop := ∃ (n : Nat) (r : Option Value) (τ : am_H), am_run pr n d mi pc lv st σ = some (r, τ) ∧ Q r τ
/-- a call: the method's whole -/
def am_ev (pr : am_Pr) (d mi : Nat) (vs : List Value) (σ : am_H) (Q : Option Value → am_H → Prop) : Prop := am_wp pr d mi 0 (lv_args 0 vs) [] σ Q
/-- more steps do no harm -/
theorem am_fuel {pr : am_Pr} : ∀ (n k d mi pc : Nat) (lv : List (Nat × Value)) (st : List Value) (σ : am_H) (x : Option Value × am_H), am_run pr n d mi pc lv st σ = some x → am_run pr (n + k) d mi pc lv st σ = some x
  | 0, k, d, mi, pc, lv, st, σ, x, h => by cases h
  | n + 1, k, d, mi, pc, lv, st, σ, x, h => by
    rw [show n + 1 + k = (n + k) + 1 by omega]
    unfold am_run at h ⊢
    split at h
    · cases h
    · split at h
      · cases h
      · split at h
        · exact h
        · split at h
          · split at h
            · exact am_fuel n k _ _ _ _ _ _ _ h
            · cases h
          · split at h
            · split at h
              · split at h
                · split at h
                  · rename_i f hf
                    rw [if_pos (by assumption), if_pos (by assumption)]
                    exact am_fuel n k _ _ _ _ _ _ _ h
                  · cases h
                · cases h
              · split at h
                · cases h
                · split at h
                  · split at h
                    · rename_i r1 τ1 hr1
                      rw [if_neg (by assumption), if_pos (by assumption), am_fuel n k _ _ _ _ _ _ _ hr1]
                      exact am_fuel n k _ _ _ _ _ _ _ h
                    · cases h
                  · cases h
            · cases h
section AmWp
variable {pr : am_Pr} {d mi pc : Nat} {lv : List (Nat × Value)} {st : List Value} {σ : am_H} {Q : Option Value → am_H → Prop} {M : am_Me} {ins : Instr} {len : Nat}
theorem am_wp_ret {r : Option Value} (hM : am_ms[mi]? = some M) (hd : decode M.2.2.1 pc = .ok (ins, len)) (hr : am_ret M.2.2.2.2.1 st ins len = some r) : am_wp pr d mi pc lv st σ Q = Q r σ := by
  apply propext
  have e : ∀ n, am_run pr (n + 1) d mi pc lv st σ = some (r, σ) := by
    intro n
    unfold am_run
    rw [hM]
    dsimp only
    rw [hd]
    dsimp only
    rw [hr]
  refine ⟨fun h => ?_, fun h => ⟨1, r, σ, e 0, h⟩⟩
  obtain ⟨n, r1, τ, h1, h2⟩ := h
  cases n with
  | zero => cases h1
  | succ n =>
    rw [e n] at h1
    cases h1
    exact h2
theorem am_wp_st (hM : am_ms[mi]? = some M) (hd : decode M.2.2.1 pc = .ok (ins, len)) (hr : am_ret M.2.2.2.2.1 st ins len = none) (hc : am_cidx ins len = none) : am_wp pr d mi pc lv st σ Q = (match am_st1 pr M.1 M.2.2.2.1 (decide (M.2.1.name = "<init>")) pc lv st σ ins len with | some c => am_wp pr d mi c.1 c.2.1 c.2.2.1 c.2.2.2 Q | none => False) := by
  apply propext
  have e : ∀ n, am_run pr (n + 1) d mi pc lv st σ = (match am_st1 pr M.1 M.2.2.2.1 (decide (M.2.1.name = "<init>")) pc lv st σ ins len with | some c => am_run pr n d mi c.1 c.2.1 c.2.2.1 c.2.2.2 | none => none) := by
    intro n
    conv => lhs; unfold am_run
    rw [hM]
    dsimp only
    rw [hd]
    dsimp only
    rw [hr]
    dsimp only
    rw [hc]
    cases am_st1 pr M.1 M.2.2.2.1 (decide (M.2.1.name = "<init>")) pc lv st σ ins len <;> rfl
  cases hs : am_st1 pr M.1 M.2.2.2.1 (decide (M.2.1.name = "<init>")) pc lv st σ ins len with
  | none =>
    refine ⟨fun h => ?_, fun h => h.elim⟩
    obtain ⟨n, r1, τ, h1, h2⟩ := h
    cases n with
    | zero => cases h1
    | succ n =>
      rw [e n, hs] at h1
      cases h1
  | some c =>
    refine ⟨fun h => ?_, fun h => ?_⟩
    · obtain ⟨n, r1, τ, h1, h2⟩ := h
      cases n with
      | zero => cases h1
      | succ n =>
        rw [e n, hs] at h1
        exact ⟨n, r1, τ, h1, h2⟩
    · obtain ⟨n, r1, τ, h1, h2⟩ := h
      refine ⟨n + 1, r1, τ, ?_, h2⟩
      rw [e n, hs]
      exact h1
/-- the library's own calls -/
theorem am_wp_nat {ck k mj kind i0 : Nat} (hM : am_ms[mi]? = some M) (hd : decode M.2.2.1 pc = .ok (ins, len)) (hr : am_ret M.2.2.2.2.1 st ins len = none) (hc : am_cidx ins len = some (ck, k)) (hm : am_ml.lookup (am_key M.1 k) = some (mj, kind, i0)) (h4 : 4 ≤ kind) (hk : (kind = 4 ∧ ck = 2) ∨ (5 ≤ kind ∧ ck = 1)) : am_wp pr (d + 1) mi pc lv st σ Q = (match am_nat kind pc lv st σ with | some c => am_wp pr (d + 1) mi c.1 c.2.1 c.2.2.1 c.2.2.2 Q | none => False) := by
  apply propext
  have e : ∀ n, am_run pr (n + 1) (d + 1) mi pc lv st σ = (match am_nat kind pc lv st σ with | some c => am_run pr n (d + 1) mi c.1 c.2.1 c.2.2.1 c.2.2.2 | none => none) := by
    intro n
    conv => lhs; unfold am_run
    rw [hM]
    dsimp only
    rw [hd]
    dsimp only
    rw [hr]
    dsimp only
    rw [hc]
    dsimp only
    rw [hm]
    dsimp only
    rw [if_pos h4, if_pos hk]
    cases am_nat kind pc lv st σ <;> rfl
  cases hs : am_nat kind pc lv st σ with
  | none =>
    refine ⟨fun h => ?_, fun h => h.elim⟩
    obtain ⟨n, r1, τ, h1, h2⟩ := h
    cases n with
    | zero => cases h1
    | succ n =>
      rw [e n, hs] at h1
      cases h1
  | some c =>
    refine ⟨fun h => ?_, fun h => ?_⟩
    · obtain ⟨n, r1, τ, h1, h2⟩ := h
      cases n with
      | zero => cases h1
      | succ n =>
        rw [e n, hs] at h1
        exact ⟨n, r1, τ, h1, h2⟩
    · obtain ⟨n, r1, τ, h1, h2⟩ := h
      refine ⟨n + 1, r1, τ, ?_, h2⟩
      rw [e n, hs]
      exact h1
/-- a call of a method of the table -/
theorem am_wp_call {ck k mj kind i0 : Nat} {N : am_Me} (hM : am_ms[mi]? = some M) (hd : decode M.2.2.1 pc = .ok (ins, len)) (hr : am_ret M.2.2.2.2.1 st ins len = none) (hc : am_cidx ins len = some (ck, k)) (hm : am_ml.lookup (am_key M.1 k) = some (mj, kind, i0)) (h4 : ¬ 4 ≤ kind) (hN : am_mt[mj]? = some N) (hok : am_cok ck kind N st σ = true) : am_wp pr (d + 1) mi pc lv st σ Q = am_ev pr d mj (st.take (am_k ck N)).reverse σ (fun r τ => am_wp pr (d + 1) mi (pc + 3) lv (r.toList ++ st.drop (am_k ck N)) τ Q) := by
  apply propext
  have e : ∀ n, am_run pr (n + 1) (d + 1) mi pc lv st σ = (match am_run pr n d mj 0 (lv_args 0 (st.take (am_k ck N)).reverse) [] σ with | some (r, τ) => am_run pr n (d + 1) mi (pc + 3) lv (r.toList ++ st.drop (am_k ck N)) τ | none => none) := by
    intro n
    conv => lhs; unfold am_run
    rw [hM]
    dsimp only
    rw [hd]
    dsimp only
    rw [hr]
    dsimp only
    rw [hc]
    dsimp only
    rw [hm]
    dsimp only
    rw [if_neg h4, hN]
    dsimp only
    rw [if_pos hok]
    cases am_run pr n d mj 0 (lv_args 0 (st.take (am_k ck N)).reverse) [] σ <;> rfl
  refine ⟨fun h => ?_, fun h => ?_⟩
  · obtain ⟨n, r1, τ, h1, h2⟩ := h
    cases n with
    | zero => cases h1
    | succ n =>
      rw [e n] at h1
      split at h1
      · rename_i r2 τ2 h3
        exact ⟨n, r2, τ2, h3, n, r1, τ, h1, h2⟩
      · cases h1
  · obtain ⟨n, r2, τ2, h3, n2, r1, τ, h1, h2⟩ := h
    refine ⟨n + n2 + 1, r1, τ, ?_, h2⟩
    rw [e (n + n2), am_fuel n n2 _ _ _ _ _ _ _ h3]
    dsimp only
    rw [Nat.add_comm n n2]
    exact am_fuel n2 n _ _ _ _ _ _ _ h1
theorem am_wp_mono {Q' : Option Value → am_H → Prop} (h : am_wp pr d mi pc lv st σ Q) (hq : ∀ r τ, Q r τ → Q' r τ) : am_wp pr d mi pc lv st σ Q' := by
  obtain ⟨n, r, τ, h1, h2⟩ := h
  exact ⟨n, r, τ, h1, hq r τ h2⟩
theorem am_ev_mono {vs : List Value} {Q' : Option Value → am_H → Prop} (h : am_ev pr d mi vs σ Q) (hq : ∀ r τ, Q r τ → Q' r τ) : am_ev pr d mi vs σ Q' := am_wp_mono h hq
/-- a run has one end -/
theorem am_ev_det {vs : List Value} {r : Option Value} {τ : am_H} (h : am_ev pr d mi vs σ (fun r' τ' => r' = r ∧ τ' = τ)) : am_ev pr d mi vs σ Q = Q r τ := by
  obtain ⟨n, r1, τ1, h1, rfl, rfl⟩ := h
  apply propext
  refine ⟨fun h => ?_, fun h => ⟨n, r1, τ1, h1, h⟩⟩
  obtain ⟨n2, r2, τ2, h2, h3⟩ := h
  have a := am_fuel n n2 _ _ _ _ _ _ _ h1
  have b := am_fuel n2 n _ _ _ _ _ _ _ h2
  rw [Nat.add_comm n2 n, a] at b
  cases b
  exact h3
end AmWp
