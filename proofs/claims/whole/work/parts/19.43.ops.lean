/-! both sides' calls, side by side: the plain ones -/
/-- the heap has grown by little -/
def am_gr (S S' : List (Nat × Nat)) : Prop := ∃ W : List (Nat × Nat), S' = S ++ W ∧ W.length ≤ 8 ∧ (W.map (fun q => q.2)).sum ≤ 1200
theorem am_gr_0 (S : List (Nat × Nat)) : am_gr S S := ⟨[], (List.append_nil S).symm, by decide, by decide⟩
def am_oi (S : List (Nat × Nat)) (v : Value) : Option Value → am_H → Prop := fun r τ => r = some v ∧ am_gr S τ.1 ∧ ∃ n l s u tp, am_R τ.1 τ.2.1 τ.2.2.2 n l s u tp
/-- the one side's call, then the other one's: the same answer -/
def am_op (pr : am_Pr) (d : Nat) (S : List (Nat × Nat)) (I : Nat → Nat → Int32) (J : Nat → Nat → Int64) (P : Nat → Nat → Option Nat) (mc : Nat) (ac : List Value) (mm : Nat) (am : List Value) : Prop := am_ev pr d mc ac (S, I, J, P) (fun r τ => ∃ v, r = some (.int v) ∧ am_ev pr d mm am τ (am_oi S (.int v)))
section
variable {pr : am_Pr} {d : Nat} {S : List (Nat × Nat)} {I I' : Nat → Nat → Int32} {J : Nat → Nat → Int64} {P : Nat → Nat → Option Nat} {n l s u tp n' s' u' tp' : Nat} {kp kp' : Nat → Int32}
theorem am_oi_0 {v v' : Int32} (r : am_R S I' P n l s u tp) (e : v' = v) : am_oi S (.int v) (some (.int v')) (S, I', J, P) := by
  rw [e]
  exact ⟨rfl, am_gr_0 S, n, l, s, u, tp, r⟩
theorem am_R.i8 (r : am_R S I P n l s u tp) : I 96 3 = I 124 14 ∧ I 64 13 = I 124 40 ∧ I 64 14 = I 124 6 ∧ I 64 16 = I 124 0 := r 8
theorem am_R.i9 (r : am_R S I P n l s u tp) : ∀ k, k < 7 → I 123 k = I 125 k := r 9
theorem am_R.tape (r : am_R S I P n l s u tp) : tp ≤ 400 ∧ I 94 0 = nI tp ∧ I 124 13 = nI tp ∧ ∀ k, k < tp → (I 95 k = I 131 k &&& 255 ∧ (I 131 k).toInt8.toInt32 = I 131 k) := r 7
theorem am_R.past (r : am_R S I P n l s u tp) : u ≤ 16 ∧ I 90 0 = nI u ∧ I 124 35 = nI u ∧ am_PA (I 91) (I 141) (I 126) n u := r 6
theorem am_R.draw (r : am_R S I P n l s u tp) : am_DR (I 81) (I 84) (I 148) (I 124 48) := r 10
theorem am_TK_cg {o : Bool} {i : Nat} {xs : List Cl} (hi : i < 7) (e : ∀ j, 77 ≤ j → kp' j = kp j) (r : am_TK o kp i xs) : am_TK o kp' i xs := by
  obtain ⟨N, lv, h1, h2, h3, h4⟩ := r
  refine ⟨N, lv, h1, h2, (e _ (by omega)).trans h3, ?_⟩
  rw [show k_tk kp' o i N = k_tk kp o i N from ?_]
  · exact h4
  · unfold k_tk
    have e1 : (fun k => if k < N then kp' (84 + 400 * i + k) else 0) = (fun k => if k < N then kp (84 + 400 * i + k) else 0) := by
      funext k
      rw [e _ (by omega)]
    have e2 : (fun k => if k < N then kp' (2884 + 400 * i + k) else 0) = (fun k => if k < N then kp (2884 + 400 * i + k) else 0) := by
      funext k
      rw [e _ (by omega)]
    rw [e1, e2]
theorem am_un_cg {kd wh ws : Int32} {j : Nat} (hj : j < 44) (e : ∀ j, j < 44 → kp' j = kp j) : am_un n kd wh ws kp' j = am_un n kd wh ws kp j := by
  unfold am_un
  rw [e j hj, e 42 (by omega), e 43 (by omega)]
theorem am_PA_cg {dd lf : Nat → Int32} (e : ∀ j, j < 44 → kp' j = kp j) (r : am_PA dd lf kp n u) : am_PA dd lf kp' n u := by
  intro i hi
  obtain ⟨h1, h2, h3, h4⟩ := r i hi
  refine ⟨h1, h2, h3, fun j hj => ?_⟩
  rw [h4 j hj]
  by_cases z : i + 1 = u
  · rw [if_pos z, if_pos z]
    exact (am_un_cg hj e).symm
  · rw [if_neg z, if_neg z]
theorem am_PA_0 {dd lf : Nat → Int32} : am_PA dd lf kp n 0 := fun i hi => absurd hi (Nat.not_lt_zero i)
/-- nothing of the images, the words, the laws' texts has changed, nor the laws' tokens -/
theorem am_R_mk (r : am_R S I P n l s u tp) (e149 : ∀ a, 149 ≤ a → I' a = I a) (e127 : I' 127 = I 127) (e128 : I' 128 = I 128) (e130 : I' 130 = I 130) (k77 : ∀ j, 77 ≤ j → I' 126 j = I 126 j) (i1 : am_HR I' 65 (I' 126) n' l s') (i6 : u' ≤ 16 ∧ I' 90 0 = nI u' ∧ I' 124 35 = nI u' ∧ am_PA (I' 91) (I' 141) (I' 126) n' u') (i7 : tp' ≤ 400 ∧ I' 94 0 = nI tp' ∧ I' 124 13 = nI tp' ∧ ∀ k, k < tp' → (I' 95 k = I' 131 k &&& 255 ∧ (I' 131 k).toInt8.toInt32 = I' 131 k)) (i8 : I' 96 3 = I' 124 14 ∧ I' 64 13 = I' 124 40 ∧ I' 64 14 = I' 124 6 ∧ I' 64 16 = I' 124 0) (i9 : ∀ k, k < 7 → I' 123 k = I' 125 k) (i10 : am_DR (I' 81) (I' 84) (I' 148) (I' 124 48)) : am_R S I' P n' l s' u' tp' := by
  have hl6 := r.hr.l6
  intro q
  match q with
  | 0 => exact r 0
  | 1 => exact i1
  | 2 =>
    intro i hi
    obtain ⟨t, xs, h1, h2, h3, h4⟩ := (r 2 : am_LW S I P (P 70) (I 126) l) i hi
    exact ⟨t, xs, h1, h2, am_TI_cg (fun _ _ z => z) rfl (fun a h _ => e149 a (by omega)) h3, am_TK_cg (by omega) k77 h4⟩
  | 3 => exact r 3
  | 4 =>
    intro q hq
    unfold am_IM
    rw [e128, e127]
    rcases (r 4 : ∀ q, q < 2 → am_IM S I P q) q hq with z | ⟨z, h, n1, l1, s1, z1, z2, z3, z4, z5, z6, z7⟩
    · exact Or.inl z
    · exact Or.inr ⟨z, h, n1, l1, s1, z1, z2, z3, z4, am_HR_cg h (fun a h1 h2 => e149 a (by omega)) rfl z5, am_LW_cg e149 z6, z7⟩
  | 5 => exact r 5
  | 6 => exact i6
  | 7 => exact i7
  | 8 => exact i8
  | 9 => exact i9
  | 10 => exact i10
  | 11 =>
    show ∀ k x, am_wds[k]? = some x → I' 130 k = nI x
    rw [e130]
    exact r 11
  | q + 12 => exact trivial
theorem op_8 (r : am_R S I P n l s u tp) : am_op pr d S I J P 47 [.ref 64] 216 [.ref 124] := c47 r.L ⟨_, rfl, c216 r.L (am_oi_0 r r.i8.2.2.1.symm)⟩
theorem op_11 (r : am_R S I P n l s u tp) : am_op pr d S I J P 106 [.ref 64] 243 [.ref 124] := c106 r.L ⟨_, rfl, c243 r.L (am_oi_0 r r.i8.1.symm)⟩
theorem op_12 (r : am_R S I P n l s u tp) : am_op pr d S I J P 107 [.ref 64] 289 [.ref 124] := c107 r.L ⟨_, rfl, c289 r.L (am_oi_0 r r.i8.2.1.symm)⟩
theorem op_40 (r : am_R S I P n l s u tp) : am_op pr d S I J P 161 [.ref 64] 303 [.ref 124] := c161 r.L ⟨_, rfl, c303 r.L (am_oi_0 r r.i8.2.2.2.symm)⟩
/-- of -/
theorem op_1 (r : am_R S I P n l s u tp) {x y : Int32} : am_op pr (d + 2) S I J P 15 [.ref 64, .int x, .int y] 173 [.ref 124, .int x, .int y] := by
  have hr := r.hr
  have n7 := hr.n7
  rcases am_pk7 x n7 with ⟨m, hm, rfl⟩ | h
  · refine c15 r.L hr.hn hm n7 ⟨_, rfl, c173 r.L hr.kn hm n7 (am_oi_0 r ?_)⟩
    have e0 : I 66 m = I 126 (44 + m) := hr.vo m hm
    have e1 : I 67 m = I 126 (51 + m) := hr.sd m hm
    have e2 : am_bit (I 65 1) m = I 126 (35 + m) := by
      have z := hr.he m (by omega)
      rcases hr.k01 m hm with z1 | z1 <;> rw [z1] at z ⊢
      · exact am_bit_n0.mp (fun q => absurd (z.mp q).2 (by decide))
      · exact z.mpr ⟨hm, rfl⟩
    have e3 : ∀ b, b < 5 → I 68 (m * 5 + b) = I 126 (m * 5 + b) := fun b hb => hr.wa _ (by omega)
    unfold s_of
    simp only [e0, e1, e2, e3 0 (by omega), e3 1 (by omega), e3 2 (by omega), e3 3 (by omega), e3 4 (by omega)]
  · refine c15n r.L (fun z => h ⟨z.1, by rw [← hr.hn]; exact z.2.1⟩) ⟨_, rfl, c173n r.L hr.kn n7 h (am_oi_0 r rfl)⟩
/-- end -/
theorem op_6 (r : am_R S I P n l s u tp) {x : Int32} : am_op pr (d + 1) S I J P 43 [.ref 64, .int x] 218 [.ref 124, .int x] := by
  have hr := r.hr
  obtain ⟨t1, t2, t3, t4⟩ := r.tape
  refine c43 r.L (fun h => ⟨_, rfl, c218 r.L (fun h2 => ?_) (fun h2 => ?_)⟩) (fun h => ⟨_, rfl, c218 r.L (fun h2 => ?_) (fun h2 => am_oi_0 r rfl)⟩)
  · rw [t2] at h
    obtain ⟨j, hj, rfl⟩ := nI_of2 (M := nI tp) (nI_toInt (by omega)) (Int32.not_lt.mpr h.1) h.2
    refine am_oi_0 (n := n) (l := l) (s := s) (u := u) (tp := j) (am_R_mk r ?_ rfl rfl rfl (fun _ _ => rfl) ?_ ?_ ?_ ?_ ?_ ?_) rfl
    · intro a ha
      rw [am_u_ne (by omega), am_u_ne (by omega)]
    · exact am_HR_cg 65 (fun a h1 h2 => by rw [am_u_ne (by omega), am_u_ne (by omega)]) rfl hr
    · exact r.past
    · refine ⟨by omega, rfl, rfl, fun k hk => ?_⟩
      exact t4 k (by omega)
    · exact r.i8
    · exact r.i9
    · exact r.draw
  · exact absurd (by rw [am_u_off (by decide), t3, ← t2]; exact h) h2
  · exact absurd (by rw [t2, ← t3]; exact h2) h
end
