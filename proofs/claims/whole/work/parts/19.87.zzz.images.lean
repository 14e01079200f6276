/-! images -/
section
variable {pr : am_Pr} {d : Nat} {S : List (Nat × Nat)} {I I' : Nat → Nat → Int32} {J : Nat → Nat → Int64} {P P' : Nat → Nat → Option Nat} {Q : Option Value → am_H → Prop} {n l s u tp : Nat} {kp lf kp' : Nat → Int32}
theorem am_TK_k {o : Bool} {i : Nat} {xs : List Cl} (hi : i < 7) (e : ∀ j, j < 5684 → kp' j = kp j) (r : am_TK o kp i xs) : am_TK o kp' i xs := by
  obtain ⟨N, lv, h1, h2, h3, h4⟩ := r
  refine ⟨N, lv, h1, h2, (e _ (by omega)).trans h3, ?_⟩
  rw [show k_tk kp' o i N = k_tk kp o i N from ?_]
  · exact h4
  · unfold k_tk
    have e1 : (fun k => if k < N then kp' (84 + 400 * i + k) else 0) = (fun k => if k < N then kp (84 + 400 * i + k) else 0) := by
      funext k
      by_cases z : k < N
      · rw [e _ (by omega)]
      · rw [if_neg z, if_neg z]
    have e2 : (fun k => if k < N then kp' (2884 + 400 * i + k) else 0) = (fun k => if k < N then kp (2884 + 400 * i + k) else 0) := by
      funext k
      by_cases z : k < N
      · rw [e _ (by omega)]
      · rw [if_neg z, if_neg z]
    rw [e1, e2]
theorem am_LW_k {p : Nat → Option Nat} (l6 : l ≤ 6) (e : ∀ j, j < 5684 → kp' j = kp j) (r : am_LW S I P p kp l) : am_LW S I P p kp' l := by
  intro i hi
  obtain ⟨t, xs, h1, h2, h3, h4⟩ := r i hi
  exact ⟨t, xs, h1, h2, h3, am_TK_k (by omega) e h4⟩
theorem am_HR_k {h : Nat} (e : ∀ j, j < 5684 → kp' j = kp j) (hr : am_HR I h kp n l s) : am_HR I h kp' n l s := by
  have n7 := hr.n7
  have l6 := hr.l6
  have s6 := hr.s6
  refine am_HR_mk ?_ ?_ ?_ ?_ ?_ ?_ ?_ ?_ ?_ ?_ ?_ ?_ ?_ ?_ ?_ ?_
  · exact ⟨n7, l6, s6⟩
  · show I h 0 = nI n ∧ kp' 73 = nI n
    rw [e 73 (by omega)]; exact hr 1
  · intro m hm
    show am_bit (I h 1) m = 1 ↔ m < n ∧ kp' (35 + m) = 1
    rw [e (35 + m) (by omega)]; exact hr 2 m hm
  · intro m hm
    show kp' (35 + m) = 0 ∨ kp' (35 + m) = 1
    rw [e (35 + m) (by omega)]; exact hr 3 m hm
  · show I h 2 = kp' 42 ∧ ∃ x, x < 32 ∧ kp' 42 = nI x
    rw [e 42 (by omega)]; exact hr 4
  · show I h 3 = nI l ∧ kp' 75 = nI l
    rw [e 75 (by omega)]; exact hr 5
  · show I h 4 = kp' 76 ∧ (kp' 76 = -1 ∨ ∃ f, f < l ∧ kp' 76 = nI f)
    rw [e 76 (by omega)]; exact hr 6
  · show I h 5 = nI s ∧ kp' 74 = nI s
    rw [e 74 (by omega)]; exact hr 7
  · intro m hm
    show I (h + 1 + 0) m = kp' (44 + m) ∧ ∃ x, 1 ≤ x ∧ x ≤ 9 ∧ kp' (44 + m) = nI x
    rw [e (44 + m) (by omega)]; exact hr 8 m hm
  · intro m hm
    show I (h + 1 + 1) m = kp' (51 + m)
    rw [e (51 + m) (by omega)]; exact hr 9 m hm
  · intro j hj
    show I (h + 1 + 2) j = kp' j ∧ ∃ x, x ≤ 9 ∧ kp' j = nI x
    rw [e j (by omega)]; exact hr 10 j hj
  · show I (h + 1 + 3) 0 = kp' 43 ∧ ∃ x, x ≤ 999 ∧ kp' 43 = nI x
    rw [e 43 (by omega)]; exact hr 11
  · show I (h + 1 + 3) 1 = kp' 70 ∧ ∃ x, x ≤ 10 ∧ kp' 70 = nI x
    rw [e 70 (by omega)]; exact hr 12
  · show I (h + 1 + 3) 2 = kp' 71
    rw [e 71 (by omega)]; exact hr 13
  · show I (h + 1 + 3) 3 = kp' 72 ∧ ∃ x, x ≤ 99 ∧ kp' 72 = nI x
    rw [e 72 (by omega)]; exact hr 14
  · intro i hi
    show ∃ a b, a < 5 ∧ b < 5 ∧ I (h + 1 + 5) i = nI a ∧ kp' (58 + 2 * i) = nI a ∧ I (h + 1 + 6) i = nI b ∧ kp' (58 + 2 * i + 1) = nI b
    rw [e (58 + 2 * i) (by omega), e (58 + 2 * i + 1) (by omega)]; exact hr 15 i hi
/-- the reference's: image, back -/
theorem c163 (L : am_Lay S P) {q : Nat} (hq : q < 2) (k : ∀ I', (∀ a, a ≠ 124 → a ≠ 127 → a ≠ 128 → I' a = I a) → (∀ j, j ≠ 0 → I' 124 j = I 124 j) → I' 124 0 = 0 → (∀ j, j < 5684 → I' 127 (5684 * q + j) = I 126 j) → (∀ p, p < 2 → p ≠ q → (∀ j, j < 5684 → I' 127 (5684 * p + j) = I 127 (5684 * p + j)) ∧ I' 128 p = I 128 p) → I' 128 q = 1 → Q (some (.int 0)) (S, I', J, P)) : am_ev pr (d + 1) 163 [.ref 124, .int (nI q)] (S, I, J, P) Q := by
  have h1 : (0 : Int32) ≤ nI q ∧ nI q ≤ 1 := ⟨nI_pos' (by omega), nI_le (b := 1) (by omega) (by decide)⟩
  show am_wp pr (d + 1) 163 0 [(0, .ref 124), (1, .int (nI q))] [] _ _
  refine w163_0 rfl ?_
  refine w163_1 ?_
  refine w163_2 ?_
  refine w163_3 (k := c164 ?_)
  rw [am_b_t h1]
  refine w163_6 (fun _ => ?_) (fun hQ => absurd (by decide) hQ)
  refine w163_15 ?_
  refine w163_16 ?_
  refine am_for (fun b => ∀ I' : Nat → Nat → Int32, (∀ a, a ≠ 127 → I' a = I a) → (∀ j, I' 127 j = if 5684 * q ≤ j ∧ j < 5684 * q + b then I 126 (j - 5684 * q) else I 127 j) → ∀ lv, am_ld1 lv 0 = some (.ref 124) → am_ld1 lv 1 = some (.int (nI q)) → am_ld1 lv 2 = some (.int (nI b)) → am_wp pr (d + 1) 163 17 lv [] (S, I', J, P) Q) 5684 ?_ ?_ I (fun _ _ => rfl) (fun j => by rw [if_neg (by omega)]) _ rfl rfl rfl
  · intro b hb ih I' f1 f2 lv l0 l1 l2
    have e1 : I' 126 b = I 126 b := by rw [f1 126 (by decide)]
    refine w163_17 l2 ?_
    refine w163_18 ?_
    refine w163_21 (fun hQ => absurd hQ (am_nlt hb (by decide))) (fun _ => ?_)
    refine w163_24 l0 ?_
    refine w163_25 (L.2 _ _ _ rfl) ?_
    refine w163_28 ?_
    refine w163_31 l1 ?_
    refine w163_32 ?_
    rw [show (5684 : Int32) * nI q = nI (5684 * q) from pk_mul 5684 q]
    refine w163_33 l2 ?_
    refine w163_34 ?_
    rw [nI_add]
    refine w163_35 l0 ?_
    refine w163_36 (L.2 _ _ _ rfl) ?_
    refine w163_39 l2 ?_
    refine w163_40 (L.sh rfl) (am_in_nI (by omega) (by decide)) ?_
    rw [am_clN (by omega), e1]
    refine w163_41 (L.sh rfl) (am_in_nI (by omega) (by decide)) ?_
    rw [am_clN (by omega)]
    refine w163_42 l2 ?_
    refine w163_45 ?_
    refine ih _ (fun a ha => by rw [am_u_ne ha]; exact f1 a ha) (fun j => ?_) _ l0 l1 (am_nx b)
    rw [am_u_get, f2]
    by_cases z : j = 5684 * q + b
    · rw [if_pos ⟨rfl, z⟩, if_pos (by omega), show j - 5684 * q = b by omega]
    · rw [if_neg (fun q => z q.2)]
      by_cases y : 5684 * q ≤ j ∧ j < 5684 * q + b
      · rw [if_pos y, if_pos (by omega)]
      · rw [if_neg y, if_neg (by omega)]
  · intro I' f1 f2 lv l0 l1 l2
    refine w163_17 l2 ?_
    refine w163_18 ?_
    refine w163_21 (fun _ => ?_) (fun hQ => absurd (Int32.le_refl _) hQ)
    refine w163_48 l0 ?_
    refine w163_49 (L.2 _ _ _ rfl) ?_
    refine w163_52 l1 ?_
    refine w163_53 ?_
    refine w163_54Z (L.sh rfl) (am_in_nI (by omega) (by decide)) ?_
    rw [am_clN (by omega), vb_1]
    refine w163_55 l0 ?_
    refine w163_56 ?_
    refine w163_57 (k := c166 L ?_)
    refine w163_60 ?_
    refine k _ (fun a a1 a2 a3 => by rw [am_u_ne a1, am_u_ne a3, f1 a a2]) (fun j hj => by rw [am_u_at hj, am_u_ne (by decide), f1 124 (by decide)]) am_u_self (fun j hj => ?_) (fun p p2 hp => ⟨fun j hj => ?_, ?_⟩) ?_
    · rw [am_u_ne (by decide), am_u_ne (by decide), f2, if_pos (by omega), Nat.add_sub_cancel_left]
    · rw [am_u_ne (by decide), am_u_ne (by decide), f2, if_neg (by omega)]
    · rw [am_u_ne (by decide), am_u_at hp, f1 128 (by decide)]
    · rw [am_u_ne (by decide), am_u_self]
end
