/-! the tape cut into tokens -/
def is_l (n : Nat) : Bool := decide (97 ≤ n ∧ n ≤ 122)
def is_d (n : Nat) : Bool := decide (48 ≤ n ∧ n ≤ 57)
/-- where a row of such bytes ends -/
def r_end (f : Nat → Bool) (z : Nat) : Nat → Nat → Nat
  | 0, k => k
  | g + 1, k => if k < z ∧ f k = true then r_end f z g (k + 1) else k
def rend (f : Nat → Bool) (z k : Nat) : Nat := r_end f z (z - k) k
theorem rend_s {f : Nat → Bool} {z k : Nat} (h : k < z) (hf : f k = true) : rend f z k = rend f z (k + 1) := by
  unfold rend
  rw [show z - k = (z - (k + 1)) + 1 by omega]
  show (if k < z ∧ f k = true then r_end f z (z - (k + 1)) (k + 1) else k) = _
  rw [if_pos ⟨h, hf⟩]
theorem rend_n {f : Nat → Bool} {z k : Nat} (h : ¬ (k < z ∧ f k = true)) : rend f z k = k := by
  unfold rend
  cases z - k with
  | zero => rfl
  | succ g =>
    show (if k < z ∧ f k = true then r_end f z g (k + 1) else k) = k
    rw [if_neg h]
theorem rend_b {f : Nat → Bool} {z : Nat} : ∀ (g k : Nat), z - k ≤ g → k ≤ z → k ≤ rend f z k ∧ rend f z k ≤ z ∧ ∀ j, k ≤ j → j < rend f z k → f j = true
  | 0, k, hg, hk => by
    rw [rend_n (by omega)]
    exact ⟨Nat.le_refl _, hk, fun j h1 h2 => by omega⟩
  | g + 1, k, hg, hk => by
    by_cases h : k < z ∧ f k = true
    · rw [rend_s h.1 h.2]
      obtain ⟨a1, a2, a3⟩ := rend_b (f := f) (z := z) g (k + 1) (by omega) (by omega)
      refine ⟨by omega, a2, fun j h1 h2 => ?_⟩
      by_cases q : j = k
      · rw [q]; exact h.2
      · exact a3 j (by omega) h2
    · rw [rend_n h]
      exact ⟨Nat.le_refl _, hk, fun j h1 h2 => by omega⟩
/-- where the token at k ends -/
def t_e (b : Nat → Nat) (z k : Nat) : Nat := if is_l (b k) = true then rend (fun j => is_l (b j)) z (k + 1) else if is_d (b k) = true then rend (fun j => is_d (b j)) z (k + 1) else k + 1
theorem t_e_b {b : Nat → Nat} {z k : Nat} (h : k < z) : k < t_e b z k ∧ t_e b z k ≤ z := by
  unfold t_e
  split
  · have q := rend_b (f := fun j => is_l (b j)) (z := z) _ (k + 1) (Nat.le_refl _) (by omega)
    omega
  · split
    · have q := rend_b (f := fun j => is_d (b j)) (z := z) _ (k + 1) (Nat.le_refl _) (by omega)
      omega
    · omega
theorem is_ld {n : Nat} (h : is_l n = true) : ¬ is_d n = true := by
  unfold is_l at h
  unfold is_d
  rw [decide_eq_true_eq] at h ⊢
  omega
theorem is_32 : ¬ is_l 32 = true ∧ ¬ is_d 32 = true := by decide
theorem t_e_d {b : Nat → Nat} {z k : Nat} (h : k < z) (hd : is_d (b k) = true) : ∀ j, k ≤ j → j < t_e b z k → 48 ≤ b j ∧ b j ≤ 57 := by
  have hl : ¬ is_l (b k) = true := fun q => is_ld q hd
  intro j h1 h2
  unfold t_e at h2
  rw [if_neg hl, if_pos hd] at h2
  have q := rend_b (f := fun j => is_d (b j)) (z := z) _ (k + 1) (Nat.le_refl _) (by omega)
  have r : is_d (b j) = true := by
    by_cases e : j = k
    · rw [e]; exact hd
    · exact q.2.2 j (by omega) h2
  unfold is_d at r
  exact of_decide_eq_true r
/-- the tokens from k on: where each begins and ends -/
def sc (b : Nat → Nat) (z : Nat) : Nat → Nat → List (Nat × Nat)
  | 0, _ => []
  | f + 1, k => if z ≤ k then [] else if b k = 32 then sc b z f (k + 1) else (k, t_e b z k) :: sc b z f (t_e b z k)
def n_c (b : Nat → Nat) (p : Nat) : Nat → Nat
  | 0 => 0
  | k + 1 => min (n_c b p k * 10 + b (p + k) - 48) 1001
def n_m (b : Nat → Nat) (p : Nat) : Nat → Nat
  | 0 => 0
  | k + 1 => if 1000000 < n_m b p k then n_m b p k else 10 * n_m b p k + b (p + k) - 48
def k_cc (b : Nat → Nat) (p e : Nat) : Nat := if is_l (b p) = true then w_cc (seg b p e) else if is_d (b p) = true then 256 else b p
def k_cn (b : Nat → Nat) (p e : Nat) : Nat := if is_d (b p) = true then n_c b p (e - p) else 0
def k_rc (b : Nat → Nat) (p e : Nat) : Nat := if is_l (b p) = true then w_rc (seg b p e) else if is_d (b p) = true then 50 else 100 + b p
def k_rn (b : Nat → Nat) (p e : Nat) : Nat := if is_d (b p) = true then n_m b p (e - p) else 0
theorem n_c_le (b : Nat → Nat) (p : Nat) : ∀ k, n_c b p k ≤ 1001
  | 0 => Nat.zero_le _
  | k + 1 => Nat.min_le_right _ _
theorem n_min {v : Nat} (h : v < 2 ^ 31) : (if (1001 : Int32) < nI v then 1001 else nI v) = nI (min v 1001) := by
  by_cases q : 1001 < v
  · rw [if_pos (show (1001 : Int32) < nI v from nI_lt (a := 1001) q h), Nat.min_eq_right (by omega)]
    rfl
  · rw [if_neg (show ¬ (1001 : Int32) < nI v from nI_nlt (a := 1001) (by omega) (by decide)), Nat.min_eq_left (by omega)]
theorem n_m_le {b : Nat → Nat} {p n : Nat} (h : ∀ j, j < n → b (p + j) ≤ 57) : ∀ k, k ≤ n → n_m b p k ≤ 10000009
  | 0, _ => Nat.zero_le _
  | k + 1, hk => by
    have ih := n_m_le h k (by omega)
    have h2 := h k (by omega)
    show (if 1000000 < n_m b p k then n_m b p k else 10 * n_m b p k + b (p + k) - 48) ≤ 10000009
    split <;> omega
/-- both sides' numbers -/
theorem n_cm {b : Nat → Nat} {p n : Nat} (h : ∀ j, j < n → 48 ≤ b (p + j) ∧ b (p + j) ≤ 57) : ∀ k, k ≤ n → n_c b p k = min (n_m b p k) 1001
  | 0, _ => rfl
  | k + 1, hk => by
    have ih := n_cm h k (by omega)
    have h2 := h k (by omega)
    show min (n_c b p k * 10 + b (p + k) - 48) 1001 = min (if 1000000 < n_m b p k then n_m b p k else 10 * n_m b p k + b (p + k) - 48) 1001
    rw [ih]
    rcases Nat.lt_or_ge (n_m b p k) 1001 with q | q
    · rw [Nat.min_eq_left (show n_m b p k ≤ 1001 by omega), if_neg (by omega), Nat.mul_comm]
    · rw [Nat.min_eq_right q]
      split <;> omega
section
variable {pr : am_Pr} {d : Nat} {S : List (Nat × Nat)} {I I' : Nat → Nat → Int32} {J : Nat → Nat → Int64} {P : Nat → Nat → Option Nat} {Q : Option Value → am_H → Prop} {b : Nat → Nat} {p e i j z : Nat}
theorem c223 {x : Int32} (k : Q (some (.int (am_b (97 ≤ x ∧ x ≤ 122)))) (S, I, J, P)) : am_ev pr d 223 [.int x] (S, I, J, P) Q := by
  show am_wp pr d 223 0 [(0, .int x)] [] _ _
  by_cases h : 97 ≤ x ∧ x ≤ 122
  · rw [am_b_t h] at k
    refine w223_0 rfl ?_
    refine w223_1 ?_
    refine w223_3 (fun hQ => absurd hQ (Int32.not_lt.mpr h.1)) (fun _ => ?_)
    refine w223_6 rfl ?_
    refine w223_7 ?_
    refine w223_9 (fun hQ => absurd hQ (Int32.not_lt.mpr h.2)) (fun _ => ?_)
    refine w223_12 ?_
    refine w223_13 ?_
    refine w223_17 (by first | rfl | exact am_narrow_b _) ?_
    exact k
  · rw [am_b_f h] at k
    refine w223_0 rfl ?_
    refine w223_1 ?_
    refine w223_3 (fun h3 => ?_) (fun h3 => ?_)
    · refine w223_16 ?_
      refine w223_17 (by first | rfl | exact am_narrow_b _) ?_
      exact k
    · replace h3 := Int32.not_lt.mp h3
      refine w223_6 rfl ?_
      refine w223_7 ?_
      refine w223_9 (fun h9 => ?_) (fun h9 => ?_)
      · refine w223_16 ?_
        refine w223_17 (by first | rfl | exact am_narrow_b _) ?_
        exact k
      · replace h9 := Int32.not_lt.mp h9
        exact absurd ⟨h3, h9⟩ h
theorem c224 {x : Int32} (k : Q (some (.int (am_b (48 ≤ x ∧ x ≤ 57)))) (S, I, J, P)) : am_ev pr d 224 [.int x] (S, I, J, P) Q := by
  show am_wp pr d 224 0 [(0, .int x)] [] _ _
  by_cases h : 48 ≤ x ∧ x ≤ 57
  · rw [am_b_t h] at k
    refine w224_0 rfl ?_
    refine w224_1 ?_
    refine w224_3 (fun hQ => absurd hQ (Int32.not_lt.mpr h.1)) (fun _ => ?_)
    refine w224_6 rfl ?_
    refine w224_7 ?_
    refine w224_9 (fun hQ => absurd hQ (Int32.not_lt.mpr h.2)) (fun _ => ?_)
    refine w224_12 ?_
    refine w224_13 ?_
    refine w224_17 (by first | rfl | exact am_narrow_b _) ?_
    exact k
  · rw [am_b_f h] at k
    refine w224_0 rfl ?_
    refine w224_1 ?_
    refine w224_3 (fun h3 => ?_) (fun h3 => ?_)
    · refine w224_16 ?_
      refine w224_17 (by first | rfl | exact am_narrow_b _) ?_
      exact k
    · replace h3 := Int32.not_lt.mp h3
      refine w224_6 rfl ?_
      refine w224_7 ?_
      refine w224_9 (fun h9 => ?_) (fun h9 => ?_)
      · refine w224_16 ?_
        refine w224_17 (by first | rfl | exact am_narrow_b _) ?_
        exact k
      · replace h9 := Int32.not_lt.mp h9
        exact absurd ⟨h3, h9⟩ h
theorem l_n {n : Nat} (h : n < 256) : am_b (97 ≤ nI n ∧ nI n ≤ 122) = if is_l n = true then 1 else 0 := by
  unfold is_l
  simp only [decide_eq_true_eq]
  by_cases q : 97 ≤ n ∧ n ≤ 122
  · rw [if_pos q, am_b_t ⟨nI_le (a := 97) q.1 (by omega), nI_le (b := 122) q.2 (by decide)⟩]
  · rw [if_neg q, am_b_f (fun w => q ⟨(nI_leI (a := 97) (by decide) (by omega)).mp w.1, (nI_leI (b := 122) (by omega) (by decide)).mp w.2⟩)]
theorem d_n {n : Nat} (h : n < 256) : am_b (48 ≤ nI n ∧ nI n ≤ 57) = if is_d n = true then 1 else 0 := by
  unfold is_d
  simp only [decide_eq_true_eq]
  by_cases q : 48 ≤ n ∧ n ≤ 57
  · rw [if_pos q, am_b_t ⟨nI_le (a := 48) q.1 (by omega), nI_le (b := 57) q.2 (by decide)⟩]
  · rw [if_neg q, am_b_f (fun w => q ⟨(nI_leI (a := 48) (by decide) (by omega)).mp w.1, (nI_leI (b := 57) (by omega) (by decide)).mp w.2⟩)]
theorem l_s {n : Nat} (h : n < 256) : am_b (97 ≤ sb n ∧ sb n ≤ 122) = if is_l n = true then 1 else 0 := by
  unfold is_l
  simp only [decide_eq_true_eq]
  by_cases q : 97 ≤ n ∧ n ≤ 122
  · rw [if_pos q, am_b_t ((sb_p h).1.mpr q)]
  · rw [if_neg q, am_b_f (fun w => q ((sb_p h).1.mp w))]
theorem d_s {n : Nat} (h : n < 256) : am_b (48 ≤ sb n ∧ sb n ≤ 57) = if is_d n = true then 1 else 0 := by
  unfold is_d
  simp only [decide_eq_true_eq]
  by_cases q : 48 ≤ n ∧ n ≤ 57
  · rw [if_pos q, am_b_t ((sb_p h).2.1.mpr q)]
  · rw [if_neg q, am_b_f (fun w => q ((sb_p h).2.1.mp w))]
/-- Tokens: numberOf -/
theorem c68 (L : am_Lay S P) (hp : p ≤ e) (he : e ≤ 400) (hb : ∀ j, j < e → I 95 j = nI (b j)) (hd : ∀ j, p ≤ j → j < e → 48 ≤ b j ∧ b j ≤ 57) (k : Q (some (.int (nI (n_c b p (e - p))))) (S, I, J, P)) : am_ev pr (d + 1) 68 [.ref 94, .int (nI p), .int (nI e)] (S, I, J, P) Q := by
  show am_wp pr (d + 1) 68 0 [(0, .ref 94), (1, .int (nI p)), (2, .int (nI e))] [] _ _
  refine w68_0 ?_
  refine w68_1 ?_
  refine w68_2 rfl ?_
  refine w68_3 ?_
  refine w68_4 ?_
  rw [if_neg (nI_pos (by omega))]
  refine w68_7 ?_
  refine am_for (fun j => ∀ lv, am_ld1 lv 0 = some (.ref 94) → am_ld1 lv 2 = some (.int (nI e)) → am_ld1 lv 3 = some (.int (nI (n_c b p j))) → am_ld1 lv 4 = some (.int (nI (p + j))) → am_wp pr (d + 1) 68 9 lv [] (S, I, J, P) Q) (e - p) ?_ ?_ _ rfl rfl rfl rfl
  · intro j hj ih lv l0 l2 l3 l4
    have h1 := n_c_le b p j
    have h2 := hd (p + j) (by omega) (by omega)
    refine w68_9 l4 ?_
    refine w68_11 l2 ?_
    refine w68_12 (fun hQ => absurd hQ (am_nlt (by omega) (by omega))) (fun _ => ?_)
    refine w68_15 l4 ?_
    refine w68_17 ?_
    refine w68_20 (fun hQ => absurd hQ (am_nlt (n := 400) (by omega) (by decide))) (fun _ => ?_)
    refine w68_23 l3 ?_
    refine w68_24 ?_
    refine w68_26 ?_
    rw [show nI (n_c b p j) * 10 = nI (n_c b p j * 10) from pk_mul _ 10]
    refine w68_27 l0 ?_
    refine w68_28 (L.2 _ _ _ rfl) ?_
    refine w68_31 l4 ?_
    refine w68_33 (L.sh rfl) (am_in_nI (by omega) (by decide)) ?_
    rw [am_clN (by omega), hb (p + j) (by omega)]
    refine w68_34 ?_
    rw [nI_add]
    refine w68_35 ?_
    refine w68_37 ?_
    rw [show nI (n_c b p j * 10 + b (p + j)) - 48 = nI (n_c b p j * 10 + b (p + j) - 48) from am_nsub (b := 48) (by omega)]
    refine w68_38 ?_
    refine w68_41 ?_
    rw [n_min (by omega)]
    refine w68_44 ?_
    refine w68_45 l4 ?_
    refine w68_48 ?_
    exact ih _ l0 l2 rfl (am_nx (p + j))
  · intro lv l0 l2 l3 l4
    rw [show p + (e - p) = e by omega] at l4
    refine w68_9 l4 ?_
    refine w68_11 l2 ?_
    refine w68_12 (fun _ => ?_) (fun hQ => absurd (Int32.le_refl _) hQ)
    refine w68_51 l3 ?_
    refine w68_52 ?_
    exact k
/-- a token laid down -/
def ad (I : Nat → Nat → Int32) (c : Nat) (x y w : Int32) : Nat → Nat → Int32 := am_u (am_u (am_u (am_u I 98 c x) 99 c y) 100 c w) 97 0 (nI (c + 1))
theorem ad_ne {c : Nat} {x y w : Int32} {a : Nat} (h1 : a ≠ 97) (h2 : a ≠ 98) (h3 : a ≠ 99) (h4 : a ≠ 100) : ad I c x y w a = I a := by
  unfold ad
  rw [am_u_ne h1, am_u_ne h4, am_u_ne h3, am_u_ne h2]
theorem ad_at {c : Nat} {x y w : Int32} : ad I c x y w 97 0 = nI (c + 1) ∧ ad I c x y w 98 c = x ∧ ad I c x y w 99 c = y ∧ ad I c x y w 100 c = w := by
  unfold ad
  refine ⟨am_u_self, ?_, ?_, ?_⟩
  · rw [am_u_ne (by decide), am_u_ne (by decide), am_u_ne (by decide), am_u_self]
  · rw [am_u_ne (by decide), am_u_ne (by decide), am_u_self]
  · rw [am_u_ne (by decide), am_u_self]
theorem ad_of {c j : Nat} {x y w : Int32} (h : j ≠ c) : ad I c x y w 98 j = I 98 j ∧ ad I c x y w 99 j = I 99 j ∧ ad I c x y w 100 j = I 100 j := by
  unfold ad
  refine ⟨?_, ?_, ?_⟩
  · rw [am_u_ne (by decide), am_u_ne (by decide), am_u_ne (by decide), am_u_at h]
  · rw [am_u_ne (by decide), am_u_ne (by decide), am_u_at h, am_u_ne (by decide)]
  · rw [am_u_ne (by decide), am_u_at h, am_u_ne (by decide), am_u_ne (by decide)]
theorem c66 (L : am_Lay S P) {c : Nat} (hc : I 97 0 = nI c) (h : c < 401) {x y w : Int32} (k : Q none (S, ad I c x y w, J, P)) : am_ev pr d 66 [.ref 97, .int x, .int y, .int w] (S, I, J, P) Q := by
  show am_wp pr d 66 0 [(0, .ref 97), (1, .int x), (2, .int y), (3, .int w)] [] _ _
  refine w66_0 rfl ?_
  refine w66_1 ?_
  rw [hc]
  refine w66_4 (fun hQ => absurd hQ (nI_pos (by omega))) (fun _ => ?_)
  refine w66_7 rfl ?_
  refine w66_8 ?_
  rw [hc]
  refine w66_11 ?_
  refine w66_14 (fun hQ => absurd hQ (am_nlt (n := 401) h (by decide))) (fun _ => ?_)
  refine w66_17 rfl ?_
  refine w66_18 (L.2 _ _ _ rfl) ?_
  refine w66_21 rfl ?_
  refine w66_22 ?_
  rw [hc]
  refine w66_25 rfl ?_
  refine w66_26 (L.sh rfl) (am_in_nI h (by decide)) ?_
  rw [am_clN (by omega)]
  refine w66_27 rfl ?_
  refine w66_28 (L.2 _ _ _ rfl) ?_
  refine w66_31 rfl ?_
  refine w66_32 ?_
  rw [am_u_ne (by decide), hc]
  refine w66_35 rfl ?_
  refine w66_36 (L.sh rfl) (am_in_nI h (by decide)) ?_
  rw [am_clN (by omega)]
  refine w66_37 rfl ?_
  refine w66_38 (L.2 _ _ _ rfl) ?_
  refine w66_41 rfl ?_
  refine w66_42 ?_
  rw [am_u_ne (by decide), am_u_ne (by decide), hc]
  refine w66_45 rfl ?_
  refine w66_46 (L.sh rfl) (am_in_nI h (by decide)) ?_
  rw [am_clN (by omega)]
  refine w66_47 rfl ?_
  refine w66_48 rfl ?_
  refine w66_49 ?_
  rw [am_u_ne (by decide), am_u_ne (by decide), am_u_ne (by decide), hc]
  refine w66_52 ?_
  refine w66_53 ?_
  rw [nI_1]
  refine w66_54 ?_
  refine w66_57 ?_
  exact k
/-- the letters' loop, the digits' loop -/
theorem c50a (L : am_Lay S P) (z400 : z ≤ 400) (hb : ∀ j, j < z → I 95 j = nI (b j)) (hb2 : ∀ j, j < z → b j < 256) {k r : Nat} {w : Int32} : ∀ (g j : Nat), z - j ≤ g → j ≤ z → (∀ lv, am_ld1 lv 0 = some (.ref 97) → am_ld1 lv 1 = some (.ref 94) → am_ld1 lv 2 = some (.int (nI z)) → am_ld1 lv 3 = some (.int (nI k)) → am_ld1 lv 4 = some (.int (nI r)) → am_ld1 lv 6 = some (.int (nI (rend (fun j => is_l (b j)) z j))) → am_wp pr (d + 6) 50 80 lv [] (S, I, J, P) Q) → ∀ lv, am_ld1 lv 0 = some (.ref 97) → am_ld1 lv 1 = some (.ref 94) → am_ld1 lv 2 = some (.int (nI z)) → am_ld1 lv 3 = some (.int (nI k)) → am_ld1 lv 4 = some (.int (nI r)) → am_ld1 lv 6 = some (.int (nI j)) → am_wp pr (d + 6) 50 55 lv [] (S, I, J, P) Q
  | 0, j, hg, hj, kk => by
    intro lv l0 l1 l2 l3 l4 l6
    have e : j = z := by omega
    rw [rend_n (by omega)] at kk
    refine w50_55 l6 ?_
    refine w50_57 l2 ?_
    refine w50_58 (fun _ => ?_) (fun hQ => absurd (by rw [e]; exact Int32.le_refl _) hQ)
    exact kk _ l0 l1 l2 l3 l4 l6
  | g + 1, j, hg, hj, kk => by
    intro lv l0 l1 l2 l3 l4 l6
    by_cases h : j < z
    · have hb3 := hb2 j h
      by_cases hl : is_l (b j) = true
      · rw [rend_s (f := fun j => is_l (b j)) h hl] at kk
        refine w50_55 l6 ?_
        refine w50_57 l2 ?_
        refine w50_58 (fun hQ => absurd hQ (am_nlt h (by omega))) (fun _ => ?_)
        refine w50_61 l1 ?_
        refine w50_62 (L.2 _ _ _ rfl) ?_
        refine w50_65 l6 ?_
        refine w50_67 (L.sh rfl) (am_in_nI (by omega) (by decide)) ?_
        rw [am_clN (by omega), hb j h]
        refine w50_68 (k := c51 ?_)
        rw [l_n hb3, if_pos hl]
        refine w50_71 (fun hQ => absurd hQ (by decide)) (fun _ => ?_)
        refine w50_74 l6 ?_
        refine w50_77 ?_
        exact c50a L z400 hb hb2 (w := w) g (j + 1) (by omega) (by omega) kk _ l0 l1 l2 l3 l4 (am_nx j)
      · rw [rend_n (f := fun j => is_l (b j)) (fun q => hl q.2)] at kk
        refine w50_55 l6 ?_
        refine w50_57 l2 ?_
        refine w50_58 (fun hQ => absurd hQ (am_nlt h (by omega))) (fun _ => ?_)
        refine w50_61 l1 ?_
        refine w50_62 (L.2 _ _ _ rfl) ?_
        refine w50_65 l6 ?_
        refine w50_67 (L.sh rfl) (am_in_nI (by omega) (by decide)) ?_
        rw [am_clN (by omega), hb j h]
        refine w50_68 (k := c51 ?_)
        rw [l_n hb3, if_neg hl]
        refine w50_71 (fun _ => ?_) (fun hQ => absurd rfl hQ)
        exact kk _ l0 l1 l2 l3 l4 l6
    · have e : j = z := by omega
      rw [rend_n (by omega)] at kk
      refine w50_55 l6 ?_
      refine w50_57 l2 ?_
      refine w50_58 (fun _ => ?_) (fun hQ => absurd (by rw [e]; exact Int32.le_refl _) hQ)
      exact kk _ l0 l1 l2 l3 l4 l6
theorem c50b (L : am_Lay S P) (z400 : z ≤ 400) (hb : ∀ j, j < z → I 95 j = nI (b j)) (hb2 : ∀ j, j < z → b j < 256) {k r : Nat} {w : Int32} : ∀ (g j : Nat), z - j ≤ g → j ≤ z → (∀ lv, am_ld1 lv 0 = some (.ref 97) → am_ld1 lv 1 = some (.ref 94) → am_ld1 lv 2 = some (.int (nI z)) → am_ld1 lv 3 = some (.int (nI k)) → am_ld1 lv 4 = some (.int (nI r)) → am_ld1 lv 6 = some (.int (nI (rend (fun j => is_d (b j)) z j))) → am_wp pr (d + 6) 50 129 lv [] (S, I, J, P) Q) → ∀ lv, am_ld1 lv 0 = some (.ref 97) → am_ld1 lv 1 = some (.ref 94) → am_ld1 lv 2 = some (.int (nI z)) → am_ld1 lv 3 = some (.int (nI k)) → am_ld1 lv 4 = some (.int (nI r)) → am_ld1 lv 6 = some (.int (nI j)) → am_wp pr (d + 6) 50 104 lv [] (S, I, J, P) Q
  | 0, j, hg, hj, kk => by
    intro lv l0 l1 l2 l3 l4 l6
    have e : j = z := by omega
    rw [rend_n (by omega)] at kk
    refine w50_104 l6 ?_
    refine w50_106 l2 ?_
    refine w50_107 (fun _ => ?_) (fun hQ => absurd (by rw [e]; exact Int32.le_refl _) hQ)
    exact kk _ l0 l1 l2 l3 l4 l6
  | g + 1, j, hg, hj, kk => by
    intro lv l0 l1 l2 l3 l4 l6
    by_cases h : j < z
    · have hb3 := hb2 j h
      by_cases hl : is_d (b j) = true
      · rw [rend_s (f := fun j => is_d (b j)) h hl] at kk
        refine w50_104 l6 ?_
        refine w50_106 l2 ?_
        refine w50_107 (fun hQ => absurd hQ (am_nlt h (by omega))) (fun _ => ?_)
        refine w50_110 l1 ?_
        refine w50_111 (L.2 _ _ _ rfl) ?_
        refine w50_114 l6 ?_
        refine w50_116 (L.sh rfl) (am_in_nI (by omega) (by decide)) ?_
        rw [am_clN (by omega), hb j h]
        refine w50_117 (k := c67 ?_)
        rw [d_n hb3, if_pos hl]
        refine w50_120 (fun hQ => absurd hQ (by decide)) (fun _ => ?_)
        refine w50_123 l6 ?_
        refine w50_126 ?_
        exact c50b L z400 hb hb2 (w := w) g (j + 1) (by omega) (by omega) kk _ l0 l1 l2 l3 l4 (am_nx j)
      · rw [rend_n (f := fun j => is_d (b j)) (fun q => hl q.2)] at kk
        refine w50_104 l6 ?_
        refine w50_106 l2 ?_
        refine w50_107 (fun hQ => absurd hQ (am_nlt h (by omega))) (fun _ => ?_)
        refine w50_110 l1 ?_
        refine w50_111 (L.2 _ _ _ rfl) ?_
        refine w50_114 l6 ?_
        refine w50_116 (L.sh rfl) (am_in_nI (by omega) (by decide)) ?_
        rw [am_clN (by omega), hb j h]
        refine w50_117 (k := c67 ?_)
        rw [d_n hb3, if_neg hl]
        refine w50_120 (fun _ => ?_) (fun hQ => absurd rfl hQ)
        exact kk _ l0 l1 l2 l3 l4 l6
    · have e : j = z := by omega
      rw [rend_n (by omega)] at kk
      refine w50_104 l6 ?_
      refine w50_106 l2 ?_
      refine w50_107 (fun _ => ?_) (fun hQ => absurd (by rw [e]; exact Int32.le_refl _) hQ)
      exact kk _ l0 l1 l2 l3 l4 l6
/-- the tokens lie in the class's rows from c on -/
def sc_c (b : Nat → Nat) (z : Nat) (I : Nat → Nat → Int32) (c : Nat) (ts : List (Nat × Nat)) : Prop :=
  (∀ j p e, ts[j]? = some (p, e) → I 98 (c + j) = nI p ∧ I 99 (c + j) = nI (k_cc b p e) ∧ I 100 (c + j) = nI (k_cn b p e)) ∧ I 97 0 = nI (c + ts.length + 1) ∧ I 98 (c + ts.length) = nI z ∧ I 99 (c + ts.length) = 257 ∧ I 100 (c + ts.length) = 0
theorem sc_c_cons {c : Nat} {ts : List (Nat × Nat)} (h1 : I 98 c = nI p ∧ I 99 c = nI (k_cc b p e) ∧ I 100 c = nI (k_cn b p e)) (h : sc_c b z I (c + 1) ts) : sc_c b z I c ((p, e) :: ts) := by
  obtain ⟨a1, a2, a3, a4, a5⟩ := h
  have hl : c + ((p, e) :: ts).length = c + 1 + ts.length := by
    rw [List.length_cons]
    omega
  refine ⟨fun j p' e' hj => ?_, ?_, ?_, ?_, ?_⟩
  · cases j with
    | zero =>
      cases hj
      exact h1
    | succ j =>
      have q := a1 j p' e' hj
      rw [show c + 1 + j = c + (j + 1) by omega] at q
      exact q
  · rw [hl]; exact a2
  · rw [hl]; exact a3
  · rw [hl]; exact a4
  · rw [hl]; exact a5
theorem c50l (L : am_Lay S P) (z400 : z ≤ 400) (hb : ∀ j, j < z → I 95 j = nI (b j)) (hb2 : ∀ j, j < z → b j < 256) : ∀ (f k c r : Nat) (I' : Nat → Nat → Int32), z - k < f → k ≤ z → c ≤ k → r ≤ k → (∀ a, a ≠ 97 → a ≠ 98 → a ≠ 99 → a ≠ 100 → I' a = I a) → I' 97 0 = nI c → (∀ I2 : Nat → Nat → Int32, (∀ a, a ≠ 97 → a ≠ 98 → a ≠ 99 → a ≠ 100 → I2 a = I a) → (∀ j, j < c → I2 98 j = I' 98 j ∧ I2 99 j = I' 99 j ∧ I2 100 j = I' 100 j) → sc_c b z I2 c (sc b z f k) → Q none (S, I2, J, P)) → ∀ lv, am_ld1 lv 0 = some (.ref 97) → am_ld1 lv 1 = some (.ref 94) → am_ld1 lv 2 = some (.int (nI z)) → am_ld1 lv 3 = some (.int (nI k)) → am_ld1 lv 4 = some (.int (nI r)) → am_wp pr (d + 6) 50 21 lv [] (S, I', J, P) Q
  | 0, k, c, r, I', hf, hk, hc, hr, f1, f2, kk => by omega
  | f + 1, k, c, r, I', hf, hk, hc, hr, f1, f2, kk => by
    intro lv l0 l1 l2 l3 l4
    have hb' : ∀ j, j < z → I' 95 j = nI (b j) := fun j hj => by rw [f1 95 (by decide) (by decide) (by decide) (by decide)]; exact hb j hj
    by_cases h : k < z
    · have hb3 := hb2 k h
      obtain ⟨te1, te2⟩ := t_e_b (b := b) h
      have step : ∀ (x y w : Int32), x = nI k → y = nI (k_cc b k (t_e b z k)) → w = nI (k_cn b k (t_e b z k)) → ¬ b k = 32 → ∀ lv, am_ld1 lv 0 = some (.ref 97) → am_ld1 lv 1 = some (.ref 94) → am_ld1 lv 2 = some (.int (nI z)) → am_ld1 lv 4 = some (.int (nI r)) → am_ld1 lv 6 = some (.int (nI (t_e b z k))) → am_wp pr (d + 6) 50 162 lv [] (S, ad I' c x y w, J, P) Q := by
        intro x y w hx hy hw h32 lv l0 l1 l2 l4 l6
        obtain ⟨a0, a1, a2, a3⟩ := ad_at (I := I') (c := c) (x := x) (y := y) (w := w)
        refine w50_162 l6 ?_
        refine w50_164 ?_
        refine w50_165 l4 ?_
        refine w50_168 ?_
        refine c50l L z400 hb hb2 f (t_e b z k) (c + 1) (r + 1) _ (by omega) te2 (by omega) (by omega) (fun a q1 q2 q3 q4 => by rw [ad_ne q1 q2 q3 q4]; exact f1 a q1 q2 q3 q4) a0 (fun I2 g1 g2 g3 => kk I2 g1 (fun j hj => ?_) ?_) _ l0 l1 l2 rfl (am_nx r)
        · obtain ⟨q1, q2, q3⟩ := g2 j (by omega)
          obtain ⟨p1, p2, p3⟩ := ad_of (I := I') (x := x) (y := y) (w := w) (show j ≠ c by omega)
          exact ⟨q1.trans p1, q2.trans p2, q3.trans p3⟩
        · have e2 : sc b z (f + 1) k = (k, t_e b z k) :: sc b z f (t_e b z k) := by
            show (if z ≤ k then [] else if b k = 32 then sc b z f (k + 1) else (k, t_e b z k) :: sc b z f (t_e b z k)) = _
            rw [if_neg (by omega), if_neg h32]
          rw [e2]
          obtain ⟨q1, q2, q3⟩ := g2 c (by omega)
          exact sc_c_cons ⟨q1.trans (a1.trans hx), q2.trans (a2.trans hy), q3.trans (a3.trans hw)⟩ g3
      refine w50_21 l4 ?_
      refine w50_23 ?_
      refine w50_26 (fun hQ => absurd hQ (am_nlt (n := 400) (by omega) (by decide))) (fun _ => ?_)
      refine w50_29 l3 ?_
      refine w50_30 l2 ?_
      refine w50_31 (fun hQ => absurd hQ (am_nlt h (by omega))) (fun _ => ?_)
      refine w50_34 l1 ?_
      refine w50_35 (L.2 _ _ _ rfl) ?_
      refine w50_38 l3 ?_
      refine w50_39 (L.sh rfl) (am_in_nI (by omega) (by decide)) ?_
      rw [am_clN (by omega), hb' k h]
      refine w50_40 ?_
      refine w50_42 l3 ?_
      refine w50_43 ?_
      refine w50_44 ?_
      rw [nI_1]
      refine w50_45 ?_
      refine w50_47 rfl ?_
      refine w50_49 (k := c51 ?_)
      rw [l_n hb3]
      by_cases hl : is_l (b k) = true
      · have ee : t_e b z k = rend (fun j => is_l (b j)) z (k + 1) := by unfold t_e; rw [if_pos hl]
        have e32 : ¬ b k = 32 := fun q => is_32.1 (by rw [← q]; exact hl)
        rw [if_pos hl]
        refine w50_52 (fun q => absurd q (by decide)) (fun _ => ?_)
        refine c50a L z400 hb' hb2 (w := 0) _ (k + 1) (Nat.le_refl _) (by omega) ?_ _ l0 l1 l2 l3 l4 rfl
        rw [← ee]
        intro lv l0 l1 l2 l3 l4 l6
        refine w50_80 l0 ?_
        refine w50_81 l3 ?_
        refine w50_82 l1 ?_
        refine w50_83 l3 ?_
        refine w50_84 l6 ?_
        refine w50_86 (k := c52 L (by omega) (by omega) (fun j hj => hb' j (by omega)) (fun j hj => hb2 j (by omega)) ?_)
        refine w50_89 ?_
        refine w50_90 (k := c66 L f2 (by omega) ?_)
        refine w50_93 ?_
        refine step _ _ _ rfl ?_ ?_ e32 _ l0 l1 l2 l4 l6
        · unfold k_cc; rw [if_pos hl]
        · unfold k_cn; rw [if_neg (is_ld hl)]; rfl
      · rw [if_neg hl]
        refine w50_52 (fun _ => ?_) (fun q => absurd rfl q)
        refine w50_96 rfl ?_
        refine w50_98 (k := c67 ?_)
        rw [d_n hb3]
        by_cases hd : is_d (b k) = true
        · have ee : t_e b z k = rend (fun j => is_d (b j)) z (k + 1) := by unfold t_e; rw [if_neg hl, if_pos hd]
          have e32 : ¬ b k = 32 := fun q => is_32.2 (by rw [← q]; exact hd)
          rw [if_pos hd]
          refine w50_101 (fun q => absurd q (by decide)) (fun _ => ?_)
          refine c50b L z400 hb' hb2 (w := 0) _ (k + 1) (Nat.le_refl _) (by omega) ?_ _ l0 l1 l2 l3 l4 rfl
          rw [← ee]
          intro lv l0 l1 l2 l3 l4 l6
          refine w50_129 l0 ?_
          refine w50_130 l3 ?_
          refine w50_131 ?_
          refine w50_134 l1 ?_
          refine w50_135 l3 ?_
          refine w50_136 l6 ?_
          refine w50_138 (k := c68 L (by omega) (by omega) (fun j hj => hb' j (by omega)) (t_e_d h hd) ?_)
          refine w50_141 (k := c66 L f2 (by omega) ?_)
          refine w50_144 ?_
          refine step _ _ _ rfl ?_ ?_ e32 _ l0 l1 l2 l4 l6
          · unfold k_cc; rw [if_neg hl, if_pos hd]; rfl
          · unfold k_cn; rw [if_pos hd]
        · rw [if_neg hd]
          have ee : t_e b z k = k + 1 := by unfold t_e; rw [if_neg hl, if_neg hd]
          refine w50_101 (fun _ => ?_) (fun q => absurd rfl q)
          refine w50_147 rfl ?_
          refine w50_149 ?_
          by_cases h32 : b k = 32
          · refine w50_151 (fun _ => ?_) (fun q => absurd (by rw [h32]; rfl) q)
            refine w50_162 rfl ?_
            refine w50_164 ?_
            refine w50_165 l4 ?_
            refine w50_168 ?_
            refine c50l L z400 hb hb2 f (k + 1) c (r + 1) _ (by omega) (by omega) (by omega) (by omega) f1 f2 (fun I2 g1 g2 g3 => kk I2 g1 g2 ?_) _ l0 l1 l2 rfl (am_nx r)
            have e2 : sc b z (f + 1) k = sc b z f (k + 1) := by
              show (if z ≤ k then [] else if b k = 32 then sc b z f (k + 1) else (k, t_e b z k) :: sc b z f (t_e b z k)) = _
              rw [if_neg (by omega), if_pos h32]
            rw [e2]
            exact g3
          · refine w50_151 (fun q => absurd ((nI_eq (b := 32) (by omega) (by decide)).mp q) h32) (fun _ => ?_)
            refine w50_154 l0 ?_
            refine w50_155 l3 ?_
            refine w50_156 rfl ?_
            refine w50_158 ?_
            refine w50_159 (k := c66 L f2 (by omega) ?_)
            refine step _ _ _ rfl ?_ ?_ h32 _ l0 l1 l2 l4 (by rw [ee]; rfl)
            · unfold k_cc; rw [if_neg hl, if_neg hd]
            · unfold k_cn; rw [if_neg hd]; rfl
    · have e0 : k = z := by omega
      have e2 : sc b z (f + 1) k = [] := by
        show (if z ≤ k then [] else if b k = 32 then sc b z f (k + 1) else (k, t_e b z k) :: sc b z f (t_e b z k)) = _
        rw [if_pos (by omega)]
      rw [e2] at kk
      obtain ⟨a0, a1, a2, a3⟩ := ad_at (I := I') (c := c) (x := nI z) (y := 257) (w := 0)
      have fin : ∀ lv, am_ld1 lv 0 = some (.ref 97) → am_ld1 lv 2 = some (.int (nI z)) → am_wp pr (d + 6) 50 171 lv [] (S, I', J, P) Q := by
        intro lv l0 l2
        refine w50_171 l0 ?_
        refine w50_172 l2 ?_
        refine w50_173 ?_
        refine w50_176 ?_
        refine w50_177 (k := c66 L f2 (by omega) ?_)
        refine w50_180 ?_
        exact kk _ (fun a q1 q2 q3 q4 => by rw [ad_ne q1 q2 q3 q4]; exact f1 a q1 q2 q3 q4) (fun j hj => ad_of (by omega)) ⟨fun j p e q => (by cases q), a0, a1, a2, a3⟩
      refine w50_21 l4 ?_
      refine w50_23 ?_
      refine w50_26 (fun _ => fin _ l0 l2) (fun _ => ?_)
      refine w50_29 l3 ?_
      refine w50_30 l2 ?_
      exact w50_31 (fun _ => fin _ l0 l2) (fun q => absurd (by rw [e0]; exact Int32.le_refl _) q)
/-- Tokens: scan -/
theorem c50 (L : am_Lay S P) (hz : I 94 0 = nI z) (z400 : z ≤ 400) (hb : ∀ j, j < z → I 95 j = nI (b j)) (hb2 : ∀ j, j < z → b j < 256) (k : ∀ I2 : Nat → Nat → Int32, (∀ a, a ≠ 97 → a ≠ 98 → a ≠ 99 → a ≠ 100 → I2 a = I a) → sc_c b z I2 0 (sc b z (z + 1) 0) → Q none (S, I2, J, P)) : am_ev pr (d + 6) 50 [.ref 97, .ref 94] (S, I, J, P) Q := by
  show am_wp pr (d + 6) 50 0 [(0, .ref 97), (1, .ref 94)] [] _ _
  have hz2 : am_u I 97 0 0 94 0 = nI z := by rw [am_u_ne (by decide)]; exact hz
  refine w50_0 rfl ?_
  refine w50_1 ?_
  refine w50_2 ?_
  refine w50_5 rfl ?_
  refine w50_6 ?_
  rw [hz2]
  refine w50_9 ?_
  refine w50_12 ?_
  rw [if_neg (show ¬ (400 : Int32) < nI z from nI_nlt (a := 400) z400 (by decide))]
  refine w50_15 ?_
  refine w50_16 ?_
  refine w50_17 ?_
  refine w50_18 ?_
  refine w50_19 ?_
  exact c50l (I := I) L z400 hb hb2 (z + 1) 0 0 0 _ (by omega) (by omega) (by omega) (by omega) (fun a q1 _ _ _ => am_u_ne q1) am_u_self (fun I2 g1 _ g3 => k I2 g1 g3) _ rfl rfl rfl rfl rfl
end
