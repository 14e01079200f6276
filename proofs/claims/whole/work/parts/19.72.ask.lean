/-! both sides' calls: what to ask -/
abbrev Ak : Type := Option (Int32 × Nat × Nat)
def ak_u (v : Nat → Nat → Int32) (a b : Nat) : Ak → Ak
  | none => some (v a b, a, b)
  | some x => if v a b < x.1 then some (v a b, a, b) else some x
def s_ak (v : Nat → Nat → Int32) : Ak := am_it (fun a x => am_it (fun j x => ak_u v a (a + 1 + j) x) (4 - a) x) 5 none
theorem s_ak_c {v w : Nat → Nat → Int32} (h : ∀ a b, a < 5 → b < 5 → v a b = w a b) : s_ak v = s_ak w := by
  unfold s_ak
  refine am_it_congr (fun a x ha => am_it_congr (fun j y hj => ?_) _) _
  unfold ak_u
  rw [h a (a + 1 + j) ha (by omega)]
def ak_0 (z : Int32) : Ak → Int32
  | none => z
  | some x => x.1
def ak_1 (z : Int32) : Ak → Int32
  | none => z
  | some x => nI x.2.1
def ak_2 (z : Int32) : Ak → Int32
  | none => z
  | some x => nI x.2.2
theorem ak_u_lt {v : Nat → Nat → Int32} {a b : Nat} {z : Int32} (x : Ak) (hz : v a b < z) : (v a b < ak_0 z x → ak_u v a b x = some (v a b, a, b)) ∧ (¬ v a b < ak_0 z x → ak_u v a b x = x) := by
  cases x with
  | none => exact ⟨fun _ => rfl, fun q => absurd hz q⟩
  | some x => exact ⟨fun q => if_pos q, fun q => if_neg q⟩
theorem ak_some {v : Nat → Nat → Int32} (a b : Nat) (x : Ak) : ak_u v a b x ≠ none := by
  cases x with
  | none => exact fun h => by cases h
  | some x =>
    show (if v a b < x.1 then some (v a b, a, b) else some x) ≠ none
    by_cases z : v a b < x.1
    · rw [if_pos z]
      exact Option.some_ne_none _
    · rw [if_neg z]
      exact Option.some_ne_none _
theorem s_ak_ne (v : Nat → Nat → Int32) : s_ak v ≠ none := by
  have key : ∀ (f : Nat → Ak → Ak), (∀ k x, x ≠ none → f k x ≠ none) → ∀ n x, x ≠ none → am_it f n x ≠ none := by
    intro f hf n x hx
    induction n with
    | zero => exact hx
    | succ n ih => exact hf n _ ih
  have k2 : ∀ (f : Nat → Ak → Ak), (∀ k x, f k x ≠ none) → ∀ n x, 0 < n → am_it f n x ≠ none := by
    intro f hf n x hn
    cases n with
    | zero => exact absurd hn (Nat.not_lt_zero 0)
    | succ n => exact hf n _
  unfold s_ak
  rw [am_it_s]
  refine key _ (fun j x _ => ak_some _ _ _) _ _ ?_
  rw [am_it_s]
  refine key _ (fun j x _ => ak_some _ _ _) _ _ ?_
  rw [am_it_s]
  refine key _ (fun j x _ => ak_some _ _ _) _ _ ?_
  rw [am_it_s]
  refine key _ (fun j x _ => ak_some _ _ _) _ _ ?_
  rw [am_it_s]
  exact k2 _ (fun k x => ak_some _ _ _) (4 - 0) _ (by decide)
def ak_v (w : Nat) (x : Ak) : Int32 := if w = 0 then ak_1 0 x else if w = 1 then ak_2 0 x else ak_0 8 x
theorem t_ct_7 {F : Nat → Prop} [DecidablePred F] {set : Int32} (n : Nat) (hn : n ≤ 7) : ∃ x, x ≤ 7 ∧ t_ct F set n = nI x := by
  obtain ⟨x, h1, h2⟩ := am_sum_nn (c := 1) (f := fun m => if am_bit set m = 1 ∧ F m then 1 else 0) n (fun m _ => by
    by_cases z : am_bit set m = 1 ∧ F m
    · exact ⟨1, by decide, if_pos z⟩
    · exact ⟨0, by decide, if_neg z⟩)
  exact ⟨x, by omega, h2⟩
theorem am_max2 (x y : Int32) : (if y < x then x else y) = (if x < y then y else x) := by
  by_cases h1 : y < x
  · rw [if_pos h1, if_neg (Int32.not_lt.mpr (Int32.le_of_lt h1))]
  · rw [if_neg h1]
    by_cases h2 : x < y
    · rw [if_pos h2]
    · rw [if_neg h2]
      exact Int32.le_antisymm (Int32.not_lt.mp h2) (Int32.not_lt.mp h1)
def ma_v (x y z : Int32) : Int32 := if z < (if x < y then y else x) then (if x < y then y else x) else z
theorem ma_lt {a b c : Nat} (ha : a ≤ 7) (hb : b ≤ 7) (hc : c ≤ 7) : ma_v (nI a) (nI b) (nI c - nI a - nI b) < 8 := by
  have ea : (nI a).toInt = a := nI_toInt (by omega)
  have eb : (nI b).toInt = b := nI_toInt (by omega)
  have ec : (nI c).toInt = c := nI_toInt (by omega)
  have e1 : (nI c - nI a).toInt = (c : Int) - a := by
    rw [Int32.toInt_sub, ea, ec]
    exact Int.bmod_eq_of_le (by omega) (by omega)
  have e2 : (nI c - nI a - nI b).toInt = (c : Int) - a - b := by
    rw [Int32.toInt_sub, e1, eb]
    exact Int.bmod_eq_of_le (by omega) (by omega)
  have e8 : (8 : Int32).toInt = 8 := by decide
  have key : ∀ p : Int32, p.toInt ≤ 7 → (if nI c - nI a - nI b < p then p else nI c - nI a - nI b) < 8 := by
    intro p hp
    by_cases z : nI c - nI a - nI b < p
    · rw [if_pos z, Int32.lt_iff_toInt_lt]
      omega
    · rw [if_neg z, Int32.lt_iff_toInt_lt]
      omega
  unfold ma_v
  by_cases z : nI a < nI b
  · rw [if_pos z]
    exact key _ (by omega)
  · rw [if_neg z]
    exact key _ (by omega)
abbrev m_ma (I : Nat → Nat → Int32) (n : Nat) (set : Int32) (a b : Nat) : Int32 := ma_v (t_ct (fun m => m_wv (I 140) (I 139) m a b) set n) (t_ct (fun m => m_wv (I 140) (I 139) m b a) set n) (t_on set - t_ct (fun m => m_wv (I 140) (I 139) m a b) set n - t_ct (fun m => m_wv (I 140) (I 139) m b a) set n)
abbrev m_akF (I : Nat → Nat → Int32) (n s : Nat) (f g : Nat → Nat) (w : Nat) : Int32 := if m_cb I n s f g = 0 then -1 else ak_v w (s_ak (m_ma I n (m_cb I n s f g)))
section
variable {pr : am_Pr} {d : Nat} {S : List (Nat × Nat)} {I : Nat → Nat → Int32} {J : Nat → Nat → Int64} {P : Nat → Nat → Option Nat} {Q : Option Value → am_H → Prop} {n l s u tp : Nat} {kp : Nat → Int32} {lw : Option (Nat × List Cl)} {lv0 : Option (List Cl)}
theorem c287 {x y : Int32} (k : Q (some (.int (if y < x then x else y))) (S, I, J, P)) : am_ev pr d 287 [.int x, .int y] (S, I, J, P) Q := by
  show am_wp pr d 287 0 [(0, .int x), (1, .int y)] [] _ _
  by_cases h : y < x
  · rw [if_pos h] at k
    refine w287_0 rfl ?_
    refine w287_1 rfl ?_
    refine w287_2 (fun hQ => absurd hQ (Int32.not_le.mpr h)) (fun _ => ?_)
    refine w287_5 rfl ?_
    refine w287_6 ?_
    refine w287_10 ?_
    exact k
  · rw [if_neg h] at k
    refine w287_0 rfl ?_
    refine w287_1 rfl ?_
    refine w287_2 (fun _ => ?_) (fun hQ => absurd (Int32.not_lt.mp h) hQ)
    refine w287_9 rfl ?_
    refine w287_10 ?_
    exact k
/-- mostAlike -/
theorem c286 (L : am_Lay S P) {a b : Nat} {set : Int32} (hn : I 126 73 = nI n) (n7 : n ≤ 7) (ha : a < 5) (hb : b < 5) (k : Q (some (.int (m_ma I n set a b))) (S, I, J, P)) : am_ev pr (d + 2) 286 [.ref 124, .int set, .int (nI a), .int (nI b)] (S, I, J, P) Q := by
  show am_wp pr (d + 2) 286 0 [(0, .ref 124), (1, .int set), (2, .int (nI a)), (3, .int (nI b))] [] _ _
  refine w286_0 ?_
  refine w286_1 ?_
  refine w286_3 ?_
  refine w286_4 ?_
  refine w286_6 ?_
  refine w286_7 ?_
  refine am_for (fun m => ∀ x y, x = t_ct (fun m => m_wv (I 140) (I 139) m a b) set m → y = t_ct (fun m => m_wv (I 140) (I 139) m b a) set m → ∀ lv, am_ld1 lv 0 = some (.ref 124) → am_ld1 lv 1 = some (.int set) → am_ld1 lv 2 = some (.int (nI a)) → am_ld1 lv 3 = some (.int (nI b)) → am_ld1 lv 4 = some (.int x) → am_ld1 lv 5 = some (.int y) → am_ld1 lv 6 = some (.int (nI m)) → am_wp pr (d + 2) 286 9 lv [] (S, I, J, P) Q) n ?_ ?_ 0 0 rfl rfl _ rfl rfl rfl rfl rfl rfl rfl
  · intro m hm ih x y hx hy lv l0 l1 l2 l3 l4 l5 l6
    have hm7 : m < 7 := by omega
    have nx : t_ct (fun m => m_wv (I 140) (I 139) m a b) set (m + 1) = x + (if am_bit set m = 1 ∧ m_wv (I 140) (I 139) m a b then 1 else 0) := by rw [hx]; rfl
    have ny : t_ct (fun m => m_wv (I 140) (I 139) m b a) set (m + 1) = y + (if am_bit set m = 1 ∧ m_wv (I 140) (I 139) m b a then 1 else 0) := by rw [hy]; rfl
    have go48 : ∀ x2, x2 = x + (if am_bit set m = 1 ∧ m_wv (I 140) (I 139) m a b then 1 else 0) → ∀ lv, am_ld1 lv 0 = some (.ref 124) → am_ld1 lv 1 = some (.int set) → am_ld1 lv 2 = some (.int (nI a)) → am_ld1 lv 3 = some (.int (nI b)) → am_ld1 lv 4 = some (.int x2) → am_ld1 lv 5 = some (.int y) → am_ld1 lv 6 = some (.int (nI m)) → am_wp pr (d + 2) 286 48 lv [] (S, I, J, P) Q := by
      intro x2 hx2 lv l0 l1 l2 l3 l4 l5 l6
      have fin : ∀ y2, y2 = y + (if am_bit set m = 1 ∧ m_wv (I 140) (I 139) m b a then 1 else 0) → ∀ lv, am_ld1 lv 0 = some (.ref 124) → am_ld1 lv 1 = some (.int set) → am_ld1 lv 2 = some (.int (nI a)) → am_ld1 lv 3 = some (.int (nI b)) → am_ld1 lv 4 = some (.int x2) → am_ld1 lv 5 = some (.int y2) → am_ld1 lv 6 = some (.int (nI (m + 1))) → am_wp pr (d + 2) 286 9 lv [] (S, I, J, P) Q := fun y2 hy2 => ih x2 y2 (by rw [nx, hx2]) (by rw [ny, hy2])
      have f1 : am_bit set m = 1 ∧ m_wv (I 140) (I 139) m b a → ∀ lv, am_ld1 lv 0 = some (.ref 124) → am_ld1 lv 1 = some (.int set) → am_ld1 lv 2 = some (.int (nI a)) → am_ld1 lv 3 = some (.int (nI b)) → am_ld1 lv 4 = some (.int x2) → am_ld1 lv 5 = some (.int (y + 1)) → am_ld1 lv 6 = some (.int (nI (m + 1))) → am_wp pr (d + 2) 286 9 lv [] (S, I, J, P) Q := fun q => fin _ (by rw [if_pos q])
      have f0 : ¬ (am_bit set m = 1 ∧ m_wv (I 140) (I 139) m b a) → ∀ lv, am_ld1 lv 0 = some (.ref 124) → am_ld1 lv 1 = some (.int set) → am_ld1 lv 2 = some (.int (nI a)) → am_ld1 lv 3 = some (.int (nI b)) → am_ld1 lv 4 = some (.int x2) → am_ld1 lv 5 = some (.int (y + 0)) → am_ld1 lv 6 = some (.int (nI (m + 1))) → am_wp pr (d + 2) 286 9 lv [] (S, I, J, P) Q := fun q => fin _ (by rw [if_neg q])
      refine w286_48 l5 ?_
      refine w286_50 l1 ?_
      refine w286_51 l6 ?_
      refine w286_53 (k := c182 ?_)
      refine w286_56 (fun h56 => ?_) (fun h56 => ?_)
      · refine w286_74 ?_
        refine w286_75 ?_
        refine w286_76 ?_
        refine w286_78 l6 ?_
        refine w286_81 ?_
        first | exact f1 ⟨am_b_1 h56, am_b_1 h67⟩ _ l0 l1 l2 l3 l4 rfl (am_nx m) | exact f0 (fun q => (am_b_0 _).mp h67 q.2) _ l0 l1 l2 l3 l4 rfl (am_nx m) | exact f0 (fun q => (am_b_0 _).mp h56 q.1) _ l0 l1 l2 l3 l4 rfl (am_nx m)
      · refine w286_59 l0 ?_
        refine w286_60 l6 ?_
        refine w286_62 l3 ?_
        refine w286_63 l2 ?_
        refine w286_64 (k := c284 L hm7 hb ha ?_)
        refine w286_67 (fun h67 => ?_) (fun h67 => ?_)
        · refine w286_74 ?_
          refine w286_75 ?_
          refine w286_76 ?_
          refine w286_78 l6 ?_
          refine w286_81 ?_
          first | exact f1 ⟨am_b_1 h56, am_b_1 h67⟩ _ l0 l1 l2 l3 l4 rfl (am_nx m) | exact f0 (fun q => (am_b_0 _).mp h67 q.2) _ l0 l1 l2 l3 l4 rfl (am_nx m) | exact f0 (fun q => (am_b_0 _).mp h56 q.1) _ l0 l1 l2 l3 l4 rfl (am_nx m)
        · refine w286_70 ?_
          refine w286_71 ?_
          refine w286_75 ?_
          refine w286_76 ?_
          refine w286_78 l6 ?_
          refine w286_81 ?_
          first | exact f1 ⟨am_b_1 h56, am_b_1 h67⟩ _ l0 l1 l2 l3 l4 rfl (am_nx m) | exact f0 (fun q => (am_b_0 _).mp h67 q.2) _ l0 l1 l2 l3 l4 rfl (am_nx m) | exact f0 (fun q => (am_b_0 _).mp h56 q.1) _ l0 l1 l2 l3 l4 rfl (am_nx m)
    have g1 : am_bit set m = 1 ∧ m_wv (I 140) (I 139) m a b → ∀ lv, am_ld1 lv 0 = some (.ref 124) → am_ld1 lv 1 = some (.int set) → am_ld1 lv 2 = some (.int (nI a)) → am_ld1 lv 3 = some (.int (nI b)) → am_ld1 lv 4 = some (.int (x + 1)) → am_ld1 lv 5 = some (.int y) → am_ld1 lv 6 = some (.int (nI m)) → am_wp pr (d + 2) 286 48 lv [] (S, I, J, P) Q := fun q => go48 _ (by rw [if_pos q])
    have g0 : ¬ (am_bit set m = 1 ∧ m_wv (I 140) (I 139) m a b) → ∀ lv, am_ld1 lv 0 = some (.ref 124) → am_ld1 lv 1 = some (.int set) → am_ld1 lv 2 = some (.int (nI a)) → am_ld1 lv 3 = some (.int (nI b)) → am_ld1 lv 4 = some (.int (x + 0)) → am_ld1 lv 5 = some (.int y) → am_ld1 lv 6 = some (.int (nI m)) → am_wp pr (d + 2) 286 48 lv [] (S, I, J, P) Q := fun q => go48 _ (by rw [if_neg q])
    refine w286_9 l6 ?_
    refine w286_11 l0 ?_
    refine w286_12 (k := c171 L ?_)
    rw [hn]
    refine w286_15 (fun hQ => absurd hQ (am_nlt hm (by omega))) (fun _ => ?_)
    refine w286_18 l4 ?_
    refine w286_20 l1 ?_
    refine w286_21 l6 ?_
    refine w286_23 (k := c182 ?_)
    refine w286_26 (fun h26 => ?_) (fun h26 => ?_)
    · refine w286_44 ?_
      refine w286_45 ?_
      refine w286_46 ?_
      first | exact g1 ⟨am_b_1 h26, am_b_1 h37⟩ _ l0 l1 l2 l3 rfl l5 l6 | exact g0 (fun q => (am_b_0 _).mp h37 q.2) _ l0 l1 l2 l3 rfl l5 l6 | exact g0 (fun q => (am_b_0 _).mp h26 q.1) _ l0 l1 l2 l3 rfl l5 l6
    · refine w286_29 l0 ?_
      refine w286_30 l6 ?_
      refine w286_32 l2 ?_
      refine w286_33 l3 ?_
      refine w286_34 (k := c284 L hm7 ha hb ?_)
      refine w286_37 (fun h37 => ?_) (fun h37 => ?_)
      · refine w286_44 ?_
        refine w286_45 ?_
        refine w286_46 ?_
        first | exact g1 ⟨am_b_1 h26, am_b_1 h37⟩ _ l0 l1 l2 l3 rfl l5 l6 | exact g0 (fun q => (am_b_0 _).mp h37 q.2) _ l0 l1 l2 l3 rfl l5 l6 | exact g0 (fun q => (am_b_0 _).mp h26 q.1) _ l0 l1 l2 l3 rfl l5 l6
      · refine w286_40 ?_
        refine w286_41 ?_
        refine w286_45 ?_
        refine w286_46 ?_
        first | exact g1 ⟨am_b_1 h26, am_b_1 h37⟩ _ l0 l1 l2 l3 rfl l5 l6 | exact g0 (fun q => (am_b_0 _).mp h37 q.2) _ l0 l1 l2 l3 rfl l5 l6 | exact g0 (fun q => (am_b_0 _).mp h26 q.1) _ l0 l1 l2 l3 rfl l5 l6
  · intro x y hx hy lv l0 l1 l2 l3 l4 l5 l6
    refine w286_9 l6 ?_
    refine w286_11 l0 ?_
    refine w286_12 (k := c171 L ?_)
    rw [hn]
    refine w286_15 (fun _ => ?_) (fun hQ => absurd (Int32.le_refl _) hQ)
    refine w286_84 l4 ?_
    refine w286_86 l5 ?_
    refine w286_88 (k := c287 ?_)
    rw [am_max2]
    refine w286_91 l1 ?_
    refine w286_92 (k := c191 ?_)
    refine w286_95 l4 ?_
    refine w286_97 ?_
    refine w286_98 l5 ?_
    refine w286_100 ?_
    refine w286_101 (k := c287 ?_)
    refine w286_104 ?_
    rw [hx, hy]
    exact k
theorem b_ma {I I2 : Nat → Nat → Int32} {a b z : Nat} (hB : ∀ b, b < 5 → t_B I kp n lv0 b) (g : m_ld I2 kp n lv0 (n * 5)) (n7 : n ≤ 7) (ha : a < 5) (hb : b < 5) (hz : ∀ j, j < 7 → am_bit (nI z) j = 1 → j < n) : t_ct (fun m => t_pf (I 111) (I 112) m a b) (nI z) 7 = t_ct (fun m => m_wv (I2 140) (I2 139) m a b) (nI z) n := by
  unfold t_ct
  refine am_sum_cut (fun m hm => am_if_c ?_ (fun _ => rfl)) 7 n7 (fun m h1 h2 => if_neg (fun q => absurd (hz m h2 q.1) (by omega)))
  exact and_congr_right (fun _ => (b_pf (hB a ha) (hB b hb) hm n7).trans (b_wv g ha hb hm).symm)
theorem op_32 (r : am_R S I P n l s u tp) {x : Int32} : am_op pr (d + 60) S I J P 149 [.ref 64, .int x] 285 [.ref 124, .int x] := by
  have hr := r.hr
  have n7 := hr.n7
  have L := r.L
  obtain ⟨lw, hx⟩ := r.lw
  obtain ⟨q1, q2, q3, q4⟩ := hr.sf
  have q1' := fun i hi => (q1 i hi).1
  have q2' := fun i hi => (q2 i hi).1
  by_cases hw : 0 ≤ x ∧ x ≤ 2
  · obtain ⟨w, hw2, rfl⟩ := nI_of2 (M := 2) (n := 2) (by decide) (Int32.not_lt.mpr hw.1) hw.2
    refine op_rd r hx (fun I2 => m_akF I2 n s (s_f (I 126)) (s_g (I 126)) w) (fun Q k => ?_) (fun I1 J1 e Q k => ?_)
    · show am_wp pr (d + 60) 149 0 [(0, .ref 64), (1, .int (nI w))] [] _ _
      refine w149_0 rfl ?_
      refine w149_1 (k := c34 L hr hx (fun I1 J1 f1 f2 f3 => ?_))
      have e65 : I1 65 = I 65 := f1 65 (Or.inl (by decide))
      have e71 : I1 71 = I 71 := f1 71 (Or.inl (by decide))
      have e72 : I1 72 = I 72 := f1 72 (Or.inl (by decide))
      have hsu := fun I2 g => b_su (I2 := I2) f3 g n7 q1' q2'
      obtain ⟨z, hz, ez⟩ : ∃ z, z < 128 ∧ t_su (fun m => ∀ i, i < s → t_pf (I1 111) (I1 112) m (s_f (I 126) i) (s_g (I 126) i)) n = nI z := am_set7 (fun m a1 a2 => am_bit_n0.mp (fun y => by
        unfold t_su at y
        have := ((su_bit a2 n (by omega)).mp y).1
        omega))
      have hzn : ∀ j, j < 7 → am_bit (nI z) j = 1 → j < n := fun j hj y => by
        rw [← ez] at y
        unfold t_su at y
        exact ((su_bit (by omega) n (by omega)).mp y).1
      have hcb : ∀ I2, m_ld I2 (I 126) n (lw.map Prod.snd) (n * 5) → m_cb I2 n s (s_f (I 126)) (s_g (I 126)) = nI z := fun I2 g => (hsu I2 g).symm.trans ez
      refine w149_4 rfl ?_
      refine w149_5 (k := c148 L (by rw [e65]; exact hr.hn) n7 (by rw [e65]; exact hr.hs) hr.s6 (by rw [e71]; exact q3) (by rw [e72]; exact q4) ?_)
      rw [ez]
      refine w149_8 ?_
      by_cases hz0 : nI z = 0
      · refine w149_9 rfl ?_
        refine w149_10 (fun _ => ?_) (fun hQ => absurd hz0 hQ)
        refine w149_22 ?_
        refine w149_23 ?_
        refine k I1 J1 _ f1.ps (fun I2 g => ?_)
        exact (if_pos ((hcb I2 g).trans hz0)).symm
      · obtain ⟨I0, g0⟩ := m_ld_ex (I 126) n (lw.map Prod.snd) (n * 5)
        have hv : ∀ I2, m_ld I2 (I 126) n (lw.map Prod.snd) (n * 5) → ∀ a b, a < 5 → b < 5 → m_ma I2 n (nI z) a b = m_ma I0 n (nI z) a b := by
          intro I2 g a b ha hb
          unfold m_ma
          rw [← b_ma f3 g n7 ha hb hzn, ← b_ma f3 g n7 hb ha hzn, ← b_ma f3 g0 n7 ha hb hzn, ← b_ma f3 g0 n7 hb ha hzn]
        have hlt : ∀ a b, m_ma I0 n (nI z) a b < 8 := by
          intro a b
          unfold m_ma
          obtain ⟨p1, p2, p3⟩ := t_ct_7 (F := fun m => m_wv (I0 140) (I0 139) m a b) (set := nI z) n n7
          obtain ⟨p4, p5, p6⟩ := t_ct_7 (F := fun m => m_wv (I0 140) (I0 139) m b a) (set := nI z) n n7
          rw [p3, p6, am_ones_n hz]
          exact ma_lt p2 p5 (pc_ok z hz).2
        have fin : ∀ v, v = ak_v w (s_ak (m_ma I0 n (nI z))) → Q (some (.int v)) (S, I1, J1, P) := by
          intro v hv2
          refine k I1 J1 v f1.ps (fun I2 g => ?_)
          unfold m_akF
          rw [hcb I2 g, if_neg hz0, hv2, s_ak_c (hv I2 g)]
        refine w149_9 rfl ?_
        refine w149_10 (fun hQ => absurd hQ hz0) (fun _ => ?_)
        refine w149_13 rfl ?_
        refine w149_14 (fun hQ => absurd hQ (nI_pos (by omega))) (fun _ => ?_)
        refine w149_17 rfl ?_
        refine w149_18 ?_
        refine w149_19 (fun _ => ?_) (fun hQ => absurd (nI_le (b := 2) hw2 (by decide)) hQ)
        refine w149_24 ?_
        refine w149_25 ?_
        refine w149_26 ?_
        refine w149_27 ?_
        refine w149_29 ?_
        refine w149_31 ?_
        refine w149_33 ?_
        refine w149_34 ?_
        refine am_loop (fun a x => am_it (fun j x => ak_u (m_ma I0 n (nI z)) a (a + 1 + j) x) (4 - a) x) (fun a (x : Ak) => ∀ lv, am_ld1 lv 0 = some (.ref 64) → am_ld1 lv 1 = some (.int (nI w)) → am_ld1 lv 2 = some (.int (nI z)) → am_ld1 lv 3 = some (.int (ak_1 0 x)) → am_ld1 lv 4 = some (.int (ak_2 0 x)) → am_ld1 lv 5 = some (.int (ak_0 8 x)) → am_ld1 lv 6 = some (.int (nI a)) → am_wp pr (d + 60) 149 36 lv [] (S, I1, J1, P) Q) 5 ?_ none ?_ _ rfl rfl rfl rfl rfl rfl rfl
        · intro a x ha ih lv l0 l1 l2 l3 l4 l5 l6
          refine w149_36 l6 ?_
          refine w149_38 ?_
          refine w149_39 (fun hQ => absurd hQ (am_nlt ha (by decide))) (fun _ => ?_)
          refine w149_42 l6 ?_
          refine w149_44 ?_
          refine w149_45 ?_
          refine w149_46 ?_
          refine am_loop (fun j x => ak_u (m_ma I0 n (nI z)) a (a + 1 + j) x) (fun j (x : Ak) => ∀ lv, am_ld1 lv 0 = some (.ref 64) → am_ld1 lv 1 = some (.int (nI w)) → am_ld1 lv 2 = some (.int (nI z)) → am_ld1 lv 3 = some (.int (ak_1 0 x)) → am_ld1 lv 4 = some (.int (ak_2 0 x)) → am_ld1 lv 5 = some (.int (ak_0 8 x)) → am_ld1 lv 6 = some (.int (nI a)) → am_ld1 lv 7 = some (.int (nI (a + 1 + j))) → am_wp pr (d + 60) 149 48 lv [] (S, I1, J1, P) Q) (4 - a) ?_ x ?_ _ l0 l1 l2 l3 l4 l5 l6 (am_nx a)
          · clear l0 l1 l2 l3 l4 l5 l6 lv ih x
            intro j x hj ih lv l0 l1 l2 l3 l4 l5 l6 l7
            have hb : a + 1 + j < 5 := by omega
            rw [show a + 1 + (j + 1) = a + 1 + j + 1 by omega] at ih
            generalize a + 1 + j = b at *
            have eq : ∀ p q t : Int32, p = t_ct (fun m => t_pf (I1 111) (I1 112) m a b) (nI z) 7 → q = t_ct (fun m => t_pf (I1 111) (I1 112) m b a) (nI z) 7 → t = t_on (nI z) - p - q → (if t < (if p < q then q else p) then (if p < q then q else p) else t) = m_ma I0 n (nI z) a b := by
              intro p q t hp hq ht
              rw [ht, hp, hq, b_ma f3 g0 n7 ha hb hzn, b_ma f3 g0 n7 hb ha hzn]
              rfl
            have hu := ak_u_lt (v := m_ma I0 n (nI z)) (a := a) (b := b) x (hlt a b)
            have y1 : m_ma I0 n (nI z) a b < ak_0 8 x → ∀ lv, am_ld1 lv 0 = some (.ref 64) → am_ld1 lv 1 = some (.int (nI w)) → am_ld1 lv 2 = some (.int (nI z)) → am_ld1 lv 3 = some (.int (nI a)) → am_ld1 lv 4 = some (.int (nI b)) → am_ld1 lv 5 = some (.int (m_ma I0 n (nI z) a b)) → am_ld1 lv 6 = some (.int (nI a)) → am_ld1 lv 7 = some (.int (nI (b + 1))) → am_wp pr (d + 60) 149 48 lv [] (S, I1, J1, P) Q := fun q => by rw [hu.1 q] at ih; exact ih
            have y0 : ¬ m_ma I0 n (nI z) a b < ak_0 8 x → ∀ lv, am_ld1 lv 0 = some (.ref 64) → am_ld1 lv 1 = some (.int (nI w)) → am_ld1 lv 2 = some (.int (nI z)) → am_ld1 lv 3 = some (.int (ak_1 0 x)) → am_ld1 lv 4 = some (.int (ak_2 0 x)) → am_ld1 lv 5 = some (.int (ak_0 8 x)) → am_ld1 lv 6 = some (.int (nI a)) → am_ld1 lv 7 = some (.int (nI (b + 1))) → am_wp pr (d + 60) 149 48 lv [] (S, I1, J1, P) Q := fun q => by rw [hu.2 q] at ih; exact ih
            refine w149_48 l7 ?_
            refine w149_50 ?_
            refine w149_51 (fun hQ => absurd hQ (am_nlt hb (by decide))) (fun _ => ?_)
            refine w149_54 l0 ?_
            refine w149_55 (L.2 _ _ _ rfl) ?_
            refine w149_58 l2 ?_
            refine w149_59 l6 ?_
            refine w149_61 l7 ?_
            refine w149_63 (k := c150 L hz ha hb (fun p q t hp hq ht => ?_))
            rw [eq p q t hp hq ht]
            refine w149_66 ?_
            refine w149_68 rfl ?_
            refine w149_70 l5 ?_
            refine w149_72 (fun h72 => ?_) (fun h72 => ?_)
            · refine w149_86 l7 ?_
              refine w149_89 ?_
              first | exact y1 h72 _ l0 l1 l2 l3 l4 l5 l6 (am_nx b) | exact y0 (Int32.not_lt.mpr h72) _ l0 l1 l2 l3 l4 l5 l6 (am_nx b)
            · replace h72 := Int32.not_le.mp h72
              refine w149_75 rfl ?_
              refine w149_77 ?_
              refine w149_79 l6 ?_
              refine w149_81 ?_
              refine w149_82 l7 ?_
              refine w149_84 ?_
              refine w149_86 l7 ?_
              refine w149_89 ?_
              first | exact y1 h72 _ l0 l1 l2 rfl rfl rfl l6 (am_nx b) | exact y0 (Int32.not_lt.mpr h72) _ l0 l1 l2 rfl rfl rfl l6 (am_nx b)
          · clear l0 l1 l2 l3 l4 l5 l6 lv
            intro lv l0 l1 l2 l3 l4 l5 l6 l7
            rw [show a + 1 + (4 - a) = 5 by omega] at l7
            refine w149_48 l7 ?_
            refine w149_50 ?_
            refine w149_51 (fun _ => ?_) (fun hQ => absurd (Int32.le_refl _) hQ)
            refine w149_92 l6 ?_
            refine w149_95 ?_
            exact ih _ l0 l1 l2 l3 l4 l5 (am_nx a)
        · intro lv l0 l1 l2 l3 l4 l5 l6
          rcases (show w = 0 ∨ w = 1 ∨ w = 2 by omega) with rfl | rfl | rfl
          · refine w149_36 l6 ?_
            refine w149_38 ?_
            refine w149_39 (fun _ => ?_) (fun hQ => absurd (Int32.le_refl _) hQ)
            refine w149_98 l1 ?_
            refine w149_99 (fun hQ => absurd hQ (fun y => y rfl)) (fun _ => ?_)
            refine w149_102 l3 ?_
            refine w149_103 ?_
            refine w149_118 ?_
            exact fin _ rfl
          · refine w149_36 l6 ?_
            refine w149_38 ?_
            refine w149_39 (fun _ => ?_) (fun hQ => absurd (Int32.le_refl _) hQ)
            refine w149_98 l1 ?_
            refine w149_99 (fun _ => ?_) (fun hQ => absurd (by decide) hQ)
            refine w149_106 l1 ?_
            refine w149_107 ?_
            refine w149_108 (fun hQ => absurd hQ (fun y => y rfl)) (fun _ => ?_)
            refine w149_111 l4 ?_
            refine w149_113 ?_
            refine w149_118 ?_
            exact fin _ rfl
          · refine w149_36 l6 ?_
            refine w149_38 ?_
            refine w149_39 (fun _ => ?_) (fun hQ => absurd (Int32.le_refl _) hQ)
            refine w149_98 l1 ?_
            refine w149_99 (fun _ => ?_) (fun hQ => absurd (by decide) hQ)
            refine w149_106 l1 ?_
            refine w149_107 ?_
            refine w149_108 (fun _ => ?_) (fun hQ => absurd (by decide) hQ)
            refine w149_116 l5 ?_
            refine w149_118 ?_
            exact fin _ rfl
    · show am_wp pr (d + 60) 285 0 [(0, .ref 124), (1, .int (nI w))] [] _ _
      refine w285_0 rfl ?_
      refine w285_1 ?_
      refine w285_2 ?_
      refine w285_3 (k := c164 ?_)
      rw [am_b_t hw]
      refine w285_6 (fun _ => ?_) (fun hQ => absurd am_n01 hQ)
      refine w285_11 rfl ?_
      refine w285_12 (k := c282 L e hr.kn n7 (hx.m hr.l6) hr.kss hr.s6 q1 q2 (fun I2 f2 g => ?_))
      have kk := k I2 f2.ps g
      have e126 : I2 126 = I 126 := by rw [f2.1 126 (by decide) (by decide) (by decide) (by decide) (by decide)]; exact e
      have hn2 : I2 126 73 = nI n := by rw [e126]; exact hr.kn
      unfold m_akF at kk
      obtain ⟨z, hz, ez⟩ : ∃ z, z < 128 ∧ m_cb I2 n s (s_f (I 126)) (s_g (I 126)) = nI z := am_set7 (fun m a1 a2 => am_bit_n0.mp (fun y => by
        unfold m_cb t_su at y
        have := ((su_bit a2 n (by omega)).mp y).1
        omega))
      rw [ez] at kk ⊢
      by_cases hz0 : nI z = 0
      · rw [if_pos hz0] at kk
        refine w285_15 ?_
        refine w285_16 ?_
        refine w285_18 ?_
        refine w285_19 ?_
        refine w285_20 ?_
        refine w285_22 ?_
        refine w285_23 ?_
        refine w285_25 ?_
        refine w285_26 ?_
        refine w285_28 rfl ?_
        refine w285_30 ?_
        refine w285_31 (fun hQ => absurd hQ (by decide)) (fun _ => ?_)
        refine w285_34 rfl ?_
        refine w285_35 (fun _ => ?_) (fun hQ => absurd hz0 hQ)
        refine w285_93 rfl ?_
        refine w285_94 (fun hQ => absurd hQ (fun y => y hz0)) (fun _ => ?_)
        refine w285_97 ?_
        refine w285_98 ?_
        refine w285_121 ?_
        exact kk
      · rw [if_neg hz0] at kk
        have hlt : ∀ a b, m_ma I2 n (nI z) a b < 1000000 := by
          intro a b
          unfold m_ma
          obtain ⟨p1, p2, p3⟩ := t_ct_7 (F := fun m => m_wv (I2 140) (I2 139) m a b) (set := nI z) n n7
          obtain ⟨p4, p5, p6⟩ := t_ct_7 (F := fun m => m_wv (I2 140) (I2 139) m b a) (set := nI z) n n7
          rw [p3, p6, am_ones_n hz]
          exact Int32.lt_trans (ma_lt p2 p5 (pc_ok z hz).2) (by decide)
        refine w285_15 ?_
        refine w285_16 ?_
        refine w285_18 ?_
        refine w285_19 ?_
        refine w285_20 ?_
        refine w285_22 ?_
        refine w285_23 ?_
        refine w285_25 ?_
        refine w285_26 ?_
        refine am_loop (fun a x => am_it (fun j x => ak_u (m_ma I2 n (nI z)) a (a + 1 + j) x) (4 - a) x) (fun a (x : Ak) => ∀ lv, am_ld1 lv 0 = some (.ref 124) → am_ld1 lv 1 = some (.int (nI w)) → am_ld1 lv 2 = some (.int (nI z)) → am_ld1 lv 3 = some (.int (ak_0 1000000 x)) → am_ld1 lv 4 = some (.int (ak_1 (-1) x)) → am_ld1 lv 5 = some (.int (ak_2 (-1) x)) → am_ld1 lv 6 = some (.int (nI a)) → am_wp pr (d + 60) 285 28 lv [] (S, I2, J1, P) Q) 5 ?_ none ?_ _ rfl rfl rfl rfl rfl rfl rfl
        · intro a x ha ih lv l0 l1 l2 l3 l4 l5 l6
          refine w285_28 l6 ?_
          refine w285_30 ?_
          refine w285_31 (fun hQ => absurd hQ (am_nlt ha (by decide))) (fun _ => ?_)
          refine w285_34 l2 ?_
          refine w285_35 (fun hQ => absurd hQ hz0) (fun _ => ?_)
          refine w285_38 l6 ?_
          refine w285_40 ?_
          refine w285_41 ?_
          refine w285_42 ?_
          refine am_loop (fun j x => ak_u (m_ma I2 n (nI z)) a (a + 1 + j) x) (fun j (x : Ak) => ∀ lv, am_ld1 lv 0 = some (.ref 124) → am_ld1 lv 1 = some (.int (nI w)) → am_ld1 lv 2 = some (.int (nI z)) → am_ld1 lv 3 = some (.int (ak_0 1000000 x)) → am_ld1 lv 4 = some (.int (ak_1 (-1) x)) → am_ld1 lv 5 = some (.int (ak_2 (-1) x)) → am_ld1 lv 6 = some (.int (nI a)) → am_ld1 lv 7 = some (.int (nI (a + 1 + j))) → am_wp pr (d + 60) 285 44 lv [] (S, I2, J1, P) Q) (4 - a) ?_ x ?_ _ l0 l1 l2 l3 l4 l5 l6 (am_nx a)
          · clear l0 l1 l2 l3 l4 l5 l6 lv ih x
            intro j x hj ih lv l0 l1 l2 l3 l4 l5 l6 l7
            have hb : a + 1 + j < 5 := by omega
            rw [show a + 1 + (j + 1) = a + 1 + j + 1 by omega] at ih
            generalize a + 1 + j = b at *
            have hu := ak_u_lt (v := m_ma I2 n (nI z)) (a := a) (b := b) x (hlt a b)
            have y1 : m_ma I2 n (nI z) a b < ak_0 1000000 x → ∀ lv, am_ld1 lv 0 = some (.ref 124) → am_ld1 lv 1 = some (.int (nI w)) → am_ld1 lv 2 = some (.int (nI z)) → am_ld1 lv 3 = some (.int (m_ma I2 n (nI z) a b)) → am_ld1 lv 4 = some (.int (nI a)) → am_ld1 lv 5 = some (.int (nI b)) → am_ld1 lv 6 = some (.int (nI a)) → am_ld1 lv 7 = some (.int (nI (b + 1))) → am_wp pr (d + 60) 285 44 lv [] (S, I2, J1, P) Q := fun q => by rw [hu.1 q] at ih; exact ih
            have y0 : ¬ m_ma I2 n (nI z) a b < ak_0 1000000 x → ∀ lv, am_ld1 lv 0 = some (.ref 124) → am_ld1 lv 1 = some (.int (nI w)) → am_ld1 lv 2 = some (.int (nI z)) → am_ld1 lv 3 = some (.int (ak_0 1000000 x)) → am_ld1 lv 4 = some (.int (ak_1 (-1) x)) → am_ld1 lv 5 = some (.int (ak_2 (-1) x)) → am_ld1 lv 6 = some (.int (nI a)) → am_ld1 lv 7 = some (.int (nI (b + 1))) → am_wp pr (d + 60) 285 44 lv [] (S, I2, J1, P) Q := fun q => by rw [hu.2 q] at ih; exact ih
            refine w285_44 l7 ?_
            refine w285_46 ?_
            refine w285_47 (fun hQ => absurd hQ (am_nlt hb (by decide))) (fun _ => ?_)
            refine w285_50 l0 ?_
            refine w285_51 l2 ?_
            refine w285_52 l6 ?_
            refine w285_54 l7 ?_
            refine w285_56 (k := c286 L hn2 n7 ha hb ?_)
            refine w285_59 ?_
            refine w285_61 rfl ?_
            refine w285_63 l3 ?_
            refine w285_64 (fun h64 => ?_) (fun h64 => ?_)
            · refine w285_70 rfl ?_
              refine w285_72 ?_
              refine w285_73 l6 ?_
              refine w285_75 ?_
              refine w285_77 l7 ?_
              refine w285_79 ?_
              refine w285_81 l7 ?_
              refine w285_84 ?_
              first | exact y1 h64 _ l0 l1 l2 rfl rfl rfl l6 (am_nx b) | exact y0 (Int32.not_lt.mpr h64) _ l0 l1 l2 rfl rfl rfl l6 (am_nx b)
            · replace h64 := Int32.not_lt.mp h64
              refine w285_67 ?_
              refine w285_81 l7 ?_
              refine w285_84 ?_
              first | exact y1 h64 _ l0 l1 l2 l3 l4 l5 l6 (am_nx b) | exact y0 (Int32.not_lt.mpr h64) _ l0 l1 l2 l3 l4 l5 l6 (am_nx b)
          · clear l0 l1 l2 l3 l4 l5 l6 lv
            intro lv l0 l1 l2 l3 l4 l5 l6 l7
            rw [show a + 1 + (4 - a) = 5 by omega] at l7
            refine w285_44 l7 ?_
            refine w285_46 ?_
            refine w285_47 (fun _ => ?_) (fun hQ => absurd (Int32.le_refl _) hQ)
            refine w285_87 l6 ?_
            refine w285_90 ?_
            exact ih _ l0 l1 l2 l3 l4 l5 (am_nx a)
        · intro lv l0 l1 l2 l3 l4 l5 l6
          change am_ld1 lv 3 = some (.int (ak_0 1000000 (s_ak (m_ma I2 n (nI z))))) at l3
          change am_ld1 lv 4 = some (.int (ak_1 (-1) (s_ak (m_ma I2 n (nI z))))) at l4
          change am_ld1 lv 5 = some (.int (ak_2 (-1) (s_ak (m_ma I2 n (nI z))))) at l5
          have hne := s_ak_ne (m_ma I2 n (nI z))
          generalize s_ak (m_ma I2 n (nI z)) = x at *
          cases x with
          | none => exact absurd rfl hne
          | some x =>
            rcases (show w = 0 ∨ w = 1 ∨ w = 2 by omega) with rfl | rfl | rfl
            · refine w285_28 l6 ?_
              refine w285_30 ?_
              refine w285_31 (fun _ => ?_) (fun hQ => absurd (Int32.le_refl _) hQ)
              refine w285_93 l2 ?_
              refine w285_94 (fun _ => ?_) (fun hQ => absurd hz0 hQ)
              refine w285_101 l1 ?_
              refine w285_102 (fun hQ => absurd hQ (fun y => y rfl)) (fun _ => ?_)
              refine w285_105 l4 ?_
              refine w285_107 ?_
              refine w285_121 ?_
              exact kk
            · refine w285_28 l6 ?_
              refine w285_30 ?_
              refine w285_31 (fun _ => ?_) (fun hQ => absurd (Int32.le_refl _) hQ)
              refine w285_93 l2 ?_
              refine w285_94 (fun _ => ?_) (fun hQ => absurd hz0 hQ)
              refine w285_101 l1 ?_
              refine w285_102 (fun _ => ?_) (fun hQ => absurd (by decide) hQ)
              refine w285_110 l1 ?_
              refine w285_111 ?_
              refine w285_112 (fun hQ => absurd hQ (fun y => y rfl)) (fun _ => ?_)
              refine w285_115 l5 ?_
              refine w285_117 ?_
              refine w285_121 ?_
              exact kk
            · refine w285_28 l6 ?_
              refine w285_30 ?_
              refine w285_31 (fun _ => ?_) (fun hQ => absurd (Int32.le_refl _) hQ)
              refine w285_93 l2 ?_
              refine w285_94 (fun _ => ?_) (fun hQ => absurd hz0 hQ)
              refine w285_101 l1 ?_
              refine w285_102 (fun _ => ?_) (fun hQ => absurd (by decide) hQ)
              refine w285_110 l1 ?_
              refine w285_111 ?_
              refine w285_112 (fun _ => ?_) (fun hQ => absurd (by decide) hQ)
              refine w285_120 l3 ?_
              refine w285_121 ?_
              exact kk
  · have hc : ∀ Q : Option Value → am_H → Prop, (∀ I' J' v, am_ps I I' → (∀ I2, m_ld I2 (I 126) n (lw.map Prod.snd) (n * 5) → v = (-1 : Int32)) → Q (some (.int v)) (S, I', J', P)) → am_ev pr (d + 60) 149 [.ref 64, .int x] (S, I, J, P) Q := by
      intro Q k
      show am_wp pr (d + 60) 149 0 [(0, .ref 64), (1, .int x)] [] _ _
      refine w149_0 rfl ?_
      refine w149_1 (k := c34 L hr hx (fun I1 J1 f1 f2 f3 => ?_))
      have e65 : I1 65 = I 65 := f1 65 (Or.inl (by decide))
      have e71 : I1 71 = I 71 := f1 71 (Or.inl (by decide))
      have e72 : I1 72 = I 72 := f1 72 (Or.inl (by decide))
      refine w149_4 rfl ?_
      refine w149_5 (k := c148 L (by rw [e65]; exact hr.hn) n7 (by rw [e65]; exact hr.hs) hr.s6 (by rw [e71]; exact q3) (by rw [e72]; exact q4) ?_)
      refine w149_8 ?_
      refine w149_9 rfl ?_
      refine w149_10 (fun h10 => ?_) (fun h10 => ?_)
      · refine w149_22 ?_
        refine w149_23 ?_
        exact k I1 J1 _ f1.ps (fun _ _ => rfl)
      · refine w149_13 rfl ?_
        refine w149_14 (fun h14 => ?_) (fun h14 => ?_)
        · refine w149_22 ?_
          refine w149_23 ?_
          exact k I1 J1 _ f1.ps (fun _ _ => rfl)
        · replace h14 := Int32.not_lt.mp h14
          refine w149_17 rfl ?_
          refine w149_18 ?_
          refine w149_19 (fun h19 => ?_) (fun h19 => ?_)
          · exact absurd ⟨h14, h19⟩ hw
          · replace h19 := Int32.not_le.mp h19
            refine w149_22 ?_
            refine w149_23 ?_
            exact k I1 J1 _ f1.ps (fun _ _ => rfl)
    refine hc _ (fun I1 J1 v h1 h2 => ?_)
    obtain ⟨I0, g0⟩ := m_ld_ex (I 126) n (lw.map Prod.snd) (n * 5)
    rw [h2 I0 g0]
    refine ⟨-1, rfl, ?_⟩
    show am_wp pr (d + 60) 285 0 [(0, .ref 124), (1, .int x)] [] _ _
    refine w285_0 rfl ?_
    refine w285_1 ?_
    refine w285_2 ?_
    refine w285_3 (k := c164 ?_)
    rw [am_b_f hw]
    refine w285_6 (fun hQ => absurd hQ (by decide)) (fun _ => ?_)
    refine w285_9 ?_
    refine w285_10 ?_
    exact am_oi_0 (am_R_ps r h1) rfl
end
