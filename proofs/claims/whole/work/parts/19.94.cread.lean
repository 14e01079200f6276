/-! the class reads: its small steps, parts, terms, sums -/
/-- what is told depends on no bill's votes but those asked for -/
def k_dm (x : Int32) (c k : Nat) : Prop := (c < 14 → k = 0) ∧ c ≤ 20 ∧ (c = 20 → k < 5 ∧ am_bit x k = 1)
def k_DX (x : Int32) (e : Ex) : Prop := ∀ w1 w2 : Nat → Nat → Int32, (∀ c k, k_dm x c k → w1 c k = w2 c k) → e.1 w1 = e.1 w2
def k_DT (x : Int32) (e : Te) : Prop := ∀ w1 w2 : Nat → Nat → Int32, (∀ c k, k_dm x c k → w1 c k = w2 c k) → e.1 w1 = e.1 w2
theorem k_DX_mo {x y : Int32} {e : Ex} (h : ∀ k, k < 5 → am_bit x k = 1 → am_bit y k = 1) (k : k_DX x e) : k_DX y e := fun w1 w2 hw => k w1 w2 (fun c j hc => hw c j ⟨hc.1, hc.2.1, fun q => ⟨(hc.2.2 q).1, h j (hc.2.2 q).1 (hc.2.2 q).2⟩⟩)
theorem k_DT_mo {x y : Int32} {e : Te} (h : ∀ k, k < 5 → am_bit x k = 1 → am_bit y k = 1) (k : k_DT x e) : k_DT y e := fun w1 w2 hw => k w1 w2 (fun c j hc => hw c j ⟨hc.1, hc.2.1, fun q => ⟨(hc.2.2 q).1, h j (hc.2.2 q).1 (hc.2.2 q).2⟩⟩)
theorem k_DX_num (x v : Int32) : k_DX x (x_num v) := fun _ _ _ => rfl
theorem k_DX_word {x : Int32} {o : Bool} {c k : Nat} (h : k_dm x c k) : k_DX x (x_word o c k) := fun w1 w2 hw => by
  show some (w1 c k).toInt64 = some (w2 c k).toInt64
  rw [hw c k h]
theorem k_DX_bin {x : Int32} {op : Nat} {a b : Ex} (ha : k_DX x a) (hb : k_DX x b) : k_DX x (x_bin op a b) := fun w1 w2 hw => by
  show (a.1 w1).bind (fun x => (b.1 w1).bind (fun y => e_op op x y)) = (a.1 w2).bind (fun x => (b.1 w2).bind (fun y => e_op op x y))
  rw [ha w1 w2 hw, hb w1 w2 hw]
theorem k_DT_cmp {x : Int32} {op : Nat} {a b : Ex} (ha : k_DX x a) (hb : k_DX x b) : k_DT x (y_cmp op a b) := fun w1 w2 hw => by
  show (a.1 w1).bind (fun x => (b.1 w1).bind (fun y => some (e_cm op x y))) = (a.1 w2).bind (fun x => (b.1 w2).bind (fun y => some (e_cm op x y)))
  rw [ha w1 w2 hw, hb w1 w2 hw]
theorem k_DT_neg {x : Int32} {a : Te} (ha : k_DT x a) : k_DT x (y_neg a) := fun w1 w2 hw => by
  show (a.1 w1).map (fun x => !x) = (a.1 w2).map (fun x => !x)
  rw [ha w1 w2 hw]
theorem k_DT_and {x : Int32} {a b : Te} (ha : k_DT x a) (hb : k_DT x b) : k_DT x (y_and a b) := fun w1 w2 hw => by
  show (a.1 w1).bind (fun x => if x then b.1 w1 else some false) = (a.1 w2).bind (fun x => if x then b.1 w2 else some false)
  rw [ha w1 w2 hw, hb w1 w2 hw]
theorem k_DT_or {x : Int32} {a b : Te} (ha : k_DT x a) (hb : k_DT x b) : k_DT x (y_or a b) := fun w1 w2 hw => by
  show (a.1 w1).bind (fun x => if x then some true else b.1 w1) = (a.1 w2).bind (fun x => if x then some true else b.1 w2)
  rw [ha w1 w2 hw, hb w1 w2 hw]
theorem k_at_cg {st wi st' wi' : Nat → Int32} {p : Nat} {x : List (Nat × Int32)} (h : ∀ k, p ≤ k → k < p + x.length → st' k = st k ∧ wi' k = wi k) (k : k_at st wi p x) : k_at st' wi' p x := by
  intro i c v e
  have hi : i < x.length := (List.getElem?_eq_some_iff.mp e).1
  obtain ⟨h1, h2⟩ := h (p + i) (by omega) (by omega)
  rw [h1, h2]
  exact k i c v e
theorem k_at_ap {st wi : Nat → Int32} {p : Nat} {a b : List (Nat × Int32)} (ha : k_at st wi p a) (hb : k_at st wi (p + a.length) b) : k_at st wi p (a ++ b) := by
  intro i c v e
  rcases Nat.lt_or_ge i a.length with z | z
  · rw [List.getElem?_append_left z] at e
    exact ha i c v e
  · rw [List.getElem?_append_right z] at e
    have q := hb (i - a.length) c v e
    rw [show p + a.length + (i - a.length) = p + i by omega] at q
    exact q
theorem k_at_1 {st wi : Nat → Int32} {p c : Nat} {v : Int32} (h1 : st p = nI c) (h2 : wi p = v) : k_at st wi p [(c, v)] := by
  intro i c' v' e
  cases i with
  | zero =>
    cases e
    exact ⟨h1, h2⟩
  | succ i => cases e
theorem k_at_0 {st wi : Nat → Int32} {p : Nat} : k_at st wi p [] := fun i c v e => by cases e
theorem k_mp_0 {x y : Nat} (h : (x, y) ∈ k_mp) : ¬ nI y = 0 := by
  have a : k_mp.all (fun s => decide (¬ nI s.2 = 0)) = true := by decide +kernel
  exact of_decide_eq_true (List.all_eq_true.mp a (x, y) h)
theorem i_bt {x : Int32} {a b : Nat} (hb : b < 2 ^ 31) (h1 : nI a ≤ x) (h2 : x ≤ nI b) (ha : a ≤ b := by decide) : ∃ c, a ≤ c ∧ c ≤ b ∧ x = nI c := by
  have p0 : ¬ x < 0 := fun q => by
    rw [Int32.lt_iff_toInt_lt] at q
    rw [Int32.le_iff_toInt_le, nI_toInt (by omega)] at h1
    have e : (0 : Int32).toInt = 0 := rfl
    omega
  obtain ⟨j, hj, rfl⟩ := nI_of p0
  exact ⟨j, (nI_leI (by omega) hj).mp h1, (nI_leI hj hb).mp h2, rfl⟩
/-- where reading stands: the token, how many parts, how many steps -/
def q_A (C V : Nat → Int32) (pl : Nat → Nat) (I : Nat → Nat → Int32) (i lv z : Nat) : Prop := I 96 4 = nI (i + 1) ∧ I 96 5 = C i ∧ I 96 6 = V i ∧ I 96 7 = nI (pl i) ∧ I 96 8 = nI lv ∧ I 101 1 = nI z
/-- what reading a sum or a test leaves alone -/
def q_F (I I' : Nat → Nat → Int32) : Prop := (∀ a, a ≠ 96 → a ≠ 101 → a ≠ 106 → a ≠ 107 → I' a = I a) ∧ I' 96 2 = I 96 2 ∧ I' 101 0 = I 101 0
/-- the same, where it went well: bills asked for stay so, steps before z0 stay -/
def q_K (I I' : Nat → Nat → Int32) (z0 : Nat) : Prop := q_F I I' ∧ (∀ k, k < 5 → am_bit (I 101 2) k = 1 → am_bit (I' 101 2) k = 1) ∧ I' 96 3 = I 96 3 ∧ ∀ k, k < z0 → I' 106 k = I 106 k ∧ I' 107 k = I 107 k
/-- the reader alone has moved -/
def q_S (I I' : Nat → Nat → Int32) : Prop := (∀ a, a ≠ 96 → I' a = I a) ∧ I' 96 2 = I 96 2 ∧ I' 96 3 = I 96 3
/-- tokens T, N of them, as the class has them -/
def q_E (S : List (Nat × Nat)) (I : Nat → Nat → Int32) (P : Nat → Nat → Option Nat) (T : Tk) (N : Nat) (C V : Nat → Int32) (pl : Nat → Nat) : Prop :=
  am_Lay S P ∧ N ≤ 400 ∧ tk_R T N C V ∧ I 97 0 = nI (N + 1) ∧ (∀ i, i ≤ N → I 99 i = C i ∧ I 100 i = V i ∧ I 98 i = nI (pl i) ∧ pl i ≤ 400) ∧ I 96 2 = (if T.2.2 = true then 1 else 0)
section
variable {I I1 I2 I' : Nat → Nat → Int32} {z0 z1 z i lv : Nat} {C V : Nat → Int32} {pl : Nat → Nat} {x y : Int32} {S : List (Nat × Nat)} {P : Nat → Nat → Option Nat} {T : Tk} {N : Nat}
theorem q_F.tr (a : q_F I I1) (b : q_F I1 I2) : q_F I I2 := ⟨fun q h1 h2 h3 h4 => (b.1 q h1 h2 h3 h4).trans (a.1 q h1 h2 h3 h4), b.2.1.trans a.2.1, b.2.2.trans a.2.2⟩
theorem q_F_0 : q_F I I := ⟨fun _ _ _ _ _ => rfl, rfl, rfl⟩
theorem q_K_0 : q_K I I z0 := ⟨q_F_0, fun _ _ q => q, rfl, fun _ _ => ⟨rfl, rfl⟩⟩
theorem q_K.tr (a : q_K I I1 z0) (b : q_K I1 I2 z1) (h : z0 ≤ z1) : q_K I I2 z0 := ⟨a.1.tr b.1, fun k hk q => b.2.1 k hk (a.2.1 k hk q), b.2.2.1.trans a.2.2.1, fun k hk => ⟨(b.2.2.2 k (by omega)).1.trans (a.2.2.2 k hk).1, (b.2.2.2 k (by omega)).2.trans (a.2.2.2 k hk).2⟩⟩
theorem q_S.F (a : q_S I I') : q_F I I' := ⟨fun q h1 _ _ _ => a.1 q h1, a.2.1, by rw [a.1 101 (by decide)]⟩
theorem q_S.K (a : q_S I I') : q_K I I' z0 := ⟨a.F, fun k _ q => by rw [a.1 101 (by decide)]; exact q, a.2.2, fun k _ => by rw [a.1 106 (by decide), a.1 107 (by decide)]; exact ⟨rfl, rfl⟩⟩
theorem q_E.F (E : q_E S I P T N C V pl) (a : q_F I I') : q_E S I' P T N C V pl := by
  obtain ⟨h1, h2, h3, h4, h5, h6⟩ := E
  refine ⟨h1, h2, h3, ?_, fun i hi => ?_, ?_⟩
  · rw [a.1 97 (by decide) (by decide) (by decide) (by decide)]; exact h4
  · rw [a.1 98 (by decide) (by decide) (by decide) (by decide), a.1 99 (by decide) (by decide) (by decide) (by decide), a.1 100 (by decide) (by decide) (by decide) (by decide)]; exact h5 i hi
  · rw [a.2.1]; exact h6
/-- a step laid down -/
def tx_ad (I : Nat → Nat → Int32) (z : Nat) (x y : Int32) : Nat → Nat → Int32 := am_u (am_u (am_u I 106 z x) 107 z y) 101 1 (nI (z + 1))
theorem tx_K (h : z0 ≤ z) : q_K I (tx_ad I z x y) z0 := by
  unfold tx_ad
  refine ⟨⟨fun a h1 h2 h3 h4 => ?_, ?_, ?_⟩, fun k _ q => ?_, ?_, fun k hk => ⟨?_, ?_⟩⟩
  · rw [am_u_ne h2, am_u_ne h4, am_u_ne h3]
  · rw [am_u_ne (by decide), am_u_ne (by decide), am_u_ne (by decide)]
  · rw [am_u_at (by decide), am_u_ne (by decide), am_u_ne (by decide)]
  · rw [am_u_at (by decide), am_u_ne (by decide), am_u_ne (by decide)]; exact q
  · rw [am_u_ne (by decide), am_u_ne (by decide), am_u_ne (by decide)]
  · rw [am_u_ne (by decide), am_u_ne (by decide), am_u_at (by omega)]
  · rw [am_u_ne (by decide), am_u_at (by omega), am_u_ne (by decide)]
theorem tx_A (h : q_A C V pl I i lv z) : q_A C V pl (tx_ad I z x y) i lv (z + 1) := by
  obtain ⟨h1, h2, h3, h4, h5, h6⟩ := h
  have e : tx_ad I z x y 96 = I 96 := by unfold tx_ad; rw [am_u_ne (by decide), am_u_ne (by decide), am_u_ne (by decide)]
  unfold q_A
  rw [e]
  exact ⟨h1, h2, h3, h4, h5, am_u_self⟩
theorem tx_1 : tx_ad I z x y 106 z = x ∧ tx_ad I z x y 107 z = y := by
  unfold tx_ad
  exact ⟨by rw [am_u_ne (by decide), am_u_ne (by decide), am_u_self], by rw [am_u_ne (by decide), am_u_self]⟩
theorem tx_at {l : List (Nat × Int32)} {c : Nat} (h : k_at (I 106) (I 107) z0 l) (hz : z = z0 + l.length) : k_at (tx_ad I z (nI c) y 106) (tx_ad I z (nI c) y 107) z0 (l ++ [(c, y)]) := by
  have q := tx_K (I := I) (x := nI c) (y := y) (Nat.le_refl z)
  obtain ⟨t1, t2⟩ := tx_1 (I := I) (z := z) (x := nI c) (y := y)
  refine k_at_ap (k_at_cg (fun k h1 h2 => q.2.2.2 k (by omega)) h) ?_
  rw [← hz]
  exact k_at_1 t1 t2
theorem k_at_K {l : List (Nat × Int32)} (h : k_at (I 106) (I 107) z0 l) (q : q_K I I' z) (hz : z0 + l.length ≤ z) : k_at (I' 106) (I' 107) z0 l := k_at_cg (fun k _ h2 => q.2.2.2 k (by omega)) h
end
section
variable {pr : am_Pr} {d : Nat} {S : List (Nat × Nat)} {I : Nat → Nat → Int32} {J : Nat → Nat → Int64} {P : Nat → Nat → Option Nat} {Q : Option Value → am_H → Prop} {T : Tk} {N i lv z : Nat} {C V : Nat → Int32} {pl : Nat → Nat}
theorem c70 (E : q_E S I P T N C V pl) {n : Nat} (hn : I 96 4 = nI n) (hN : n ≤ N) (k : ∀ I', q_S I I' → I' 96 4 = nI (n + 1) → I' 96 5 = C n → I' 96 6 = V n → I' 96 7 = nI (pl n) → I' 96 8 = I 96 8 → Q none (S, I', J, P)) : am_ev pr d 70 [.ref 96] (S, I, J, P) Q := by
  obtain ⟨L, hN4, -, h97, ht, -⟩ := E
  obtain ⟨e1, e2, e3, e4⟩ := ht n hN
  show am_wp pr d 70 0 [(0, .ref 96)] [] _ _
  refine w70_0 rfl ?_
  refine w70_1 ?_
  rw [hn]
  refine w70_4 (fun hQ => absurd hQ (nI_pos (by omega))) (fun _ => ?_)
  refine w70_7 rfl ?_
  refine w70_8 ?_
  rw [hn]
  refine w70_11 rfl ?_
  refine w70_12 (L.2 _ _ _ rfl) ?_
  refine w70_15 ?_
  rw [h97]
  refine w70_18 (fun hQ => absurd hQ (am_nlt (by omega) (by omega))) (fun _ => ?_)
  refine w70_21 rfl ?_
  refine w70_22 ?_
  rw [hn]
  refine w70_25 ?_
  refine w70_28 (fun hQ => absurd hQ (am_nlt (n := 401) (by omega) (by decide))) (fun _ => ?_)
  refine w70_31 rfl ?_
  refine w70_32 rfl ?_
  refine w70_33 (L.2 _ _ _ rfl) ?_
  refine w70_36 (L.2 _ _ _ rfl) ?_
  refine w70_39 rfl ?_
  refine w70_40 ?_
  rw [hn]
  refine w70_43 (L.sh rfl) (am_in_nI (by omega) (by decide)) ?_
  rw [am_clN (by omega), e1]
  refine w70_44 ?_
  refine w70_47 rfl ?_
  refine w70_48 rfl ?_
  refine w70_49 (L.2 _ _ _ rfl) ?_
  refine w70_52 (L.2 _ _ _ rfl) ?_
  refine w70_55 rfl ?_
  refine w70_56 ?_
  rw [am_u_at (by decide), hn]
  refine w70_59 (L.sh rfl) (am_in_nI (by omega) (by decide)) ?_
  rw [am_clN (by omega), am_u_ne (by decide), e2]
  refine w70_60 ?_
  refine w70_63 rfl ?_
  refine w70_64 rfl ?_
  refine w70_65 (L.2 _ _ _ rfl) ?_
  refine w70_68 (L.2 _ _ _ rfl) ?_
  refine w70_71 rfl ?_
  refine w70_72 ?_
  rw [am_u_at (by decide), am_u_at (by decide), hn]
  refine w70_75 (L.sh rfl) (am_in_nI (by omega) (by decide)) ?_
  rw [am_clN (by omega), am_u_ne (by decide), am_u_ne (by decide), e3]
  refine w70_76 ?_
  refine w70_79 rfl ?_
  refine w70_80 rfl ?_
  refine w70_81 ?_
  rw [am_u_at (by decide), am_u_at (by decide), am_u_at (by decide), hn]
  refine w70_84 ?_
  refine w70_85 ?_
  rw [nI_1]
  refine w70_86 ?_
  refine w70_89 ?_
  refine k _ ⟨fun a ha => ?_, ?_, ?_⟩ am_u_self ?_ ?_ ?_ ?_
  · rw [am_u_ne ha, am_u_ne ha, am_u_ne ha, am_u_ne ha]
  · rw [am_u_at (by decide), am_u_at (by decide), am_u_at (by decide), am_u_at (by decide)]
  · rw [am_u_at (by decide), am_u_at (by decide), am_u_at (by decide), am_u_at (by decide)]
  · rw [am_u_at (by decide), am_u_at (by decide), am_u_at (by decide), am_u_self]
  · rw [am_u_at (by decide), am_u_at (by decide), am_u_self]
  · rw [am_u_at (by decide), am_u_self]
  · rw [am_u_at (by decide), am_u_at (by decide), am_u_at (by decide), am_u_at (by decide)]
theorem c70e (E : q_E S I P T N C V pl) (hn : I 96 4 = nI (N + 1)) (k : Q none (S, I, J, P)) : am_ev pr d 70 [.ref 96] (S, I, J, P) Q := by
  obtain ⟨L, hN4, -, h97, ht, -⟩ := E
  show am_wp pr d 70 0 [(0, .ref 96)] [] _ _
  refine w70_0 rfl ?_
  refine w70_1 ?_
  rw [hn]
  refine w70_4 (fun hQ => absurd hQ (nI_pos (by omega))) (fun _ => ?_)
  refine w70_7 rfl ?_
  refine w70_8 ?_
  rw [hn]
  refine w70_11 rfl ?_
  refine w70_12 (L.2 _ _ _ rfl) ?_
  refine w70_15 ?_
  rw [h97]
  refine w70_18 (fun _ => ?_) (fun hQ => absurd (Int32.le_refl _) hQ)
  refine w70_89 ?_
  exact k
theorem q_A_S {I' : Nat → Nat → Int32} (A : q_A C V pl I i lv z) (s : q_S I I') (h1 : I' 96 4 = nI (i + 1 + 1)) (h2 : I' 96 5 = C (i + 1)) (h3 : I' 96 6 = V (i + 1)) (h4 : I' 96 7 = nI (pl (i + 1))) (h5 : I' 96 8 = I 96 8) : q_A C V pl I' (i + 1) lv z := ⟨h1, h2, h3, h4, h5.trans A.2.2.2.2.1, by rw [s.1 101 (by decide)]; exact A.2.2.2.2.2⟩
/-- advance -/
theorem c70a (E : q_E S I P T N C V pl) (A : q_A C V pl I i lv z) (hi : i < N) (k : ∀ I', q_S I I' → q_A C V pl I' (i + 1) lv z → Q none (S, I', J, P)) : am_ev pr d 70 [.ref 96] (S, I, J, P) Q := c70 E A.1 hi (fun I' s h1 h2 h3 h4 h5 => k I' s (q_A_S A s h1 h2 h3 h4 h5))
/-- take -/
theorem c72 (E : q_E S I P T N C V pl) (A : q_A C V pl I i lv z) {x y : Nat} (h : (x, y) ∈ k_mp) (k1 : T.1 i = nI y → i < N → ∀ I', q_S I I' → q_A C V pl I' (i + 1) lv z → Q (some (.int 1)) (S, I', J, P)) (k0 : ¬ T.1 i = nI y → Q (some (.int 0)) (S, I, J, P)) : am_ev pr (d + 1) 72 [.ref 96, .int (nI x)] (S, I, J, P) Q := by
  have L := E.1
  have tr := E.2.2.1
  have m := tr.2.2.1 i x y h
  show am_wp pr (d + 1) 72 0 [(0, .ref 96), (1, .int (nI x))] [] _ _
  by_cases q : C i = nI x
  · have hy := m.mp q
    have hi : i < N := p_lt tr.1 (by rw [hy]; exact k_mp_0 h)
    refine w72_0 rfl ?_
    refine w72_1 ?_
    rw [A.2.1]
    refine w72_4 rfl ?_
    refine w72_5 (fun _ => ?_) (fun hQ => absurd q hQ)
    refine w72_10 rfl ?_
    refine w72_11 (k := c70a E A hi (fun I' s A' => ?_))
    refine w72_14 ?_
    refine w72_15 (by first | rfl | exact am_narrow_b _) ?_
    exact k1 hy hi I' s A'
  · refine w72_0 rfl ?_
    refine w72_1 ?_
    rw [A.2.1]
    refine w72_4 rfl ?_
    refine w72_5 (fun hQ => absurd hQ q) (fun _ => ?_)
    refine w72_8 ?_
    refine w72_9 (by first | rfl | exact am_narrow_b _) ?_
    exact k0 (fun w => q (m.mpr w))
/-- fail -/
theorem c74 (L : am_Lay S P) {x : Int32} (h : I 96 7 = x) (k : Q (some (.int 0)) (S, am_u I 96 3 x, J, P)) : am_ev pr d 74 [.ref 96] (S, I, J, P) Q := by
  show am_wp pr d 74 0 [(0, .ref 96)] [] _ _
  refine w74_0 rfl ?_
  refine w74_1 rfl ?_
  refine w74_2 ?_
  rw [h]
  refine w74_5 ?_
  refine w74_8 ?_
  refine w74_9 (by first | rfl | exact am_narrow_b _) ?_
  exact k
theorem q_F_3 {x : Int32} : q_F I (am_u I 96 3 x) := ⟨fun a h1 _ _ _ => am_u_ne h1, am_u_at (by decide), by rw [am_u_ne (by decide)]⟩
theorem tk_v (tr : tk_R T N C V) {m : Nat} (hm : m ≤ 1000) (i : Nat) : (V i ≤ nI m ↔ T.2.1 i ≤ nI m) ∧ (V i ≤ nI m → ∃ v, v ≤ m ∧ T.2.1 i = nI v ∧ V i = nI v) := by
  obtain ⟨v, h1, h2, h3⟩ := tr.2.2.2 i
  rw [h2, h3, nI_leI (by omega) (by omega), nI_leI h1 (by omega)]
  refine ⟨by omega, fun q => ⟨v, by omega, rfl, by rw [Nat.min_eq_left (by omega)]⟩⟩
/-- numberTo -/
theorem c79 (E : q_E S I P T N C V pl) (A : q_A C V pl I i lv z) {m : Nat} (hm : m ≤ 1000) (k1 : ∀ v, T.1 i = 50 → T.2.1 i = nI v → v ≤ m → Q (some (.int (nI v))) (S, I, J, P)) (k0 : ¬ (T.1 i = 50 ∧ T.2.1 i ≤ nI m) → Q (some (.int (-1))) (S, I, J, P)) : am_ev pr d 79 [.ref 96, .int (nI m)] (S, I, J, P) Q := by
  have L := E.1
  have tr := E.2.2.1
  have m1 := tr.2.2.1 i 256 50 (by decide)
  obtain ⟨t1, t2⟩ := tk_v tr hm i
  show am_wp pr d 79 0 [(0, .ref 96), (1, .int (nI m))] [] _ _
  by_cases q : C i = nI 256
  · by_cases w : V i ≤ nI m
    · obtain ⟨v, v1, v2, v3⟩ := t2 w
      refine w79_0 rfl ?_
      refine w79_1 ?_
      rw [A.2.1]
      refine w79_4 ?_
      refine w79_7 (fun hQ => absurd hQ (fun y => y q)) (fun _ => ?_)
      refine w79_10 rfl ?_
      refine w79_11 ?_
      rw [A.2.2.1]
      refine w79_14 rfl ?_
      refine w79_15 (fun hQ => absurd hQ (Int32.not_lt.mpr w)) (fun _ => ?_)
      refine w79_18 rfl ?_
      refine w79_19 ?_
      rw [A.2.2.1, v3]
      refine w79_22 ?_
      refine w79_26 ?_
      exact k1 v (m1.mp q) v2 v1
    · refine w79_0 rfl ?_
      refine w79_1 ?_
      rw [A.2.1]
      refine w79_4 ?_
      refine w79_7 (fun hQ => absurd hQ (fun y => y q)) (fun _ => ?_)
      refine w79_10 rfl ?_
      refine w79_11 ?_
      rw [A.2.2.1]
      refine w79_14 rfl ?_
      refine w79_15 (fun _ => ?_) (fun hQ => absurd (Int32.not_le.mp w) hQ)
      refine w79_25 ?_
      refine w79_26 ?_
      exact k0 (fun y => w (t1.mpr y.2))
  · refine w79_0 rfl ?_
    refine w79_1 ?_
    rw [A.2.1]
    refine w79_4 ?_
    refine w79_7 (fun _ => ?_) (fun hQ => absurd q hQ)
    refine w79_25 ?_
    refine w79_26 ?_
    exact k0 (fun y => q (m1.mpr y.1))
/-- orderWord, lawWord -/
theorem c80 (tr : tk_R T N C V) (k1 : ∀ c, 14 ≤ c → c ≤ 20 → T.1 i = nI c → Q (some (.int (nI (k_word true c 0)))) (S, I, J, P)) (k0 : ¬ (14 ≤ T.1 i ∧ T.1 i ≤ 20) → Q (some (.int (-1))) (S, I, J, P)) : am_ev pr d 80 [.int (C i)] (S, I, J, P) Q := by
  show am_wp pr d 80 0 [(0, .int (C i))] [] _ _
  rcases am_sw315_326 (C i) with h315 | h316 | h317 | h318 | h319 | h320 | h321 | h322 | h323 | h324 | h325 | h326 | hd
  · have q : T.1 i = nI 14 := (tr.2.2.1 i 315 14 (by decide)).mp h315
    rw [h315]
    refine w80_0 rfl ?_
    refine w80_1_315 ?_
    refine w80_76 ?_
    refine w80_78 ?_
    exact k1 14 (by decide) (by decide) q
  · have q : T.1 i = nI 9 := (tr.2.2.1 i 316 9 (by decide)).mp h316
    rw [h316]
    refine w80_0 rfl ?_
    refine w80_1_316 ?_
    refine w80_79 ?_
    refine w80_80 ?_
    exact k0 (by rw [q]; decide)
  · have q : T.1 i = nI 10 := (tr.2.2.1 i 317 10 (by decide)).mp h317
    rw [h317]
    refine w80_0 rfl ?_
    refine w80_1_317 ?_
    refine w80_79 ?_
    refine w80_80 ?_
    exact k0 (by rw [q]; decide)
  · have q : T.1 i = nI 11 := (tr.2.2.1 i 318 11 (by decide)).mp h318
    rw [h318]
    refine w80_0 rfl ?_
    refine w80_1_318 ?_
    refine w80_79 ?_
    refine w80_80 ?_
    exact k0 (by rw [q]; decide)
  · have q : T.1 i = nI 12 := (tr.2.2.1 i 319 12 (by decide)).mp h319
    rw [h319]
    refine w80_0 rfl ?_
    refine w80_1_319 ?_
    refine w80_79 ?_
    refine w80_80 ?_
    exact k0 (by rw [q]; decide)
  · have q : T.1 i = nI 15 := (tr.2.2.1 i 320 15 (by decide)).mp h320
    rw [h320]
    refine w80_0 rfl ?_
    refine w80_1_320 ?_
    refine w80_70 ?_
    refine w80_71 ?_
    exact k1 15 (by decide) (by decide) q
  · have q : T.1 i = nI 16 := (tr.2.2.1 i 321 16 (by decide)).mp h321
    rw [h321]
    refine w80_0 rfl ?_
    refine w80_1_321 ?_
    refine w80_64 ?_
    refine w80_65 ?_
    exact k1 16 (by decide) (by decide) q
  · have q : T.1 i = nI 13 := (tr.2.2.1 i 322 13 (by decide)).mp h322
    rw [h322]
    refine w80_0 rfl ?_
    refine w80_1_322 ?_
    refine w80_79 ?_
    refine w80_80 ?_
    exact k0 (by rw [q]; decide)
  · have q : T.1 i = nI 17 := (tr.2.2.1 i 323 17 (by decide)).mp h323
    rw [h323]
    refine w80_0 rfl ?_
    refine w80_1_323 ?_
    refine w80_66 ?_
    refine w80_67 ?_
    exact k1 17 (by decide) (by decide) q
  · have q : T.1 i = nI 18 := (tr.2.2.1 i 324 18 (by decide)).mp h324
    rw [h324]
    refine w80_0 rfl ?_
    refine w80_1_324 ?_
    refine w80_68 ?_
    refine w80_69 ?_
    exact k1 18 (by decide) (by decide) q
  · have q : T.1 i = nI 19 := (tr.2.2.1 i 325 19 (by decide)).mp h325
    rw [h325]
    refine w80_0 rfl ?_
    refine w80_1_325 ?_
    refine w80_72 ?_
    refine w80_73 ?_
    exact k1 19 (by decide) (by decide) q
  · have q : T.1 i = nI 20 := (tr.2.2.1 i 326 20 (by decide)).mp h326
    rw [h326]
    refine w80_0 rfl ?_
    refine w80_1_326 ?_
    refine w80_74 ?_
    refine w80_75 ?_
    exact k1 20 (by decide) (by decide) q
  · refine w80_0 rfl ?_
    refine w80_1_d hd ?_
    refine w80_79 ?_
    refine w80_80 ?_
    refine k0 (fun w => ?_)
    obtain ⟨c, hc1, hc2, hc⟩ := i_bt (a := 14) (b := 20) (by decide) w.1 w.2
    have ne : ∀ x, (x, c) ∈ k_mp → ¬ (315 ≤ x ∧ x ≤ 326) := fun x hx hr => by
      have q := (tr.2.2.1 i x c hx).mpr hc
      rw [q, nI_toInt (by omega)] at hd
      omega
    rcases (show c = 14 ∨ c = 15 ∨ c = 16 ∨ c = 17 ∨ c = 18 ∨ c = 19 ∨ c = 20 by omega) with rfl | rfl | rfl | rfl | rfl | rfl | rfl
    · exact ne 315 (by decide) (by decide)
    · exact ne 320 (by decide) (by decide)
    · exact ne 321 (by decide) (by decide)
    · exact ne 323 (by decide) (by decide)
    · exact ne 324 (by decide) (by decide)
    · exact ne 325 (by decide) (by decide)
    · exact ne 326 (by decide) (by decide)
theorem c81 (tr : tk_R T N C V) (k1 : ∀ c, 8 ≤ c → c ≤ 16 → T.1 i = nI c → Q (some (.int (nI (k_word false c 0)))) (S, I, J, P)) (k0 : ¬ (8 ≤ T.1 i ∧ T.1 i ≤ 16) → Q (some (.int (-1))) (S, I, J, P)) : am_ev pr d 81 [.int (C i)] (S, I, J, P) Q := by
  show am_wp pr d 81 0 [(0, .int (C i))] [] _ _
  rcases am_sw314_322 (C i) with h314 | h315 | h316 | h317 | h318 | h319 | h320 | h321 | h322 | hd
  · have q : T.1 i = nI 8 := (tr.2.2.1 i 314 8 (by decide)).mp h314
    rw [h314]
    refine w81_0 rfl ?_
    refine w81_1_314 ?_
    refine w81_52 ?_
    refine w81_53 ?_
    exact k1 8 (by decide) (by decide) q
  · have q : T.1 i = nI 14 := (tr.2.2.1 i 315 14 (by decide)).mp h315
    rw [h315]
    refine w81_0 rfl ?_
    refine w81_1_315 ?_
    refine w81_54 ?_
    refine w81_55 ?_
    exact k1 14 (by decide) (by decide) q
  · have q : T.1 i = nI 9 := (tr.2.2.1 i 316 9 (by decide)).mp h316
    rw [h316]
    refine w81_0 rfl ?_
    refine w81_1_316 ?_
    refine w81_56 ?_
    refine w81_57 ?_
    exact k1 9 (by decide) (by decide) q
  · have q : T.1 i = nI 10 := (tr.2.2.1 i 317 10 (by decide)).mp h317
    rw [h317]
    refine w81_0 rfl ?_
    refine w81_1_317 ?_
    refine w81_58 ?_
    refine w81_59 ?_
    exact k1 10 (by decide) (by decide) q
  · have q : T.1 i = nI 11 := (tr.2.2.1 i 318 11 (by decide)).mp h318
    rw [h318]
    refine w81_0 rfl ?_
    refine w81_1_318 ?_
    refine w81_60 ?_
    refine w81_61 ?_
    exact k1 11 (by decide) (by decide) q
  · have q : T.1 i = nI 12 := (tr.2.2.1 i 319 12 (by decide)).mp h319
    rw [h319]
    refine w81_0 rfl ?_
    refine w81_1_319 ?_
    refine w81_62 ?_
    refine w81_63 ?_
    exact k1 12 (by decide) (by decide) q
  · have q : T.1 i = nI 15 := (tr.2.2.1 i 320 15 (by decide)).mp h320
    rw [h320]
    refine w81_0 rfl ?_
    refine w81_1_320 ?_
    refine w81_64 ?_
    refine w81_66 ?_
    exact k1 15 (by decide) (by decide) q
  · have q : T.1 i = nI 16 := (tr.2.2.1 i 321 16 (by decide)).mp h321
    rw [h321]
    refine w81_0 rfl ?_
    refine w81_1_321 ?_
    refine w81_67 ?_
    refine w81_69 ?_
    exact k1 16 (by decide) (by decide) q
  · have q : T.1 i = nI 13 := (tr.2.2.1 i 322 13 (by decide)).mp h322
    rw [h322]
    refine w81_0 rfl ?_
    refine w81_1_322 ?_
    refine w81_70 ?_
    refine w81_72 ?_
    exact k1 13 (by decide) (by decide) q
  · refine w81_0 rfl ?_
    refine w81_1_d hd ?_
    refine w81_73 ?_
    refine w81_74 ?_
    refine k0 (fun w => ?_)
    obtain ⟨c, hc1, hc2, hc⟩ := i_bt (a := 8) (b := 16) (by decide) w.1 w.2
    have ne : ∀ x, (x, c) ∈ k_mp → ¬ (314 ≤ x ∧ x ≤ 322) := fun x hx hr => by
      have q := (tr.2.2.1 i x c hx).mpr hc
      rw [q, nI_toInt (by omega)] at hd
      omega
    rcases (show c = 8 ∨ c = 9 ∨ c = 10 ∨ c = 11 ∨ c = 12 ∨ c = 13 ∨ c = 14 ∨ c = 15 ∨ c = 16 by omega) with rfl | rfl | rfl | rfl | rfl | rfl | rfl | rfl | rfl
    · exact ne 314 (by decide) (by decide)
    · exact ne 316 (by decide) (by decide)
    · exact ne 317 (by decide) (by decide)
    · exact ne 318 (by decide) (by decide)
    · exact ne 319 (by decide) (by decide)
    · exact ne 322 (by decide) (by decide)
    · exact ne 315 (by decide) (by decide)
    · exact ne 320 (by decide) (by decide)
    · exact ne 321 (by decide) (by decide)
/-- Text: add -/
theorem c83 (L : am_Lay S P) (hz : I 101 1 = nI z) (h : z < 480) {x y : Int32} (k : Q (some (.int (nI z))) (S, tx_ad I z x y, J, P)) : am_ev pr d 83 [.ref 101, .int x, .int y] (S, I, J, P) Q := by
  show am_wp pr d 83 0 [(0, .ref 101), (1, .int x), (2, .int y)] [] _ _
  refine w83_0 rfl ?_
  refine w83_1 ?_
  rw [hz]
  refine w83_4 ?_
  refine w83_5 rfl ?_
  refine w83_6 (fun hQ => absurd hQ (nI_pos (by omega))) (fun _ => ?_)
  refine w83_9 rfl ?_
  refine w83_10 rfl ?_
  refine w83_11 (L.2 _ _ _ rfl) ?_
  refine w83_14 (L.sh rfl) (by decide) ?_
  refine w83_15 (fun hQ => absurd hQ (am_nlt (n := 480) h (by decide))) (fun _ => ?_)
  refine w83_18 rfl ?_
  refine w83_19 rfl ?_
  refine w83_20 (L.2 _ _ _ rfl) ?_
  refine w83_23 (L.sh rfl) (by decide) ?_
  refine w83_24 (fun _ => ?_) (fun hQ => absurd (nI_lt (b := 480) h (by decide)) hQ)
  refine w83_29 rfl ?_
  refine w83_30 (L.2 _ _ _ rfl) ?_
  refine w83_33 rfl ?_
  refine w83_34 rfl ?_
  refine w83_35 (L.sh rfl) (am_in_nI h (by decide)) ?_
  rw [am_clN (by omega)]
  refine w83_36 rfl ?_
  refine w83_37 (L.2 _ _ _ rfl) ?_
  refine w83_40 rfl ?_
  refine w83_41 rfl ?_
  refine w83_42 (L.sh rfl) (am_in_nI h (by decide)) ?_
  rw [am_clN (by omega)]
  refine w83_43 rfl ?_
  refine w83_44 rfl ?_
  refine w83_45 ?_
  refine w83_46 ?_
  rw [nI_1]
  refine w83_47 ?_
  refine w83_50 rfl ?_
  refine w83_51 ?_
  exact k
theorem c83x (L : am_Lay S P) {x y : Int32} (k : ∀ r I', (∀ a, a ≠ 101 → a ≠ 106 → a ≠ 107 → I' a = I a) → I' 101 0 = I 101 0 → Q (some (.int r)) (S, I', J, P)) : am_ev pr d 83 [.ref 101, .int x, .int y] (S, I, J, P) Q := by
  by_cases h0 : I 101 1 < 0
  · show am_wp pr d 83 0 [(0, .ref 101), (1, .int x), (2, .int y)] [] _ _
    refine w83_0 rfl ?_
    refine w83_1 ?_
    refine w83_4 ?_
    refine w83_5 rfl ?_
    refine w83_6 (fun _ => ?_) (fun hQ => absurd h0 hQ)
    refine w83_27 ?_
    refine w83_28 ?_
    exact k _ I (fun _ _ _ _ => rfl) rfl
  · obtain ⟨j, hj, e⟩ := nI_of h0
    by_cases h : j < 480
    · refine c83 L e h (k _ _ (fun a h1 h2 h3 => ?_) ?_)
      · unfold tx_ad
        rw [am_u_ne h1, am_u_ne h3, am_u_ne h2]
      · unfold tx_ad
        rw [am_u_at (by decide), am_u_ne (by decide), am_u_ne (by decide)]
    · show am_wp pr d 83 0 [(0, .ref 101), (1, .int x), (2, .int y)] [] _ _
      refine w83_0 rfl ?_
      refine w83_1 ?_
      rw [e]
      refine w83_4 ?_
      refine w83_5 rfl ?_
      refine w83_6 (fun hQ => absurd hQ (nI_pos (by omega))) (fun _ => ?_)
      refine w83_9 rfl ?_
      refine w83_10 rfl ?_
      refine w83_11 (L.2 _ _ _ rfl) ?_
      refine w83_14 (L.sh rfl) (by decide) ?_
      refine w83_15 (fun _ => ?_) (fun hQ => absurd (nI_le (a := 480) (by omega) hj) hQ)
      refine w83_27 ?_
      refine w83_28 ?_
      exact k _ I (fun _ _ _ _ => rfl) rfl
/-- Text: landHere -/
theorem c90 (L : am_Lay S P) {q : Nat} (h : q < 480) {x : Int32} (hz : I 101 1 = x) (k : Q none (S, am_u I 107 q x, J, P)) : am_ev pr d 90 [.ref 101, .int (nI q)] (S, I, J, P) Q := by
  show am_wp pr d 90 0 [(0, .ref 101), (1, .int (nI q))] [] _ _
  refine w90_0 rfl ?_
  refine w90_1 (fun hQ => absurd hQ (nI_pos (by omega))) (fun _ => ?_)
  refine w90_4 rfl ?_
  refine w90_5 rfl ?_
  refine w90_6 (L.2 _ _ _ rfl) ?_
  refine w90_9 (L.sh rfl) (by decide) ?_
  refine w90_10 (fun hQ => absurd hQ (am_nlt (n := 480) h (by decide))) (fun _ => ?_)
  refine w90_13 rfl ?_
  refine w90_14 (L.2 _ _ _ rfl) ?_
  refine w90_17 rfl ?_
  refine w90_18 rfl ?_
  refine w90_19 ?_
  rw [hz]
  refine w90_22 (L.sh rfl) (am_in_nI h (by decide)) ?_
  rw [am_clN (by omega)]
  refine w90_23 ?_
  exact k
theorem c90x (L : am_Lay S P) {y : Int32} (k : ∀ I', (∀ a, a ≠ 107 → I' a = I a) → Q none (S, I', J, P)) : am_ev pr d 90 [.ref 101, .int y] (S, I, J, P) Q := by
  by_cases h0 : y < 0
  · show am_wp pr d 90 0 [(0, .ref 101), (1, .int y)] [] _ _
    refine w90_0 rfl ?_
    refine w90_1 (fun _ => ?_) (fun hQ => absurd h0 hQ)
    refine w90_23 ?_
    exact k I (fun _ _ => rfl)
  · obtain ⟨j, hj, rfl⟩ := nI_of h0
    by_cases h : j < 480
    · exact c90 L h rfl (k _ (fun a ha => am_u_ne ha))
    · show am_wp pr d 90 0 [(0, .ref 101), (1, .int (nI j))] [] _ _
      refine w90_0 rfl ?_
      refine w90_1 (fun hQ => absurd hQ h0) (fun _ => ?_)
      refine w90_4 rfl ?_
      refine w90_5 rfl ?_
      refine w90_6 (L.2 _ _ _ rfl) ?_
      refine w90_9 (L.sh rfl) (by decide) ?_
      refine w90_10 (fun _ => ?_) (fun hQ => absurd (nI_le (a := 480) (by omega) hj) hQ)
      refine w90_23 ?_
      exact k I (fun _ _ => rfl)
/-- Text: setKind -/
theorem c75 (L : am_Lay S P) {c : Nat} (h : c < 12) {x : Int32} (k : Q none (S, am_u I 102 c x, J, P)) : am_ev pr d 75 [.ref 101, .int (nI c), .int x] (S, I, J, P) Q := by
  show am_wp pr d 75 0 [(0, .ref 101), (1, .int (nI c)), (2, .int x)] [] _ _
  refine w75_0 rfl ?_
  refine w75_1 (fun hQ => absurd hQ (nI_pos (by omega))) (fun _ => ?_)
  refine w75_4 rfl ?_
  refine w75_5 ?_
  refine w75_7 (fun hQ => absurd hQ (am_nlt (n := 12) h (by decide))) (fun _ => ?_)
  refine w75_10 rfl ?_
  refine w75_11 (L.2 _ _ _ rfl) ?_
  refine w75_14 rfl ?_
  refine w75_15 rfl ?_
  refine w75_16 (L.sh rfl) (am_in_nI h (by decide)) ?_
  rw [am_clN (by omega)]
  refine w75_17 ?_
  exact k
/-- readNumbered: c 20 for, 14 voice -/
theorem c82 (E : q_E S I P T N C V pl) (A : q_A C V pl I i lv z) (hz : z < 480) {c : Nat} (hc : c = 14 ∨ c = 20) (k1 : ∀ kk, T.1 i = 50 → T.2.1 i = nI kk → kk ≤ (if c = 14 then 6 else 4) → ∀ I', q_K I I' z → q_A C V pl I' (i + 1) lv (z + 1) → I' 106 z = nI 2 → I' 107 z = nI (k_word true c kk) → (c = 20 → am_bit (I' 101 2) kk = 1) → Q (some (.int 1)) (S, I', J, P)) (k0 : ¬ (T.1 i = 50 ∧ T.2.1 i ≤ (if c = 14 then 6 else 4)) → Q (some (.int 0)) (S, am_u I 96 3 (nI (pl i)), J, P)) : am_ev pr (d + 1) 82 [.ref 96, .int (nI (k_word true c 0))] (S, I, J, P) Q := by
  have L := E.1
  have tr := E.2.2.1
  have fin : ∀ (kk : Nat) (x : Int32), kk ≤ 6 → T.1 i = 50 → I 101 2 ||| x = I 101 2 ||| x → (∀ I', q_K I I' z → q_A C V pl I' (i + 1) lv (z + 1) → I' 106 z = nI 2 → I' 107 z = nI (k_word true c kk) → I' 101 2 = I 101 2 ||| x → Q (some (.int 1)) (S, I', J, P)) → nI (k_word true c 0) + nI kk = nI (k_word true c kk) → ∀ lvv, am_ld1 lvv 0 = some (.ref 96) → am_ld1 lvv 1 = some (.int (nI (k_word true c 0))) → am_ld1 lvv 2 = some (.int (nI kk)) → am_wp pr (d + 1) 82 50 lvv [] (S, am_u I 101 2 (I 101 2 ||| x), J, P) Q := by
    intro kk x hkk h50 _ kq hw lvv l0 l1 l2
    have hi : i < N := p_lt tr.1 (by rw [h50]; decide)
    have K1 : q_K I (am_u I 101 2 (I 101 2 ||| x)) z := by
      refine ⟨⟨fun a _ h2 _ _ => am_u_ne h2, by rw [am_u_ne (by decide)], am_u_at (by decide)⟩, fun j hj w => ?_, by rw [am_u_ne (by decide)], fun j _ => ⟨by rw [am_u_ne (by decide)], by rw [am_u_ne (by decide)]⟩⟩
      rw [am_u_self]
      exact (am_bit_or (by omega)).mpr (Or.inl w)
    have A1 : q_A C V pl (am_u I 101 2 (I 101 2 ||| x)) i lv z := by
      unfold q_A
      rw [am_u_ne (show (96 : Nat) ≠ 101 by decide), am_u_at (show (1 : Nat) ≠ 2 by decide)]
      exact A
    have E1 := E.F K1.1
    refine w82_50 l0 ?_
    refine w82_51 (L.2 _ _ _ rfl) ?_
    refine w82_54 ?_
    refine w82_55 l1 ?_
    refine w82_56 l2 ?_
    refine w82_57 ?_
    rw [hw]
    refine w82_58 (k := c83 L A1.2.2.2.2.2 hz ?_)
    refine w82_61 rfl ?_
    refine w82_62 l0 ?_
    have K2 := K1.tr (tx_K (I := am_u I 101 2 (I 101 2 ||| x)) (x := 2) (y := nI (k_word true c kk)) (Nat.le_refl z)) (Nat.le_refl z)
    have E2 := E.F K2.1
    refine w82_63 (k := c70a E2 (tx_A A1) hi (fun I' s A' => ?_))
    obtain ⟨t1, t2⟩ := tx_1 (I := am_u I 101 2 (I 101 2 ||| x)) (z := z) (x := 2) (y := nI (k_word true c kk))
    refine w82_66 ?_
    refine w82_67 (by first | rfl | exact am_narrow_b _) ?_
    refine kq I' (K2.tr s.K (Nat.le_refl z)) A' ?_ ?_ ?_
    · rw [s.1 106 (by decide)]; exact t1
    · rw [s.1 107 (by decide)]; exact t2
    · rw [s.1 101 (by decide)]
      unfold tx_ad
      rw [am_u_at (by decide), am_u_ne (by decide), am_u_ne (by decide), am_u_self]
  show am_wp pr (d + 1) 82 0 [(0, .ref 96), (1, .int (nI (k_word true c 0)))] [] _ _
  rcases hc with rfl | rfl
  · refine w82_0 rfl ?_
    refine w82_1 rfl ?_
    refine w82_2 ?_
    refine w82_3 (fun _ => ?_) (fun hQ => absurd (by decide) hQ)
    refine w82_10 ?_
    refine w82_12 (k := c79 (m := 6) E A (by decide) (fun v h1 h2 h3 => ?_) (fun h => ?_))
    · have hv : nI (k_word true 14 0) + nI v = nI (k_word true 14 v) := nI_add 10 v
      refine w82_15 ?_
      refine w82_16 rfl ?_
      refine w82_17 ?_
      refine w82_18 (fun _ => ?_) (fun hQ => absurd (nI_nm1 (by omega)) hQ)
      refine w82_26 rfl ?_
      refine w82_27 (L.2 _ _ _ rfl) ?_
      refine w82_30 rfl ?_
      refine w82_31 ?_
      refine w82_34 rfl ?_
      refine w82_35 ?_
      refine w82_36 (fun _ => ?_) (fun hQ => absurd (by decide) hQ)
      refine w82_45 ?_
      refine w82_46 ?_
      refine w82_47 ?_
      exact fin v 0 (by omega) h1 rfl (fun I' a1 a2 a3 a4 _ => k1 v h1 h2 h3 I' a1 a2 a3 a4 (fun q => absurd q (by decide))) hv _ rfl rfl rfl
    · refine w82_15 ?_
      refine w82_16 rfl ?_
      refine w82_17 ?_
      refine w82_18 (fun hQ => absurd hQ (fun q => q rfl)) (fun _ => ?_)
      refine w82_21 rfl ?_
      refine w82_22 (k := c74 L A.2.2.2.1 ?_)
      refine w82_25 (by first | rfl | exact am_narrow_b _) ?_
      exact k0 h
  · refine w82_0 rfl ?_
    refine w82_1 rfl ?_
    refine w82_2 ?_
    refine w82_3 (fun hQ => absurd hQ (fun q => q rfl)) (fun _ => ?_)
    refine w82_6 ?_
    refine w82_7 ?_
    refine w82_12 (k := c79 (m := 4) E A (by decide) (fun v h1 h2 h3 => ?_) (fun h => ?_))
    · have hv : nI (k_word true 20 0) + nI v = nI (k_word true 20 v) := nI_add 5 v
      refine w82_15 ?_
      refine w82_16 rfl ?_
      refine w82_17 ?_
      refine w82_18 (fun _ => ?_) (fun hQ => absurd (nI_nm1 (by omega)) hQ)
      refine w82_26 rfl ?_
      refine w82_27 (L.2 _ _ _ rfl) ?_
      refine w82_30 rfl ?_
      refine w82_31 ?_
      refine w82_34 rfl ?_
      refine w82_35 ?_
      refine w82_36 (fun hQ => absurd hQ (fun q => q rfl)) (fun _ => ?_)
      refine w82_39 ?_
      refine w82_40 rfl ?_
      refine w82_41 ?_
      refine w82_42 ?_
      refine w82_46 ?_
      refine w82_47 ?_
      refine fin v _ (by omega) h1 rfl (fun I' a1 a2 a3 a4 a5 => k1 v h1 h2 h3 I' a1 a2 a3 a4 (fun _ => ?_)) hv _ rfl rfl rfl
      rw [a5]
      exact (am_bit_or (by omega)).mpr (Or.inr ((am_bit_sh1 (by omega) (by omega)).mpr rfl))
    · refine w82_15 ?_
      refine w82_16 rfl ?_
      refine w82_17 ?_
      refine w82_18 (fun hQ => absurd hQ (fun q => q rfl)) (fun _ => ?_)
      refine w82_21 rfl ?_
      refine w82_22 (k := c74 L A.2.2.2.1 ?_)
      refine w82_25 (by first | rfl | exact am_narrow_b _) ?_
      exact k0 h
end
