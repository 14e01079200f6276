/-! orders run: the reference obeys -/
/-- a number small enough is the same to both -/
theorem o_sm_y {v : Int64} {m : Nat} (hm : m < 10) (hv : v.toInt32.toInt64 = v) (h : v.toInt32 = nI m) : o_sm v = nI m := by
  have e : v.toInt = m := by rw [← hv, h, Int32.toInt_toInt64, nI_toInt (by omega)]
  unfold o_sm
  rw [if_neg (fun q => ?_), if_pos ?_, h]
  · rw [Int64.le_iff_toInt_le, e]
    have z : (1000000 : Int64).toInt = 1000000 := by decide
    omega
  · rw [Int64.lt_iff_toInt_lt, e] at q
    have z : (0 : Int64).toInt = 0 := by decide
    omega
theorem o_sm_n {v : Int64} {m : Nat} (hm : m < 10) (h : o_sm v = nI m) : v.toInt32 = nI m := by
  have g : ¬ (-1 : Int32) = nI m := fun q => nI_nm1 (by omega) q.symm
  unfold o_sm at h
  by_cases h1 : v < 0
  · rw [if_pos h1] at h
    exact absurd h g
  · rw [if_neg h1] at h
    by_cases h2 : v ≤ 1000000
    · rw [if_pos h2] at h
      exact h
    · rw [if_neg h2] at h
      exact absurd h g
/-- only small numbers count -/
theorem o_D_sm {n u hd u' : Nat} {lw : Option (List Cl)} {kp lf kp' lf' : Nat → Int32} {x y z x' y' z' v : Int32} (n7 : n ≤ 7) (hx : hd ≠ 26 → ∀ m, m < 10 → x = nI m → x' = nI m) (hy : hd = 23 → ∀ m, m < 10 → y = nI m → y' = nI m) (hz : hd = 23 → ∀ m, m < 10 → z = nI m → z' = nI m) (D : o_D n lw kp lf u hd x y z v kp' lf' u') : o_D n lw kp lf u hd x' y' z' v kp' lf' u' := by
  rcases D with ⟨ha, p, hp, h1, h2⟩ | ⟨ha, p, hp, h1, h2⟩ | ⟨ha, p, q, w, hp, hq, hw, h1, h2, h3, h4⟩ | h
  · exact Or.inl ⟨ha, p, hp, hx (by omega) p (by omega) h1, h2⟩
  · exact Or.inr (Or.inl ⟨ha, p, hp, hx (by omega) p (by omega) h1, h2⟩)
  · exact Or.inr (Or.inr (Or.inl ⟨ha, p, q, w, hp, hq, hw, hx (by omega) p (by omega) h1, hy ha q (by omega) h2, hz ha w (by omega) h3, h4⟩))
  · exact Or.inr (Or.inr (Or.inr h))
/-- bounds that last -/
def o_U (σ : OS) : Prop := σ.2.2.1 ≤ 16 ∧ ∃ t, t ≤ 999 ∧ σ.1 43 = nI t
theorem g_m_le {u : Nat} (h : u ≤ 16) : g_m u + 1 ≤ 16 := by
  unfold g_m
  split <;> omega
theorem o_T_U {n : Nat} {lw : Option (List Cl)} {x : Cl} {σ s1 : OS} (n7 : n ≤ 7) (hU : o_U σ) (a : o_T n lw x σ s1) : o_U s1 := by
  obtain ⟨h16, t, ht, et⟩ := hU
  rcases a with ⟨-, e1⟩ | ⟨-, x0, x1, x2, v, kp1, lf1, u1, -, -, -, hd, -, e1⟩
  · rw [e1]
    exact ⟨h16, t, ht, et⟩
  · rw [e1]
    show u1 ≤ 16 ∧ ∃ t, t ≤ 999 ∧ kp1 43 = nI t
    rcases hd with ⟨-, p, hp, -, -, -, e, -, eu⟩ | ⟨-, p, hp, -, -, e, -, eu⟩ | ⟨-, p, q, w, hp, hq, -, -, -, -, -, -, e, -, eu⟩ | ⟨-, t', et', ht', -, e, -, eu⟩
    · refine ⟨by rw [eu]; exact g_m_le h16, t, ht, ?_⟩
      rw [e]
      show (if 43 = 42 then _ else σ.1 43) = nI t
      rw [if_neg (by decide)]
      exact et
    · refine ⟨by rw [eu]; exact g_m_le h16, t, ht, ?_⟩
      rw [e]
      show (if 43 = 35 + p then _ else σ.1 43) = nI t
      rw [if_neg (by omega)]
      exact et
    · refine ⟨by rw [eu]; exact g_m_le h16, t, ht, ?_⟩
      rw [e]
      show (if 43 = p * 5 + q then _ else σ.1 43) = nI t
      rw [if_neg (by omega)]
      exact et
    · refine ⟨by rw [eu]; exact g_m_le h16, t' + 1, by omega, ?_⟩
      rw [e]
      show (if 43 = 43 then σ.1 43 + 1 else _) = nI (t' + 1)
      rw [if_pos rfl, et', nI_1]
/-- what the reference leaves alone while it runs a clause -/
def o_R (I I' : Nat → Nat → Int32) : Prop := (∀ a, a ≠ 124 → a ≠ 126 → ¬ (136 ≤ a ∧ a ≤ 141) → I' a = I a) ∧ ∀ q, (q < 22 ∨ 25 < q) → q ≠ 27 → q ≠ 28 → q ≠ 35 → (q < 41 ∨ 45 < q) → I' 124 q = I 124 q
theorem o_R.tr {I1 I2 I3 : Nat → Nat → Int32} (a : o_R I1 I2) (b : o_R I2 I3) : o_R I1 I3 := ⟨fun q h1 h2 h3 => (b.1 q h1 h2 h3).trans (a.1 q h1 h2 h3), fun q h1 h2 h3 h4 h5 => (b.2 q h1 h2 h3 h4 h5).trans (a.2 q h1 h2 h3 h4 h5)⟩
theorem o_R.rf {I1 : Nat → Nat → Int32} : o_R I1 I1 := ⟨fun _ _ _ _ => rfl, fun _ _ _ _ _ _ => rfl⟩
theorem o_M.R {I1 I2 : Nat → Nat → Int32} (a : o_M I1 I2) : o_R I1 I2 := ⟨fun q h1 _ h3 => a.1 q h1 (by omega), fun q h1 _ _ _ h5 => a.2 q h1 (by omega)⟩
/-- what it leaves alone while it obeys -/
def o_N (I I' : Nat → Nat → Int32) : Prop := (∀ a, a ≠ 124 → a ≠ 126 → ¬ (136 ≤ a ∧ a ≤ 141) → I' a = I a) ∧ ∀ q, (q < 22 ∨ 25 < q) → q ≠ 28 → q ≠ 35 → I' 124 q = I 124 q
theorem o_N.R {I1 I2 : Nat → Nat → Int32} (a : o_N I1 I2) : o_R I1 I2 := ⟨a.1, fun q h1 _ h3 h4 _ => a.2 q h1 h3 h4⟩
theorem HM_u {I : Nat → Nat → Int32} {kp lf : Nat → Int32} {u q : Nat} {x : Int32} (hq : q ≠ 35) (h : HM I kp lf u) : HM (am_u I 124 q x) kp lf u := by
  refine ⟨?_, ?_, fun i hi j hj => ?_⟩
  · rw [am_u_ne (by decide)]; exact h.1
  · rw [am_u_at hq.symm]; exact h.2.1
  · rw [am_u_ne (by decide)]; exact h.2.2 i hi j hj
theorem HM_cg {I I' : Nat → Nat → Int32} {kp lf : Nat → Int32} {u : Nat} (e1 : I' 126 = I 126) (e2 : I' 124 35 = I 124 35) (e3 : I' 141 = I 141) (h : HM I kp lf u) : HM I' kp lf u := by
  refine ⟨e1.trans h.1, e2.trans h.2.1, fun i hi j hj => ?_⟩
  rw [e3]
  exact h.2.2 i hi j hj
section
variable {pr : am_Pr} {d : Nat} {S : List (Nat × Nat)} {I I' M M' : Nat → Nat → Int32} {J : Nat → Nat → Int64} {P : Nat → Nat → Option Nat} {Q : Option Value → am_H → Prop} {n hd : Nat} {kp lf : Nat → Int32} {u : Nat} {lw : Option (List Cl)}
theorem c295 (L : am_Lay S P) (h : HM I kp lf u) (u16 : u ≤ 16) (hn : kp 73 = nI n) (n7 : n ≤ 7) (hlw : m_lw kp lw) (t43 : ∃ t, t ≤ 999 ∧ kp 43 = nI t) (hhd : hd = 21 ∨ hd = 22 ∨ hd = 23 ∨ hd = 26) (h43 : I 124 43 = nI hd) (ky : ∀ v kp' lf' u', o_D n lw kp lf u hd (o_sm (J 147 0)) (o_sm (J 147 1)) (o_sm (J 147 2)) v kp' lf' u' → ∀ I', o_N I I' → HM I' kp' lf' u' → (¬ v < 0 → I' 124 28 = if hd = 21 then v else I 124 28) → Q (some (.int v)) (S, I', J, P)) (kn : (¬ ∃ v kp' lf' u', o_D n lw kp lf u hd (o_sm (J 147 0)) (o_sm (J 147 1)) (o_sm (J 147 2)) v kp' lf' u') → ∀ v I', v < 0 → o_N I I' → I' 126 = I 126 → Q (some (.int v)) (S, I', J, P)) : am_ev pr (d + 47) 295 [.ref 124] (S, I, J, P) Q := by
  have hk := h.1
  have hn' : I 126 73 = nI n := by rw [hk]; exact hn
  have rN : o_N I I := ⟨fun _ _ _ _ => rfl, fun _ _ _ _ => rfl⟩
  have frN : ∀ I' : Nat → Nat → Int32, (∀ a, a ≠ 124 → a ≠ 126 → a ≠ 141 → I' a = I a) → (∀ q, q ≠ 35 → I' 124 q = I 124 q) → o_N I I' := fun I' f g => ⟨fun a a1 a2 a3 => f a a1 a2 (by omega), fun q _ _ q3 => g q q3⟩
  show am_wp pr (d + 47) 295 0 [(0, .ref 124)] [] _ _
  refine w295_0 rfl ?_
  refine w295_1 (L.2 _ _ _ rfl) ?_
  refine w295_4 ?_
  refine w295_5 (L.sh rfl) (by decide) ?_
  rw [show Int32.toNatClampNeg 0 = 0 from rfl]
  refine w295_6 (k := c296 ?_)
  rcases hhd with rfl | rfl | rfl | rfl
  · refine w295_9 ?_
    refine w295_10 rfl ?_
    refine w295_11 ?_
    rw [h43]
    refine w295_14_d (Or.inl (by decide)) ?_
    have fin : ∀ (v : Int32) (I1 : Nat → Nat → Int32), (¬ v < 0 → Q (some (.int v)) (S, am_u I1 124 28 v, J, P)) → (v < 0 → Q (some (.int v)) (S, am_u I1 124 28 (I1 124 28), J, P)) → ∀ lvv, am_ld1 lvv 0 = some (.ref 124) → am_wp pr (d + 47) 295 88 lvv [.int v] (S, I1, J, P) Q := by
      intro v I1 q1 q2 lvv l0
      by_cases hv : v < 0
      · refine w295_88 ?_
        refine w295_89 l0 ?_
        refine w295_90 rfl ?_
        refine w295_91 (fun hQ => absurd hQ (Int32.not_le.mpr hv)) (fun _ => ?_)
        refine w295_94 l0 ?_
        refine w295_95 ?_
        refine w295_98 ?_
        refine w295_102 ?_
        refine w295_105 rfl ?_
        refine w295_106 ?_
        exact q2 hv
      · refine w295_88 ?_
        refine w295_89 l0 ?_
        refine w295_90 rfl ?_
        refine w295_91 (fun _ => ?_) (fun hQ => absurd (Int32.not_lt.mp hv) hQ)
        refine w295_101 rfl ?_
        refine w295_102 ?_
        refine w295_105 rfl ?_
        refine w295_106 ?_
        exact q1 hv
    refine w295_83 rfl ?_
    refine w295_84 rfl ?_
    rcases am_pk5 (o_sm (J 147 0)) with ⟨b, hb, hx⟩ | hx
    · rw [hx]
      refine w295_85 (k := c248 (d := d) L h u16 hn n7 hlw hb (fun hc I1 f g hM => ?_) (fun hc I1 f => ?_))
      · have D : o_D n lw kp lf u 21 (o_sm (J 147 0)) (o_sm (J 147 1)) (o_sm (J 147 2)) (g_vF kp n lw b) (g_put kp b) (g_kp lf u kp 0) (g_m u + 1) := Or.inl ⟨rfl, b, hb, hx, hc, rfl, rfl, rfl, rfl⟩
        have fN : ∀ x, o_N I (am_u I1 124 28 x) := fun x => ⟨fun a a1 a2 a3 => by rw [am_u_ne a1]; exact f a a1 a2 (by omega) (by omega) (by omega), fun q q1 q2 q3 => by rw [am_u_at q2]; exact g q q1 q3⟩
        refine fin _ I1 (fun hv => ky _ _ _ _ D _ (fN _) (HM_u (by decide) hM) (fun _ => ?_)) (fun hv => ky _ _ _ _ D _ (fN _) (HM_u (by decide) hM) (fun w => absurd hv w)) _ rfl
        rw [am_u_self, if_pos rfl]
      · have nD : ¬ ∃ v kp' lf' u', o_D n lw kp lf u 21 (o_sm (J 147 0)) (o_sm (J 147 1)) (o_sm (J 147 2)) v kp' lf' u' := by
          rintro ⟨v, kp', lf', u', D⟩
          rcases D with ⟨-, p, hp, hx', hc', -⟩ | ⟨w, -⟩ | ⟨w, -⟩ | ⟨w, -⟩
          · obtain rfl : p = b := (nI_eq (by omega) (by omega)).mp (hx'.symm.trans hx)
            exact hc hc'
          · exact absurd w (by decide)
          · exact absurd w (by decide)
          · exact absurd w (by decide)
        have fN : ∀ x, o_N I (am_u I1 124 28 x) := fun x => ⟨fun a a1 a2 a3 => by rw [am_u_ne a1]; exact f.1 a a1 (by omega) (by omega) (by omega) (by omega), fun q q1 q2 q3 => by rw [am_u_at q2]; exact f.2 q q1⟩
        have e126 : ∀ x, am_u I1 124 28 x 126 = I 126 := fun x => by rw [am_u_ne (by decide)]; exact f.1 126 (by decide) (by decide) (by decide) (by decide) (by decide)
        exact fin _ I1 (fun hv => absurd (by decide) hv) (fun hv => kn nD _ _ hv (fN _) (e126 _)) _ rfl
    · have nD : ¬ ∃ v kp' lf' u', o_D n lw kp lf u 21 (o_sm (J 147 0)) (o_sm (J 147 1)) (o_sm (J 147 2)) v kp' lf' u' := by
        rintro ⟨v, kp', lf', u', D⟩
        rcases D with ⟨-, p, hp, hx', hc', -⟩ | ⟨w, -⟩ | ⟨w, -⟩ | ⟨w, -⟩
        · rw [hx'] at hx
          exact hx ⟨Int32.not_lt.mp (nI_pos (by omega)), nI_lt (b := 5) hp (by decide)⟩
        · exact absurd w (by decide)
        · exact absurd w (by decide)
        · exact absurd w (by decide)
      refine w295_85 (k := c248n (d := d + 44) hx ?_)
      have fN : ∀ x, o_N I (am_u I 124 28 x) := fun x => ⟨fun a a1 a2 a3 => am_u_ne a1, fun q q1 q2 q3 => am_u_at q2⟩
      have e126 : ∀ x, am_u I 124 28 x 126 = I 126 := fun x => am_u_ne (by decide)
      exact fin _ I (fun hv => absurd (by decide) hv) (fun hv => kn nD _ _ hv (fN _) (e126 _)) _ rfl
  · refine w295_9 ?_
    refine w295_10 rfl ?_
    refine w295_11 ?_
    rw [h43]
    refine w295_14_22 ?_
    refine w295_48 rfl ?_
    refine w295_49 rfl ?_
    rcases am_pk7 (o_sm (J 147 0)) n7 with ⟨m, hm, hx⟩ | hx
    · rw [hx]
      refine w295_50 (k := c253 (d := d + 44) L h u16 hn n7 hm (fun I1 f g hM => ?_))
      refine w295_53 ?_
      exact ky _ _ _ _ (Or.inr (Or.inl ⟨rfl, m, hm, hx, rfl, rfl, rfl, rfl⟩)) I1 (frN I1 f g) hM (fun _ => by rw [if_neg (by decide)]; exact g 28 (by decide))
    · refine w295_50 (k := c253n (d := d + 44) L hn' n7 hx ?_)
      have nD : ¬ ∃ v kp' lf' u', o_D n lw kp lf u 22 (o_sm (J 147 0)) (o_sm (J 147 1)) (o_sm (J 147 2)) v kp' lf' u' := by
        rintro ⟨v, kp', lf', u', D⟩
        rcases D with ⟨w, -⟩ | ⟨-, p, hp, hx', -⟩ | ⟨w, -⟩ | ⟨w, -⟩
        · exact absurd w (by decide)
        · rw [hx'] at hx
          exact hx ⟨Int32.not_lt.mp (nI_pos (by omega)), nI_lt hp (by omega)⟩
        · exact absurd w (by decide)
        · exact absurd w (by decide)
      refine w295_53 ?_
      exact kn nD _ I (by decide) rN rfl
  · refine w295_9 ?_
    refine w295_10 rfl ?_
    refine w295_11 ?_
    rw [h43]
    refine w295_14_23 ?_
    refine w295_54 rfl ?_
    refine w295_55 rfl ?_
    refine w295_56 rfl ?_
    refine w295_57 (L.2 _ _ _ rfl) ?_
    refine w295_60 ?_
    refine w295_61 (L.sh rfl) (by decide) ?_
    rw [show Int32.toNatClampNeg 1 = 1 from rfl]
    refine w295_62 (k := c296 ?_)
    refine w295_65 rfl ?_
    refine w295_66 (L.2 _ _ _ rfl) ?_
    refine w295_69 ?_
    refine w295_70 (L.sh rfl) (by decide) ?_
    rw [show Int32.toNatClampNeg 2 = 2 from rfl]
    refine w295_71 (k := c296 ?_)
    by_cases D : ∃ m b w, m < n ∧ b < 5 ∧ w ≤ 9 ∧ o_sm (J 147 0) = nI m ∧ o_sm (J 147 1) = nI b ∧ o_sm (J 147 2) = nI w ∧ ¬ kp (m * 5 + b) = nI w
    · obtain ⟨m, b, w, hm, hb, hw, hx, hy, hz, hne⟩ := D
      rw [hx, hy, hz]
      refine w295_74 (k := c255 (d := d + 44) L h u16 hn n7 hm hb hw hne (fun I1 f g hM => ?_))
      refine w295_77 ?_
      exact ky _ _ _ _ (Or.inr (Or.inr (Or.inl ⟨rfl, m, b, w, hm, hb, hw, hx, hy, hz, hne, rfl, rfl, rfl, rfl⟩))) I1 (frN I1 f g) hM (fun _ => by rw [if_neg (by decide)]; exact g 28 (by decide))
    · have nD : ¬ ∃ v kp' lf' u', o_D n lw kp lf u 23 (o_sm (J 147 0)) (o_sm (J 147 1)) (o_sm (J 147 2)) v kp' lf' u' := by
        rintro ⟨v, kp', lf', u', D'⟩
        rcases D' with ⟨w, -⟩ | ⟨w, -⟩ | ⟨-, m, b, w, hm, hb, hw, hx, hy, hz, hne, -⟩ | ⟨w, -⟩
        · exact absurd w (by decide)
        · exact absurd w (by decide)
        · exact D ⟨m, b, w, hm, hb, hw, hx, hy, hz, hne⟩
        · exact absurd w (by decide)
      have hno : ∀ m b, m < n → b < 5 → o_sm (J 147 0) = nI m → o_sm (J 147 1) = nI b → 0 ≤ o_sm (J 147 2) ∧ o_sm (J 147 2) ≤ 9 → kp (m * 5 + b) = o_sm (J 147 2) := by
        intro m b hm hb hx hy hz
        apply Classical.byContradiction
        intro q
        obtain ⟨w, hw, ew⟩ := nI_of2 (M := 9) (n := 9) (by decide) (Int32.not_lt.mpr hz.1) hz.2
        exact D ⟨m, b, w, hm, hb, hw, hx, hy, ew, by rw [← ew]; exact q⟩
      refine w295_74 (k := c255n (d := d + 44) L hk hn n7 (fun _ => ?_) (fun _ _ => ?_) (fun m b _ _ _ _ _ _ => ?_) hno)
      · refine w295_77 ?_
        exact kn nD _ I (by decide) rN rfl
      · refine w295_77 ?_
        exact kn nD _ I (by decide) rN rfl
      · refine w295_77 ?_
        exact kn nD _ I (by decide) rN rfl
  · refine w295_9 ?_
    refine w295_10 rfl ?_
    refine w295_11 ?_
    rw [h43]
    refine w295_14_26 ?_
    refine w295_78 rfl ?_
    obtain ⟨t, t9, ht⟩ := t43
    by_cases q : t < 999
    · refine w295_79 (k := c257 (d := d + 43) L h u16 hn n7 ht q (fun I1 f g hM => ?_))
      refine w295_82 ?_
      exact ky _ _ _ _ (Or.inr (Or.inr (Or.inr ⟨rfl, t, ht, q, rfl, rfl, rfl, rfl⟩))) I1 (frN I1 f g) hM (fun _ => by rw [if_neg (by decide)]; exact g 28 (by decide))
    · have e9 : t = 999 := by omega
      have nD : ¬ ∃ v kp' lf' u', o_D n lw kp lf u 26 (o_sm (J 147 0)) (o_sm (J 147 1)) (o_sm (J 147 2)) v kp' lf' u' := by
        rintro ⟨v, kp', lf', u', D'⟩
        rcases D' with ⟨w, -⟩ | ⟨w, -⟩ | ⟨w, -⟩ | ⟨-, t', ht', h9', -⟩
        · exact absurd w (by decide)
        · exact absurd w (by decide)
        · exact absurd w (by decide)
        · have := (nI_eq (by omega) (by omega)).mp (ht'.symm.trans ht)
          omega
      refine w295_79 (k := c257n (d := d + 43) L (by rw [hk, ht, e9]) ?_)
      refine w295_82 ?_
      exact kn nD _ I (by decide) rN rfl
end
