/-! both sides' calls: orders of bills by which a told one wins, a false order -/
/-- the k-th order, as the reference lays it -/
def ll_f (used : Int32) : Nat → Nat → Nat → Option Nat
  | 0, _, _ => none
  | f + 1, sk, b => if am_bit used b = 1 then ll_f used f sk (b + 1) else if sk = 0 then some b else ll_f used f (sk - 1) (b + 1)
def ll_o : Nat → Nat → Int32 → Nat → Nat → Option (List Nat)
  | 0, _, _, _, _ => some []
  | r + 1, k, used, rest, each => if each = 0 then none else match ll_f used 8 (rest / each) 0 with
    | none => none
    | some b => (ll_o r (k + 1) (used ||| 1 <<< (nI b &&& 31)) (rest % each) (if k + 1 < 5 then each / (4 - k) else each)).map (fun l => b :: l)
theorem ll_ok : ∀ k, k < 120 → ll_o 5 0 0 k 24 = some (am_perms.getD k []) := by decide +kernel
theorem am_pm_len : ∀ k, k < 120 → (am_perms.getD k []).length = 5 := by decide +kernel
/-- how many orders are so, and the first of them -/
def s_ag (W : Nat → Prop) [DecidablePred W] (q : Nat) : Nat × Nat := am_it (fun q (c : Nat × Nat) => if W q then (c.1 + 1, if c.1 = 0 then q else c.2) else c) q (0, 0)
theorem s_ag_s (W : Nat → Prop) [DecidablePred W] (q : Nat) : s_ag W (q + 1) = if W q then ((s_ag W q).1 + 1, if (s_ag W q).1 = 0 then q else (s_ag W q).2) else s_ag W q := rfl
theorem s_ag_le (W : Nat → Prop) [DecidablePred W] : ∀ q, (s_ag W q).1 ≤ q ∧ (s_ag W q).2 ≤ q
  | 0 => ⟨Nat.le_refl 0, Nat.le_refl 0⟩
  | q + 1 => by
    have ih := s_ag_le W q
    rw [s_ag_s]
    split
    · refine ⟨by show _ + 1 ≤ _; omega, ?_⟩
      show (if _ then q else _) ≤ q + 1
      split <;> omega
    · omega
theorem s_ag_lt (W : Nat → Prop) [DecidablePred W] : ∀ q, (s_ag W q).1 ≠ 0 → (s_ag W q).2 < q
  | 0, h => absurd rfl h
  | q + 1, h => by
    have ih := s_ag_lt W q
    rw [s_ag_s] at h ⊢
    split
    · show (if _ then q else _) < q + 1
      split
      · omega
      · rename_i z
        have := ih z
        omega
    · rename_i z
      rw [if_neg z] at h
      have := ih h
      omega
theorem s_ag_st (W : Nat → Prop) [DecidablePred W] (q : Nat) (h : (s_ag W q).1 ≠ 0) : ∀ j, (s_ag W (q + j)).1 ≠ 0 ∧ (s_ag W (q + j)).2 = (s_ag W q).2
  | 0 => ⟨h, rfl⟩
  | j + 1 => by
    have ih := s_ag_st W q h j
    rw [show q + (j + 1) = q + j + 1 by omega, s_ag_s]
    split
    · refine ⟨by show _ + 1 ≠ 0; omega, ?_⟩
      show (if _ then _ else _) = _
      rw [if_neg ih.1]
      exact ih.2
    · exact ih
theorem s_ag_c {V W : Nat → Prop} [DecidablePred V] [DecidablePred W] {N : Nat} (h : ∀ q, q < N → (V q ↔ W q)) : s_ag V N = s_ag W N := by
  unfold s_ag
  refine am_it_congr (fun q c hq => ?_) _
  by_cases z : V q
  · rw [if_pos z, if_pos ((h q hq).mp z)]
  · rw [if_neg z, if_neg (fun y => z ((h q hq).mpr y))]
theorem t_wi_c {B C : Nat → Nat → Prop} [∀ a b, Decidable (B a b)] [∀ a b, Decidable (C a b)] {p : Nat → Nat} (hp : ∀ i, i < 5 → p i < 5) (h : ∀ a b, a < 5 → b < 5 → (B a b ↔ C a b)) : t_wi B p = t_wi C p := by
  refine (am_it_ci (fun _ (x : Nat) => x < 5) (n := 4) (hp 0 (by decide)) (fun k x hk hx => ?_) 4 (Nat.le_refl 4)).1
  have e := h (p (k + 1)) x (hp _ (by omega)) hx
  by_cases z : C (p (k + 1)) x
  · rw [if_pos (e.mpr z), if_pos z]
    exact ⟨rfl, hp _ (by omega)⟩
  · rw [if_neg (fun y => z (e.mp y)), if_neg z]
    exact ⟨rfl, hx⟩
section
variable {pr : am_Pr} {d : Nat} {S : List (Nat × Nat)} {I : Nat → Nat → Int32} {J : Nat → Nat → Int64} {P : Nat → Nat → Option Nat} {Q : Option Value → am_H → Prop} {n l s u tp : Nat} {kp : Nat → Int32} {lw : Option (Nat × List Cl)} {lv0 : Option (List Cl)}
theorem c266f {used : Int32} {x3 x4 x5 : Value} : ∀ (f sk b b' : Nat), ll_f used f sk b = some b' → b + f ≤ 40 → sk < 1000 → (∀ lv, am_ld1 lv 0 = some (.ref 124) → am_ld1 lv 2 = some (.int used) → am_ld1 lv 3 = some (x3) → am_ld1 lv 4 = some (x4) → am_ld1 lv 5 = some (x5) → am_ld1 lv 7 = some (.int (nI b')) → am_wp pr (d + 1) 266 70 lv [] (S, I, J, P) Q) → (∀ lv, am_ld1 lv 0 = some (.ref 124) → am_ld1 lv 2 = some (.int used) → am_ld1 lv 3 = some (x3) → am_ld1 lv 4 = some (x4) → am_ld1 lv 5 = some (x5) → am_ld1 lv 6 = some (.int (nI sk)) → am_ld1 lv 7 = some (.int (nI b)) → am_wp pr (d + 1) 266 31 lv [] (S, I, J, P) Q)
  | 0, _, _, _, h, _, _, _ => by cases h
  | f + 1, sk, b, b', h, hb, hs, k => by
    intro lv l0 l2 l3 l4 l5 l6 l7
    unfold ll_f at h
    by_cases h1 : am_bit used b = 1
    · rw [if_pos h1] at h
      have ih := c266f f sk (b + 1) b' h (by omega) hs k
      refine w266_31 l2 ?_
      refine w266_32 l7 ?_
      refine w266_34 (k := c182 ?_)
      rw [am_b_t h1]
      refine w266_37 (fun _ => ?_) (fun hQ => absurd am_n01 hQ)
      refine w266_45 l6 ?_
      refine w266_47 l2 ?_
      refine w266_48 l7 ?_
      refine w266_50 (k := c182 ?_)
      rw [am_b_t h1]
      refine w266_53 (fun hQ => absurd hQ am_n01) (fun _ => ?_)
      refine w266_56 ?_
      refine w266_57 ?_
      refine w266_61 ?_
      rw [Int32.sub_zero]
      refine w266_62 ?_
      refine w266_64 l7 ?_
      refine w266_67 ?_
      exact ih _ l0 l2 l3 l4 l5 rfl (am_nx b)
    · rw [if_neg h1] at h
      by_cases h2 : sk = 0
      · rw [if_pos h2] at h
        cases h
        subst h2
        refine w266_31 l2 ?_
        refine w266_32 l7 ?_
        refine w266_34 (k := c182 ?_)
        rw [am_b_f h1]
        refine w266_37 (fun hQ => absurd hQ (by decide)) (fun _ => ?_)
        refine w266_40 l6 ?_
        refine w266_42 (fun _ => ?_) (fun hQ => absurd (Int32.le_refl _) hQ)
        exact k _ l0 l2 l3 l4 l5 l7
      · rw [if_neg h2] at h
        have ih := c266f f (sk - 1) (b + 1) b' h (by omega) (by omega) k
        refine w266_31 l2 ?_
        refine w266_32 l7 ?_
        refine w266_34 (k := c182 ?_)
        rw [am_b_f h1]
        refine w266_37 (fun hQ => absurd hQ (by decide)) (fun _ => ?_)
        refine w266_40 l6 ?_
        refine w266_42 (fun hQ => absurd hQ (nI_nle (by omega) (by omega))) (fun _ => ?_)
        refine w266_45 l6 ?_
        refine w266_47 l2 ?_
        refine w266_48 l7 ?_
        refine w266_50 (k := c182 ?_)
        rw [am_b_f h1]
        refine w266_53 (fun _ => ?_) (fun hQ => absurd rfl hQ)
        refine w266_60 ?_
        refine w266_61 ?_
        rw [nI_sub1 (by omega)]
        refine w266_62 ?_
        refine w266_64 l7 ?_
        refine w266_67 ?_
        exact ih _ l0 l2 l3 l4 l5 rfl (am_nx b)
theorem ll_f_lt {used : Int32} : ∀ (f sk b b' : Nat), ll_f used f sk b = some b' → b' < b + f
  | 0, _, _, _, h => by cases h
  | f + 1, sk, b, b', h => by
    unfold ll_f at h
    split at h
    · have := ll_f_lt f _ _ _ h; omega
    · split at h
      · cases h; omega
      · have := ll_f_lt f _ _ _ h; omega
theorem c266o (L : am_Lay S P) : ∀ (r k : Nat) (used : Int32) (rest each : Nat) (bs : List Nat), ll_o r k used rest each = some bs → k + r = 5 → each < 1000 → rest < 1000 → ∀ I' : Nat → Nat → Int32, (∀ I2 : Nat → Nat → Int32, (∀ a, a ≠ 144 → I2 a = I' a) → (∀ i, i < k → I2 144 i = I' 144 i) → (∀ i b, bs[i]? = some b → I2 144 (k + i) = nI b) → Q none (S, I2, J, P)) → (∀ lv, am_ld1 lv 0 = some (.ref 124) → am_ld1 lv 2 = some (.int used) → am_ld1 lv 3 = some (.int (nI rest)) → am_ld1 lv 4 = some (.int (nI each)) → am_ld1 lv 5 = some (.int (nI k)) → am_wp pr (d + 1) 266 11 lv [] (S, I', J, P) Q)
  | 0, k, used, rest, each, bs, h, hk, he2, hr, I', kk => by
    intro lv l0 l2 l3 l4 l5
    cases h
    have hk5 : k = 5 := by omega
    subst hk5
    refine w266_11 l5 ?_
    refine w266_13 ?_
    refine w266_14 (fun _ => ?_) (fun hQ => absurd (Int32.le_refl _) hQ)
    refine w266_114 ?_
    exact kk I' (fun _ _ => rfl) (fun _ _ => rfl) (fun i b h => by cases h)
  | r + 1, k, used, rest, each, bs, h, hk, he2, hr, I', kk => by
    intro lv l0 l2 l3 l4 l5
    unfold ll_o at h
    split at h
    · cases h
    · rename_i he0
      have he : 0 < each := by omega
      split at h
      · cases h
      · rename_i b hb
        obtain ⟨bs2, hb2, rfl⟩ := Option.map_eq_some_iff.mp h
        have hb8 := ll_f_lt 8 _ _ _ hb
        have hk4 : k < 5 := by omega
        have hdv : rest / each < 1000 := Nat.lt_of_le_of_lt (Nat.div_le_self _ _) hr
        have hmd : rest % each < 1000 := Nat.lt_of_le_of_lt (Nat.mod_le _ _) hr
        have ne0 : ¬ nI each = 0 := nI_ne0 he (by omega)
        have eq1 : nI rest / nI each = nI (rest / each) := pk_div (by omega) he (by omega)
        have eq2 : nI rest - nI rest / nI each * nI each = nI (rest % each) := pk_rem (by omega) he (by omega)
        have go : ∀ u2, u2 = used ||| 1 <<< (nI b &&& 31) → ∀ each', (if k + 1 < 5 then each / (4 - k) else each) = each' → each' < 1000 → (∀ lv, am_ld1 lv 0 = some (.ref 124) → am_ld1 lv 2 = some (.int u2) → am_ld1 lv 3 = some (.int (nI (rest % each))) → am_ld1 lv 4 = some (.int (nI each')) → am_ld1 lv 5 = some (.int (nI (k + 1))) → am_wp pr (d + 1) 266 11 lv [] (S, am_u I' 144 k (nI b), J, P) Q) := by
          intro u2 hu2 each' e e2
          rw [e, ← hu2] at hb2
          refine c266o L r (k + 1) _ _ _ bs2 hb2 (by omega) e2 hmd _ (fun I2 g1 g2 g3 => kk I2 ?_ ?_ ?_)
          · intro a ha
            rw [g1 a ha, am_u_ne ha]
          · intro i hi
            rw [g2 i (by omega), am_u_at (by omega)]
          · intro i b3 hi
            cases i with
            | zero =>
              cases hi
              rw [show k + 0 = k from rfl, g2 k (by omega), am_u_self]
            | succ i =>
              rw [show k + (i + 1) = k + 1 + i by omega]
              exact g3 i b3 hi
        refine w266_11 l5 ?_
        refine w266_13 ?_
        refine w266_14 (fun hQ => absurd hQ (am_nlt hk4 (by decide))) (fun _ => ?_)
        refine w266_17 l3 ?_
        refine w266_18 l4 ?_
        refine w266_20 ne0 ?_
        rw [eq1]
        refine w266_21 ?_
        refine w266_23 l3 ?_
        refine w266_24 l4 ?_
        refine w266_26 ne0 ?_
        rw [eq2]
        refine w266_27 ?_
        refine w266_28 ?_
        refine w266_29 ?_
        refine c266f 8 (rest / each) 0 b hb (by omega) hdv ?_ _ l0 l2 rfl l4 l5 rfl rfl
        clear l0 l2 l3 l4 l5 lv
        intro lv l0 l2 l3 l4 l5 l7
        by_cases hl : k + 1 < 5
        · have e4 : (4 : Int32) - nI k = nI (4 - k) := am_nsub (a := 4) (by omega)
          have ne4 : ¬ nI (4 - k) = 0 := nI_ne0 (by omega) (by omega)
          have eq4 : nI each / nI (4 - k) = nI (each / (4 - k)) := pk_div (by omega) (by omega) (by omega)
          refine w266_70 l2 ?_
          refine w266_71 ?_
          refine w266_72 l7 ?_
          refine w266_74 ?_
          refine w266_75 ?_
          refine w266_76 ?_
          refine w266_77 l0 ?_
          refine w266_78 (L.2 _ _ _ rfl) ?_
          refine w266_81 l5 ?_
          refine w266_83 l7 ?_
          refine w266_85 (L.sh rfl) (am_in_nI hk4 (by decide)) ?_
          rw [am_clN (by omega)]
          refine w266_86 l5 ?_
          refine w266_88 ?_
          refine w266_89 ?_
          rw [nI_1]
          refine w266_90 ?_
          refine w266_91 (fun hQ => absurd hQ (am_nlt hl (by decide))) (fun _ => ?_)
          refine w266_94 l4 ?_
          refine w266_96 ?_
          refine w266_97 l5 ?_
          refine w266_99 ?_
          rw [e4]
          refine w266_100 ne4 ?_
          rw [eq4]
          refine w266_101 ?_
          refine w266_106 ?_
          refine w266_108 l5 ?_
          refine w266_111 ?_
          exact go _ rfl _ (if_pos hl) (Nat.lt_of_le_of_lt (Nat.div_le_self _ _) he2) _ l0 rfl l3 rfl (am_nx k)
        · refine w266_70 l2 ?_
          refine w266_71 ?_
          refine w266_72 l7 ?_
          refine w266_74 ?_
          refine w266_75 ?_
          refine w266_76 ?_
          refine w266_77 l0 ?_
          refine w266_78 (L.2 _ _ _ rfl) ?_
          refine w266_81 l5 ?_
          refine w266_83 l7 ?_
          refine w266_85 (L.sh rfl) (am_in_nI hk4 (by decide)) ?_
          rw [am_clN (by omega)]
          refine w266_86 l5 ?_
          refine w266_88 ?_
          refine w266_89 ?_
          rw [nI_1]
          refine w266_90 ?_
          refine w266_91 (fun _ => ?_) (fun hQ => absurd (nI_le (a := 5) (by omega) (by omega)) hQ)
          refine w266_104 l4 ?_
          refine w266_106 ?_
          refine w266_108 l5 ?_
          refine w266_111 ?_
          exact go _ rfl _ (if_neg hl) he2 _ l0 rfl l3 rfl (am_nx k)
/-- laysLine -/
theorem c266 (L : am_Lay S P) {k : Nat} (hk : k < 120) (kk : ∀ I2 : Nat → Nat → Int32, (∀ a, a ≠ 144 → I2 a = I a) → (∀ i, i < 5 → I2 144 i = nI (am_pm k i)) → Q none (S, I2, J, P)) : am_ev pr (d + 1) 266 [.ref 124, .int (nI k)] (S, I, J, P) Q := by
  show am_wp pr (d + 1) 266 0 [(0, .ref 124), (1, .int (nI k))] [] _ _
  refine w266_0 ?_
  refine w266_1 ?_
  refine w266_2 rfl ?_
  refine w266_3 ?_
  refine w266_4 ?_
  refine w266_6 ?_
  refine w266_8 ?_
  refine w266_9 ?_
  refine c266o L 5 0 0 k 24 _ (ll_ok k hk) (by decide) (by decide) (by omega) I (fun I2 h1 _ h3 => kk I2 h1 (fun i hi => ?_)) _ rfl rfl rfl rfl rfl
  have hl : i < (am_perms.getD k []).length := by rw [am_pm_len k hk]; exact hi
  have := h3 i _ (List.getElem?_eq_getElem hl)
  rw [Nat.zero_add] at this
  rw [this]
  unfold am_pm
  rw [List.getD_eq_getElem?_getD (l := am_perms.getD k []), List.getElem?_eq_getElem hl]
  rfl
/-- winner -/
theorem c267 (L : am_Lay S P) {p : Nat → Nat} (hp : ∀ i, i < 5 → p i < 5) (hv : ∀ i, i < 5 → I 144 i = nI (p i)) (b01 : ∀ a b, a < 5 → b < 5 → I 143 (a * 5 + b) = 0 ∨ I 143 (a * 5 + b) = 1) (k : Q (some (.int (nI (t_wi (fun a b => I 143 (a * 5 + b) = 1) p)))) (S, I, J, P)) : am_ev pr (d + 1) 267 [.ref 124] (S, I, J, P) Q := by
  show am_wp pr (d + 1) 267 0 [(0, .ref 124)] [] _ _
  refine w267_0 rfl ?_
  refine w267_1 (L.2 _ _ _ rfl) ?_
  refine w267_4 ?_
  refine w267_5 (L.sh rfl) (by decide) ?_
  rw [tl_0, hv 0 (by decide)]
  refine w267_6 ?_
  refine w267_7 ?_
  refine w267_8 ?_
  refine am_for (fun j => ∀ h, h = am_it (fun j h => if I 143 (p (j + 1) * 5 + h) = 1 then p (j + 1) else h) j (p 0) → ∀ lv, am_ld1 lv 0 = some (.ref 124) → am_ld1 lv 1 = some (.int (nI h)) → am_ld1 lv 2 = some (.int (nI (j + 1))) → am_wp pr (d + 1) 267 9 lv [] (S, I, J, P) Q) 4 ?_ ?_ (p 0) rfl _ rfl rfl rfl
  · intro j hj ih h hh lv l0 l1 l2
    have h5 : h < 5 := by rw [hh]; exact t_wi_lt (bt := fun a b => I 143 (a * 5 + b) = 1) hp j (by omega)
    have hpj := hp (j + 1) (by omega)
    have ih2 := ih _ rfl
    change ∀ lv, _ → am_ld1 lv 1 = some (.int (nI (if I 143 (p (j + 1) * 5 + _) = 1 then p (j + 1) else _))) → _ at ih2
    rw [← hh] at ih2
    refine w267_9 l2 ?_
    refine w267_10 ?_
    refine w267_11 (fun hQ => absurd hQ (am_nlt (n := 5) (by omega) (by decide))) (fun _ => ?_)
    refine w267_14 l0 ?_
    refine w267_15 l0 ?_
    refine w267_16 (L.2 _ _ _ rfl) ?_
    refine w267_19 l2 ?_
    refine w267_20 (L.sh rfl) (am_in_nI (by omega) (by decide)) ?_
    rw [am_clN (by omega), hv (j + 1) (by omega)]
    refine w267_21 l1 ?_
    refine w267_22 (k := c263 L hpj h5 (b01 _ _ hpj h5) ?_)
    refine w267_25 (fun h25 => ?_) (fun h25 => ?_)
    · refine w267_37 l1 ?_
      refine w267_38 ?_
      refine w267_39 l2 ?_
      refine w267_42 ?_
      first | (rw [if_pos ((b01 _ _ hpj h5).resolve_left h25)] at ih2; exact ih2 _ l0 rfl (am_nx (j + 1))) | (rw [if_neg (by rw [h25]; decide)] at ih2; exact ih2 _ l0 rfl (am_nx (j + 1)))
    · refine w267_28 l0 ?_
      refine w267_29 (L.2 _ _ _ rfl) ?_
      refine w267_32 l2 ?_
      refine w267_33 (L.sh rfl) (am_in_nI (by omega) (by decide)) ?_
      rw [am_clN (by omega), hv (j + 1) (by omega)]
      refine w267_34 ?_
      refine w267_38 ?_
      refine w267_39 l2 ?_
      refine w267_42 ?_
      first | (rw [if_pos ((b01 _ _ hpj h5).resolve_left h25)] at ih2; exact ih2 _ l0 rfl (am_nx (j + 1))) | (rw [if_neg (by rw [h25]; decide)] at ih2; exact ih2 _ l0 rfl (am_nx (j + 1)))
  · intro h hh lv l0 l1 l2
    refine w267_9 l2 ?_
    refine w267_10 ?_
    refine w267_11 (fun _ => ?_) (fun hQ => absurd (Int32.le_refl _) hQ)
    refine w267_45 l1 ?_
    refine w267_46 ?_
    rw [hh]
    exact k
abbrev m_W (I : Nat → Nat → Int32) (kp : Nat → Int32) (n b q : Nat) : Prop := t_wi (m_bt I kp n) (am_pm q) = b
def m_ag (I : Nat → Nat → Int32) (kp : Nat → Int32) (n b w : Nat) : Int32 := if (s_ag (m_W I kp n b) 120).1 = 0 then -1 else if w = 0 then nI (s_ag (m_W I kp n b) 120).1 else nI (am_pm (s_ag (m_W I kp n b) 120).2 (w - 1))
theorem am_ps121 {I I' : Nat → Nat → Int32} (h : ∀ a, a ≠ 121 → I' a = I a) : am_ps I I' := am_ps_r (fun a q => h a (by unfold am_pers at q; omega))
theorem am_w5 (y : Int32) : (∃ w, w ≤ 5 ∧ y = nI w) ∨ ¬ (0 ≤ y ∧ y ≤ 5) := by
  by_cases h : 0 ≤ y ∧ y ≤ 5
  · obtain ⟨j, hj, e⟩ := nI_of2 (M := 5) (n := 5) (by decide) (Int32.not_lt.mpr h.1) h.2
    exact Or.inl ⟨j, hj, e⟩
  · exact Or.inr h
theorem op_22 (r : am_R S I P n l s u tp) {x y : Int32} : am_op pr (d + 60) S I J P 126 [.ref 64, .int x, .int y] 265 [.ref 124, .int x, .int y] := by
  have hr := r.hr
  have n7 := hr.n7
  have L := r.L
  obtain ⟨lw, hx⟩ := r.lw
  rcases am_pk5 x with ⟨b, hb, rfl⟩ | hxx
  · rcases am_w5 y with ⟨w, hw, rfl⟩ | hyy
    · have hs121 : am_sh S 121 (20, 5) := L.sh rfl
      refine op_rd r hx (fun I2 => m_ag I2 (I 126) n b w) (fun Q k => ?_) (fun I1 J1 e Q k => ?_)
      · show am_wp pr (d + 60) 126 0 [(0, .ref 64), (1, .int (nI b)), (2, .int (nI w))] [] _ _
        refine w126_0 rfl ?_
        refine w126_1 (k := c18b hb ?_)
        refine w126_4 (fun hQ => absurd hQ am_n01) (fun _ => ?_)
        refine w126_7 rfl ?_
        refine w126_8 (fun hQ => absurd hQ (nI_pos (by omega))) (fun _ => ?_)
        refine w126_11 rfl ?_
        refine w126_12 ?_
        refine w126_13 (fun _ => ?_) (fun hQ => absurd (nI_le (b := 5) hw (by decide)) hQ)
        refine w126_18 rfl ?_
        refine w126_19 (k := c34 L hr hx (fun I1 J1 f1 f2 f3 => ?_))
        refine w126_22 rfl ?_
        refine w126_23 (L.2 _ _ _ rfl) ?_
        refine w126_26 (k := c122 L f2.1 n7 (fun I2 h1 h2 => ?_))
        refine w126_29 rfl ?_
        refine w126_30 (L.2 _ _ _ rfl) ?_
        refine w126_33 (k := c127 hs121 (fun I3 h3 h4 => ?_))
        refine w126_36 ?_
        refine w126_37 ?_
        refine w126_38 ?_
        refine w126_39 ?_
        have hp : am_ps I I3 := (f1.ps.tr (am_ps114 h1)).tr (am_ps121 h3)
        have hW : ∀ I4, m_ld I4 (I 126) n (lw.map Prod.snd) (n * 5) → ∀ q, q < 120 → ((t_wi (fun a b => am_bit (I2 114 a) b = 1) (am_pm q) = b) ↔ m_W I4 (I 126) n b q) := by
          intro I4 g q hq
          show _ ↔ t_wi _ _ = b
          rw [t_wi_c (C := m_bt I4 (I 126) n) (am_pm5 q hq) (fun a c ha hc => (b_bt hr f2.2.1 f3 h2 g ha (by omega)).trans ⟨fun z => z.2, fun z => ⟨hc, z⟩⟩)]
        have hS : ∀ I4, m_ld I4 (I 126) n (lw.map Prod.snd) (n * 5) → ∀ q, q ≤ 120 → s_ag (fun q => t_wi (fun a b => am_bit (I2 114 a) b = 1) (am_pm q) = b) q = s_ag (m_W I4 (I 126) n b) q := fun I4 g q hq => s_ag_c (fun j hj => hW I4 g j (by omega))
        refine am_for (fun q => ∀ I5 : Nat → Nat → Int32, (∀ a, a ≠ 121 → I5 a = I3 a) → (q < 120 → ∀ i, i < 5 → I5 121 i = nI (am_pm q i)) → (0 < w → (s_ag (fun q => t_wi (fun a b => am_bit (I2 114 a) b = 1) (am_pm q) = b) q).1 = 0) → ∀ lv, am_ld1 lv 0 = some (.ref 64) → am_ld1 lv 1 = some (.int (nI b)) → am_ld1 lv 2 = some (.int (nI w)) → am_ld1 lv 3 = some (.int (nI (s_ag (fun q => t_wi (fun a b => am_bit (I2 114 a) b = 1) (am_pm q) = b) q).1)) → am_ld1 lv 4 = some (.int (nI q)) → am_wp pr (d + 60) 126 41 lv [] (S, I5, J1, P) Q) 120 ?_ ?_ I3 (fun _ _ => rfl) (fun _ i hi => by rw [h4 i hi]; rcases (show i = 0 ∨ i = 1 ∨ i = 2 ∨ i = 3 ∨ i = 4 by omega) with rfl | rfl | rfl | rfl | rfl <;> rfl) (fun _ => rfl) _ rfl rfl rfl rfl rfl
        · intro q hq ih I5 g1 g2 g3 lv l0 l1 l2 l3 l4
          have e114 : I5 114 = I2 114 := by rw [g1 114 (by decide), h3 114 (by decide)]
          have hp5 : am_ps I I5 := hp.tr (am_ps121 g1)
          have nx := s_ag_s (fun q => t_wi (fun a b => am_bit (I2 114 a) b = 1) (am_pm q) = b) q
          have k79 : ∀ acc, acc = (s_ag (fun q => t_wi (fun a b => am_bit (I2 114 a) b = 1) (am_pm q) = b) (q + 1)).1 → (0 < w → acc = 0) → (∀ lv, am_ld1 lv 0 = some (.ref 64) → am_ld1 lv 1 = some (.int (nI b)) → am_ld1 lv 2 = some (.int (nI w)) → am_ld1 lv 3 = some (.int (nI acc)) → am_ld1 lv 4 = some (.int (nI q)) → am_wp pr (d + 60) 126 79 lv [] (S, I5, J1, P) Q) := by
            intro acc ha ha0 lv l0 l1 l2 l3 l4
            refine w126_79 l0 ?_
            refine w126_80 (L.2 _ _ _ rfl) ?_
            refine w126_83 (k := c129 hs121 hq (g2 hq) (fun I6 g4 g5 => ?_))
            refine w126_86 l4 ?_
            refine w126_89 ?_
            exact ih I6 (fun a ha => (g4 a ha).trans (g1 a ha)) (fun z => g5 (by omega)) (fun z => by rw [← ha]; exact ha0 z) _ l0 l1 l2 (by rw [← ha]; exact l3) (am_nx q)
          by_cases hwi : t_wi (fun a b => am_bit (I2 114 a) b = 1) (am_pm q) = b
          · rw [if_pos hwi] at nx
            by_cases hw0 : w = 0
            · subst hw0
              refine w126_41 l4 ?_
              refine w126_43 ?_
              refine w126_45 (fun hQ => absurd hQ (am_nlt hq (by decide))) (fun _ => ?_)
              refine w126_48 l0 ?_
              refine w126_49 (L.2 _ _ _ rfl) ?_
              refine w126_52 l0 ?_
              refine w126_53 (L.2 _ _ _ rfl) ?_
              refine w126_56 (k := c128 L hs121 (am_pm5 q hq) (g2 hq) ?_)
              rw [e114, hwi]
              refine w126_59 l1 ?_
              refine w126_60 (fun hQ => absurd hQ (fun z => z rfl)) (fun _ => ?_)
              refine w126_63 l2 ?_
              refine w126_64 (fun _ => ?_) (fun hQ => absurd (Int32.le_refl _) hQ)
              refine w126_76 l3 ?_
              exact k79 _ (by rw [nx]) (fun z => absurd z (Nat.lt_irrefl 0)) _ l0 l1 l2 (am_nx _) l4
            · have ew : nI w - 1 = nI (w - 1) := nI_sub1 (by omega)
              refine w126_41 l4 ?_
              refine w126_43 ?_
              refine w126_45 (fun hQ => absurd hQ (am_nlt hq (by decide))) (fun _ => ?_)
              refine w126_48 l0 ?_
              refine w126_49 (L.2 _ _ _ rfl) ?_
              refine w126_52 l0 ?_
              refine w126_53 (L.2 _ _ _ rfl) ?_
              refine w126_56 (k := c128 L hs121 (am_pm5 q hq) (g2 hq) ?_)
              rw [e114, hwi]
              refine w126_59 l1 ?_
              refine w126_60 (fun hQ => absurd hQ (fun z => z rfl)) (fun _ => ?_)
              refine w126_63 l2 ?_
              refine w126_64 (fun hQ => absurd hQ (nI_nle (by omega) (by omega))) (fun _ => ?_)
              refine w126_67 l0 ?_
              refine w126_68 (L.2 _ _ _ rfl) ?_
              refine w126_71 l2 ?_
              refine w126_72 ?_
              refine w126_73 ?_
              rw [ew]
              refine w126_74 hs121 (am_in_nI (by omega) (by decide)) ?_
              rw [am_clN (by omega), g2 hq (w - 1) (by omega)]
              refine w126_75 ?_
              refine k I5 J1 _ hp5 (fun I4 g => ?_)
              have z0 : (s_ag (m_W I4 (I 126) n b) q).1 = 0 := by rw [← hS I4 g q (by omega)]; exact g3 (by omega)
              have z1 : s_ag (m_W I4 (I 126) n b) (q + 1) = ((s_ag (m_W I4 (I 126) n b) q).1 + 1, q) := by
                rw [s_ag_s, if_pos ((hW I4 g q hq).mp hwi), if_pos z0]
              have z2 := s_ag_st (m_W I4 (I 126) n b) (q + 1) (by rw [z1]; exact Nat.succ_ne_zero _) (119 - q)
              rw [show q + 1 + (119 - q) = 120 by omega, z1] at z2
              unfold m_ag
              rw [if_neg z2.1, if_neg hw0, z2.2]
          · rw [if_neg hwi] at nx
            have hlt5 : t_wi (fun a b => am_bit (I2 114 a) b = 1) (am_pm q) < 5 := t_wi_lt (bt := fun a b => am_bit (I2 114 a) b = 1) (am_pm5 q hq) 4 (by decide)
            have hne : ¬ nI (t_wi (fun a b => am_bit (I2 114 a) b = 1) (am_pm q)) = nI b := fun z => hwi ((nI_eq (by omega) (by omega)).mp z)
            refine w126_41 l4 ?_
            refine w126_43 ?_
            refine w126_45 (fun hQ => absurd hQ (am_nlt hq (by decide))) (fun _ => ?_)
            refine w126_48 l0 ?_
            refine w126_49 (L.2 _ _ _ rfl) ?_
            refine w126_52 l0 ?_
            refine w126_53 (L.2 _ _ _ rfl) ?_
            refine w126_56 (k := c128 L hs121 (am_pm5 q hq) (g2 hq) ?_)
            rw [e114]
            refine w126_59 l1 ?_
            refine w126_60 (fun _ => ?_) (fun hQ => absurd hne hQ)
            exact k79 _ (by rw [nx]) g3 _ l0 l1 l2 l3 l4
        · intro I5 g1 g2 g3 lv l0 l1 l2 l3 l4
          have hp5 : am_ps I I5 := hp.tr (am_ps121 g1)
          have hle := (s_ag_le (fun q => t_wi (fun a b => am_bit (I2 114 a) b = 1) (am_pm q) = b) 120).1
          by_cases z : (s_ag (fun q => t_wi (fun a b => am_bit (I2 114 a) b = 1) (am_pm q) = b) 120).1 = 0
          · rw [z] at l3
            refine w126_41 l4 ?_
            refine w126_43 ?_
            refine w126_45 (fun _ => ?_) (fun hQ => absurd (Int32.le_refl _) hQ)
            refine w126_92 l3 ?_
            refine w126_93 (fun _ => ?_) (fun hQ => absurd (Int32.le_refl _) hQ)
            refine w126_100 ?_
            refine w126_101 ?_
            refine k I5 J1 _ hp5 (fun I4 g => ?_)
            unfold m_ag
            rw [if_pos (by rw [← hS I4 g 120 (by omega)]; exact z)]
          · have hw0 : w = 0 := by
              apply Classical.byContradiction
              intro y
              exact z (g3 (by omega))
            refine w126_41 l4 ?_
            refine w126_43 ?_
            refine w126_45 (fun _ => ?_) (fun hQ => absurd (Int32.le_refl _) hQ)
            refine w126_92 l3 ?_
            refine w126_93 (fun hQ => absurd hQ (nI_nle (by omega) (by omega))) (fun _ => ?_)
            refine w126_96 l3 ?_
            refine w126_97 ?_
            refine w126_101 ?_
            refine k I5 J1 _ hp5 (fun I4 g => ?_)
            unfold m_ag
            rw [← hS I4 g 120 (by omega), if_neg z, if_pos hw0]
      · show am_wp pr (d + 60) 265 0 [(0, .ref 124), (1, .int (nI b)), (2, .int (nI w))] [] _ _
        have hw5 : (0 ≤ nI w ∧ nI w ≤ 5) := ⟨nI_pos' (by omega), nI_le (b := 5) hw (by decide)⟩
        refine w265_0 rfl ?_
        refine w265_1 (k := c177b hb ?_)
        refine w265_4 (fun hQ => absurd hQ am_n01) (fun _ => ?_)
        refine w265_7 rfl ?_
        refine w265_8 ?_
        refine w265_9 ?_
        refine w265_10 (k := c164 ?_)
        rw [am_b_t hw5]
        refine w265_13 (fun _ => ?_) (fun hQ => absurd am_n01 hQ)
        refine w265_18 rfl ?_
        refine w265_19 (k := c262 L e hr.kn n7 (hx.m hr.l6) (fun I2 f2 g h143 => ?_))
        refine w265_22 ?_
        refine w265_23 ?_
        refine w265_24 ?_
        refine w265_25 ?_
        refine w265_27 ?_
        refine w265_28 ?_
        have b01 : ∀ a b, a < 5 → b < 5 → I2 143 (a * 5 + b) = 0 ∨ I2 143 (a * 5 + b) = 1 := fun a b ha hb => by
          rw [h143 a b ha hb]
          unfold am_b
          split
          · exact Or.inr rfl
          · exact Or.inl rfl
        have hbt : ∀ a c, a < 5 → c < 5 → (I2 143 (a * 5 + c) = 1 ↔ m_bt I2 (I 126) n a c) := by
          intro a c ha hc
          rw [h143 a c ha hc]
          exact ⟨fun z => am_b_1 (by rw [z]; decide), fun z => am_b_t z⟩
        have fin : ∀ I5, (∀ a, a ≠ 144 → I5 a = I2 a) → Q (some (.int (m_ag I2 (I 126) n b w))) (S, I5, J1, P) := by
          intro I5 g1
          have q := k I5 ((f2.tr (m_f4_r (b := 144) (by decide) g1)).ps) (m_ld_cg (g1 138 (by decide)) (g1 139 (by decide)) (g1 140 (by decide)) g)
          have e3 : m_ag I5 (I 126) n b w = m_ag I2 (I 126) n b w := by
            unfold m_ag m_W
            have : m_bt I5 (I 126) n = m_bt I2 (I 126) n := by
              funext a c
              show (_ ∧ _) = (_ ∧ _)
              rw [g1 138 (by decide), g1 139 (by decide), g1 140 (by decide)]
            simp only [this]
          rw [e3] at q
          exact q
        clear k
        refine am_for (fun q => ∀ I5 : Nat → Nat → Int32, (∀ a, a ≠ 144 → I5 a = I2 a) → ∀ fi, ((s_ag (m_W I2 (I 126) n b) q).1 ≠ 0 → fi = nI (s_ag (m_W I2 (I 126) n b) q).2) → ∀ lv, am_ld1 lv 0 = some (.ref 124) → am_ld1 lv 1 = some (.int (nI b)) → am_ld1 lv 2 = some (.int (nI w)) → am_ld1 lv 3 = some (.int (nI (s_ag (m_W I2 (I 126) n b) q).1)) → am_ld1 lv 4 = some (.int fi) → am_ld1 lv 5 = some (.int (nI q)) → am_wp pr (d + 60) 265 30 lv [] (S, I5, J1, P) Q) 120 ?_ ?_ I2 (fun _ _ => rfl) (-1) (fun z => absurd rfl z) _ rfl rfl rfl rfl rfl rfl
        · intro q hq ih I5 g1 fi hfi lv l0 l1 l2 l3 l4 l5
          have nx := s_ag_s (m_W I2 (I 126) n b) q
          have hle := (s_ag_le (m_W I2 (I 126) n b) q).1
          refine w265_30 l5 ?_
          refine w265_32 ?_
          refine w265_34 (fun hQ => absurd hQ (am_nlt hq (by decide))) (fun _ => ?_)
          refine w265_37 l0 ?_
          refine w265_38 l5 ?_
          refine w265_40 (k := c266 L hq (fun I6 g2 g3 => ?_))
          have g4 : ∀ a, a ≠ 144 → I6 a = I2 a := fun a ha => (g2 a ha).trans (g1 a ha)
          have e143 : I6 143 = I2 143 := g4 143 (by decide)
          have hti : t_wi (fun a b => I6 143 (a * 5 + b) = 1) (am_pm q) = t_wi (m_bt I2 (I 126) n) (am_pm q) := t_wi_c (am_pm5 q hq) (fun a c ha hc => by rw [e143]; exact hbt a c ha hc)
          have hlt : t_wi (m_bt I2 (I 126) n) (am_pm q) < 5 := t_wi_lt (bt := m_bt I2 (I 126) n) (am_pm5 q hq) 4 (by decide)
          by_cases hwi : m_W I2 (I 126) n b q
          · rw [if_pos hwi] at nx
            by_cases hz : (s_ag (m_W I2 (I 126) n b) q).1 = 0
            · rw [hz] at l3
              refine w265_43 l0 ?_
              refine w265_44 (k := c267 L (am_pm5 q hq) g3 (by rw [e143]; exact b01) ?_)
              rw [hti]
              refine w265_47 l1 ?_
              refine w265_48 (fun _ => ?_) (fun hQ => absurd (congrArg nI hwi) hQ)
              refine w265_54 l3 ?_
              refine w265_55 (fun hQ => absurd hQ (fun z => z rfl)) (fun _ => ?_)
              refine w265_58 l5 ?_
              refine w265_60 ?_
              refine w265_65 ?_
              refine w265_67 l3 ?_
              refine w265_70 l5 ?_
              refine w265_73 ?_
              exact ih I6 g4 (nI q) (fun _ => by rw [nx, if_pos hz]) _ l0 l1 l2 (by rw [nx, hz]; exact am_nx 0) rfl (am_nx q)
            · refine w265_43 l0 ?_
              refine w265_44 (k := c267 L (am_pm5 q hq) g3 (by rw [e143]; exact b01) ?_)
              rw [hti]
              refine w265_47 l1 ?_
              refine w265_48 (fun _ => ?_) (fun hQ => absurd (congrArg nI hwi) hQ)
              refine w265_54 l3 ?_
              refine w265_55 (fun _ => ?_) (fun hQ => absurd (nI_ne0 (by omega) (by omega)) hQ)
              refine w265_63 l4 ?_
              refine w265_65 ?_
              refine w265_67 l3 ?_
              refine w265_70 l5 ?_
              refine w265_73 ?_
              exact ih I6 g4 fi (fun _ => by rw [nx, if_neg hz]; exact hfi hz) _ l0 l1 l2 (by rw [nx]; exact am_nx _) rfl (am_nx q)
          · rw [if_neg hwi] at nx
            refine w265_43 l0 ?_
            refine w265_44 (k := c267 L (am_pm5 q hq) g3 (by rw [e143]; exact b01) ?_)
            rw [hti]
            refine w265_47 l1 ?_
            refine w265_48 (fun hQ => absurd hQ (fun z => hwi ((nI_eq (by omega) (by omega)).mp z))) (fun _ => ?_)
            refine w265_51 ?_
            refine w265_70 l5 ?_
            refine w265_73 ?_
            exact ih I6 g4 fi (fun z => by rw [nx] at z ⊢; exact hfi z) _ l0 l1 l2 (by rw [nx]; exact l3) l4 (am_nx q)
        · intro I5 g1 fi hfi lv l0 l1 l2 l3 l4 l5
          have hle := (s_ag_le (m_W I2 (I 126) n b) 120).1
          by_cases hz : (s_ag (m_W I2 (I 126) n b) 120).1 = 0
          · have e0 : m_ag I2 (I 126) n b w = -1 := if_pos hz
            rw [hz] at l3
            refine w265_30 l5 ?_
            refine w265_32 ?_
            refine w265_34 (fun _ => ?_) (fun hQ => absurd (Int32.le_refl _) hQ)
            refine w265_76 l3 ?_
            refine w265_77 (fun _ => ?_) (fun hQ => absurd rfl hQ)
            refine w265_84 l3 ?_
            refine w265_85 (fun hQ => absurd hQ (fun z => z rfl)) (fun _ => ?_)
            refine w265_88 ?_
            refine w265_89 ?_
            refine w265_93 ?_
            rw [← e0]
            exact fin I5 g1
          · by_cases hw0 : w = 0
            · have e0 : m_ag I2 (I 126) n b w = nI (s_ag (m_W I2 (I 126) n b) 120).1 := by unfold m_ag; rw [if_neg hz, if_pos hw0]
              rw [hw0] at l2
              refine w265_30 l5 ?_
              refine w265_32 ?_
              refine w265_34 (fun _ => ?_) (fun hQ => absurd (Int32.le_refl _) hQ)
              refine w265_76 l3 ?_
              refine w265_77 (fun hQ => absurd hQ (nI_ne0 (by omega) (by omega))) (fun _ => ?_)
              refine w265_80 l2 ?_
              refine w265_81 (fun hQ => absurd hQ (fun z => z rfl)) (fun _ => ?_)
              refine w265_84 l3 ?_
              refine w265_85 (fun _ => ?_) (fun hQ => absurd (nI_ne0 (by omega) (by omega)) hQ)
              refine w265_92 l3 ?_
              refine w265_93 ?_
              rw [← e0]
              exact fin I5 g1
            · have ew : nI w - 1 = nI (w - 1) := nI_sub1 (by omega)
              have hf2 := s_ag_lt (m_W I2 (I 126) n b) 120 hz
              have e0 : m_ag I2 (I 126) n b w = nI (am_pm (s_ag (m_W I2 (I 126) n b) 120).2 (w - 1)) := by unfold m_ag; rw [if_neg hz, if_neg hw0]
              rw [hfi hz] at l4
              refine w265_30 l5 ?_
              refine w265_32 ?_
              refine w265_34 (fun _ => ?_) (fun hQ => absurd (Int32.le_refl _) hQ)
              refine w265_76 l3 ?_
              refine w265_77 (fun hQ => absurd hQ (nI_ne0 (by omega) (by omega))) (fun _ => ?_)
              refine w265_80 l2 ?_
              refine w265_81 (fun _ => ?_) (fun hQ => absurd (nI_ne0 (by omega) (by omega)) hQ)
              refine w265_94 l0 ?_
              refine w265_95 l4 ?_
              refine w265_97 (k := c266 L hf2 (fun I6 g2 g3 => ?_))
              refine w265_100 l0 ?_
              refine w265_101 (L.2 _ _ _ rfl) ?_
              refine w265_104 l2 ?_
              refine w265_105 ?_
              refine w265_106 ?_
              rw [ew]
              refine w265_107 (L.sh rfl) (am_in_nI (by omega) (by decide)) ?_
              rw [am_clN (by omega), g3 (w - 1) (by omega)]
              refine w265_108 ?_
              rw [← e0]
              exact fin I6 (fun a ha => (g2 a ha).trans (g1 a ha))
    · refine op_c r (-1) (fun Q k => ?_) (fun Q k => ?_)
      · show am_wp pr (d + 60) 126 0 [(0, .ref 64), (1, .int (nI b)), (2, .int y)] [] _ _
        refine w126_0 rfl ?_
        refine w126_1 (k := c18b hb ?_)
        refine w126_4 (fun hQ => absurd hQ am_n01) (fun _ => ?_)
        refine w126_7 rfl ?_
        refine w126_8 (fun h8 => ?_) (fun h8 => ?_)
        · refine w126_16 ?_
          refine w126_17 ?_
          exact k
        · replace h8 := Int32.not_lt.mp h8
          refine w126_11 rfl ?_
          refine w126_12 ?_
          refine w126_13 (fun h13 => ?_) (fun h13 => ?_)
          · exact absurd ⟨h8, h13⟩ hyy
          · replace h13 := Int32.not_le.mp h13
            refine w126_16 ?_
            refine w126_17 ?_
            exact k
      · show am_wp pr (d + 60) 265 0 [(0, .ref 124), (1, .int (nI b)), (2, .int y)] [] _ _
        refine w265_0 rfl ?_
        refine w265_1 (k := c177b hb ?_)
        refine w265_4 (fun hQ => absurd hQ am_n01) (fun _ => ?_)
        refine w265_7 rfl ?_
        refine w265_8 ?_
        refine w265_9 ?_
        refine w265_10 (k := c164 ?_)
        rw [am_b_f hyy]
        refine w265_13 (fun hQ => absurd hQ (by decide)) (fun _ => ?_)
        refine w265_16 ?_
        refine w265_17 ?_
        exact k
  · refine op_c r (-1) (fun Q k => ?_) (fun Q k => ?_)
    · show am_wp pr (d + 60) 126 0 [(0, .ref 64), (1, .int x), (2, .int y)] [] _ _
      refine w126_0 rfl ?_
      refine w126_1 (k := c18 ?_)
      rw [am_b_f hxx]
      refine w126_4 (fun _ => ?_) (fun hQ => absurd rfl hQ)
      refine w126_16 ?_
      refine w126_17 ?_
      exact k
    · have h2 : ¬ (0 ≤ x ∧ x ≤ 4) := fun q => hxx ⟨q.1, by have := q.2; simp only [Int32.lt_iff_toInt_lt, Int32.le_iff_toInt_le, ← Int32.toInt_inj, am_z0, am_z1, am_z2, am_z3, am_z4, am_z5, am_z6, am_z7, am_z8, am_z9, am_z10, am_z12, am_z16, am_z20, am_z99, am_z999, am_zm1, am_zo4, am_zo5, am_zo7] at *; omega⟩
      show am_wp pr (d + 60) 265 0 [(0, .ref 124), (1, .int x), (2, .int y)] [] _ _
      refine w265_0 rfl ?_
      refine w265_1 (k := c177 ?_)
      rw [am_b_f h2]
      refine w265_4 (fun _ => ?_) (fun hQ => absurd rfl hQ)
      refine w265_16 ?_
      refine w265_17 ?_
      exact k
end
