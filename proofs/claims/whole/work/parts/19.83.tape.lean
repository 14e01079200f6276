/-! what is fed, and rows -/
section
variable {pr : am_Pr} {d : Nat} {S : List (Nat × Nat)} {I : Nat → Nat → Int32} {J : Nat → Nat → Int64} {P : Nat → Nat → Option Nat} {Q : Option Value → am_H → Prop} {n l s u tp : Nat} {kp lf kp' : Nat → Int32}
def f_sh : Nat → Int32
  | 0 => 24
  | 1 => 16
  | 2 => 8
  | 3 => 0
  | _ => -8
theorem f_sh_s : ∀ i, i < 4 → f_sh i + (-8) = f_sh (i + 1) ∧ ¬ f_sh i < 0
  | 0, _ => ⟨by decide, by decide⟩
  | 1, _ => ⟨by decide, by decide⟩
  | 2, _ => ⟨by decide, by decide⟩
  | 3, _ => ⟨by decide, by decide⟩
  | i + 4, h => absurd h (by omega)
theorem f_sh_20 : ∀ j, j < 20 → nI j / 4 = nI (j / 4) ∧ 24 - 8 * (nI j - nI (j / 4) * 4) = f_sh (j % 4) := by
  have h : (List.range 20).all (fun j => decide (nI j / 4 = nI (j / 4)) && decide (24 - 8 * (nI j - nI (j / 4) * 4) = f_sh (j % 4))) = true := by decide +kernel
  intro j hj
  have q := List.all_eq_true.mp h j (List.mem_range.mpr hj)
  simp only [Bool.and_eq_true, decide_eq_true_eq] at q
  exact q
def f_x (a b c d e : Int32) : Nat → Int32
  | 0 => a
  | 1 => b
  | 2 => c
  | 3 => d
  | _ => e
/-- Tape: add -/
theorem c42 (L : am_Lay S P) {x : Int32} {t i : Nat} {V : Nat → Int32} (ht : I 94 0 = nI (t + 4 * i)) (h4 : t + 4 * i + 4 ≤ 400) (hV : ∀ j, j < 4 * i → I 95 (t + j) = V j) (hx : ∀ e, e < 4 → x >>> (f_sh e &&& 31) &&& 255 = V (4 * i + e)) (k : ∀ I', (∀ a, a ≠ 94 → a ≠ 95 → I' a = I a) → I' 94 0 = nI (t + 4 * (i + 1)) → (∀ j, j < t → I' 95 j = I 95 j) → (∀ j, j < 4 * (i + 1) → I' 95 (t + j) = V j) → Q none (S, I', J, P)) : am_ev pr d 42 [.ref 94, .int x] (S, I, J, P) Q := by
  show am_wp pr d 42 0 [(0, .ref 94), (1, .int x)] [] _ _
  refine w42_0 ?_
  refine w42_2 ?_
  refine am_for (fun e => ∀ I' : Nat → Nat → Int32, (∀ a, a ≠ 94 → a ≠ 95 → I' a = I a) → I' 94 0 = nI (t + 4 * i + e) → (∀ j, j < t → I' 95 j = I 95 j) → (∀ j, j < 4 * i + e → I' 95 (t + j) = V j) → ∀ lv, am_ld1 lv 0 = some (.ref 94) → am_ld1 lv 1 = some (.int x) → am_ld1 lv 2 = some (.int (f_sh e)) → am_wp pr (d) 42 3 lv [] (S, I', J, P) Q) 4 ?_ ?_ I (fun _ _ _ => rfl) ht (fun _ _ => rfl) hV _ rfl rfl rfl
  · intro e he ih I' f1 f2 f3 f4 lv l0 l1 l2
    obtain ⟨s1, s2⟩ := f_sh_s e he
    refine w42_3 l2 ?_
    refine w42_4 (fun hQ => absurd hQ s2) (fun _ => ?_)
    refine w42_7 l0 ?_
    refine w42_8 ?_
    rw [f2]
    refine w42_11 (fun hQ => absurd hQ (nI_pos (by omega))) (fun _ => ?_)
    refine w42_14 l0 ?_
    refine w42_15 ?_
    rw [f2]
    refine w42_18 ?_
    refine w42_21 (fun hQ => absurd hQ (am_nlt (show t + 4 * i + e < 400 by omega) (by decide))) (fun _ => ?_)
    refine w42_24 l0 ?_
    refine w42_25 (L.2 _ _ _ rfl) ?_
    refine w42_28 l0 ?_
    refine w42_29 ?_
    rw [f2]
    refine w42_32 l1 ?_
    refine w42_33 l2 ?_
    refine w42_34 ?_
    refine w42_35 ?_
    refine w42_38 ?_
    rw [hx e he]
    refine w42_39 (L.sh rfl) (am_in_nI (by omega) (by decide)) ?_
    rw [am_clN (by omega)]
    refine w42_40 l0 ?_
    refine w42_41 rfl ?_
    refine w42_42 ?_
    rw [am_u_ne (show 94 ≠ 95 by decide), f2]
    refine w42_45 ?_
    refine w42_46 ?_
    rw [nI_1]
    refine w42_47 ?_
    refine w42_50 l2 ?_
    refine w42_53 ?_
    refine ih _ (fun a a1 a2 => by rw [am_u_ne a1, am_u_ne a2, f1 a a1 a2]) (by rw [am_u_self]; rfl) (fun j hj => ?_) (fun j hj => ?_) _ l0 l1 ?_
    · rw [am_u_ne (by decide), am_u_at (by omega), f3 j hj]
    · rw [am_u_ne (by decide)]
      by_cases z : j = 4 * i + e
      · rw [z, show t + (4 * i + e) = t + 4 * i + e by omega, am_u_self]
      · rw [am_u_at (by omega)]
        exact f4 j (by omega)
    · rw [← s1]; rfl
  · intro I' f1 f2 f3 f4 lv l0 l1 l2
    refine w42_3 l2 ?_
    refine w42_4 (fun _ => ?_) (fun hQ => absurd (by decide) hQ)
    refine w42_56 ?_
    exact k I' f1 (by rw [f2]; congr 1) f3 (fun j hj => f4 j (by omega))
theorem f_nar (y : Int32) : vp_nar .byte y.toInt8.toInt32 = y.toInt8.toInt32 := by
  show y.toInt8.toInt32.toInt8.toInt32 = _
  rw [Int8.toInt8_toInt32]
/-- feed -/
theorem c41 (L : am_Lay S P) {x0 x1 x2 x3 x4 : Int32} {t : Nat} (ht : I 94 0 = nI t) (h4 : t + 20 ≤ 400) (k : ∀ I', (∀ a, a ≠ 94 → a ≠ 95 → I' a = I a) → I' 94 0 = nI (t + 20) → (∀ j, j < t → I' 95 j = I 95 j) → (∀ j, j < 20 → I' 95 (t + j) = f_x x0 x1 x2 x3 x4 (j / 4) >>> (f_sh (j % 4) &&& 31) &&& 255) → Q (some (.int (nI (t + 20)))) (S, I', J, P)) : am_ev pr (d + 1) 41 [.ref 64, .int x0, .int x1, .int x2, .int x3, .int x4] (S, I, J, P) Q := by
  show am_wp pr (d + 1) 41 0 [(0, .ref 64), (1, .int x0), (2, .int x1), (3, .int x2), (4, .int x3), (5, .int x4)] [] _ _
  have hV : ∀ i e, e < 4 → f_x x0 x1 x2 x3 x4 i >>> (f_sh e &&& 31) &&& 255 = f_x x0 x1 x2 x3 x4 ((4 * i + e) / 4) >>> (f_sh ((4 * i + e) % 4) &&& 31) &&& 255 := fun i e he => by rw [show (4 * i + e) / 4 = i by omega, show (4 * i + e) % 4 = e by omega]
  generalize hVV : (fun j => f_x x0 x1 x2 x3 x4 (j / 4) >>> (f_sh (j % 4) &&& 31) &&& 255) = V
  have hV2 : ∀ i e, e < 4 → f_x x0 x1 x2 x3 x4 i >>> (f_sh e &&& 31) &&& 255 = V (4 * i + e) := fun i e he => by rw [← hVV]; exact hV i e he
  refine w41_0 rfl ?_
  refine w41_1 (L.2 _ _ _ rfl) ?_
  refine w41_4 ?_
  rw [ht]
  refine w41_7 ?_
  refine w41_9 ?_
  rw [show (20 : Int32) = nI 20 from rfl, nI_add]
  refine w41_10 ?_
  refine w41_13 (fun _ => ?_) (fun hQ => absurd (nI_le (b := 400) h4 (by decide)) hQ)
  refine w41_18 rfl ?_
  refine w41_19 (L.2 _ _ _ rfl) ?_
  refine w41_22 rfl ?_
  refine w41_23 (k := c42 (i := 0) (t := t) (V := V) L ht (by omega) (fun j hj => absurd hj (Nat.not_lt_zero j)) (hV2 0) (fun I1 a1 a2 a3 a4 => ?_))
  refine w41_26 rfl ?_
  refine w41_27 (L.2 _ _ _ rfl) ?_
  refine w41_30 rfl ?_
  refine w41_31 (k := c42 (i := 1) (t := t) (V := V) L a2 (by omega) a4 (hV2 1) (fun I2 b1 b2 b3 b4 => ?_))
  refine w41_34 rfl ?_
  refine w41_35 (L.2 _ _ _ rfl) ?_
  refine w41_38 rfl ?_
  refine w41_39 (k := c42 (i := 2) (t := t) (V := V) L b2 (by omega) b4 (hV2 2) (fun I3 c1 c2 c3 c4 => ?_))
  refine w41_42 rfl ?_
  refine w41_43 (L.2 _ _ _ rfl) ?_
  refine w41_46 rfl ?_
  refine w41_48 (k := c42 (i := 3) (t := t) (V := V) L c2 (by omega) c4 (hV2 3) (fun I4 d1 d2 d3 d4 => ?_))
  refine w41_51 rfl ?_
  refine w41_52 (L.2 _ _ _ rfl) ?_
  refine w41_55 rfl ?_
  refine w41_57 (k := c42 (i := 4) (t := t) (V := V) L d2 (by omega) d4 (hV2 4) (fun I5 e1 e2 e3 e4 => ?_))
  have e6 : I5 94 0 = nI (t + 20) := e2
  refine w41_60 rfl ?_
  refine w41_61 (L.2 _ _ _ rfl) ?_
  refine w41_64 ?_
  rw [e6]
  refine w41_67 ?_
  refine k I5 (fun a h1 h2 => by rw [e1 a h1 h2, d1 a h1 h2, c1 a h1 h2, b1 a h1 h2, a1 a h1 h2]) e6 (fun j hj => by rw [e3 j hj, d3 j hj, c3 j hj, b3 j hj, a3 j hj]) (fun j hj => ?_)
  rw [e4 j hj, ← hVV]
theorem c217 (L : am_Lay S P) {x0 x1 x2 x3 x4 : Int32} {t : Nat} (ht : I 124 13 = nI t) (h4 : t + 20 ≤ 400) (k : ∀ I', (∀ a, a ≠ 124 → a ≠ 131 → a ≠ 132 → I' a = I a) → (∀ q, q ≠ 13 → I' 124 q = I 124 q) → I' 124 13 = nI (t + 20) → (∀ j, j < t → I' 131 j = I 131 j) → (∀ j, j < 20 → I' 131 (t + j) = (f_x x0 x1 x2 x3 x4 (j / 4) >>> (f_sh (j % 4) &&& 31)).toInt8.toInt32) → Q (some (.int (nI (t + 20)))) (S, I', J, P)) : am_ev pr d 217 [.ref 124, .int x0, .int x1, .int x2, .int x3, .int x4] (S, I, J, P) Q := by
  show am_wp pr d 217 0 [(0, .ref 124), (1, .int x0), (2, .int x1), (3, .int x2), (4, .int x3), (5, .int x4)] [] _ _
  refine w217_0 rfl ?_
  refine w217_1 ?_
  rw [ht]
  refine w217_4 ?_
  refine w217_6 ?_
  rw [show (20 : Int32) = nI 20 from rfl, nI_add]
  refine w217_7 ?_
  refine w217_10 (fun _ => ?_) (fun hQ => absurd (nI_le (b := 400) h4 (by decide)) hQ)
  refine w217_15 rfl ?_
  refine w217_16 (L.2 _ _ _ rfl) ?_
  refine w217_19 ?_
  refine w217_20 rfl ?_
  refine w217_21 (L.sh rfl) (by decide) ?_
  rw [tl_0]
  refine w217_22 rfl ?_
  refine w217_23 (L.2 _ _ _ rfl) ?_
  refine w217_26 ?_
  refine w217_27 rfl ?_
  refine w217_28 (L.sh rfl) (by decide) ?_
  rw [tl_1]
  refine w217_29 rfl ?_
  refine w217_30 (L.2 _ _ _ rfl) ?_
  refine w217_33 ?_
  refine w217_34 rfl ?_
  refine w217_35 (L.sh rfl) (by decide) ?_
  rw [tl_2]
  refine w217_36 rfl ?_
  refine w217_37 (L.2 _ _ _ rfl) ?_
  refine w217_40 ?_
  refine w217_41 rfl ?_
  refine w217_43 (L.sh rfl) (by decide) ?_
  rw [tl_3]
  refine w217_44 rfl ?_
  refine w217_45 (L.2 _ _ _ rfl) ?_
  refine w217_48 ?_
  refine w217_49 rfl ?_
  refine w217_51 (L.sh rfl) (by decide) ?_
  rw [tl_4]
  refine w217_52 ?_
  refine w217_53 ?_
  generalize hI0 : am_u (am_u (am_u (am_u (am_u I 132 0 x0) 132 1 x1) 132 2 x2) 132 3 x3) 132 4 x4 = I0
  have er : ∀ a, a ≠ 132 → I0 a = I a := fun a ha => by rw [← hI0, am_u_ne ha, am_u_ne ha, am_u_ne ha, am_u_ne ha, am_u_ne ha]
  have ex : ∀ q, q < 5 → I0 132 q = f_x x0 x1 x2 x3 x4 q := by
    intro q hq
    rw [← hI0]
    match q, hq with
    | 0, _ => rw [am_u_at (by decide), am_u_at (by decide), am_u_at (by decide), am_u_at (by decide), am_u_self]; rfl
    | 1, _ => rw [am_u_at (by decide), am_u_at (by decide), am_u_at (by decide), am_u_self]; rfl
    | 2, _ => rw [am_u_at (by decide), am_u_at (by decide), am_u_self]; rfl
    | 3, _ => rw [am_u_at (by decide), am_u_self]; rfl
    | 4, _ => rw [am_u_self]; rfl
  refine am_for (fun b => ∀ I' : Nat → Nat → Int32, (∀ a, a ≠ 131 → I' a = I0 a) → (∀ j, j < t → I' 131 j = I 131 j) → (∀ j, j < b → I' 131 (t + j) = (f_x x0 x1 x2 x3 x4 (j / 4) >>> (f_sh (j % 4) &&& 31)).toInt8.toInt32) → ∀ lv, am_ld1 lv 0 = some (.ref 124) → am_ld1 lv 6 = some (.int (nI b)) → am_wp pr (d) 217 55 lv [] (S, I', J, P) Q) 20 ?_ ?_ I0 (fun _ _ => rfl) (fun j _ => by rw [er 131 (by decide)]) (fun j hj => absurd hj (Nat.not_lt_zero j)) _ rfl rfl
  · intro b hb ih I' f1 f2 f3 lv l0 l6
    obtain ⟨s1, s2⟩ := f_sh_20 b hb
    have e13 : I' 124 13 = nI t := by rw [f1 124 (by decide), er 124 (by decide)]; exact ht
    have e132 : I' 132 (b / 4) = f_x x0 x1 x2 x3 x4 (b / 4) := by rw [f1 132 (by decide)]; exact ex _ (by omega)
    refine w217_55 l6 ?_
    refine w217_57 ?_
    refine w217_59 (fun hQ => absurd hQ (am_nlt hb (by decide))) (fun _ => ?_)
    refine w217_62 l0 ?_
    refine w217_63 (L.2 _ _ _ rfl) ?_
    refine w217_66 l0 ?_
    refine w217_67 ?_
    rw [e13]
    refine w217_70 l6 ?_
    refine w217_72 ?_
    rw [nI_add]
    refine w217_73 l0 ?_
    refine w217_74 (L.2 _ _ _ rfl) ?_
    refine w217_77 l6 ?_
    refine w217_79 ?_
    refine w217_80 (by decide) ?_
    rw [s1]
    refine w217_81 (L.sh rfl) (am_in_nI (by omega) (by decide)) ?_
    rw [am_clN (by omega), e132]
    refine w217_82 ?_
    refine w217_84 ?_
    refine w217_86 l6 ?_
    refine w217_88 ?_
    refine w217_89 (by decide) ?_
    rw [s1]
    refine w217_90 ?_
    refine w217_91 ?_
    rw [s2]
    refine w217_92 ?_
    refine w217_93 ?_
    refine w217_94 (L.sh rfl) (am_in_nI (by omega) (by decide)) ?_
    rw [am_clN (by omega), f_nar]
    refine w217_95 l6 ?_
    refine w217_98 ?_
    refine ih _ (fun a ha => by rw [am_u_ne ha]; exact f1 a ha) (fun j hj => ?_) (fun j hj => ?_) _ l0 (am_nx b)
    · rw [am_u_at (by omega)]; exact f2 j hj
    · by_cases z : j = b
      · rw [z, am_u_self]
      · rw [am_u_at (by omega)]; exact f3 j (by omega)
  · intro I' f1 f2 f3 lv l0 l6
    have e13 : I' 124 13 = nI t := by rw [f1 124 (by decide), er 124 (by decide)]; exact ht
    refine w217_55 l6 ?_
    refine w217_57 ?_
    refine w217_59 (fun _ => ?_) (fun hQ => absurd (Int32.le_refl _) hQ)
    refine w217_101 l0 ?_
    refine w217_102 rfl ?_
    refine w217_103 ?_
    rw [e13]
    refine w217_106 ?_
    refine w217_108 ?_
    rw [show (20 : Int32) = nI 20 from rfl, nI_add]
    refine w217_109 ?_
    refine w217_112 l0 ?_
    refine w217_113 ?_
    rw [am_u_self]
    refine w217_116 ?_
    exact k _ (fun a a1 a2 a3 => by rw [am_u_ne a1, f1 a a2, er a a3]) (fun q hq => by rw [am_u_at hq, f1 124 (by decide), er 124 (by decide)]) am_u_self (fun j hj => by rw [am_u_ne (by decide)]; exact f2 j hj) (fun j hj => by rw [am_u_ne (by decide)]; exact f3 j hj)
/-- feed -/
theorem op_5 (r : am_R S I P n l s u tp) {x0 x1 x2 x3 x4 : Int32} : am_op pr (d + 60) S I J P 41 [.ref 64, .int x0, .int x1, .int x2, .int x3, .int x4] 217 [.ref 124, .int x0, .int x1, .int x2, .int x3, .int x4] := by
  have hr := r.hr
  have L := r.L
  obtain ⟨t1, t2, t3, t4⟩ := r.tape
  by_cases h4 : tp + 20 ≤ 400
  · refine c41 L t2 h4 (fun I1 f1 f2 f3 f4 => ⟨_, rfl, ?_⟩)
    refine c217 L (t := tp) (by rw [f1 124 (by decide) (by decide)]; exact t3) h4 (fun I2 g1 g2 g3 g4 g5 => ?_)
    have e : ∀ a, a ≠ 124 → a ≠ 131 → a ≠ 132 → a ≠ 94 → a ≠ 95 → I2 a = I a := fun a a1 a2 a3 a4 a5 => by rw [g1 a a1 a2 a3, f1 a a4 a5]
    have e124 : ∀ q, q ≠ 13 → I2 124 q = I 124 q := fun q hq => by rw [g2 q hq, f1 124 (by decide) (by decide)]
    have e126 : I2 126 = I 126 := e 126 (by decide) (by decide) (by decide) (by decide) (by decide)
    have e64 : I2 64 = I 64 := e 64 (by decide) (by decide) (by decide) (by decide) (by decide)
    refine am_oi_0 (n := n) (l := l) (s := s) (u := u) (tp := tp + 20) (am_R_mk r (fun a ha => e a (by omega) (by omega) (by omega) (by omega) (by omega)) (e 127 (by decide) (by decide) (by decide) (by decide) (by decide)) (e 128 (by decide) (by decide) (by decide) (by decide) (by decide)) (e 130 (by decide) (by decide) (by decide) (by decide) (by decide)) (fun j _ => by rw [e126]) ?_ ?_ ?_ ?_ ?_ ?_) rfl
    · rw [e126]; exact am_HR_cg 65 (fun a h1 h2 => e a (by omega) (by omega) (by omega) (by omega) (by omega)) rfl hr
    · rw [e 90 (by decide) (by decide) (by decide) (by decide) (by decide), e 91 (by decide) (by decide) (by decide) (by decide) (by decide), e 141 (by decide) (by decide) (by decide) (by decide) (by decide), e126, e124 35 (by decide)]; exact r.past
    · refine ⟨h4, by rw [g1 94 (by decide) (by decide) (by decide)]; exact f2, g3, fun k hk => ?_⟩
      rw [g1 95 (by decide) (by decide) (by decide)]
      by_cases z : k < tp
      · rw [f3 k z, g4 k z, f1 131 (by decide) (by decide)]; exact t4 k z
      · obtain ⟨j, rfl⟩ : ∃ j, k = tp + j := ⟨k - tp, by omega⟩
        rw [f4 j (by omega), g5 j (by omega), am_b255, Int8.toInt8_toInt32]
        exact ⟨rfl, rfl⟩
    · rw [e 96 (by decide) (by decide) (by decide) (by decide) (by decide), e64, e124 14 (by decide), e124 40 (by decide), e124 6 (by decide), e124 0 (by decide)]; exact r.i8
    · rw [e 123 (by decide) (by decide) (by decide) (by decide) (by decide), e 125 (by decide) (by decide) (by decide) (by decide) (by decide)]; exact r.i9
    · rw [e 81 (by decide) (by decide) (by decide) (by decide) (by decide), e 84 (by decide) (by decide) (by decide) (by decide) (by decide), e 148 (by decide) (by decide) (by decide) (by decide) (by decide), e124 48 (by decide)]; exact r.draw
  · have q : ¬ nI (tp + 20) ≤ 400 := Int32.not_le.mpr (nI_lt (a := 400) (by omega) (by omega))
    show am_wp pr (d + 60) 41 0 [(0, .ref 64), (1, .int x0), (2, .int x1), (3, .int x2), (4, .int x3), (5, .int x4)] [] _ _
    refine w41_0 rfl ?_
    refine w41_1 (L.2 _ _ _ rfl) ?_
    refine w41_4 ?_
    rw [t2]
    refine w41_7 ?_
    refine w41_9 ?_
    rw [show (20 : Int32) = nI 20 from rfl, nI_add]
    refine w41_10 ?_
    refine w41_13 (fun hQ => absurd hQ q) (fun _ => ?_)
    refine w41_16 ?_
    refine w41_17 ⟨_, rfl, ?_⟩
    show am_wp pr (d + 60) 217 0 [(0, .ref 124), (1, .int x0), (2, .int x1), (3, .int x2), (4, .int x3), (5, .int x4)] [] _ _
    refine w217_0 rfl ?_
    refine w217_1 ?_
    rw [t3]
    refine w217_4 ?_
    refine w217_6 ?_
    rw [show (20 : Int32) = nI 20 from rfl, nI_add]
    refine w217_7 ?_
    refine w217_10 (fun hQ => absurd hQ q) (fun _ => ?_)
    refine w217_13 ?_
    refine w217_14 ?_
    exact am_oi_0 r rfl
end
