/-! law: both sides' call -/
section
variable {pr : am_Pr} {d : Nat} {S S' : List (Nat × Nat)} {I I' Ic Im : Nat → Nat → Int32} {J J' : Nat → Nat → Int64} {P P' : Nat → Nat → Option Nat} {Q : Option Value → am_H → Prop} {n l s u tp : Nat} {kp lf kp' : Nat → Int32} {x : Int32}
/-- both sides have read, and refuse -/
theorem am_R_rx (r : am_R S I P n l s u tp) (hc : ∀ a, a ≠ 64 → a ≠ 94 → (a < 96 ∨ 107 < a) → Ic a = I a) (hc0 : Ic 94 0 = 0) (hm : ∀ a, a ≠ 124 → a ≠ 133 → a ≠ 134 → a ≠ 135 → Im a = rf_c Ic x a) (hm13 : Im 124 13 = 0) (h8 : Ic 96 3 = Im 124 14) (h13 : Ic 64 13 = Im 124 40) (h14 : Ic 64 14 = Im 124 6) (h35 : Im 124 35 = I 124 35) (h48 : Im 124 48 = I 124 48) : am_R S (rf_m Im x) P n l s u 0 := by
  have e : ∀ a, a ≠ 64 → a ≠ 94 → (a < 96 ∨ 107 < a) → a ≠ 123 → a ≠ 124 → a ≠ 125 → a ≠ 133 → a ≠ 134 → a ≠ 135 → rf_m Im x a = I a := fun a a1 a2 a3 a4 a5 a6 a7 a8 a9 => by rw [rf_m_ne a5 a6, hm a a5 a7 a8 a9, rf_c_ne a1 a4, hc a a1 a2 a3]
  refine am_R_rd r (fun a ha => e a (by omega) (by omega) (by omega) (by omega) (by omega) (by omega) (by omega) (by omega) (by omega)) ?_ ?_ ?_ ?_ ?_ (fun k hk => ?_)
  · rw [rf_m_ne (by decide) (by decide), hm 94 (by decide) (by decide) (by decide) (by decide), rf_c_ne (by decide) (by decide)]; exact hc0
  · rw [rf_m_124 (by decide)]; exact hm13
  · rw [rf_m_124 (by decide)]; exact h35
  · rw [rf_m_124 (by decide)]; exact h48
  · rw [rf_m_ne (show 96 ≠ 124 by decide) (by decide), rf_m_ne (show 64 ≠ 124 by decide) (by decide), hm 96 (by decide) (by decide) (by decide) (by decide), hm 64 (by decide) (by decide) (by decide) (by decide), rf_c_ne (show 96 ≠ 64 by decide) (by decide), rf_c_64 (by decide), rf_c_64 (by decide), rf_c_16, rf_m_124 (by decide), rf_m_124 (by decide), rf_m_124 (by decide), rf_m_0]
    exact ⟨h8, h13, h14, rfl⟩
  · rw [rf_m_125, rf_m_ne (by decide) (by decide), hm 123 (by decide) (by decide) (by decide) (by decide), hm 125 (by decide) (by decide) (by decide) (by decide), rf_c_123, rf_c_ne (show 125 ≠ 64 by decide) (by decide), hc 123 (by decide) (by decide) (by decide), hc 125 (by decide) (by decide) (by decide), r.i9 k hk]
theorem am_LW_g {W : List (Nat × Nat)} {p : Nat → Option Nat} (eI : ∀ a, 149 ≤ a → a < S.length → I' a = I a) (eP : ∀ a, 149 ≤ a → a < S.length → P' a = P a) (ls : am_LS S P p) (r : am_LW S I P p kp l) : am_LW (S ++ W) I' P' p kp l := by
  intro i hi
  obtain ⟨t, xs, h1, h2, h3, h4⟩ := r i hi
  have h6 := (ls i t h1).2.1
  exact ⟨t, xs, h1, h2, am_TI_cg (fun _ _ z => am_sh_app z) (eP t h2 (by omega)) (fun a a1 a2 => eI a (by omega) (by omega)) h3, h4⟩
theorem am_LS_g {W : List (Nat × Nat)} {p : Nat → Option Nat} (e : P' 89 = P 89) (ls : am_LS S P p) : am_LS (S ++ W) P' p := by
  intro i t h
  obtain ⟨h1, h2, h3⟩ := ls i t h
  exact ⟨am_sh_app h1, by rw [List.length_append]; omega, by rw [e]; exact h3⟩
theorem am_IM_g {W : List (Nat × Nat)} {q : Nat} (eI : ∀ a, 149 ≤ a → a < S.length → I' a = I a) (e127 : I' 127 = I 127) (e128 : I' 128 = I 128) (eP : ∀ a, 149 ≤ a → a < S.length → P' a = P a) (e89 : P' 89 = P 89) (r : am_IM S I P q) : am_IM (S ++ W) I' P' q := by
  unfold am_IM
  rw [e89, e127, e128]
  rcases r with y | ⟨y, h', n2, l2, s2, y1, y2, y3, y4, y5, y6, y7⟩
  · exact Or.inl y
  · refine Or.inr ⟨y, h', n2, l2, s2, y1, y2, by rw [List.length_append]; omega, am_Hs_gr (eP h' y2 (by omega)) y4, am_HR_cg h' (fun a b1 b2 => eI a (by omega) (by omega)) rfl y5, ?_, ?_⟩
    · rw [eP (h' + 1 + 4) (by omega) (by omega)]
      exact am_LW_g eI eP y7 y6
    · rw [eP (h' + 1 + 4) (by omega) (by omega)]
      exact am_LS_g e89 y7
theorem am_TK_i {o : Bool} {i : Nat} {xs : List Cl} (h77 : kp' (77 + i) = kp (77 + i)) (h84 : ∀ k, k < 400 → kp' (84 + 400 * i + k) = kp (84 + 400 * i + k)) (h28 : ∀ k, k < 400 → kp' (2884 + 400 * i + k) = kp (2884 + 400 * i + k)) (r : am_TK o kp i xs) : am_TK o kp' i xs := by
  obtain ⟨N, lv, h1, h2, h3, h4⟩ := r
  refine ⟨N, lv, h1, h2, h77.trans h3, ?_⟩
  rw [show k_tk kp' o i N = k_tk kp o i N from ?_]
  · exact h4
  · unfold k_tk
    have e1 : (fun k => if k < N then kp' (84 + 400 * i + k) else 0) = (fun k => if k < N then kp (84 + 400 * i + k) else 0) := by
      funext k
      by_cases z : k < N
      · rw [if_pos z, if_pos z, h84 k (by omega)]
      · rw [if_neg z, if_neg z]
    have e2 : (fun k => if k < N then kp' (2884 + 400 * i + k) else 0) = (fun k => if k < N then kp (2884 + 400 * i + k) else 0) := by
      funext k
      by_cases z : k < N
      · rw [if_pos z, if_pos z, h28 k (by omega)]
      · rw [if_neg z, if_neg z]
    rw [e1, e2]
/-- tokens as they were laid down -/
theorem am_TK_new {o : Bool} {i lv : Nat} {xs : List Cl} {b : Nat → Nat} {ts : List (Nat × Nat)} (hN : ts.length ≤ 400) (hR : p_read (x_T b ts o) ts.length = pOk xs ts.length lv) (h77 : kp (77 + i) = nI ts.length) (ht : ∀ k, k < ts.length → kp (84 + 400 * i + k) = (x_T b ts o).1 k ∧ kp (2884 + 400 * i + k) = (x_T b ts o).2.1 k) : am_TK o kp i xs := by
  have h0 : ∀ q, ts.length ≤ q → (x_T b ts o).1 q = 0 ∧ (x_T b ts o).2.1 q = 0 := by
    intro q hq
    unfold x_T
    have e : ts[q]? = none := List.getElem?_eq_none hq
    show (match ts[q]? with | some q => nI (k_rc b q.1 q.2) | none => 0) = 0 ∧ (match ts[q]? with | some q => nI (k_rn b q.1 q.2) | none => 0) = 0
    rw [e]
    exact ⟨rfl, rfl⟩
  refine ⟨ts.length, lv, hN, ?_, h77, ?_⟩
  · unfold p_read at hR
    rw [show (12 : Nat) = 11 + 1 from rfl, p_list_eq] at hR
    obtain ⟨c, j, l1, h1, -⟩ := pBind_ok hR
    have := p_cl_le (N := ts.length) (fun q hq => (h0 q hq).1) h1
    omega
  · rw [show k_tk kp o i ts.length = x_T b ts o from ?_]
    · exact hR
    · have e1 : (fun k => if k < ts.length then kp (84 + 400 * i + k) else 0) = (x_T b ts o).1 := by
        funext k
        by_cases z : k < ts.length
        · rw [if_pos z, (ht k z).1]
        · rw [if_neg z, (h0 k (by omega)).1]
      have e2 : (fun k => if k < ts.length then kp (2884 + 400 * i + k) else 0) = (x_T b ts o).2.1 := by
        funext k
        by_cases z : k < ts.length
        · rw [if_pos z, (ht k z).2]
        · rw [if_neg z, (h0 k (by omega)).2]
      unfold k_tk
      rw [e1, e2]
      rfl
/-- law -/
theorem op_9 (r : am_R S I P n l s u tp) : am_op pr (d + 60) S I J P 48 [.ref 64] 219 [.ref 124] := by
  have hr := r.hr
  have L := r.L
  have l6 := hr.l6
  have n7 := hr.n7
  have s6 := hr.s6
  have hlen := L.len
  obtain ⟨t400, t2, t3, t4⟩ := r.tape
  obtain ⟨b, hb, hbm, hb2⟩ := r.bytes
  have hw : ∀ k x, am_wds[k]? = some x → I 130 k = nI x := r 11
  have e65 : I 65 3 = nI l := hr.hl
  have e75 : I 126 75 = nI l := hr.kl
  obtain ⟨ts, hts⟩ : ∃ ts, ts = sc b tp (tp + 1) 0 := ⟨_, rfl⟩
  have hN : ts.length ≤ 400 := by
    have q := sc_len (b := b) (z := tp) (tp + 1) 0 (by omega)
    rw [← hts] at q
    omega
  have tr := tk_R_of (o := false) hb2 hts
  obtain ⟨R, hR⟩ := Option.ne_none_iff_exists'.mp (p_read_ne tr.1 hN)
  show am_wp pr (d + 60) 48 0 [(0, .ref 64)] [] _ _
  by_cases hl6 : l < 6
  · have hl6i : ¬ nI l = 6 := nI_ne (b := 6) (by omega) (by omega) (by decide)
    refine w48_0 rfl ?_
    refine w48_1 (L.2 _ _ _ rfl) ?_
    refine w48_4 ?_
    rw [e65]
    refine w48_7 ?_
    refine w48_9 (fun _ => ?_) (fun hQ => absurd (nI_lt (b := 6) hl6 (by decide)) hQ)
    refine w48_27 rfl ?_
    refine w48_28 (L.2 _ _ _ rfl) ?_
    refine w48_31 rfl ?_
    refine w48_32 (L.2 _ _ _ rfl) ?_
    refine w48_35 ?_
    refine w48_36 (k := c49 (d := d + 15) (o := false) L t400 t2 hb hb2 hts hR (fun xs lv' I1 hR1 V1 h3 hTI hDC => ?_) (fun j I1 hR1 hj V1 h3 => ?_))
    · obtain ⟨N', z, q1, q2, q3, q4, q5, q6, q7⟩ := id hTI
      have hz : z ≤ 480 := by omega
      have hS : (S ++ [(6, 9)]).length = S.length + 1 := by rw [List.length_append]; rfl
      have hs : am_sh (S ++ [(6, 9)]) S.length (6, 9) := ⟨by omega, by rw [List.getElem?_append_right (Nat.le_refl _), Nat.sub_self]; rfl⟩
      have x3 : ∀ (q : Nat) (x : Cl), xs[q]? = some x → x.2.1.length ≤ 3 := by
        intro q x hx
        rw [hR1] at hR
        have g := (p_read_good hR).1 x (List.mem_of_getElem? hx)
        have g1 := g.1
        rw [if_neg (show ¬ (x_T b ts false).2.2 = true by show ¬ false = true; decide)] at g1
        omega
      have L1 : am_Lay (S ++ [(6, 9)]) (am_row P S.length (fun _ => none)) := am_Lay_gr L (fun a a1 a2 => am_row_ne (by omega))
      have q6' : am_row I1 S.length (fun _ => 0) 101 1 = nI z := by rw [am_row_ne (by omega)]; exact q6
      refine w48_39 (fun _ => ?_) (fun w => absurd (by decide) w)
      refine w48_49 ?_
      refine w48_52 rfl ?_
      refine w48_53 rfl ?_
      refine w48_54 (L1.2 _ _ _ rfl) ?_
      refine w48_57 (L1.2 _ _ _ rfl) ?_
      refine w48_60 ?_
      rw [q6']
      refine w48_63 (k := c6 (h := S.length) (z := z) hS hs hz (fun I3 J3 P3 f1 f2 hT3 => ?_))
      have eS : S ++ [(6, 9)] ++ am_tq z = S ++ ([(6, 9)] ++ am_tq z) := List.append_assoc _ _ _
      rw [eS] at hT3 ⊢
      have eI3 : ∀ a, a < S.length → I3 a = I1 a := fun a ha => by rw [f1 a (by omega), am_row_ne (by omega)]
      have eP3 : ∀ a, a < S.length → P3 a = P a := fun a ha => by rw [f2 a ha, am_row_ne (by omega)]
      have L3 : am_Lay (S ++ ([(6, 9)] ++ am_tq z)) P3 := am_Lay_gr L (fun a a1 a2 => eP3 a (by omega))
      clear L1
      refine w48_66 ?_
      refine w48_67 rfl ?_
      refine w48_68 rfl ?_
      refine w48_69 (L3.2 _ _ _ rfl) ?_
      refine w48_72 (L3.2 _ _ _ rfl) ?_
      refine w48_75 (k := c92 (z := z) L3 hT3 (by omega) hz (by rw [eI3 101 (by omega)]; exact q6) (fun I4 g1 g2 g3 r0 r1 r2 r3 r4 r5 => ?_))
      have e4 : ∀ a, a < S.length → I4 a = I1 a := fun a ha => by rw [g1 a (by omega), eI3 a ha]
      have e465 : I4 65 3 = nI l := by rw [e4 65 (by omega), V1.1 65 (by decide) (by decide)]; exact e65
      refine w48_78 rfl ?_
      refine w48_79 rfl ?_
      refine w48_80 (L3.2 _ _ _ rfl) ?_
      refine w48_83 rfl ?_
      refine w48_84 (k := c93b L3 e465 hl6 hT3.1 ?_)
      have L5 : am_Lay (S ++ ([(6, 9)] ++ am_tq z)) (am_u P3 70 l (some S.length)) := ⟨L3.1, fun a k c w => by
        by_cases e : a = 70
        · subst e
          exact absurd w (by unfold am_ptr; simp [am_pts])
        · rw [am_u_ne e]; exact L3.2 a k c w⟩
      have hT5 : am_Ts (S ++ ([(6, 9)] ++ am_tq z)) (am_u P3 70 l (some S.length)) S.length z := ⟨hT3.1, fun k hk => by rw [am_u_ne (by omega)]; exact hT3.2.1 k hk, hT3.2.2⟩
      have eP5 : ∀ a, a < S.length → a ≠ 70 → am_u P3 70 l (some S.length) a = P a := fun a a1 a2 => by rw [am_u_ne a2, eP3 a a1]
      have eP70 : ∀ j, am_u P3 70 l (some S.length) 70 j = if j = l then some S.length else P 70 j := fun j => by
        rw [am_u_get]
        by_cases q : j = l
        · rw [if_pos ⟨rfl, q⟩, if_pos q]
        · rw [if_neg (fun w => q w.2), if_neg q, eP3 70 (by omega)]
      generalize am_u P3 70 l (some S.length) = P5 at *
      clear L3 hT3
      refine w48_87 (k := c14 L5 ?_)
      refine w48_90 ⟨_, rfl, ?_⟩
      have e6 : ∀ a, a < S.length → a ≠ 64 → a ≠ 65 → am_u (am_u I4 65 3 (nI (l + 1))) 64 16 0 a = I1 a := fun a a1 a2 a3 => by rw [am_u_ne a2, am_u_ne a3, e4 a a1]
      have e6b : ∀ a, S.length ≤ a → am_u (am_u I4 65 3 (nI (l + 1))) 64 16 0 a = I4 a := fun a a1 => by rw [am_u_ne (by omega), am_u_ne (by omega)]
      have e664 : ∀ j, am_u (am_u I4 65 3 (nI (l + 1))) 64 16 0 64 j = if j = 16 then 0 else I1 64 j := fun j => by
        rw [am_u_get]
        by_cases q : j = 16
        · rw [if_pos ⟨rfl, q⟩, if_pos q]
        · rw [if_neg (fun w => q w.2), if_neg q, am_u_ne (by decide), e4 64 (by omega)]
      have e665 : ∀ j, am_u (am_u I4 65 3 (nI (l + 1))) 64 16 0 65 j = if j = 3 then nI (l + 1) else I1 65 j := fun j => by
        rw [am_u_ne (by decide), am_u_get]
        by_cases q : j = 3
        · rw [if_pos ⟨rfl, q⟩, if_pos q]
        · rw [if_neg (fun w => q w.2), if_neg q, e4 65 (by omega)]
      generalize am_u (am_u I4 65 3 (nI (l + 1))) 64 16 0 = I6 at *
      have e7 : ∀ a, a < S.length → a ≠ 64 → a ≠ 65 → a ≠ 94 → (a < 96 ∨ 107 < a) → I6 a = I a := fun a a1 a2 a3 a4 a5 => by rw [e6 a a1 a2 a3, V1.1 a a4 a5]
      show am_wp pr (d + 60) 219 0 [(0, .ref 124)] [] _ _
      have m126 : I6 126 = I 126 := e7 126 (by omega) (by decide) (by decide) (by decide) (by decide)
      have m124 : I6 124 = I 124 := e7 124 (by omega) (by decide) (by decide) (by decide) (by decide)
      have m75 : I6 126 75 = nI l := by rw [m126]; exact e75
      refine w219_0 rfl ?_
      refine w219_1 (L5.2 _ _ _ rfl) ?_
      refine w219_4 ?_
      refine w219_6 (L5.sh rfl) (by decide) ?_
      rw [show Int32.toNatClampNeg 75 = 75 from rfl, m75]
      refine w219_7 ?_
      refine w219_9 (fun _ => ?_) (fun hQ => absurd hl6i hQ)
      refine w219_24 rfl ?_
      refine w219_25 ?_
      refine w219_26 (k := c220 (d := d + 22) (o := false) L5 t400 (by rw [m124]; exact t3) (by rw [e7 130 (by omega) (by decide) (by decide) (by decide) (by decide)]; exact hw) (by rw [e7 131 (by omega) (by decide) (by decide) (by decide) (by decide)]; exact hbm) hb2 hts hR (fun xs2 lv2 I7 hR2 F7 k14 k18 kt => ?_) (fun j2 I2 hR2 => by rw [hR1] at hR2; cases hR2))
      rw [hR1] at hR2
      cases hR2
      have m7 : I7 126 = I 126 := by rw [F7.1 126 (by decide) (by decide) (by decide) (by decide)]; exact m126
      have m775 : I7 126 75 = nI l := by rw [m7]; exact e75
      refine w219_29 (fun _ => ?_) (fun hQ => absurd (by decide) hQ)
      refine w219_39 rfl ?_
      refine w219_40 rfl ?_
      refine w219_41 (L5.2 _ _ _ rfl) ?_
      refine w219_44 ?_
      refine w219_46 (L5.sh rfl) (by decide) ?_
      rw [show Int32.toNatClampNeg 75 = 75 from rfl, m775]
      refine w219_47 (k := c242 L5 (t := l) k18 hN (by omega) (fun I8 h1 h2 h4 h5 => ?_))
      have m875 : I8 126 75 = nI l := by rw [h2 75 (by omega) (by omega) (by omega)]; exact m775
      have e1' : nI (l + 1) - 1 = nI l := nI_pred l
      refine w219_50 rfl ?_
      refine w219_51 (L5.2 _ _ _ rfl) ?_
      refine w219_54 ?_
      refine w219_56 ⟨rfl, rfl⟩ ?_
      refine w219_57 (L5.sh rfl) (by decide) ?_
      rw [show Int32.toNatClampNeg 75 = 75 from rfl, m875]
      refine w219_58 ?_
      refine w219_59 ?_
      rw [nI_1]
      refine w219_60 (L5.sh rfl) (by decide) ?_
      rw [show Int32.toNatClampNeg 75 = 75 from rfl]
      refine w219_61 rfl ?_
      refine w219_62 rfl ?_
      refine w219_63 (L5.2 _ _ _ rfl) ?_
      refine w219_66 ?_
      refine w219_68 (L5.sh rfl) (by decide) ?_
      rw [show Int32.toNatClampNeg 75 = 75 from rfl, am_u_self]
      refine w219_69 ?_
      refine w219_70 ?_
      rw [e1']
      refine w219_71 (k := c166 L5 ?_)
      refine w219_74 ?_
      have F : ∀ a, a ≠ 124 → a ≠ 126 → a ≠ 133 → a ≠ 134 → a ≠ 135 → am_u (am_u I8 126 75 (nI (l + 1))) 124 0 0 a = I6 a := fun a a1 a2 a3 a4 a5 => by rw [am_u_ne a1, am_u_ne a2, h1 a a2, F7.1 a a1 a3 a4 a5]
      have F124 : ∀ j, j ≠ 0 → am_u (am_u I8 126 75 (nI (l + 1))) 124 0 0 124 j = I7 124 j := fun j hj => by rw [am_u_at hj, am_u_ne (by decide), h1 124 (by decide)]
      have F1240 : am_u (am_u I8 126 75 (nI (l + 1))) 124 0 0 124 0 = 0 := am_u_self
      have F126 : ∀ j, j ≠ 75 → am_u (am_u I8 126 75 (nI (l + 1))) 124 0 0 126 j = I8 126 j := fun j hj => by rw [am_u_ne (by decide), am_u_at hj]
      have F75 : am_u (am_u I8 126 75 (nI (l + 1))) 124 0 0 126 75 = nI (l + 1) := by rw [am_u_ne (by decide), am_u_self]
      generalize am_u (am_u I8 126 75 (nI (l + 1))) 124 0 0 = I10 at *
      have G : ∀ a, a < S.length → a ≠ 124 → a ≠ 126 → a ≠ 133 → a ≠ 134 → a ≠ 135 → a ≠ 64 → a ≠ 65 → a ≠ 94 → (a < 96 ∨ 107 < a) → I10 a = I a := fun a a0 a1 a2 a3 a4 a5 a6 a7 a8 a9 => by rw [F a a1 a2 a3 a4 a5, e7 a a0 a6 a7 a8 a9]
      have G149 : ∀ a, 149 ≤ a → a < S.length → I10 a = I a := fun a a1 a2 => G a a2 (by omega) (by omega) (by omega) (by omega) (by omega) (by omega) (by omega) (by omega) (by omega)
      have Gt : ∀ a, S.length ≤ a → I10 a = I4 a := fun a a1 => by rw [F a (by omega) (by omega) (by omega) (by omega) (by omega), e6b a a1]
      have GP : ∀ a, 149 ≤ a → a < S.length → P5 a = P a := fun a a1 a2 => eP5 a a2 (by omega)
      have G124 : ∀ j, j ≠ 0 → j ≠ 8 → j ≠ 9 → j ≠ 10 → j ≠ 13 → j ≠ 14 → (j < 18 ∨ 21 < j) → I10 124 j = I 124 j := fun j j0 j1 j2 j3 j4 j5 j6 => by rw [F124 j j0, F7.2.1 j j1 j2 j3 j4 j5 j6, m124]
      have p89 : P5 89 = P 89 := eP5 89 (by omega) (by decide)
      have ek : ∀ j, (j < 77 ∧ j ≠ 75) → I10 126 j = I 126 j := fun j hj => by rw [F126 j hj.2, h2 j (by omega) (by omega) (by omega), m7]
      have eh : ∀ j, j ≠ 3 → I10 65 j = I 65 j := fun j hj => by rw [F 65 (by decide) (by decide) (by decide) (by decide) (by decide), e665, if_neg hj, V1.1 65 (by decide) (by decide)]
      have eh3 : I10 65 3 = nI (l + 1) := by rw [F 65 (by decide) (by decide) (by decide) (by decide) (by decide), e665, if_pos rfl]
      have er : ∀ a, (66 ≤ a ∧ a ≤ 72) → I10 a = I a := fun a ha => G a (by omega) (by omega) (by omega) (by omega) (by omega) (by omega) (by omega) (by omega) (by omega) (by omega)
      refine ⟨rfl, ⟨_, rfl, by show 7 ≤ 8; decide, by show 9 + (12 + (12 + (36 + (12 + (z + (z + 0)))))) ≤ 1200; omega⟩, n, l + 1, s, u, 0, ?_⟩
      show am_R (S ++ ([(6, 9)] ++ am_tq z)) I10 P5 n (l + 1) s u 0
      intro c
      match c with
      | 0 => exact L5
      | 1 =>
        show am_HR I10 65 (I10 126) n (l + 1) s
        refine am_HR_mk ?_ ?_ ?_ ?_ ?_ ?_ ?_ ?_ ?_ ?_ ?_ ?_ ?_ ?_ ?_ ?_
        · exact ⟨hr.n7, by omega, hr.s6⟩
        · show I10 65 0 = nI n ∧ (I10 126) 73 = nI n
          rw [eh 0 (by omega), ek 73 (by omega)]
          exact hr 1
        · intro mq hmq
          by_cases hmz : mq < n
          · show am_bit (I10 65 1) mq = 1 ↔ mq < n ∧ (I10 126) (35 + mq) = 1
            rw [eh 1 (by omega), ek (35 + mq) (by omega)]
            exact hr 2 mq hmq
          · show am_bit (I10 65 1) mq = 1 ↔ mq < n ∧ (I10 126) (35 + mq) = 1
            rw [eh 1 (by omega), hr.he mq hmq]
            exact ⟨fun q => absurd q.1 hmz, fun q => absurd q.1 hmz⟩
        · intro mq hmq
          show (I10 126) (35 + mq) = 0 ∨ (I10 126) (35 + mq) = 1
          rw [ek (35 + mq) (by omega)]
          exact hr 3 mq hmq
        · show I10 65 2 = (I10 126) 42 ∧ ∃ x, x < 32 ∧ (I10 126) 42 = nI x
          rw [eh 2 (by omega), ek 42 (by omega)]
          exact hr 4
        · exact ⟨eh3, F75⟩
        · show I10 65 4 = I10 126 76 ∧ (I10 126 76 = -1 ∨ ∃ f, f < l + 1 ∧ I10 126 76 = nI f)
          rw [eh 4 (by omega), ek 76 (by omega)]
          exact ⟨hr.hf, hr.kf.imp id (fun ⟨f, f1, f2⟩ => ⟨f, by omega, f2⟩)⟩
        · show I10 65 5 = nI s ∧ (I10 126) 74 = nI s
          rw [eh 5 (by omega), ek 74 (by omega)]
          exact hr 7
        · intro mq hmq
          show I10 66 mq = (I10 126) (44 + mq) ∧ ∃ x, 1 ≤ x ∧ x ≤ 9 ∧ (I10 126) (44 + mq) = nI x
          rw [er 66 (by omega), ek (44 + mq) (by omega)]
          exact hr 8 mq hmq
        · intro mq hmq
          show I10 67 mq = (I10 126) (51 + mq)
          rw [er 67 (by omega), ek (51 + mq) (by omega)]
          exact hr 9 mq hmq
        · intro jq hjq
          show I10 68 jq = (I10 126) jq ∧ ∃ x, x ≤ 9 ∧ (I10 126) jq = nI x
          rw [er 68 (by omega), ek jq (by omega)]
          exact hr 10 jq hjq
        · show I10 69 0 = (I10 126) 43 ∧ ∃ x, x ≤ 999 ∧ (I10 126) 43 = nI x
          rw [er 69 (by omega), ek 43 (by omega)]
          exact hr 11
        · show I10 69 1 = (I10 126) 70 ∧ ∃ x, x ≤ 10 ∧ (I10 126) 70 = nI x
          rw [er 69 (by omega), ek 70 (by omega)]
          exact hr 12
        · show I10 69 2 = (I10 126) 71
          rw [er 69 (by omega), ek 71 (by omega)]
          exact hr 13
        · show I10 69 3 = (I10 126) 72 ∧ ∃ x, x ≤ 99 ∧ (I10 126) 72 = nI x
          rw [er 69 (by omega), ek 72 (by omega)]
          exact hr 14
        · intro iq hiq
          have hs6 := hr.s6
          show ∃ a b, a < 5 ∧ b < 5 ∧ I10 71 iq = nI a ∧ (I10 126) (58 + 2 * iq) = nI a ∧ I10 72 iq = nI b ∧ (I10 126) (58 + 2 * iq + 1) = nI b
          rw [er 71 (by omega), er 72 (by omega), ek (58 + 2 * iq) (by omega), ek (58 + 2 * iq + 1) (by omega)]
          exact hr 15 iq hiq
      | 2 =>
        show am_LW (S ++ ([(6, 9)] ++ am_tq z)) I10 P5 (P5 70) (I10 126) (l + 1)
        intro i hi
        by_cases q : i = l
        · subst q
          refine ⟨S.length, xs, (eP70 i).trans (if_pos rfl), hlen, ?_, ?_⟩
          · refine am_TI_cp (I := I1) hT5 hz ?_ q6 ?_ ?_ ?_ ?_ ?_ ?_ ?_ x3 hTI
            · rw [Gt _ (Nat.le_refl _), g2, eI3 101 (by omega)]
            · rw [Gt _ (Nat.le_refl _)]; exact g3
            · intro j hj; rw [Gt _ (by omega), r0 j hj, eI3 102 (by omega)]
            · intro j hj; rw [Gt _ (by omega), r1 j hj, eI3 103 (by omega)]
            · intro j hj; rw [Gt _ (by omega), r2 j hj, eI3 104 (by omega)]
            · intro j hj; rw [Gt _ (by omega), r3 j hj, eI3 105 (by omega)]
            · intro j hj; rw [Gt _ (by omega), r4 j hj, eI3 106 (by omega)]
            · intro j hj; rw [Gt _ (by omega), r5 j hj, eI3 107 (by omega)]
          · rw [hR1] at hR
            refine am_TK_new (b := b) (ts := ts) hN hR ?_ (fun k hk => ?_)
            · rw [F126 _ (by omega)]; exact h4
            · rw [F126 _ (by omega), F126 _ (by omega), (h5 k hk).1, (h5 k hk).2]
              exact kt k (by omega)
        · obtain ⟨t, ys, y1, y2, y3, y4⟩ := am_LW_g (W := [(6, 9)] ++ am_tq z) G149 GP (r 3 : am_LS S P (P 70)) (r 2 : am_LW S I P (P 70) (I 126) l) i (by omega)
          refine ⟨t, ys, (eP70 i).trans ((if_neg q).trans y1), y2, y3, am_TK_i ?_ (fun k hk => ?_) (fun k hk => ?_) y4⟩
          · rw [F126 _ (by omega), h2 _ (by omega) (by omega) (by omega), m7]
          · rw [F126 _ (by omega), h2 _ (by omega) (by omega) (by omega), m7]
          · rw [F126 _ (by omega), h2 _ (by omega) (by omega) (by omega), m7]
      | 3 =>
        show am_LS (S ++ ([(6, 9)] ++ am_tq z)) P5 (P5 70)
        intro i t w
        rw [eP70] at w
        by_cases q : i = l
        · rw [if_pos q] at w
          cases w
          refine ⟨hT5.1, ?_, fun p h' hp hh => ?_⟩
          · rw [List.length_append]
            show S.length + 6 < S.length + 7
            omega
          · rw [p89] at hh
            rcases (r 4 : ∀ q, q < 2 → am_IM S I P q) p hp with ⟨_, y⟩ | ⟨_, h2', _, _, _, y1, _, y3, _⟩
            · rw [y] at hh; cases hh
            · rw [y1] at hh; cases hh; exact Or.inr y3
        · rw [if_neg q] at w
          exact am_LS_g p89 (r 3 : am_LS S P (P 70)) i t w
      | 4 =>
        intro q hq
        exact am_IM_g G149 (G 127 (by omega) (by decide) (by decide) (by decide) (by decide) (by decide) (by decide) (by decide) (by decide) (by decide)) (G 128 (by omega) (by decide) (by decide) (by decide) (by decide) (by decide) (by decide) (by decide) (by decide) (by decide)) GP p89 ((r 4 : ∀ q, q < 2 → am_IM S I P q) q hq)
      | 5 =>
        show ∀ h0 h1, P5 89 0 = some h0 → P5 89 1 = some h1 → h0 + 7 < h1 ∨ h1 + 7 < h0
        rw [p89]
        exact r 5
      | 6 =>
        show u ≤ 16 ∧ I10 90 0 = nI u ∧ I10 124 35 = nI u ∧ am_PA (I10 91) (I10 141) (I10 126) n u
        rw [G 90 (by omega) (by decide) (by decide) (by decide) (by decide) (by decide) (by decide) (by decide) (by decide) (by decide), G 91 (by omega) (by decide) (by decide) (by decide) (by decide) (by decide) (by decide) (by decide) (by decide) (by decide), G 141 (by omega) (by decide) (by decide) (by decide) (by decide) (by decide) (by decide) (by decide) (by decide) (by decide), G124 35 (by decide) (by decide) (by decide) (by decide) (by decide) (by decide) (by decide)]
        obtain ⟨p1, p2, p3, p4⟩ := r.past
        exact ⟨p1, p2, p3, am_PA_cg (fun j hj => ek j (by omega)) p4⟩
      | 7 =>
        refine ⟨by omega, ?_, ?_, fun k hk => absurd hk (Nat.not_lt_zero k)⟩
        · rw [F 94 (by decide) (by decide) (by decide) (by decide) (by decide), e6 94 (by omega) (by decide) (by decide)]; exact V1.2.1
        · rw [F124 13 (by decide)]; exact F7.2.2
      | 8 =>
        show I10 96 3 = I10 124 14 ∧ I10 64 13 = I10 124 40 ∧ I10 64 14 = I10 124 6 ∧ I10 64 16 = I10 124 0
        rw [F 96 (by decide) (by decide) (by decide) (by decide) (by decide), e6 96 (by omega) (by decide) (by decide), h3, F124 14 (by decide), k14, F 64 (by decide) (by decide) (by decide) (by decide) (by decide), e664, e664, e664, if_neg (by decide), if_neg (by decide), if_pos rfl, V1.1 64 (by decide) (by decide), G124 40 (by decide) (by decide) (by decide) (by decide) (by decide) (by decide) (by decide), G124 6 (by decide) (by decide) (by decide) (by decide) (by decide) (by decide) (by decide), F1240]
        exact ⟨rfl, r.i8.2.1, r.i8.2.2.1, rfl⟩
      | 9 =>
        show ∀ k, k < 7 → I10 123 k = I10 125 k
        rw [G 123 (by omega) (by decide) (by decide) (by decide) (by decide) (by decide) (by decide) (by decide) (by decide) (by decide), G 125 (by omega) (by decide) (by decide) (by decide) (by decide) (by decide) (by decide) (by decide) (by decide) (by decide)]
        exact r.i9
      | 10 =>
        show am_DR (I10 81) (I10 84) (I10 148) (I10 124 48)
        rw [G 81 (by omega) (by decide) (by decide) (by decide) (by decide) (by decide) (by decide) (by decide) (by decide) (by decide), G 84 (by omega) (by decide) (by decide) (by decide) (by decide) (by decide) (by decide) (by decide) (by decide) (by decide), G 148 (by omega) (by decide) (by decide) (by decide) (by decide) (by decide) (by decide) (by decide) (by decide) (by decide), G124 48 (by decide) (by decide) (by decide) (by decide) (by decide) (by decide) (by decide)]
        exact r.draw
      | 11 =>
        show ∀ k x, am_wds[k]? = some x → I10 130 k = nI x
        rw [G 130 (by omega) (by decide) (by decide) (by decide) (by decide) (by decide) (by decide) (by decide) (by decide) (by decide)]
        exact hw
      | c + 12 => exact trivial
    · refine w48_39 (fun hQ => absurd hQ (fun q => q rfl)) (fun _ => ?_)
      refine w48_42 rfl ?_
      refine w48_43 ?_
      refine w48_45 (k := c11 L (by decide) ?_)
      refine w48_48 ⟨_, rfl, ?_⟩
      have hc : ∀ a, a ≠ 64 → a ≠ 94 → (a < 96 ∨ 107 < a) → I1 a = I a := fun a _ a2 a3 => V1.1 a a2 a3
      show am_ev pr (d + 60) 219 [.ref 124] (S, rf_c I1 (-6), J, P) _
      show am_wp pr (d + 60) 219 0 [(0, .ref 124)] [] _ _
      have m75 : rf_c I1 (-6) 126 75 = nI l := by rw [rf_c_ne (by decide) (by decide), V1.1 126 (by decide) (by decide)]; exact e75
      refine w219_0 rfl ?_
      refine w219_1 (L.2 _ _ _ rfl) ?_
      refine w219_4 ?_
      refine w219_6 (L.sh rfl) (by decide) ?_
      rw [show Int32.toNatClampNeg 75 = 75 from rfl, m75]
      refine w219_7 ?_
      refine w219_9 (fun _ => ?_) (fun hQ => absurd hl6i hQ)
      refine w219_24 rfl ?_
      refine w219_25 ?_
      refine w219_26 (k := c220 (d := d + 22) (o := false) L t400 (by rw [rf_c_ne (by decide) (by decide), V1.1 124 (by decide) (by decide)]; exact t3) (by rw [rf_c_ne (by decide) (by decide), V1.1 130 (by decide) (by decide)]; exact hw) (by rw [rf_c_ne (by decide) (by decide), V1.1 131 (by decide) (by decide)]; exact hbm) hb2 hts hR (fun xs lv' I2 hR2 => by rw [hR1] at hR2; cases hR2) (fun j2 I2 hR2 hj2 F2 h14 => ?_))
      rw [hR1] at hR2
      cases hR2
      refine w219_29 (fun hQ => absurd hQ (fun q => q rfl)) (fun _ => ?_)
      refine w219_32 rfl ?_
      refine w219_33 ?_
      refine w219_35 (k := c165 L (by decide) ?_)
      refine w219_38 ?_
      have q : ∀ j, j ≠ 8 → j ≠ 9 → j ≠ 10 → j ≠ 13 → j ≠ 14 → (j < 18 ∨ 21 < j) → I2 124 j = I 124 j := fun j j1 j2 j3 j4 j5 j6 => by rw [F2.2.1 j j1 j2 j3 j4 j5 j6, rf_c_ne (by decide) (by decide), V1.1 124 (by decide) (by decide)]
      refine am_oi_0 (am_R_rx (Ic := I1) (Im := I2) (x := -6) r hc V1.2.1 F2.1 F2.2.2 (h3.trans h14.symm) ?_ ?_ (q 35 (by decide) (by decide) (by decide) (by decide) (by decide) (by decide)) (q 48 (by decide) (by decide) (by decide) (by decide) (by decide) (by decide))) rfl
      · rw [q 40 (by decide) (by decide) (by decide) (by decide) (by decide) (by decide), V1.1 64 (by decide) (by decide)]; exact r.i8.2.1
      · rw [q 6 (by decide) (by decide) (by decide) (by decide) (by decide) (by decide), V1.1 64 (by decide) (by decide)]; exact r.i8.2.2.1
  · have e6 : l = 6 := by omega
    refine w48_0 rfl ?_
    refine w48_1 (L.2 _ _ _ rfl) ?_
    refine w48_4 ?_
    rw [e65]
    refine w48_7 ?_
    refine w48_9 (fun hQ => absurd hQ (by rw [e6]; decide)) (fun _ => ?_)
    refine w48_12 rfl ?_
    refine w48_13 (L.2 _ _ _ rfl) ?_
    refine w48_16 ?_
    refine w48_17 ?_
    refine w48_20 rfl ?_
    refine w48_21 ?_
    refine w48_23 (k := c11 L (by decide) ?_)
    refine w48_26 ⟨_, rfl, ?_⟩
    show am_ev pr (d + 60) 219 [.ref 124] (S, rf_c (am_u I 94 0 0) (-5), J, P) _
    show am_wp pr (d + 60) 219 0 [(0, .ref 124)] [] _ _
    have m75 : rf_c (am_u I 94 0 0) (-5) 126 75 = nI l := by rw [rf_c_ne (by decide) (by decide), am_u_ne (by decide)]; exact e75
    have m124 : rf_c (am_u I 94 0 0) (-5) 124 = I 124 := by rw [rf_c_ne (by decide) (by decide), am_u_ne (by decide)]
    refine w219_0 rfl ?_
    refine w219_1 (L.2 _ _ _ rfl) ?_
    refine w219_4 ?_
    refine w219_6 (L.sh rfl) (by decide) ?_
    rw [show Int32.toNatClampNeg 75 = 75 from rfl, m75]
    refine w219_7 ?_
    refine w219_9 (fun hQ => absurd hQ (fun q => q (by rw [e6]; rfl))) (fun _ => ?_)
    refine w219_12 rfl ?_
    refine w219_13 ?_
    refine w219_14 ?_
    refine w219_17 rfl ?_
    refine w219_18 ?_
    refine w219_20 (k := c165 L (by decide) ?_)
    refine w219_23 ?_
    refine am_oi_0 (am_R_rx (Ic := am_u I 94 0 0) (Im := am_u (rf_c (am_u I 94 0 0) (-5)) 124 13 0) (x := -5) r (fun a _ a2 _ => am_u_ne a2) am_u_self (fun a a1 _ _ _ => am_u_ne a1) am_u_self ?_ ?_ ?_ ?_ ?_) rfl
    · rw [am_u_ne (by decide), am_u_at (by decide), m124]; exact r.i8.1
    · rw [am_u_ne (by decide), am_u_at (by decide), m124]; exact r.i8.2.1
    · rw [am_u_ne (by decide), am_u_at (by decide), m124]; exact r.i8.2.2.1
    · rw [am_u_at (by decide), m124]
    · rw [am_u_at (by decide), m124]
end
