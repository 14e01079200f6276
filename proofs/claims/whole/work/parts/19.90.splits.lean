/-! the tape cut into tokens: the reference -/
def w_o (i : Nat) : Nat := ((w_m.take i).map (fun w => w.length + 1)).sum
def w_mq (i : Nat) : Bool := decide (w_o (i + 1) = w_o i + (w_m.getD i []).length + 1) && decide (1 ≤ (w_m.getD i []).length ∧ (w_m.getD i []).length ≤ 8) && (List.range (w_m.getD i []).length).all (fun j => decide (am_wds[w_o i + j]? = (w_m.getD i [])[j]?) && decide (97 ≤ (w_m.getD i []).getD j 0 ∧ (w_m.getD i []).getD j 0 ≤ 122)) && decide (am_wds[w_o i + (w_m.getD i []).length]? = some 32) && decide (w_o i + (w_m.getD i []).length < 135)
set_option maxRecDepth 100000 in
theorem w_ma : (List.range 27).all w_mq = true := by decide +kernel
theorem w_mp {i : Nat} (hi : i < 27) : w_o (i + 1) = w_o i + (w_m.getD i []).length + 1 ∧ (1 ≤ (w_m.getD i []).length ∧ (w_m.getD i []).length ≤ 8) ∧ (∀ j x, (w_m.getD i [])[j]? = some x → am_wds[w_o i + j]? = some x ∧ 97 ≤ x ∧ x ≤ 122) ∧ am_wds[w_o i + (w_m.getD i []).length]? = some 32 ∧ w_o i + (w_m.getD i []).length < 135 := by
  have z := List.all_eq_true.mp w_ma i (List.mem_range.mpr hi)
  unfold w_mq at z
  simp only [Bool.and_eq_true, decide_eq_true_eq] at z
  refine ⟨z.1.1.1.1, z.1.1.1.2, fun j x hx => ?_, z.1.2, z.2⟩
  have hj : j < (w_m.getD i []).length := (List.getElem?_eq_some_iff.mp hx).1
  have y := List.all_eq_true.mp z.1.1.2 j (List.mem_range.mpr hj)
  simp only [Bool.and_eq_true, decide_eq_true_eq] at y
  have e : (w_m.getD i []).getD j 0 = x := by rw [List.getD_eq_getElem?_getD, hx]; rfl
  rw [e] at y
  exact ⟨y.1.trans hx, y.2⟩
section
variable {pr : am_Pr} {d : Nat} {S : List (Nat × Nat)} {I I' : Nat → Nat → Int32} {J : Nat → Nat → Int64} {P : Nat → Nat → Option Nat} {Q : Option Value → am_H → Prop} {b : Nat → Nat} {p e i j z : Nat}
/-- wordOf -/
theorem c225 (L : am_Lay S P) (hw : ∀ k x, am_wds[k]? = some x → I 130 k = nI x) (hp : p ≤ e) (he : e ≤ 400) (hb : ∀ j, j < e → I 131 j = sb (b j)) (hb2 : ∀ j, j < e → b j < 256) (k : Q (some (.int (nI (w_rc (seg b p e))))) (S, I, J, P)) : am_ev pr d 225 [.ref 124, .int (nI p), .int (nI e)] (S, I, J, P) Q := by
  show am_wp pr d 225 0 [(0, .ref 124), (1, .int (nI p)), (2, .int (nI e))] [] _ _
  refine w225_0 ?_
  refine w225_1 ?_
  refine w225_2 ?_
  refine w225_3 ?_
  refine am_for (fun i => (∀ q, q < i → ¬ seg b p e = w_m.getD q []) → ∀ lv, am_ld1 lv 0 = some (.ref 124) → am_ld1 lv 1 = some (.int (nI p)) → am_ld1 lv 2 = some (.int (nI e)) → am_ld1 lv 3 = some (.int (nI (1 + i))) → am_ld1 lv 4 = some (.int (nI (w_o i))) → am_wp pr (d) 225 5 lv [] (S, I, J, P) Q) 27 ?_ ?_ (fun q h => absurd h (Nat.not_lt_zero q)) _ rfl rfl rfl rfl rfl
  · intro i hi ih hq lv l0 l1 l2 l3 l4
    obtain ⟨e1, ⟨n1, n8⟩, e3, e4, e5⟩ := w_mp hi
    generalize hW : w_m.getD i [] = W at *
    have kno : ¬ seg b p e = W → ∀ lv, am_ld1 lv 0 = some (.ref 124) → am_ld1 lv 1 = some (.int (nI p)) → am_ld1 lv 2 = some (.int (nI e)) → am_ld1 lv 3 = some (.int (nI (1 + i))) → am_ld1 lv 4 = some (.int (nI (w_o i))) → am_ld1 lv 5 = some (.int (nI W.length)) → am_ld1 lv 6 = some (.int 0) → am_wp pr (d) 225 104 lv [] (S, I, J, P) Q := by
      intro hne lv l0 l1 l2 l3 l4 l5 l6
      refine w225_104 l6 ?_
      refine w225_106 (fun _ => ?_) (fun hQ => absurd rfl hQ)
      refine w225_111 l4 ?_
      refine w225_113 l5 ?_
      refine w225_115 ?_
      refine w225_116 ?_
      rw [nI_1]
      refine w225_117 ?_
      rw [nI_add]
      refine w225_118 ?_
      refine w225_120 l3 ?_
      refine w225_123 ?_
      refine ih (fun q hq' => ?_) _ l0 l1 l2 (am_nx (1 + i)) (by rw [e1]; rfl)
      by_cases y : q = i
      · rw [y, hW]; exact hne
      · exact hq q (by omega)
    refine w225_5 l4 ?_
    refine w225_7 l0 ?_
    refine w225_8 (L.2 _ _ _ rfl) ?_
    refine w225_11 (L.sh rfl) (by decide) ?_
    refine w225_12 (fun hQ => absurd hQ (am_nlt (n := 135) (by omega) (by decide))) (fun _ => ?_)
    refine w225_15 ?_
    refine w225_16 ?_
    refine am_for (fun n => ∀ lv, am_ld1 lv 0 = some (.ref 124) → am_ld1 lv 1 = some (.int (nI p)) → am_ld1 lv 2 = some (.int (nI e)) → am_ld1 lv 3 = some (.int (nI (1 + i))) → am_ld1 lv 4 = some (.int (nI (w_o i))) → am_ld1 lv 5 = some (.int (nI n)) → am_wp pr (d) 225 18 lv [] (S, I, J, P) Q) W.length ?_ ?_ _ l0 l1 l2 l3 l4 rfl
    · intro n hn ih2 lv l0 l1 l2 l3 l4 l5
      obtain ⟨x, hx⟩ : ∃ x, W[n]? = some x := ⟨_, List.getElem?_eq_getElem hn⟩
      obtain ⟨x1, x2, x3⟩ := e3 n x hx
      refine w225_18 l0 ?_
      refine w225_19 (L.2 _ _ _ rfl) ?_
      refine w225_22 l4 ?_
      refine w225_24 l5 ?_
      refine w225_26 ?_
      rw [nI_add]
      refine w225_27 (L.sh rfl) (am_in_nI (by omega) (by decide)) ?_
      rw [am_clN (by omega), hw _ _ x1]
      refine w225_28 ?_
      refine w225_30 (fun hQ => absurd hQ (nI_ne (b := 32) (by omega) (by omega) (by decide))) (fun _ => ?_)
      refine w225_33 l5 ?_
      refine w225_36 ?_
      exact ih2 _ l0 l1 l2 l3 l4 (am_nx n)
    · intro lv l0 l1 l2 l3 l4 l5
      refine w225_18 l0 ?_
      refine w225_19 (L.2 _ _ _ rfl) ?_
      refine w225_22 l4 ?_
      refine w225_24 l5 ?_
      refine w225_26 ?_
      rw [nI_add]
      refine w225_27 (L.sh rfl) (am_in_nI (by omega) (by decide)) ?_
      rw [am_clN (by omega), hw _ _ e4]
      refine w225_28 ?_
      refine w225_30 (fun _ => ?_) (fun hQ => absurd rfl hQ)
      refine w225_39 l5 ?_
      refine w225_41 l2 ?_
      refine w225_42 l1 ?_
      refine w225_43 ?_
      rw [am_nsub hp]
      by_cases hl : W.length = e - p
      · refine w225_44 (fun q => absurd (by rw [hl]) q) (fun _ => ?_)
        refine w225_47 ?_
        refine w225_48 ?_
        refine w225_52 ?_
        refine w225_54 ?_
        refine w225_55 ?_
        refine am_for (fun j => (∀ q x, q < j → W[q]? = some x → b (p + q) = x) → ∀ lv, am_ld1 lv 0 = some (.ref 124) → am_ld1 lv 1 = some (.int (nI p)) → am_ld1 lv 2 = some (.int (nI e)) → am_ld1 lv 3 = some (.int (nI (1 + i))) → am_ld1 lv 4 = some (.int (nI (w_o i))) → am_ld1 lv 5 = some (.int (nI W.length)) → am_ld1 lv 6 = some (.int 1) → am_ld1 lv 7 = some (.int (nI j)) → am_wp pr (d) 225 57 lv [] (S, I, J, P) Q) W.length ?_ ?_ (fun q x h => absurd h (Nat.not_lt_zero q)) _ l0 l1 l2 l3 l4 l5 rfl rfl
        · intro j hj ih3 ha lv l0 l1 l2 l3 l4 l5 l6 l7
          obtain ⟨x, hx⟩ : ∃ x, W[j]? = some x := ⟨_, List.getElem?_eq_getElem hj⟩
          obtain ⟨x1, x2, x3⟩ := e3 j x hx
          have hb3 := hb2 (p + j) (by omega)
          refine w225_57 l7 ?_
          refine w225_59 l5 ?_
          refine w225_61 (fun hQ => absurd hQ (am_nlt hj (by omega))) (fun _ => ?_)
          refine w225_64 l6 ?_
          refine w225_66 (fun hQ => absurd hQ (by decide)) (fun _ => ?_)
          refine w225_69 l0 ?_
          refine w225_70 (L.2 _ _ _ rfl) ?_
          refine w225_73 l4 ?_
          refine w225_75 l7 ?_
          refine w225_77 ?_
          rw [nI_add]
          refine w225_78 (L.sh rfl) (am_in_nI (by omega) (by decide)) ?_
          rw [am_clN (by omega), hw _ _ x1]
          refine w225_79 l0 ?_
          refine w225_80 (L.2 _ _ _ rfl) ?_
          refine w225_83 l1 ?_
          refine w225_84 l7 ?_
          refine w225_86 ?_
          rw [nI_add]
          refine w225_87 (L.sh rfl) (am_in_nI (by omega) (by decide)) ?_
          rw [am_clN (by omega), hb (p + j) (by omega)]
          by_cases hE : x = b (p + j)
          · refine w225_88 (fun q => absurd ((sb_eq hb3 (by omega)).mpr hE) q) (fun _ => ?_)
            refine w225_91 ?_
            refine w225_92 ?_
            refine w225_96 ?_
            refine w225_98 l7 ?_
            refine w225_101 ?_
            refine ih3 (fun q y hq' hy => ?_) _ l0 l1 l2 l3 l4 l5 rfl (am_nx j)
            by_cases w : q = j
            · subst w
              rw [hx] at hy
              cases hy
              exact hE.symm
            · exact ha q y (by omega) hy
          · refine w225_88 (fun _ => ?_) (fun q => absurd (fun w => hE ((sb_eq hb3 (by omega)).mp w)) q)
            have hne : ¬ seg b p e = W := by
              intro w
              have w2 : (seg b p e)[j]? = some x := by rw [w]; exact hx
              rw [seg_get (by omega)] at w2
              cases w2
              exact hE rfl
            refine w225_95 ?_
            refine w225_96 ?_
            refine w225_98 l7 ?_
            refine w225_101 ?_
            refine w225_57 rfl ?_
            refine w225_59 l5 ?_
            refine w225_61 (fun _ => kno hne _ l0 l1 l2 l3 l4 l5 rfl) (fun _ => ?_)
            refine w225_64 rfl ?_
            exact w225_66 (fun _ => kno hne _ l0 l1 l2 l3 l4 l5 rfl) (fun q => absurd rfl q)
        · intro ha lv l0 l1 l2 l3 l4 l5 l6 l7
          rw [w_rc_at hi ((seg_eq hl (fun j x hx => ha j x (List.getElem?_eq_some_iff.mp hx).1 hx)).trans hW.symm)] at k
          refine w225_57 l7 ?_
          refine w225_59 l5 ?_
          refine w225_61 (fun _ => ?_) (fun hQ => absurd (Int32.le_refl _) hQ)
          refine w225_104 l6 ?_
          refine w225_106 (fun hQ => absurd hQ (by decide)) (fun _ => ?_)
          refine w225_109 l3 ?_
          refine w225_110 ?_
          exact k
      · refine w225_44 (fun _ => ?_) (fun q => absurd (fun w => hl ((nI_eq (by omega) (by omega)).mp w)) q)
        have hne : ¬ seg b p e = W := fun w => hl (by rw [← w, seg_len])
        refine w225_51 ?_
        refine w225_52 ?_
        refine w225_54 ?_
        refine w225_55 ?_
        refine w225_57 rfl ?_
        refine w225_59 l5 ?_
        refine w225_61 (fun _ => kno hne _ l0 l1 l2 l3 l4 l5 rfl) (fun _ => ?_)
        refine w225_64 rfl ?_
        exact w225_66 (fun _ => kno hne _ l0 l1 l2 l3 l4 l5 rfl) (fun q => absurd rfl q)
  · intro hq lv l0 l1 l2 l3 l4
    rw [w_rc_no hq] at k
    refine w225_5 l4 ?_
    refine w225_7 l0 ?_
    refine w225_8 (L.2 _ _ _ rfl) ?_
    refine w225_11 (L.sh rfl) (by decide) ?_
    refine w225_12 (fun _ => ?_) (fun hQ => absurd (by decide) hQ)
    refine w225_126 ?_
    refine w225_127 ?_
    exact k
theorem c222a (L : am_Lay S P) (z400 : z ≤ 400) (hb : ∀ j, j < z → I 131 j = sb (b j)) (hb2 : ∀ j, j < z → b j < 256) {k : Nat} {w : Int32} : ∀ (g j : Nat), z - j ≤ g → j ≤ z → (∀ lv, am_ld1 lv 0 = some (.ref 124) → am_ld1 lv 1 = some (.int (nI z)) → am_ld1 lv 2 = some (.int (nI k)) → am_ld1 lv 3 = some (.int w) → am_ld1 lv 4 = some (.int (nI (rend (fun j => is_l (b j)) z j))) → am_wp pr (d + 3) 222 68 lv [] (S, I, J, P) Q) → ∀ lv, am_ld1 lv 0 = some (.ref 124) → am_ld1 lv 1 = some (.int (nI z)) → am_ld1 lv 2 = some (.int (nI k)) → am_ld1 lv 3 = some (.int w) → am_ld1 lv 4 = some (.int (nI j)) → am_wp pr (d + 3) 222 43 lv [] (S, I, J, P) Q
  | 0, j, hg, hj, kk => by
    intro lv l0 l1 l2 l3 l4
    have e : j = z := by omega
    rw [rend_n (by omega)] at kk
    refine w222_43 l4 ?_
    refine w222_45 l1 ?_
    refine w222_46 (fun _ => ?_) (fun hQ => absurd (by rw [e]; exact Int32.le_refl _) hQ)
    exact kk _ l0 l1 l2 l3 l4
  | g + 1, j, hg, hj, kk => by
    intro lv l0 l1 l2 l3 l4
    by_cases h : j < z
    · have hb3 := hb2 j h
      by_cases hl : is_l (b j) = true
      · rw [rend_s (f := fun j => is_l (b j)) h hl] at kk
        refine w222_43 l4 ?_
        refine w222_45 l1 ?_
        refine w222_46 (fun hQ => absurd hQ (am_nlt h (by omega))) (fun _ => ?_)
        refine w222_49 l0 ?_
        refine w222_50 (L.2 _ _ _ rfl) ?_
        refine w222_53 l4 ?_
        refine w222_55 (L.sh rfl) (am_in_nI (by omega) (by decide)) ?_
        rw [am_clN (by omega), hb j h]
        refine w222_56 (k := c223 ?_)
        rw [l_s hb3, if_pos hl]
        refine w222_59 (fun hQ => absurd hQ (by decide)) (fun _ => ?_)
        refine w222_62 l4 ?_
        refine w222_65 ?_
        exact c222a L z400 hb hb2 g (j + 1) (by omega) (by omega) kk _ l0 l1 l2 l3 (am_nx j)
      · rw [rend_n (f := fun j => is_l (b j)) (fun q => hl q.2)] at kk
        refine w222_43 l4 ?_
        refine w222_45 l1 ?_
        refine w222_46 (fun hQ => absurd hQ (am_nlt h (by omega))) (fun _ => ?_)
        refine w222_49 l0 ?_
        refine w222_50 (L.2 _ _ _ rfl) ?_
        refine w222_53 l4 ?_
        refine w222_55 (L.sh rfl) (am_in_nI (by omega) (by decide)) ?_
        rw [am_clN (by omega), hb j h]
        refine w222_56 (k := c223 ?_)
        rw [l_s hb3, if_neg hl]
        refine w222_59 (fun _ => ?_) (fun hQ => absurd rfl hQ)
        exact kk _ l0 l1 l2 l3 l4
    · have e : j = z := by omega
      rw [rend_n (by omega)] at kk
      refine w222_43 l4 ?_
      refine w222_45 l1 ?_
      refine w222_46 (fun _ => ?_) (fun hQ => absurd (by rw [e]; exact Int32.le_refl _) hQ)
      exact kk _ l0 l1 l2 l3 l4
theorem c222b (L : am_Lay S P) (z400 : z ≤ 400) (hb : ∀ j, j < z → I 131 j = sb (b j)) (hb2 : ∀ j, j < z → b j < 256) {k : Nat} {w : Int32} : ∀ (g j : Nat), z - j ≤ g → j ≤ z → (∀ lv, am_ld1 lv 0 = some (.ref 124) → am_ld1 lv 1 = some (.int (nI z)) → am_ld1 lv 2 = some (.int (nI k)) → am_ld1 lv 3 = some (.int w) → am_ld1 lv 4 = some (.int (nI (rend (fun j => is_d (b j)) z j))) → am_wp pr (d + 3) 222 100 lv [] (S, I, J, P) Q) → ∀ lv, am_ld1 lv 0 = some (.ref 124) → am_ld1 lv 1 = some (.int (nI z)) → am_ld1 lv 2 = some (.int (nI k)) → am_ld1 lv 3 = some (.int w) → am_ld1 lv 4 = some (.int (nI j)) → am_wp pr (d + 3) 222 75 lv [] (S, I, J, P) Q
  | 0, j, hg, hj, kk => by
    intro lv l0 l1 l2 l3 l4
    have e : j = z := by omega
    rw [rend_n (by omega)] at kk
    refine w222_75 l4 ?_
    refine w222_77 l1 ?_
    refine w222_78 (fun _ => ?_) (fun hQ => absurd (by rw [e]; exact Int32.le_refl _) hQ)
    exact kk _ l0 l1 l2 l3 l4
  | g + 1, j, hg, hj, kk => by
    intro lv l0 l1 l2 l3 l4
    by_cases h : j < z
    · have hb3 := hb2 j h
      by_cases hl : is_d (b j) = true
      · rw [rend_s (f := fun j => is_d (b j)) h hl] at kk
        refine w222_75 l4 ?_
        refine w222_77 l1 ?_
        refine w222_78 (fun hQ => absurd hQ (am_nlt h (by omega))) (fun _ => ?_)
        refine w222_81 l0 ?_
        refine w222_82 (L.2 _ _ _ rfl) ?_
        refine w222_85 l4 ?_
        refine w222_87 (L.sh rfl) (am_in_nI (by omega) (by decide)) ?_
        rw [am_clN (by omega), hb j h]
        refine w222_88 (k := c224 ?_)
        rw [d_s hb3, if_pos hl]
        refine w222_91 (fun hQ => absurd hQ (by decide)) (fun _ => ?_)
        refine w222_94 l4 ?_
        refine w222_97 ?_
        exact c222b L z400 hb hb2 g (j + 1) (by omega) (by omega) kk _ l0 l1 l2 l3 (am_nx j)
      · rw [rend_n (f := fun j => is_d (b j)) (fun q => hl q.2)] at kk
        refine w222_75 l4 ?_
        refine w222_77 l1 ?_
        refine w222_78 (fun hQ => absurd hQ (am_nlt h (by omega))) (fun _ => ?_)
        refine w222_81 l0 ?_
        refine w222_82 (L.2 _ _ _ rfl) ?_
        refine w222_85 l4 ?_
        refine w222_87 (L.sh rfl) (am_in_nI (by omega) (by decide)) ?_
        rw [am_clN (by omega), hb j h]
        refine w222_88 (k := c224 ?_)
        rw [d_s hb3, if_neg hl]
        refine w222_91 (fun _ => ?_) (fun hQ => absurd rfl hQ)
        exact kk _ l0 l1 l2 l3 l4
    · have e : j = z := by omega
      rw [rend_n (by omega)] at kk
      refine w222_75 l4 ?_
      refine w222_77 l1 ?_
      refine w222_78 (fun _ => ?_) (fun hQ => absurd (by rw [e]; exact Int32.le_refl _) hQ)
      exact kk _ l0 l1 l2 l3 l4
/-- the tokens lie in the reference's rows from c on -/
def sc_r (b : Nat → Nat) (z : Nat) (I : Nat → Nat → Int32) (c : Nat) (ts : List (Nat × Nat)) : Prop :=
  (∀ j p e, ts[j]? = some (p, e) → I 135 (c + j) = nI p ∧ I 133 (c + j) = nI (k_rc b p e) ∧ I 134 (c + j) = nI (k_rn b p e)) ∧ I 124 18 = nI (c + ts.length) ∧ I 135 (c + ts.length) = nI z ∧ I 133 (c + ts.length) = 0 ∧ I 134 (c + ts.length) = 0
theorem sc_r_cons {c : Nat} {ts : List (Nat × Nat)} (h1 : I 135 c = nI p ∧ I 133 c = nI (k_rc b p e) ∧ I 134 c = nI (k_rn b p e)) (h : sc_r b z I (c + 1) ts) : sc_r b z I c ((p, e) :: ts) := by
  obtain ⟨a1, a2, a3, a4, a5⟩ := h
  have hl : c + ((p, e) :: ts).length = c + 1 + ts.length := by
    rw [List.length_cons]
    omega
  refine ⟨fun j p' e' hj => ?_, ?_, ?_, ?_, ?_⟩
  · cases j with
    | zero =>
      cases hj
      exact h1
    | succ j =>
      have q := a1 j p' e' hj
      rw [show c + 1 + j = c + (j + 1) by omega] at q
      exact q
  · rw [hl]; exact a2
  · rw [hl]; exact a3
  · rw [hl]; exact a4
  · rw [hl]; exact a5
/-- what splits leaves alone -/
def sc_f (I I' : Nat → Nat → Int32) : Prop := (∀ a, a ≠ 124 → a ≠ 133 → a ≠ 134 → a ≠ 135 → I' a = I a) ∧ ∀ j, j ≠ 18 → I' 124 j = I 124 j
/-- a token's value -/
theorem c222v (L : am_Lay S P) (z400 : z ≤ 400) {k c : Nat} (kz : k < z) (hc : c < 401) (h18 : I 124 18 = nI c) (hb : ∀ j, j < z → I 131 j = sb (b j)) (hb2 : ∀ j, j < z → b j < 256) (h0 : I 134 c = 0) (kk : ∀ I2 : Nat → Nat → Int32, (∀ a, a ≠ 134 → I2 a = I a) → (∀ j, j ≠ c → I2 134 j = I 134 j) → I2 134 c = nI (k_rn b k (t_e b z k)) → (∀ lv, am_ld1 lv 0 = some (.ref 124) → am_ld1 lv 1 = some (.int (nI z)) → am_ld1 lv 2 = some (.int (nI k)) → am_ld1 lv 4 = some (.int (nI (t_e b z k))) → am_wp pr (d + 3) 222 247 lv [] (S, I2, J, P) Q)) : ∀ lv, am_ld1 lv 0 = some (.ref 124) → am_ld1 lv 1 = some (.int (nI z)) → am_ld1 lv 2 = some (.int (nI k)) → am_ld1 lv 3 = some (.int (sb (b k))) → am_ld1 lv 4 = some (.int (nI (t_e b z k))) → am_wp pr (d + 3) 222 166 lv [] (S, I, J, P) Q := by
  intro lv l0 l1 l2 l3 l4
  obtain ⟨te1, te2⟩ := t_e_b (b := b) kz
  have hb3 := hb2 k kz
  refine w222_166 l2 ?_
  refine w222_167 ?_
  by_cases hd : is_d (b k) = true
  · have hdd := t_e_d kz hd
    refine am_for (fun j => ∀ I2 : Nat → Nat → Int32, (∀ a, a ≠ 134 → I2 a = I a) → (∀ j, j ≠ c → I2 134 j = I 134 j) → I2 134 c = nI (n_m b k j) → ∀ lv, am_ld1 lv 0 = some (.ref 124) → am_ld1 lv 1 = some (.int (nI z)) → am_ld1 lv 2 = some (.int (nI k)) → am_ld1 lv 3 = some (.int (sb (b k))) → am_ld1 lv 4 = some (.int (nI (t_e b z k))) → am_ld1 lv 5 = some (.int (nI (k + j))) → am_wp pr (d + 3) 222 169 lv [] (S, I2, J, P) Q) (t_e b z k - k) ?_ ?_ I (fun _ _ => rfl) (fun _ _ => rfl) h0 _ l0 l1 l2 l3 l4 rfl
    · intro j hj ih I2 f1 f2 f3 lv l0 l1 l2 l3 l4 l5
      have q1 := hdd (k + j) (by omega) (by omega)
      have q2 := n_m_le (b := b) (p := k) (n := t_e b z k - k) (fun j hj => (hdd (k + j) (by omega) (by omega)).2) j (by omega)
      have e18 : I2 124 18 = nI c := by rw [f1 124 (by decide)]; exact h18
      have et : I2 131 (k + j) = nI (b (k + j)) := by rw [f1 131 (by decide), hb (k + j) (by omega)]; exact (sb_p (hb2 _ (by omega))).2.2.2.2.1 (by omega)
      have nx : ∀ v : Int32, v = nI (n_m b k (j + 1)) → ∀ lv, am_ld1 lv 0 = some (.ref 124) → am_ld1 lv 1 = some (.int (nI z)) → am_ld1 lv 2 = some (.int (nI k)) → am_ld1 lv 3 = some (.int (sb (b k))) → am_ld1 lv 4 = some (.int (nI (t_e b z k))) → am_ld1 lv 5 = some (.int (nI (k + j))) → am_wp pr (d + 3) 222 241 lv [] (S, am_u I2 134 c v, J, P) Q := by
        intro v hv lv l0 l1 l2 l3 l4 l5
        refine w222_241 l5 ?_
        refine w222_244 ?_
        exact ih _ (fun a ha => by rw [am_u_ne ha]; exact f1 a ha) (fun j hj => by rw [am_u_at hj]; exact f2 j hj) (by rw [am_u_self]; exact hv) _ l0 l1 l2 l3 l4 (am_nx (k + j))
      refine w222_169 l5 ?_
      refine w222_171 l4 ?_
      refine w222_173 (fun hQ => absurd hQ (am_nlt (by omega) (by omega))) (fun _ => ?_)
      refine w222_176 l3 ?_
      refine w222_177 (k := c224 ?_)
      rw [d_s hb3, if_pos hd]
      refine w222_180 (fun hQ => absurd hQ (by decide)) (fun _ => ?_)
      refine w222_183 l0 ?_
      refine w222_184 (L.2 _ _ _ rfl) ?_
      refine w222_187 l0 ?_
      refine w222_188 ?_
      rw [e18]
      refine w222_191 l0 ?_
      refine w222_192 (L.2 _ _ _ rfl) ?_
      refine w222_195 l0 ?_
      refine w222_196 ?_
      rw [e18]
      refine w222_199 (L.sh rfl) (am_in_nI hc (by decide)) ?_
      rw [am_clN (by omega), f3]
      refine w222_200 ?_
      by_cases hv : 1000000 < n_m b k j
      · refine w222_202 (fun q => absurd ((nI_leI (b := 1000000) (by omega) (by decide)).mp q) (by omega)) (fun _ => ?_)
        refine w222_205 l0 ?_
        refine w222_206 (L.2 _ _ _ rfl) ?_
        refine w222_209 l0 ?_
        refine w222_210 ?_
        rw [e18]
        refine w222_213 (L.sh rfl) (am_in_nI hc (by decide)) ?_
        rw [am_clN (by omega), f3]
        refine w222_214 ?_
        refine w222_240 (L.sh rfl) (am_in_nI hc (by decide)) ?_
        rw [am_clN (by omega)]
        refine nx _ ?_ _ l0 l1 l2 l3 l4 l5
        show nI (n_m b k j) = nI (if 1000000 < n_m b k j then n_m b k j else _)
        rw [if_pos hv]
      · refine w222_202 (fun _ => ?_) (fun q => absurd (nI_le (b := 1000000) (by omega) (by decide)) q)
        refine w222_217 ?_
        refine w222_219 l0 ?_
        refine w222_220 (L.2 _ _ _ rfl) ?_
        refine w222_223 l0 ?_
        refine w222_224 ?_
        rw [e18]
        refine w222_227 (L.sh rfl) (am_in_nI hc (by decide)) ?_
        rw [am_clN (by omega), f3]
        refine w222_228 ?_
        rw [show (10 : Int32) * nI (n_m b k j) = nI (10 * n_m b k j) from pk_mul 10 _]
        refine w222_229 l0 ?_
        refine w222_230 (L.2 _ _ _ rfl) ?_
        refine w222_233 l5 ?_
        refine w222_235 (L.sh rfl) (am_in_nI (by omega) (by decide)) ?_
        rw [am_clN (by omega), et]
        refine w222_236 ?_
        rw [nI_add]
        refine w222_237 ?_
        refine w222_239 ?_
        rw [show nI (10 * n_m b k j + b (k + j)) - 48 = nI (10 * n_m b k j + b (k + j) - 48) from am_nsub (b := 48) (by omega)]
        refine w222_240 (L.sh rfl) (am_in_nI hc (by decide)) ?_
        rw [am_clN (by omega)]
        refine nx _ ?_ _ l0 l1 l2 l3 l4 l5
        show _ = nI (if 1000000 < n_m b k j then n_m b k j else _)
        rw [if_neg hv]
    · intro I2 f1 f2 f3 lv l0 l1 l2 l3 l4 l5
      rw [show k + (t_e b z k - k) = t_e b z k by omega] at l5
      refine w222_169 l5 ?_
      refine w222_171 l4 ?_
      refine w222_173 (fun _ => ?_) (fun hQ => absurd (Int32.le_refl _) hQ)
      exact kk I2 f1 f2 (by unfold k_rn; rw [if_pos hd]; exact f3) _ l0 l1 l2 l4
  · refine w222_169 rfl ?_
    refine w222_171 l4 ?_
    refine w222_173 (fun hQ => absurd hQ (am_nlt (by omega) (by omega))) (fun _ => ?_)
    refine w222_176 l3 ?_
    refine w222_177 (k := c224 ?_)
    rw [d_s hb3, if_neg hd]
    refine w222_180 (fun _ => ?_) (fun hQ => absurd rfl hQ)
    exact kk I (fun _ _ => rfl) (fun _ _ => rfl) (by unfold k_rn; rw [if_neg hd]; exact h0) _ l0 l1 l2 l4
theorem c222l (L : am_Lay S P) (z400 : z ≤ 400) (hw : ∀ k x, am_wds[k]? = some x → I 130 k = nI x) (hb : ∀ j, j < z → I 131 j = sb (b j)) (hb2 : ∀ j, j < z → b j < 256) : ∀ (f k c : Nat) (I' : Nat → Nat → Int32), z - k < f → k ≤ z → c ≤ k → sc_f I I' → I' 124 18 = nI c → (∀ I2 : Nat → Nat → Int32, sc_f I I2 → (∀ j, j < c → I2 135 j = I' 135 j ∧ I2 133 j = I' 133 j ∧ I2 134 j = I' 134 j) → sc_r b z I2 c (sc b z f k) → Q none (S, I2, J, P)) → ∀ lv, am_ld1 lv 0 = some (.ref 124) → am_ld1 lv 1 = some (.int (nI z)) → am_ld1 lv 2 = some (.int (nI k)) → am_wp pr (d + 3) 222 7 lv [] (S, I', J, P) Q
  | 0, k, c, I', hf, hk, hc, f1, f2, kk => by omega
  | f + 1, k, c, I', hf, hk, hc, f1, f2, kk => by
    intro lv l0 l1 l2
    have hb' : ∀ j, j < z → I' 131 j = sb (b j) := fun j hj => by rw [f1.1 131 (by decide) (by decide) (by decide) (by decide)]; exact hb j hj
    have hw' : ∀ k x, am_wds[k]? = some x → I' 130 k = nI x := fun j x hj => by rw [f1.1 130 (by decide) (by decide) (by decide) (by decide)]; exact hw j x hj
    by_cases h : k < z
    · have hb3 := hb2 k h
      obtain ⟨te1, te2⟩ := t_e_b (b := b) h
      by_cases h32 : b k = 32
      · refine w222_7 l2 ?_
        refine w222_8 l1 ?_
        refine w222_9 (fun hQ => absurd hQ (am_nlt h (by omega))) (fun _ => ?_)
        refine w222_12 l0 ?_
        refine w222_13 (L.2 _ _ _ rfl) ?_
        refine w222_16 l2 ?_
        refine w222_17 (L.sh rfl) (am_in_nI (by omega) (by decide)) ?_
        rw [am_clN (by omega), hb' k h]
        refine w222_18 ?_
        refine w222_19 rfl ?_
        refine w222_20 ?_
        refine w222_22 (fun hQ => absurd hQ (fun q => q ((sb_p hb3).2.2.1.mpr h32))) (fun _ => ?_)
        refine w222_25 l2 ?_
        refine w222_28 ?_
        refine c222l L z400 hw hb hb2 f (k + 1) c _ (by omega) (by omega) (by omega) f1 f2 (fun I2 g1 g2 g3 => kk I2 g1 g2 ?_) _ l0 l1 (am_nx k)
        have e2 : sc b z (f + 1) k = sc b z f (k + 1) := by
          show (if z ≤ k then [] else if b k = 32 then sc b z f (k + 1) else (k, t_e b z k) :: sc b z f (t_e b z k)) = _
          rw [if_neg (by omega), if_pos h32]
        rw [e2]
        exact g3
      · have k100 : ∀ lv, am_ld1 lv 0 = some (.ref 124) → am_ld1 lv 1 = some (.int (nI z)) → am_ld1 lv 2 = some (.int (nI k)) → am_ld1 lv 3 = some (.int (sb (b k))) → am_ld1 lv 4 = some (.int (nI (t_e b z k))) → am_wp pr (d + 3) 222 100 lv [] (S, I', J, P) Q := by
          intro lv l0 l1 l2 l3 l4
          have fin : ∀ v : Int32, v = nI (k_rc b k (t_e b z k)) → ∀ lv, am_ld1 lv 0 = some (.ref 124) → am_ld1 lv 1 = some (.int (nI z)) → am_ld1 lv 2 = some (.int (nI k)) → am_ld1 lv 3 = some (.int (sb (b k))) → am_ld1 lv 4 = some (.int (nI (t_e b z k))) → am_wp pr (d + 3) 222 166 lv [] (S, am_u (am_u (am_u I' 135 c (nI k)) 134 c 0) 133 c v, J, P) Q := by
            intro v hv
            have ee : ∀ a, a ≠ 133 → a ≠ 134 → a ≠ 135 → am_u (am_u (am_u I' 135 c (nI k)) 134 c 0) 133 c v a = I' a := fun a a1 a2 a3 => by rw [am_u_ne a1, am_u_ne a2, am_u_ne a3]
            refine c222v (c := c) L z400 h (by omega) (by rw [ee 124 (by decide) (by decide) (by decide)]; exact f2) (fun j hj => by rw [ee 131 (by decide) (by decide) (by decide)]; exact hb' j hj) hb2 (by rw [am_u_ne (by decide), am_u_self]) (fun I2 g1 g2 g3 => ?_)
            intro lv l0 l1 l2 l4
            have e18 : I2 124 18 = nI c := by rw [g1 124 (by decide), ee 124 (by decide) (by decide) (by decide)]; exact f2
            have hs : sc_f I (am_u I2 124 18 (nI (c + 1))) := by
              refine ⟨fun a a1 a2 a3 a4 => ?_, fun j hj => ?_⟩
              · rw [am_u_ne a1, g1 a a3, ee a a2 a3 a4]
                exact f1.1 a a1 a2 a3 a4
              · rw [am_u_at hj, g1 124 (by decide), ee 124 (by decide) (by decide) (by decide)]
                exact f1.2 j hj
            refine w222_247 l0 ?_
            refine w222_248 rfl ?_
            refine w222_249 ?_
            rw [e18]
            refine w222_252 ?_
            refine w222_253 ?_
            rw [nI_1]
            refine w222_254 ?_
            refine w222_257 l4 ?_
            refine w222_259 ?_
            refine w222_260 ?_
            have o135 : ∀ j, am_u I2 124 18 (nI (c + 1)) 135 j = if j = c then nI k else I' 135 j := fun j => by
              rw [am_u_ne (by decide), g1 135 (by decide), am_u_ne (by decide), am_u_ne (by decide), am_u_get]
              by_cases q : j = c
              · rw [if_pos ⟨rfl, q⟩, if_pos q]
              · rw [if_neg (fun w => q w.2), if_neg q]
            have o133 : ∀ j, am_u I2 124 18 (nI (c + 1)) 133 j = if j = c then v else I' 133 j := fun j => by
              rw [am_u_ne (by decide), g1 133 (by decide), am_u_get]
              by_cases q : j = c
              · rw [if_pos ⟨rfl, q⟩, if_pos q]
              · rw [if_neg (fun w => q w.2), if_neg q, am_u_ne (by decide), am_u_ne (by decide)]
            have o134 : ∀ j, am_u I2 124 18 (nI (c + 1)) 134 j = if j = c then nI (k_rn b k (t_e b z k)) else I' 134 j := fun j => by
              rw [am_u_ne (by decide)]
              by_cases q : j = c
              · rw [if_pos q, q]; exact g3
              · rw [if_neg q, g2 j q, am_u_ne (by decide), am_u_at q, am_u_ne (by decide)]
            refine c222l L z400 hw hb hb2 f (t_e b z k) (c + 1) _ (by omega) te2 (by omega) hs am_u_self (fun I3 r1 r2 r3 => kk I3 r1 (fun j hj => ?_) ?_) _ l0 l1 rfl
            · obtain ⟨q1, q2, q3⟩ := r2 j (by omega)
              rw [o135, if_neg (by omega)] at q1
              rw [o133, if_neg (by omega)] at q2
              rw [o134, if_neg (by omega)] at q3
              exact ⟨q1, q2, q3⟩
            · have e2 : sc b z (f + 1) k = (k, t_e b z k) :: sc b z f (t_e b z k) := by
                show (if z ≤ k then [] else if b k = 32 then sc b z f (k + 1) else (k, t_e b z k) :: sc b z f (t_e b z k)) = _
                rw [if_neg (by omega), if_neg h32]
              rw [e2]
              obtain ⟨q1, q2, q3⟩ := r2 c (by omega)
              rw [o135, if_pos rfl] at q1
              rw [o133, if_pos rfl] at q2
              rw [o134, if_pos rfl] at q3
              exact sc_r_cons ⟨q1, q2.trans hv, q3⟩ r3
          refine w222_100 l0 ?_
          refine w222_101 (L.2 _ _ _ rfl) ?_
          refine w222_104 l0 ?_
          refine w222_105 ?_
          rw [f2]
          refine w222_108 l2 ?_
          refine w222_109 (L.sh rfl) (am_in_nI (by omega) (by decide)) ?_
          rw [am_clN (by omega)]
          refine w222_110 l0 ?_
          refine w222_111 (L.2 _ _ _ rfl) ?_
          refine w222_114 l0 ?_
          refine w222_115 ?_
          rw [am_u_ne (by decide), f2]
          refine w222_118 ?_
          refine w222_119 (L.sh rfl) (am_in_nI (by omega) (by decide)) ?_
          rw [am_clN (by omega)]
          refine w222_120 l0 ?_
          refine w222_121 (L.2 _ _ _ rfl) ?_
          refine w222_124 l0 ?_
          refine w222_125 ?_
          rw [am_u_ne (by decide), am_u_ne (by decide), f2]
          refine w222_128 l3 ?_
          refine w222_129 (k := c223 ?_)
          rw [l_s hb3]
          by_cases hl : is_l (b k) = true
          · rw [if_pos hl]
            refine w222_132 (fun hQ => absurd hQ (by decide)) (fun _ => ?_)
            refine w222_135 l0 ?_
            refine w222_136 l2 ?_
            refine w222_137 l4 ?_
            refine w222_139 (k := c225 L (fun j x hj => by rw [am_u_ne (by decide), am_u_ne (by decide)]; exact hw' j x hj) (by omega) (by omega) (fun j hj => by rw [am_u_ne (by decide), am_u_ne (by decide)]; exact hb' j (by omega)) (fun j hj => hb2 j (by omega)) ?_)
            refine w222_142 ?_
            refine w222_165 (L.sh rfl) (am_in_nI (by omega) (by decide)) ?_
            rw [am_clN (by omega)]
            exact fin _ (by unfold k_rc; rw [if_pos hl]) _ l0 l1 l2 l3 l4
          · rw [if_neg hl]
            refine w222_132 (fun _ => ?_) (fun q => absurd rfl q)
            refine w222_145 l3 ?_
            refine w222_146 (k := c224 ?_)
            rw [d_s hb3]
            by_cases hd : is_d (b k) = true
            · rw [if_pos hd]
              refine w222_149 (fun hQ => absurd hQ (by decide)) (fun _ => ?_)
              refine w222_152 ?_
              refine w222_154 ?_
              refine w222_165 (L.sh rfl) (am_in_nI (by omega) (by decide)) ?_
              rw [am_clN (by omega)]
              exact fin _ (by unfold k_rc; rw [if_neg hl, if_pos hd]; rfl) _ l0 l1 l2 l3 l4
            · rw [if_neg hd]
              refine w222_149 (fun _ => ?_) (fun hQ => absurd rfl hQ)
              refine w222_157 ?_
              refine w222_159 l3 ?_
              refine w222_160 ?_
              refine w222_163 ?_
              rw [(sb_p hb3).2.2.2.1]
              refine w222_164 ?_
              rw [show (100 : Int32) + nI (b k) = nI (100 + b k) from nI_add 100 _]
              refine w222_165 (L.sh rfl) (am_in_nI (by omega) (by decide)) ?_
              rw [am_clN (by omega)]
              exact fin _ (by unfold k_rc; rw [if_neg hl, if_neg hd]) _ l0 l1 l2 l3 l4
        refine w222_7 l2 ?_
        refine w222_8 l1 ?_
        refine w222_9 (fun hQ => absurd hQ (am_nlt h (by omega))) (fun _ => ?_)
        refine w222_12 l0 ?_
        refine w222_13 (L.2 _ _ _ rfl) ?_
        refine w222_16 l2 ?_
        refine w222_17 (L.sh rfl) (am_in_nI (by omega) (by decide)) ?_
        rw [am_clN (by omega), hb' k h]
        refine w222_18 ?_
        refine w222_19 rfl ?_
        refine w222_20 ?_
        refine w222_22 (fun _ => ?_) (fun hQ => absurd (fun q => h32 ((sb_p hb3).2.2.1.mp q)) hQ)
        refine w222_31 l2 ?_
        refine w222_32 ?_
        refine w222_33 ?_
        rw [nI_1]
        refine w222_34 ?_
        refine w222_36 rfl ?_
        refine w222_37 (k := c223 ?_)
        rw [l_s hb3]
        by_cases hl : is_l (b k) = true
        · have ee : t_e b z k = rend (fun j => is_l (b j)) z (k + 1) := by unfold t_e; rw [if_pos hl]
          rw [if_pos hl]
          refine w222_40 (fun q => absurd q (by decide)) (fun _ => ?_)
          refine c222a L z400 hb' hb2 _ (k + 1) (Nat.le_refl _) (by omega) ?_ _ l0 l1 l2 rfl rfl
          rw [← ee]
          intro lv l0 l1 l2 l3 l4
          refine w222_68 l3 ?_
          refine w222_69 (k := c224 ?_)
          rw [d_s hb3, if_neg (is_ld hl)]
          refine w222_72 (fun _ => ?_) (fun hQ => absurd rfl hQ)
          exact k100 _ l0 l1 l2 l3 l4
        · rw [if_neg hl]
          refine w222_40 (fun _ => ?_) (fun q => absurd rfl q)
          refine w222_68 rfl ?_
          refine w222_69 (k := c224 ?_)
          rw [d_s hb3]
          by_cases hd : is_d (b k) = true
          · have ee : t_e b z k = rend (fun j => is_d (b j)) z (k + 1) := by unfold t_e; rw [if_neg hl, if_pos hd]
            rw [if_pos hd]
            refine w222_72 (fun q => absurd q (by decide)) (fun _ => ?_)
            refine c222b L z400 hb' hb2 _ (k + 1) (Nat.le_refl _) (by omega) ?_ _ l0 l1 l2 rfl rfl
            rw [← ee]
            exact k100
          · have ee : t_e b z k = k + 1 := by unfold t_e; rw [if_neg hl, if_neg hd]
            rw [if_neg hd]
            refine w222_72 (fun _ => ?_) (fun q => absurd rfl q)
            exact k100 _ l0 l1 l2 rfl (by rw [ee]; rfl)
    · have e0 : k = z := by omega
      have e2 : sc b z (f + 1) k = [] := by
        show (if z ≤ k then [] else if b k = 32 then sc b z f (k + 1) else (k, t_e b z k) :: sc b z f (t_e b z k)) = _
        rw [if_pos (by omega)]
      rw [e2] at kk
      refine w222_7 l2 ?_
      refine w222_8 l1 ?_
      refine w222_9 (fun _ => ?_) (fun hQ => absurd (by rw [e0]; exact Int32.le_refl _) hQ)
      refine w222_263 l0 ?_
      refine w222_264 (L.2 _ _ _ rfl) ?_
      refine w222_267 l0 ?_
      refine w222_268 ?_
      rw [f2]
      refine w222_271 l1 ?_
      refine w222_272 (L.sh rfl) (am_in_nI (by omega) (by decide)) ?_
      rw [am_clN (by omega)]
      refine w222_273 l0 ?_
      refine w222_274 (L.2 _ _ _ rfl) ?_
      refine w222_277 l0 ?_
      refine w222_278 ?_
      rw [am_u_ne (by decide), f2]
      refine w222_281 ?_
      refine w222_282 (L.sh rfl) (am_in_nI (by omega) (by decide)) ?_
      rw [am_clN (by omega)]
      refine w222_283 l0 ?_
      refine w222_284 (L.2 _ _ _ rfl) ?_
      refine w222_287 l0 ?_
      refine w222_288 ?_
      rw [am_u_ne (by decide), am_u_ne (by decide), f2]
      refine w222_291 ?_
      refine w222_292 (L.sh rfl) (am_in_nI (by omega) (by decide)) ?_
      rw [am_clN (by omega)]
      refine w222_293 ?_
      refine kk _ ⟨fun a a1 a2 a3 a4 => ?_, fun j hj => ?_⟩ (fun j hj => ⟨?_, ?_, ?_⟩) ⟨fun j p e q => (by cases q), ?_, ?_, ?_, ?_⟩
      · rw [am_u_ne a3, am_u_ne a2, am_u_ne a4]; exact f1.1 a a1 a2 a3 a4
      · rw [am_u_ne (by decide), am_u_ne (by decide), am_u_ne (by decide)]; exact f1.2 j hj
      · rw [am_u_ne (by decide), am_u_ne (by decide), am_u_at (by omega)]
      · rw [am_u_ne (by decide), am_u_at (by omega), am_u_ne (by decide)]
      · rw [am_u_at (by omega), am_u_ne (by decide), am_u_ne (by decide)]
      · rw [am_u_ne (by decide), am_u_ne (by decide), am_u_ne (by decide)]; exact f2
      · rw [am_u_ne (by decide), am_u_ne (by decide)]; exact am_u_self
      · rw [am_u_ne (by decide)]; exact am_u_self
      · exact am_u_self
/-- splits -/
theorem c222 (L : am_Lay S P) (z400 : z ≤ 400) (hw : ∀ k x, am_wds[k]? = some x → I 130 k = nI x) (hb : ∀ j, j < z → I 131 j = sb (b j)) (hb2 : ∀ j, j < z → b j < 256) (k : ∀ I2 : Nat → Nat → Int32, sc_f I I2 → sc_r b z I2 0 (sc b z (z + 1) 0) → Q none (S, I2, J, P)) : am_ev pr (d + 3) 222 [.ref 124, .int (nI z)] (S, I, J, P) Q := by
  show am_wp pr (d + 3) 222 0 [(0, .ref 124), (1, .int (nI z))] [] _ _
  refine w222_0 rfl ?_
  refine w222_1 ?_
  refine w222_2 ?_
  refine w222_5 ?_
  refine w222_6 ?_
  exact c222l (I := I) L z400 hw hb hb2 (z + 1) 0 0 _ (by omega) (by omega) (by omega) ⟨fun a a1 _ _ _ => am_u_ne a1, fun j hj => am_u_at hj⟩ am_u_self (fun I2 g1 _ g3 => k I2 g1 g3) _ rfl rfl rfl
end
