/-! how steps are reckoned: whole sums and tests -/
def k_ok (o : Bool) (c k : Nat) : Prop := if o = true then (14 ≤ c ∧ c ≤ 20 ∧ (c = 14 → k ≤ 6) ∧ (c = 20 → k ≤ 4)) else (8 ≤ c ∧ c ≤ 16)
theorem k_word_lt {o : Bool} {c k : Nat} (h : k_ok o c k) : k_word o c k < (if o = true then 17 else 9) := by
  cases o with
  | true =>
    unfold k_ok at h
    rw [if_pos rfl] at h
    unfold k_word
    rw [if_pos rfl]
    rcases (show c = 14 ∨ c = 15 ∨ c = 16 ∨ c = 17 ∨ c = 18 ∨ c = 19 ∨ c = 20 by omega) with rfl | rfl | rfl | rfl | rfl | rfl | rfl <;> simp <;> omega
  | false =>
    unfold k_ok at h
    rw [if_neg (by decide)] at h
    unfold k_word
    rw [if_neg (by decide)]
    rcases (show c = 8 ∨ c = 9 ∨ c = 10 ∨ c = 11 ∨ c = 12 ∨ c = 13 ∨ c = 14 ∨ c = 15 ∨ c = 16 by omega) with rfl | rfl | rfl | rfl | rfl | rfl | rfl | rfl | rfl <;> decide
def k_E (o : Bool) (S : List (Nat × Nat)) (I : Nat → Nat → Int32) (P : Nat → Nat → Option Nat) (t wr z : Nat) (w : Nat → Nat → Int32) : Prop :=
  am_Lay S P ∧ (∃ N, am_Ts S P t N ∧ z ≤ N ∧ N ≤ 480) ∧ I 119 0 = 0 ∧ am_sh S wr (20, if o = true then 17 else 9) ∧ ∀ c k, k_ok o c k → I wr (k_word o c k) = w c k
def k_run (pr : am_Pr) (d : Nat) (S : List (Nat × Nat)) (I : Nat → Nat → Int32) (P : Nat → Nat → Option Nat) (Q : Option Value → am_H → Prop) (t wr z i q : Nat) (J : Nat → Nat → Int64) : Prop := ∀ lv, am_ld1 lv 0 = some (.ref 119) → am_ld1 lv 1 = some (.ref t) → am_ld1 lv 3 = some (.ref wr) → am_ld1 lv 4 = some (.int (nI q)) → am_ld1 lv 5 = some (.int (nI z)) → am_ld1 lv 6 = some (.int (nI i)) → am_wp pr (d + 1) 25 39 lv [] (S, I, J, P) Q
theorem nI_ne {a b : Nat} (h : a ≠ b) (ha : a < 2 ^ 31) (hb : b < 2 ^ 31) : ¬ nI a = nI b := fun z => h ((nI_eq ha hb).mp z)
section
variable {pr : am_Pr} {d : Nat} {S : List (Nat × Nat)} {I : Nat → Nat → Int32} {J : Nat → Nat → Int64} {P : Nat → Nat → Option Nat} {Q : Option Value → am_H → Prop} {o : Bool} {t wr z i q : Nat} {w : Nat → Nat → Int32}
theorem k_num (E : k_E o S I P t wr z w) (hi : i < z) (hq : q < 64) {v : Int32} (h1 : I (t + 1 + 4) i = nI 1) (h2 : I (t + 1 + 5) i = v) (k : k_run pr d S I P Q t wr z (i + 1) (q + 1) (am_u J 120 q v.toInt64)) : k_run pr d S I P Q t wr z i q J := by
  obtain ⟨L, ⟨N, ht, hz, hN⟩, hb, hw, hww⟩ := E
  intro lv l0 l1 l3 l4 l5 l6
  refine w25_39 l6 ?_
  refine w25_41 l5 ?_
  refine w25_43 (fun h => absurd h (am_nlt hi (by omega))) (fun _ => ?_)
  refine w25_46 l0 ?_
  refine w25_47 ?_
  rw [hb]
  refine w25_50 (fun h => absurd h (fun z => z rfl)) (fun _ => ?_)
  refine w25_53 l1 ?_
  refine w25_54 (ht.2.1 4 (by decide)) ?_
  refine w25_57 l6 ?_
  refine w25_59 (ht.sh rfl) (am_in_nI (by omega) (by omega)) ?_
  rw [am_clN (by omega), h1]
  refine w25_60 ?_
  refine w25_62 l1 ?_
  refine w25_63 (ht.2.1 5 (by decide)) ?_
  refine w25_66 l6 ?_
  refine w25_68 (ht.sh rfl) (am_in_nI (by omega) (by omega)) ?_
  rw [am_clN (by omega), h2]
  refine w25_69 ?_
  refine w25_71 rfl ?_
  refine w25_73 (fun _ => ?_) (fun h => absurd (by decide) h)
  refine w25_79 rfl ?_
  refine w25_81 ?_
  refine w25_82 (fun _ => ?_) (fun h => absurd rfl h)
  refine w25_91 l4 ?_
  refine w25_93 ?_
  refine w25_95 (fun h => absurd h (am_nlt (n := 64) hq (by decide))) (fun _ => ?_)
  refine w25_98 l0 ?_
  refine w25_99 (L.2 _ _ _ rfl) ?_
  refine w25_102 l4 ?_
  refine w25_104 rfl ?_
  refine w25_106 ?_
  refine w25_107 (fun h => absurd h (fun z => z rfl)) (fun _ => ?_)
  refine w25_110 rfl ?_
  refine w25_112 ?_
  refine w25_113 ?_
  refine w25_123 (L.sh rfl) (am_in_nI hq (by decide)) ?_
  rw [am_clN (by omega)]
  refine w25_124 l4 ?_
  refine w25_127 ?_
  refine w25_305 l6 ?_
  refine w25_308 ?_
  exact k _ l0 l1 l3 (am_nx q) l5 (am_nx i)
theorem k_wrd (E : k_E o S I P t wr z w) (hi : i < z) (hq : q < 64) {c k : Nat} (hk : k_ok o c k) (h1 : I (t + 1 + 4) i = nI 2) (h2 : I (t + 1 + 5) i = nI (k_word o c k)) (kk : k_run pr d S I P Q t wr z (i + 1) (q + 1) (am_u J 120 q (w c k).toInt64)) : k_run pr d S I P Q t wr z i q J := by
  obtain ⟨L, ⟨N, ht, hz, hN⟩, hb, hw, hww⟩ := E
  have hlt := k_word_lt hk
  have hn : (if o = true then 17 else 9) < 1000 := by split <;> decide
  intro lv l0 l1 l3 l4 l5 l6
  refine w25_39 l6 ?_
  refine w25_41 l5 ?_
  refine w25_43 (fun h => absurd h (am_nlt hi (by omega))) (fun _ => ?_)
  refine w25_46 l0 ?_
  refine w25_47 ?_
  rw [hb]
  refine w25_50 (fun h => absurd h (fun z => z rfl)) (fun _ => ?_)
  refine w25_53 l1 ?_
  refine w25_54 (ht.2.1 4 (by decide)) ?_
  refine w25_57 l6 ?_
  refine w25_59 (ht.sh rfl) (am_in_nI (by omega) (by omega)) ?_
  rw [am_clN (by omega), h1]
  refine w25_60 ?_
  refine w25_62 l1 ?_
  refine w25_63 (ht.2.1 5 (by decide)) ?_
  refine w25_66 l6 ?_
  refine w25_68 (ht.sh rfl) (am_in_nI (by omega) (by omega)) ?_
  rw [am_clN (by omega), h2]
  refine w25_69 ?_
  refine w25_71 rfl ?_
  refine w25_73 (fun _ => ?_) (fun h => absurd (by decide) h)
  refine w25_79 rfl ?_
  refine w25_81 ?_
  refine w25_82 (fun h => absurd h (by decide)) (fun _ => ?_)
  refine w25_85 rfl ?_
  refine w25_87 ?_
  refine w25_88 (fun h => absurd h (fun z => z rfl)) (fun _ => ?_)
  refine w25_91 l4 ?_
  refine w25_93 ?_
  refine w25_95 (fun h => absurd h (am_nlt (n := 64) hq (by decide))) (fun _ => ?_)
  refine w25_98 l0 ?_
  refine w25_99 (L.2 _ _ _ rfl) ?_
  refine w25_102 l4 ?_
  refine w25_104 rfl ?_
  refine w25_106 ?_
  refine w25_107 (fun _ => ?_) (fun h => absurd (by decide) h)
  refine w25_116 l3 ?_
  refine w25_117 rfl ?_
  refine w25_119 (k := c26 hw hn hlt ?_)
  rw [hww c k hk]
  refine w25_122 ?_
  refine w25_123 (L.sh rfl) (am_in_nI hq (by decide)) ?_
  rw [am_clN (by omega)]
  refine w25_124 l4 ?_
  refine w25_127 ?_
  refine w25_305 l6 ?_
  refine w25_308 ?_
  exact kk _ l0 l1 l3 (am_nx q) l5 (am_nx i)
theorem k_bin (E : k_E o S I P t wr z w) (hi : i < z) (hq : q + 2 ≤ 64) {op : Nat} (hop : op < 5) (h1 : I (t + 1 + 4) i = nI (3 + op)) (hB : e_op op (J 120 q) (J 120 (q + 1)) = none → ∀ J', Q (some (.int 0)) (S, am_u I 119 0 1, J', P)) (k : ∀ x, e_op op (J 120 q) (J 120 (q + 1)) = some x → k_run pr d S I P Q t wr z (i + 1) (q + 1) (am_u J 120 q x)) : k_run pr d S I P Q t wr z i (q + 2) J := by
  obtain ⟨L, ⟨N, ht, hz, hN⟩, hb, hw, hww⟩ := E
  have nz : ∀ c, c < 3 ∨ 8 ≤ c → c < 20 → ¬ nI (3 + op) = nI c := fun c h h2 => nI_ne (by omega) (by omega) (by omega)
  have e1 : nI (q + 1) - 1 = nI q := nI_pred q
  have bad : e_op op (J 120 q) (J 120 (q + 1)) = none → ∀ J1, ∀ lv, am_ld1 lv 0 = some (.ref 119) → am_ld1 lv 4 = some (.int (nI (q + 1))) → am_ld1 lv 5 = some (.int (nI z)) → am_ld1 lv 6 = some (.int (nI i)) → am_wp pr (d + 1) 25 305 lv [] (S, am_u I 119 0 1, J1, P) Q := by
    intro hn J1 lv l0 l4 l5 l6
    refine w25_305 l6 ?_
    refine w25_308 ?_
    refine w25_39 rfl ?_
    refine w25_41 l5 ?_
    refine w25_43 (fun h43 => ?_) (fun h43 => ?_)
    · refine w25_311 l0 ?_
      refine w25_312 ?_
      rw [am_u_self]
      refine w25_315 (fun _ => ?_) (fun h => absurd (by decide) h)
      refine w25_331 ?_
      refine w25_332 ?_
      refine w25_342 ?_
      exact hB hn _
    · replace h43 := Int32.not_le.mp h43
      refine w25_46 l0 ?_
      refine w25_47 ?_
      rw [am_u_self]
      refine w25_50 (fun _ => ?_) (fun h => absurd (by decide) h)
      refine w25_311 l0 ?_
      refine w25_312 ?_
      rw [am_u_self]
      refine w25_315 (fun _ => ?_) (fun h => absurd (by decide) h)
      refine w25_331 ?_
      refine w25_332 ?_
      refine w25_342 ?_
      exact hB hn _
  intro lv l0 l1 l3 l4 l5 l6
  refine w25_39 l6 ?_
  refine w25_41 l5 ?_
  refine w25_43 (fun h => absurd h (am_nlt hi (by omega))) (fun _ => ?_)
  refine w25_46 l0 ?_
  refine w25_47 ?_
  rw [hb]
  refine w25_50 (fun h => absurd h (fun z => z rfl)) (fun _ => ?_)
  refine w25_53 l1 ?_
  refine w25_54 (ht.2.1 4 (by decide)) ?_
  refine w25_57 l6 ?_
  refine w25_59 (ht.sh rfl) (am_in_nI (by omega) (by omega)) ?_
  rw [am_clN (by omega), h1]
  refine w25_60 ?_
  refine w25_62 l1 ?_
  refine w25_63 (ht.2.1 5 (by decide)) ?_
  refine w25_66 l6 ?_
  refine w25_68 (ht.sh rfl) (am_in_nI (by omega) (by omega)) ?_
  rw [am_clN (by omega)]
  refine w25_69 ?_
  refine w25_71 rfl ?_
  refine w25_73 (fun _ => ?_) (fun h => absurd (nz 0 (by omega) (by omega)) h)
  refine w25_79 rfl ?_
  refine w25_81 ?_
  refine w25_82 (fun h => absurd h (nz 1 (by omega) (by omega))) (fun _ => ?_)
  refine w25_85 rfl ?_
  refine w25_87 ?_
  refine w25_88 (fun _ => ?_) (fun h => absurd (nz 2 (by omega) (by omega)) h)
  refine w25_130 l4 ?_
  refine w25_132 ?_
  refine w25_133 (fun h => absurd h (Int32.not_lt.mpr (nI_le (a := 1) (by omega) (by omega)))) (fun _ => ?_)
  refine w25_136 l4 ?_
  refine w25_138 ?_
  refine w25_140 (fun _ => ?_) (fun h => absurd (nI_le (b := 64) (by omega) (by decide)) h)
  refine w25_151 rfl ?_
  refine w25_153 ?_
  refine w25_155 (fun _ => ?_) (fun h => absurd (nz 11 (by omega) (by omega)) h)
  refine w25_189 rfl ?_
  refine w25_191 ?_
  refine w25_193 (fun h => absurd h (nz 12 (by omega) (by omega))) (fun _ => ?_)
  refine w25_196 rfl ?_
  refine w25_198 ?_
  refine w25_200 (fun _ => ?_) (fun h => absurd (nz 13 (by omega) (by omega)) h)
  refine w25_257 l4 ?_
  refine w25_259 ?_
  refine w25_260 (fun _ => ?_) (fun h => absurd (nI_le (a := 2) (by omega) (by omega)) h)
  refine w25_271 l4 ?_
  rw [show nI (q + 2) + (-1) = nI (q + 1) from pk_m1 (q + 1)]
  refine w25_274 l0 ?_
  refine w25_275 (L.2 _ _ _ rfl) ?_
  refine w25_278 rfl ?_
  refine w25_280 ?_
  refine w25_281 ?_
  rw [e1]
  refine w25_282 l0 ?_
  refine w25_283 rfl ?_
  refine w25_285 l0 ?_
  refine w25_286 (L.2 _ _ _ rfl) ?_
  refine w25_289 rfl ?_
  refine w25_291 ?_
  refine w25_292 ?_
  rw [e1]
  refine w25_293 (L.sh rfl) (am_in_nI (by omega) (by decide)) ?_
  rw [am_clN (by omega)]
  refine w25_294 l0 ?_
  refine w25_295 (L.2 _ _ _ rfl) ?_
  refine w25_298 rfl ?_
  refine w25_300 (L.sh rfl) (am_in_nI (by omega) (by decide)) ?_
  rw [am_clN (by omega)]
  refine w25_301 (k := c27 L hop hb (fun x hx => ?_) (fun x hx => ?_))
  · refine w25_304 (L.sh rfl) (am_in_nI (by omega) (by decide)) ?_
    rw [am_clN (by omega)]
    refine w25_305 l6 ?_
    refine w25_308 ?_
    exact k x hx _ l0 l1 l3 rfl l5 (am_nx i)
  · refine w25_304 (L.sh rfl) (am_in_nI (by omega) (by decide)) ?_
    exact bad hx _ _ l0 rfl l5 l6
theorem k_cmp (E : k_E o S I P t wr z w) (hi : i < z) (hq : q + 2 ≤ 64) {op : Nat} (hop : op < 3) (h1 : I (t + 1 + 4) i = nI (8 + op)) (k : k_run pr d S I P Q t wr z (i + 1) (q + 1) (am_u J 120 q (if e_cm op (J 120 q) (J 120 (q + 1)) then 1 else 0))) : k_run pr d S I P Q t wr z i (q + 2) J := by
  obtain ⟨L, ⟨N, ht, hz, hN⟩, hb, hw, hww⟩ := E
  have nz : ∀ c, c < 8 ∨ 11 ≤ c → c < 20 → ¬ nI (8 + op) = nI c := fun c h h2 => nI_ne (by omega) (by omega) (by omega)
  have e1 : nI (q + 1) - 1 = nI q := nI_pred q
  intro lv l0 l1 l3 l4 l5 l6
  refine w25_39 l6 ?_
  refine w25_41 l5 ?_
  refine w25_43 (fun h => absurd h (am_nlt hi (by omega))) (fun _ => ?_)
  refine w25_46 l0 ?_
  refine w25_47 ?_
  rw [hb]
  refine w25_50 (fun h => absurd h (fun z => z rfl)) (fun _ => ?_)
  refine w25_53 l1 ?_
  refine w25_54 (ht.2.1 4 (by decide)) ?_
  refine w25_57 l6 ?_
  refine w25_59 (ht.sh rfl) (am_in_nI (by omega) (by omega)) ?_
  rw [am_clN (by omega), h1]
  refine w25_60 ?_
  refine w25_62 l1 ?_
  refine w25_63 (ht.2.1 5 (by decide)) ?_
  refine w25_66 l6 ?_
  refine w25_68 (ht.sh rfl) (am_in_nI (by omega) (by omega)) ?_
  rw [am_clN (by omega)]
  refine w25_69 ?_
  refine w25_71 rfl ?_
  refine w25_73 (fun _ => ?_) (fun h => absurd (nz 0 (by omega) (by omega)) h)
  refine w25_79 rfl ?_
  refine w25_81 ?_
  refine w25_82 (fun h => absurd h (nz 1 (by omega) (by omega))) (fun _ => ?_)
  refine w25_85 rfl ?_
  refine w25_87 ?_
  refine w25_88 (fun _ => ?_) (fun h => absurd (nz 2 (by omega) (by omega)) h)
  refine w25_130 l4 ?_
  refine w25_132 ?_
  refine w25_133 (fun h => absurd h (Int32.not_lt.mpr (nI_le (a := 1) (by omega) (by omega)))) (fun _ => ?_)
  refine w25_136 l4 ?_
  refine w25_138 ?_
  refine w25_140 (fun _ => ?_) (fun h => absurd (nI_le (b := 64) (by omega) (by decide)) h)
  refine w25_151 rfl ?_
  refine w25_153 ?_
  refine w25_155 (fun _ => ?_) (fun h => absurd (nz 11 (by omega) (by omega)) h)
  refine w25_189 rfl ?_
  refine w25_191 ?_
  refine w25_193 (fun h => absurd h (nz 12 (by omega) (by omega))) (fun _ => ?_)
  refine w25_196 rfl ?_
  refine w25_198 ?_
  refine w25_200 (fun _ => ?_) (fun h => absurd (nz 13 (by omega) (by omega)) h)
  refine w25_257 l4 ?_
  refine w25_259 ?_
  refine w25_260 (fun _ => ?_) (fun h => absurd (nI_le (a := 2) (by omega) (by omega)) h)
  refine w25_271 l4 ?_
  rw [show nI (q + 2) + (-1) = nI (q + 1) from pk_m1 (q + 1)]
  refine w25_274 l0 ?_
  refine w25_275 (L.2 _ _ _ rfl) ?_
  refine w25_278 rfl ?_
  refine w25_280 ?_
  refine w25_281 ?_
  rw [e1]
  refine w25_282 l0 ?_
  refine w25_283 rfl ?_
  refine w25_285 l0 ?_
  refine w25_286 (L.2 _ _ _ rfl) ?_
  refine w25_289 rfl ?_
  refine w25_291 ?_
  refine w25_292 ?_
  rw [e1]
  refine w25_293 (L.sh rfl) (am_in_nI (by omega) (by decide)) ?_
  rw [am_clN (by omega)]
  refine w25_294 l0 ?_
  refine w25_295 (L.2 _ _ _ rfl) ?_
  refine w25_298 rfl ?_
  refine w25_300 (L.sh rfl) (am_in_nI (by omega) (by decide)) ?_
  rw [am_clN (by omega)]
  refine w25_301 (k := c27c L hop hb ?_)
  refine w25_304 (L.sh rfl) (am_in_nI (by omega) (by decide)) ?_
  rw [am_clN (by omega)]
  refine w25_305 l6 ?_
  refine w25_308 ?_
  exact k _ l0 l1 l3 rfl l5 (am_nx i)
theorem k_not (E : k_E o S I P t wr z w) (hi : i < z) (hq : q + 1 ≤ 64) (h1 : I (t + 1 + 4) i = nI 11) (k : k_run pr d S I P Q t wr z (i + 1) (q + 1) (am_u J 120 q (if J 120 q = 0 then 1 else 0))) : k_run pr d S I P Q t wr z i (q + 1) J := by
  obtain ⟨L, ⟨N, ht, hz, hN⟩, hb, hw, hww⟩ := E
  have e1 : nI (q + 1) - 1 = nI q := nI_pred q
  intro lv l0 l1 l3 l4 l5 l6
  refine w25_39 l6 ?_
  refine w25_41 l5 ?_
  refine w25_43 (fun h => absurd h (am_nlt hi (by omega))) (fun _ => ?_)
  refine w25_46 l0 ?_
  refine w25_47 ?_
  rw [hb]
  refine w25_50 (fun h => absurd h (fun z => z rfl)) (fun _ => ?_)
  refine w25_53 l1 ?_
  refine w25_54 (ht.2.1 4 (by decide)) ?_
  refine w25_57 l6 ?_
  refine w25_59 (ht.sh rfl) (am_in_nI (by omega) (by omega)) ?_
  rw [am_clN (by omega), h1]
  refine w25_60 ?_
  refine w25_62 l1 ?_
  refine w25_63 (ht.2.1 5 (by decide)) ?_
  refine w25_66 l6 ?_
  refine w25_68 (ht.sh rfl) (am_in_nI (by omega) (by omega)) ?_
  rw [am_clN (by omega)]
  refine w25_69 ?_
  refine w25_71 rfl ?_
  refine w25_73 (fun _ => ?_) (fun h => absurd (by decide) h)
  refine w25_79 rfl ?_
  refine w25_81 ?_
  refine w25_82 (fun h => absurd h (by decide)) (fun _ => ?_)
  refine w25_85 rfl ?_
  refine w25_87 ?_
  refine w25_88 (fun _ => ?_) (fun h => absurd (by decide) h)
  refine w25_130 l4 ?_
  refine w25_132 ?_
  refine w25_133 (fun h => absurd h (Int32.not_lt.mpr (nI_le (a := 1) (by omega) (by omega)))) (fun _ => ?_)
  refine w25_136 l4 ?_
  refine w25_138 ?_
  refine w25_140 (fun _ => ?_) (fun h => absurd (nI_le (b := 64) (by omega) (by decide)) h)
  refine w25_151 rfl ?_
  refine w25_153 ?_
  refine w25_155 (fun h => absurd h (fun z => z rfl)) (fun _ => ?_)
  refine w25_158 l0 ?_
  refine w25_159 (L.2 _ _ _ rfl) ?_
  refine w25_162 l4 ?_
  refine w25_164 ?_
  refine w25_165 ?_
  rw [e1]
  refine w25_166 l0 ?_
  refine w25_167 (L.2 _ _ _ rfl) ?_
  refine w25_170 l4 ?_
  refine w25_172 ?_
  refine w25_173 ?_
  rw [e1]
  refine w25_174 (L.sh rfl) (am_in_nI (by omega) (by decide)) ?_
  rw [am_clN (by omega)]
  refine w25_175 ?_
  refine w25_176 ?_
  refine w25_177 (fun h177 => ?_) (fun h177 => ?_)
  · rw [if_neg (fun z => h177 ((lg_cmp_eq _ _).mpr z))] at k
    refine w25_184 ?_
    refine w25_185 (L.sh rfl) (am_in_nI (by omega) (by decide)) ?_
    rw [am_clN (by omega)]
    refine w25_186 ?_
    refine w25_305 l6 ?_
    refine w25_308 ?_
    exact k _ l0 l1 l3 l4 l5 (am_nx i)
  · replace h177 := Decidable.not_not.mp h177
    rw [if_pos ((lg_cmp_eq _ _).mp h177)] at k
    refine w25_180 ?_
    refine w25_181 ?_
    refine w25_185 (L.sh rfl) (am_in_nI (by omega) (by decide)) ?_
    rw [am_clN (by omega)]
    refine w25_186 ?_
    refine w25_305 l6 ?_
    refine w25_308 ?_
    exact k _ l0 l1 l3 l4 l5 (am_nx i)
theorem k_leap {tg : Nat} (h1 : i + 1 ≤ tg) (h2 : tg < 1000) : (if nI i < nI tg - 1 then nI tg - 1 else nI i) = nI (tg - 1) := by
  rw [nI_sub1 (by omega)]
  by_cases h : i < tg - 1
  · rw [if_pos (nI_lt h (by omega))]
  · rw [if_neg (Int32.not_lt.mpr (nI_le (by omega) (by omega)))]
    exact congrArg nI (by omega)
theorem k_leap1 {tg : Nat} (h1 : 0 < tg) : some (Value.int (nI (tg - 1) + 1)) = some (Value.int (nI tg)) := by rw [nI_1, Nat.sub_add_cancel h1]
theorem k_or (E : k_E o S I P t wr z w) (hi : i < z) (hq : q + 1 ≤ 64) {tg : Nat} (ht1 : i + 1 ≤ tg) (ht2 : tg < 1000) (h1 : I (t + 1 + 4) i = nI 12) (h2 : I (t + 1 + 5) i = nI tg) (k1 : ¬ J 120 q = 0 → k_run pr d S I P Q t wr z tg (q + 1) J) (k2 : J 120 q = 0 → k_run pr d S I P Q t wr z (i + 1) q J) : k_run pr d S I P Q t wr z i (q + 1) J := by
  obtain ⟨L, ⟨N, ht, hz, hN⟩, hb, hw, hww⟩ := E
  have e1 : nI (q + 1) - 1 = nI q := nI_pred q
  intro lv l0 l1 l3 l4 l5 l6
  refine w25_39 l6 ?_
  refine w25_41 l5 ?_
  refine w25_43 (fun h => absurd h (am_nlt hi (by omega))) (fun _ => ?_)
  refine w25_46 l0 ?_
  refine w25_47 ?_
  rw [hb]
  refine w25_50 (fun h => absurd h (fun z => z rfl)) (fun _ => ?_)
  refine w25_53 l1 ?_
  refine w25_54 (ht.2.1 4 (by decide)) ?_
  refine w25_57 l6 ?_
  refine w25_59 (ht.sh rfl) (am_in_nI (by omega) (by omega)) ?_
  rw [am_clN (by omega), h1]
  refine w25_60 ?_
  refine w25_62 l1 ?_
  refine w25_63 (ht.2.1 5 (by decide)) ?_
  refine w25_66 l6 ?_
  refine w25_68 (ht.sh rfl) (am_in_nI (by omega) (by omega)) ?_
  rw [am_clN (by omega), h2]
  refine w25_69 ?_
  refine w25_71 rfl ?_
  refine w25_73 (fun _ => ?_) (fun h => absurd (by decide) h)
  refine w25_79 rfl ?_
  refine w25_81 ?_
  refine w25_82 (fun h => absurd h (by decide)) (fun _ => ?_)
  refine w25_85 rfl ?_
  refine w25_87 ?_
  refine w25_88 (fun _ => ?_) (fun h => absurd (by decide) h)
  refine w25_130 l4 ?_
  refine w25_132 ?_
  refine w25_133 (fun h => absurd h (Int32.not_lt.mpr (nI_le (a := 1) (by omega) (by omega)))) (fun _ => ?_)
  refine w25_136 l4 ?_
  refine w25_138 ?_
  refine w25_140 (fun _ => ?_) (fun h => absurd (nI_le (b := 64) (by omega) (by decide)) h)
  refine w25_151 rfl ?_
  refine w25_153 ?_
  refine w25_155 (fun _ => ?_) (fun h => absurd (by decide) h)
  refine w25_189 rfl ?_
  refine w25_191 ?_
  refine w25_193 (fun _ => ?_) (fun h => absurd rfl h)
  refine w25_203 l0 ?_
  refine w25_204 (L.2 _ _ _ rfl) ?_
  refine w25_207 l4 ?_
  refine w25_209 ?_
  refine w25_210 ?_
  rw [e1]
  refine w25_211 (L.sh rfl) (am_in_nI (by omega) (by decide)) ?_
  rw [am_clN (by omega)]
  refine w25_212 ?_
  refine w25_213 ?_
  refine w25_214 (fun h214 => ?_) (fun h214 => ?_)
  · replace k2 := k2 ((lg_cmp_eq _ _).mp h214)
    refine w25_221 ?_
    refine w25_222 rfl ?_
    refine w25_224 ?_
    refine w25_226 (fun h => absurd h (fun z => z rfl)) (fun _ => ?_)
    refine w25_229 ?_
    refine w25_230 ?_
    refine w25_234 (fun h234 => ?_) (fun h234 => ?_)
    · refine w25_251 l4 ?_
      refine w25_254 ?_
      refine w25_305 l6 ?_
      refine w25_308 ?_
      first | exact absurd h234 (by decide) | exact k2 _ l0 l1 l3 (congrArg (fun x => some (Value.int x)) (pk_m1 q)) l5 (am_nx i)
    · replace h234 := Decidable.not_not.mp h234
      refine w25_237 l6 ?_
      refine w25_239 rfl ?_
      refine w25_241 ?_
      refine w25_242 ?_
      refine w25_243 ?_
      rw [k_leap ht1 ht2]
      refine w25_246 ?_
      first | exact absurd h234 (by decide) | (refine w25_248 ?_; refine w25_305 rfl ?_; refine w25_308 ?_; exact k1 _ l0 l1 l3 l4 l5 (k_leap1 (by omega)))
  · replace k1 := k1 (fun z => h214 ((lg_cmp_eq _ _).mpr z))
    refine w25_217 ?_
    refine w25_218 ?_
    refine w25_222 rfl ?_
    refine w25_224 ?_
    refine w25_226 (fun h => absurd h (fun z => z rfl)) (fun _ => ?_)
    refine w25_229 ?_
    refine w25_230 ?_
    refine w25_234 (fun h234 => ?_) (fun h234 => ?_)
    · refine w25_251 l4 ?_
      refine w25_254 ?_
      refine w25_305 l6 ?_
      refine w25_308 ?_
      first | exact absurd h234 (by decide) | exact k2 _ l0 l1 l3 (congrArg (fun x => some (Value.int x)) (pk_m1 q)) l5 (am_nx i)
    · replace h234 := Decidable.not_not.mp h234
      refine w25_237 l6 ?_
      refine w25_239 rfl ?_
      refine w25_241 ?_
      refine w25_242 ?_
      refine w25_243 ?_
      rw [k_leap ht1 ht2]
      refine w25_246 ?_
      first | exact absurd h234 (by decide) | (refine w25_248 ?_; refine w25_305 rfl ?_; refine w25_308 ?_; exact k1 _ l0 l1 l3 l4 l5 (k_leap1 (by omega)))
theorem k_and (E : k_E o S I P t wr z w) (hi : i < z) (hq : q + 1 ≤ 64) {tg : Nat} (ht1 : i + 1 ≤ tg) (ht2 : tg < 1000) (h1 : I (t + 1 + 4) i = nI 13) (h2 : I (t + 1 + 5) i = nI tg) (k1 : J 120 q = 0 → k_run pr d S I P Q t wr z tg (q + 1) J) (k2 : ¬ J 120 q = 0 → k_run pr d S I P Q t wr z (i + 1) q J) : k_run pr d S I P Q t wr z i (q + 1) J := by
  obtain ⟨L, ⟨N, ht, hz, hN⟩, hb, hw, hww⟩ := E
  have e1 : nI (q + 1) - 1 = nI q := nI_pred q
  intro lv l0 l1 l3 l4 l5 l6
  refine w25_39 l6 ?_
  refine w25_41 l5 ?_
  refine w25_43 (fun h => absurd h (am_nlt hi (by omega))) (fun _ => ?_)
  refine w25_46 l0 ?_
  refine w25_47 ?_
  rw [hb]
  refine w25_50 (fun h => absurd h (fun z => z rfl)) (fun _ => ?_)
  refine w25_53 l1 ?_
  refine w25_54 (ht.2.1 4 (by decide)) ?_
  refine w25_57 l6 ?_
  refine w25_59 (ht.sh rfl) (am_in_nI (by omega) (by omega)) ?_
  rw [am_clN (by omega), h1]
  refine w25_60 ?_
  refine w25_62 l1 ?_
  refine w25_63 (ht.2.1 5 (by decide)) ?_
  refine w25_66 l6 ?_
  refine w25_68 (ht.sh rfl) (am_in_nI (by omega) (by omega)) ?_
  rw [am_clN (by omega), h2]
  refine w25_69 ?_
  refine w25_71 rfl ?_
  refine w25_73 (fun _ => ?_) (fun h => absurd (by decide) h)
  refine w25_79 rfl ?_
  refine w25_81 ?_
  refine w25_82 (fun h => absurd h (by decide)) (fun _ => ?_)
  refine w25_85 rfl ?_
  refine w25_87 ?_
  refine w25_88 (fun _ => ?_) (fun h => absurd (by decide) h)
  refine w25_130 l4 ?_
  refine w25_132 ?_
  refine w25_133 (fun h => absurd h (Int32.not_lt.mpr (nI_le (a := 1) (by omega) (by omega)))) (fun _ => ?_)
  refine w25_136 l4 ?_
  refine w25_138 ?_
  refine w25_140 (fun _ => ?_) (fun h => absurd (nI_le (b := 64) (by omega) (by decide)) h)
  refine w25_151 rfl ?_
  refine w25_153 ?_
  refine w25_155 (fun _ => ?_) (fun h => absurd (by decide) h)
  refine w25_189 rfl ?_
  refine w25_191 ?_
  refine w25_193 (fun h => absurd h (by decide)) (fun _ => ?_)
  refine w25_196 rfl ?_
  refine w25_198 ?_
  refine w25_200 (fun h => absurd h (fun z => z rfl)) (fun _ => ?_)
  refine w25_203 l0 ?_
  refine w25_204 (L.2 _ _ _ rfl) ?_
  refine w25_207 l4 ?_
  refine w25_209 ?_
  refine w25_210 ?_
  rw [e1]
  refine w25_211 (L.sh rfl) (am_in_nI (by omega) (by decide)) ?_
  rw [am_clN (by omega)]
  refine w25_212 ?_
  refine w25_213 ?_
  refine w25_214 (fun h214 => ?_) (fun h214 => ?_)
  · replace k1 := k1 ((lg_cmp_eq _ _).mp h214)
    refine w25_221 ?_
    refine w25_222 rfl ?_
    refine w25_224 ?_
    refine w25_226 (fun _ => ?_) (fun h => absurd (by decide) h)
    refine w25_233 ?_
    refine w25_234 (fun h234 => ?_) (fun h234 => ?_)
    · refine w25_251 l4 ?_
      refine w25_254 ?_
      refine w25_305 l6 ?_
      refine w25_308 ?_
      first | exact absurd h234 (by decide) | exact k2 _ l0 l1 l3 (congrArg (fun x => some (Value.int x)) (pk_m1 q)) l5 (am_nx i)
    · replace h234 := Decidable.not_not.mp h234
      refine w25_237 l6 ?_
      refine w25_239 rfl ?_
      refine w25_241 ?_
      refine w25_242 ?_
      refine w25_243 ?_
      rw [k_leap ht1 ht2]
      refine w25_246 ?_
      first | exact absurd h234 (by decide) | (refine w25_248 ?_; refine w25_305 rfl ?_; refine w25_308 ?_; exact k1 _ l0 l1 l3 l4 l5 (k_leap1 (by omega)))
  · replace k2 := k2 (fun z => h214 ((lg_cmp_eq _ _).mpr z))
    refine w25_217 ?_
    refine w25_218 ?_
    refine w25_222 rfl ?_
    refine w25_224 ?_
    refine w25_226 (fun _ => ?_) (fun h => absurd (by decide) h)
    refine w25_233 ?_
    refine w25_234 (fun h234 => ?_) (fun h234 => ?_)
    · refine w25_251 l4 ?_
      refine w25_254 ?_
      refine w25_305 l6 ?_
      refine w25_308 ?_
      first | exact absurd h234 (by decide) | exact k2 _ l0 l1 l3 (congrArg (fun x => some (Value.int x)) (pk_m1 q)) l5 (am_nx i)
    · replace h234 := Decidable.not_not.mp h234
      refine w25_237 l6 ?_
      refine w25_239 rfl ?_
      refine w25_241 ?_
      refine w25_242 ?_
      refine w25_243 ?_
      rw [k_leap ht1 ht2]
      refine w25_246 ?_
      first | exact absurd h234 (by decide) | (refine w25_248 ?_; refine w25_305 rfl ?_; refine w25_308 ?_; exact k1 _ l0 l1 l3 l4 l5 (k_leap1 (by omega)))
theorem k_end (E : k_E o S I P t wr z w) (hi : i < z) (h1 : I (t + 1 + 4) i = nI 0) (k : Q (some (.int (J 120 0).toInt32)) (S, I, J, P)) : k_run pr d S I P Q t wr z i 1 J := by
  obtain ⟨L, ⟨N, ht, hz, hN⟩, hb, hw, hww⟩ := E
  intro lv l0 l1 l3 l4 l5 l6
  refine w25_39 l6 ?_
  refine w25_41 l5 ?_
  refine w25_43 (fun h => absurd h (am_nlt hi (by omega))) (fun _ => ?_)
  refine w25_46 l0 ?_
  refine w25_47 ?_
  rw [hb]
  refine w25_50 (fun h => absurd h (fun z => z rfl)) (fun _ => ?_)
  refine w25_53 l1 ?_
  refine w25_54 (ht.2.1 4 (by decide)) ?_
  refine w25_57 l6 ?_
  refine w25_59 (ht.sh rfl) (am_in_nI (by omega) (by omega)) ?_
  rw [am_clN (by omega), h1]
  refine w25_60 ?_
  refine w25_62 l1 ?_
  refine w25_63 (ht.2.1 5 (by decide)) ?_
  refine w25_66 l6 ?_
  refine w25_68 (ht.sh rfl) (am_in_nI (by omega) (by omega)) ?_
  refine w25_69 ?_
  refine w25_71 rfl ?_
  refine w25_73 (fun h => absurd h (fun z => z rfl)) (fun _ => ?_)
  refine w25_76 ?_
  refine w25_311 l0 ?_
  refine w25_312 ?_
  rw [hb]
  refine w25_315 (fun h => absurd h (fun z => z rfl)) (fun _ => ?_)
  refine w25_318 l4 ?_
  refine w25_320 ?_
  refine w25_321 (fun h => absurd h (by decide)) (fun _ => ?_)
  refine w25_324 l4 ?_
  refine w25_326 ?_
  refine w25_328 (fun _ => ?_) (fun h => absurd (by decide) h)
  refine w25_335 l0 ?_
  refine w25_336 (L.2 _ _ _ rfl) ?_
  refine w25_339 ?_
  refine w25_340 (L.sh rfl) (by decide) ?_
  refine w25_341 ?_
  refine w25_342 ?_
  exact k
end
