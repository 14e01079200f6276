/-! a house copied; sessions -/
section
variable {pr : am_Pr} {d : Nat} {lv : List (Nat × Value)} {st : List Value} {S : List (Nat × Nat)} {I I' : Nat → Nat → Int32} {J : Nat → Nat → Int64} {P : Nat → Nat → Option Nat} {Q : Option Value → am_H → Prop} {n l s u tp : Nat} {kp lf kp' : Nat → Int32}
theorem w95_159R {x : Option Nat} {a n : Nat} {i : Int32} (hs : am_sh S a (25, n)) (hi : am_in i n = true) (hb : ∀ b, x = some b → am_sh S b (6, 9)) (k : am_wp pr d 95 160 lv st (S, I, J, am_u P a i.toNatClampNeg x) Q) : am_wp pr d 95 159 lv (va_rf x :: .int i :: .ref a :: st) (S, I, J, P) Q := by
  cases x with
  | none => exact w95_159TN hs hi k
  | some b => exact w95_159T hs hi (hb b rfl) k
theorem am_Hs_cg {P' : Nat → Nat → Option Nat} {h : Nat} (e : P' h = P h) (hh : am_Hs S P h) : am_Hs S P' h := ⟨hh.1, fun k hk => by rw [e]; exact hh.2.1 k hk, hh.2.2⟩
/-- what a copied house is -/
def am_HC (I I' : Nat → Nat → Int32) (h g : Nat) : Prop := (∀ q, q < 6 → I' h q = I g q) ∧ (∀ j, j < 7 → I' (h + 1 + 0) j = I (g + 1 + 0) j) ∧ (∀ j, j < 7 → I' (h + 1 + 1) j = I (g + 1 + 1) j) ∧ (∀ j, j < 35 → I' (h + 1 + 2) j = I (g + 1 + 2) j) ∧ (∀ j, j < 4 → I' (h + 1 + 3) j = I (g + 1 + 3) j) ∧ (∀ j, j < 6 → I' (h + 1 + 5) j = I (g + 1 + 5) j) ∧ ∀ j, j < 6 → I' (h + 1 + 6) j = I (g + 1 + 6) j
theorem va_cpy_0 {f g : Nat → Int32} {m j : Nat} (hj : j < m) : va_cpy f g 0 0 m j = f j := by
  unfold va_cpy
  rw [if_pos (by omega)]
  congr 1
  omega
theorem cp_st {I1 I2 : Nat → Nat → Int32} {a b m : Nat} {w : Int32} (hw : w.toNatClampNeg = m) (e : am_row I1 a (va_cpy (I1 b) (I1 a) (Int32.toNatClampNeg 0) (Int32.toNatClampNeg 0) w.toNatClampNeg) = I2) : (∀ c, c ≠ a → I2 c = I1 c) ∧ ∀ j, j < m → I2 a j = I1 b j := by
  refine ⟨fun c hc => by rw [← e, am_row_ne hc], fun j hj => ?_⟩
  rw [← e, am_row_self, hw]
  exact va_cpy_0 hj
/-- House: copyFrom -/
theorem c95 {h g : Nat} (hh : am_Hs S P h) (hg : am_Hs S P g) (far : h + 7 < g ∨ g + 7 < h) (ht : ∀ i t, P (g + 1 + 4) i = some t → am_sh S t (6, 9)) (k : ∀ I' P', (∀ a, (a < h ∨ h + 7 < a) → I' a = I a) → am_HC I I' h g → (∀ a, a ≠ h + 1 + 4 → P' a = P a) → (∀ i, P' (h + 1 + 4) i = if i < 6 then P (g + 1 + 4) i else P (h + 1 + 4) i) → Q none (S, I', J, P')) : am_ev pr (d + 1) 95 [.ref h, .ref g] (S, I, J, P) Q := by
  have ne : g ≠ h := by omega
  show am_wp pr (d + 1) 95 0 [(0, .ref h), (1, .ref g)] [] _ _
  refine w95_0 rfl ?_
  refine w95_1 rfl ?_
  refine w95_2 ?_
  refine w95_5 ?_
  refine w95_8 rfl ?_
  refine w95_9 rfl ?_
  refine w95_10 ?_
  rw [am_u_ne ne]
  refine w95_13 ?_
  refine w95_16 rfl ?_
  refine w95_17 rfl ?_
  refine w95_18 ?_
  rw [am_u_ne ne, am_u_ne ne]
  refine w95_21 ?_
  refine w95_24 rfl ?_
  refine w95_25 rfl ?_
  refine w95_26 ?_
  rw [am_u_ne ne, am_u_ne ne, am_u_ne ne]
  refine w95_29 ?_
  refine w95_32 rfl ?_
  refine w95_33 rfl ?_
  refine w95_34 ?_
  rw [am_u_ne ne, am_u_ne ne, am_u_ne ne, am_u_ne ne]
  refine w95_37 ?_
  refine w95_40 rfl ?_
  refine w95_41 rfl ?_
  refine w95_42 ?_
  rw [am_u_ne ne, am_u_ne ne, am_u_ne ne, am_u_ne ne, am_u_ne ne]
  refine w95_45 ?_
  generalize hI1 : am_u (am_u (am_u (am_u (am_u (am_u I h 0 (I g 0)) h 1 (I g 1)) h 2 (I g 2)) h 3 (I g 3)) h 4 (I g 4)) h 5 (I g 5) = I1
  have er : ∀ a, a ≠ h → I1 a = I a := fun a ha => by rw [← hI1, am_u_ne ha, am_u_ne ha, am_u_ne ha, am_u_ne ha, am_u_ne ha, am_u_ne ha]
  have e0 : ∀ q, q < 6 → I1 h q = I g q := by
    intro q hq
    rw [← hI1]
    match q, hq with
    | 0, _ => rw [am_u_at (by decide), am_u_at (by decide), am_u_at (by decide), am_u_at (by decide), am_u_at (by decide), am_u_self]
    | 1, _ => rw [am_u_at (by decide), am_u_at (by decide), am_u_at (by decide), am_u_at (by decide), am_u_self]
    | 2, _ => rw [am_u_at (by decide), am_u_at (by decide), am_u_at (by decide), am_u_self]
    | 3, _ => rw [am_u_at (by decide), am_u_at (by decide), am_u_self]
    | 4, _ => rw [am_u_at (by decide), am_u_self]
    | 5, _ => rw [am_u_self]
  refine w95_48 rfl ?_
  refine w95_49 (hg.2.1 0 (by decide)) ?_
  refine w95_52 ?_
  refine w95_53 rfl ?_
  refine w95_54 (hh.2.1 0 (by decide)) ?_
  refine w95_57 ?_
  refine w95_58 ?_
  refine w95_60 (hg.sh rfl) (hh.sh rfl) (by decide) (by decide) (by decide) (by decide) (by decide) ?_
  generalize hI2 : am_row I1 (h + 1 + 0) (va_cpy (I1 (g + 1 + 0)) (I1 (h + 1 + 0)) (Int32.toNatClampNeg 0) (Int32.toNatClampNeg 0) (Int32.toNatClampNeg 7)) = I2
  obtain ⟨a1, b1⟩ := cp_st rfl hI2
  refine w95_63 rfl ?_
  refine w95_64 (hg.2.1 1 (by decide)) ?_
  refine w95_67 ?_
  refine w95_68 rfl ?_
  refine w95_69 (hh.2.1 1 (by decide)) ?_
  refine w95_72 ?_
  refine w95_73 ?_
  refine w95_75 (hg.sh rfl) (hh.sh rfl) (by decide) (by decide) (by decide) (by decide) (by decide) ?_
  generalize hI3 : am_row I2 (h + 1 + 1) (va_cpy (I2 (g + 1 + 1)) (I2 (h + 1 + 1)) (Int32.toNatClampNeg 0) (Int32.toNatClampNeg 0) (Int32.toNatClampNeg 7)) = I3
  obtain ⟨a2, b2⟩ := cp_st rfl hI3
  refine w95_78 rfl ?_
  refine w95_79 (hg.2.1 2 (by decide)) ?_
  refine w95_82 ?_
  refine w95_83 rfl ?_
  refine w95_84 (hh.2.1 2 (by decide)) ?_
  refine w95_87 ?_
  refine w95_88 ?_
  refine w95_90 (hg.sh rfl) (hh.sh rfl) (by decide) (by decide) (by decide) (by decide) (by decide) ?_
  generalize hI4 : am_row I3 (h + 1 + 2) (va_cpy (I3 (g + 1 + 2)) (I3 (h + 1 + 2)) (Int32.toNatClampNeg 0) (Int32.toNatClampNeg 0) (Int32.toNatClampNeg 35)) = I4
  obtain ⟨a3, b3⟩ := cp_st rfl hI4
  refine w95_93 rfl ?_
  refine w95_94 (hg.2.1 3 (by decide)) ?_
  refine w95_97 ?_
  refine w95_98 rfl ?_
  refine w95_99 (hh.2.1 3 (by decide)) ?_
  refine w95_102 ?_
  refine w95_103 ?_
  refine w95_106S (by decide) rfl (by decide) ?_
  refine w95_107 (hg.sh rfl) (hh.sh rfl) (by decide) (by decide) (by decide) (by decide) (by decide) ?_
  generalize hI5 : am_row I4 (h + 1 + 3) (va_cpy (I4 (g + 1 + 3)) (I4 (h + 1 + 3)) (Int32.toNatClampNeg 0) (Int32.toNatClampNeg 0) (Int32.toNatClampNeg (Int32.ofNat 4))) = I5
  obtain ⟨a4, b4⟩ := cp_st rfl hI5
  refine w95_110 rfl ?_
  refine w95_111 (hg.2.1 5 (by decide)) ?_
  refine w95_114 ?_
  refine w95_115 rfl ?_
  refine w95_116 (hh.2.1 5 (by decide)) ?_
  refine w95_119 ?_
  refine w95_120 ?_
  refine w95_122 (hg.sh rfl) (hh.sh rfl) (by decide) (by decide) (by decide) (by decide) (by decide) ?_
  generalize hI6 : am_row I5 (h + 1 + 5) (va_cpy (I5 (g + 1 + 5)) (I5 (h + 1 + 5)) (Int32.toNatClampNeg 0) (Int32.toNatClampNeg 0) (Int32.toNatClampNeg 6)) = I6
  obtain ⟨a5, b5⟩ := cp_st rfl hI6
  refine w95_125 rfl ?_
  refine w95_126 (hg.2.1 6 (by decide)) ?_
  refine w95_129 ?_
  refine w95_130 rfl ?_
  refine w95_131 (hh.2.1 6 (by decide)) ?_
  refine w95_134 ?_
  refine w95_135 ?_
  refine w95_137 (hg.sh rfl) (hh.sh rfl) (by decide) (by decide) (by decide) (by decide) (by decide) ?_
  generalize hI7 : am_row I6 (h + 1 + 6) (va_cpy (I6 (g + 1 + 6)) (I6 (h + 1 + 6)) (Int32.toNatClampNeg 0) (Int32.toNatClampNeg 0) (Int32.toNatClampNeg 6)) = I7
  obtain ⟨a6, b6⟩ := cp_st rfl hI7
  have fr : ∀ a, (a < h ∨ h + 7 < a) → I7 a = I a := fun a ha => by rw [a6 a (by omega), a5 a (by omega), a4 a (by omega), a3 a (by omega), a2 a (by omega), a1 a (by omega), er a (by omega)]
  have hC : am_HC I I7 h g := by
    refine ⟨fun q hq => ?_, fun j hj => ?_, fun j hj => ?_, fun j hj => ?_, fun j hj => ?_, fun j hj => ?_, fun j hj => ?_⟩
    · rw [a6 h (by omega), a5 h (by omega), a4 h (by omega), a3 h (by omega), a2 h (by omega), a1 h (by omega), e0 q hq]
    · rw [a6 _ (by omega), a5 _ (by omega), a4 _ (by omega), a3 _ (by omega), a2 _ (by omega), b1 j hj, er _ (by omega)]
    · rw [a6 _ (by omega), a5 _ (by omega), a4 _ (by omega), a3 _ (by omega), b2 j hj, a1 _ (by omega), er _ (by omega)]
    · rw [a6 _ (by omega), a5 _ (by omega), a4 _ (by omega), b3 j hj, a2 _ (by omega), a1 _ (by omega), er _ (by omega)]
    · rw [a6 _ (by omega), a5 _ (by omega), b4 j hj, a3 _ (by omega), a2 _ (by omega), a1 _ (by omega), er _ (by omega)]
    · rw [a6 _ (by omega), b5 j hj, a4 _ (by omega), a3 _ (by omega), a2 _ (by omega), a1 _ (by omega), er _ (by omega)]
    · rw [b6 j hj, a5 _ (by omega), a4 _ (by omega), a3 _ (by omega), a2 _ (by omega), a1 _ (by omega), er _ (by omega)]
  clear hI1 hI2 hI3 hI4 hI5 hI6 hI7 a1 a2 a3 a4 a5 a6 b1 b2 b3 b4 b5 b6 er e0
  refine w95_140 ?_
  refine w95_141 ?_
  refine am_for (fun b => ∀ P' : Nat → Nat → Option Nat, (∀ a, a ≠ h + 1 + 4 → P' a = P a) → (∀ i, P' (h + 1 + 4) i = if i < b then P (g + 1 + 4) i else P (h + 1 + 4) i) → ∀ lv, am_ld1 lv 0 = some (.ref h) → am_ld1 lv 1 = some (.ref g) → am_ld1 lv 2 = some (.int (nI b)) → am_wp pr (d + 1) 95 142 lv [] (S, I7, J, P') Q) 6 ?_ ?_ P (fun _ _ => rfl) (fun i => by rw [if_neg (by omega)]) _ rfl rfl rfl
  · intro b hb ih P' f1 f2 lv l0 l1 l2
    have hh' : am_Hs S P' h := am_Hs_cg (f1 h (by omega)) hh
    have hg' : am_Hs S P' g := am_Hs_cg (f1 g (by omega)) hg
    have e4 : P' (g + 1 + 4) b = P (g + 1 + 4) b := by rw [f1 _ (by omega)]
    refine w95_142 l2 ?_
    refine w95_143 ?_
    refine w95_145 (fun hQ => absurd hQ (am_nlt hb (by decide))) (fun _ => ?_)
    refine w95_148 l0 ?_
    refine w95_149 (hh'.2.1 4 (by decide)) ?_
    refine w95_152 l2 ?_
    refine w95_153 l1 ?_
    refine w95_154 (hg'.2.1 4 (by decide)) ?_
    refine w95_157 l2 ?_
    refine w95_158T (hg.sh rfl) (am_in_nI (by omega) (by decide)) ?_
    rw [am_clN (by omega), e4]
    refine w95_159R (hh.sh rfl) (am_in_nI (by omega) (by decide)) (fun t z => ht b t z) ?_
    rw [am_clN (by omega)]
    refine w95_160 l2 ?_
    refine w95_163 ?_
    refine ih _ (fun a ha => by rw [am_u_ne ha]; exact f1 a ha) (fun i => ?_) _ l0 l1 (am_nx b)
    rw [am_u_get, f2]
    by_cases z : i = b
    · rw [if_pos ⟨rfl, z⟩, if_pos (by omega), z]
    · rw [if_neg (fun q => z q.2)]
      by_cases y : i < b
      · rw [if_pos y, if_pos (by omega)]
      · rw [if_neg y, if_neg (by omega)]
  · intro P' f1 f2 lv l0 l1 l2
    refine w95_142 l2 ?_
    refine w95_143 ?_
    refine w95_145 (fun _ => ?_) (fun hQ => absurd (Int32.le_refl _) hQ)
    refine w95_166 ?_
    exact k I7 P' fr hC f1 f2
end
