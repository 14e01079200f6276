/-! both sides' calls: rings, orders of bills -/
def R3 (B : Nat → Nat → Prop) (a b c : Nat) : Prop := B a b ∧ B b c ∧ B c a
def i3 (B : Nat → Nat → Prop) [∀ a b, Decidable (B a b)] (a b c : Nat) : Nat := if B a b ∧ B b c ∧ B c a then 1 else 0
/-- rings as the reference counts them -/
def s_rg (B : Nat → Nat → Prop) [∀ a b, Decidable (B a b)] : Nat := am_it (fun a acc => am_it (fun j acc => am_it (fun i acc => acc + (if a + 1 + j = a + 1 + i then 0 else i3 B a (a + 1 + j) (a + 1 + i))) (4 - a) acc) (4 - a) acc) 5 0
/-- and as the class does -/
def c_rg (B : Nat → Nat → Prop) [∀ a b, Decidable (B a b)] : Nat := am_it (fun a acc => am_it (fun j acc => am_it (fun i acc => acc + (if (B a (a + 1 + j) ∧ B (a + 1 + j) (a + 1 + j + 1 + i) ∧ B (a + 1 + j + 1 + i) a) ∨ (B a (a + 1 + j + 1 + i) ∧ B (a + 1 + j + 1 + i) (a + 1 + j) ∧ B (a + 1 + j) a) then 1 else 0)) (4 - (a + 1 + j)) acc) (4 - a) acc) 5 0
theorem i3_or {B : Nat → Nat → Prop} [∀ a b, Decidable (B a b)] (as : ∀ a b, B a b → ¬ B b a) (a b c : Nat) : (if (B a b ∧ B b c ∧ B c a) ∨ (B a c ∧ B c b ∧ B b a) then 1 else 0) = i3 B a b c + i3 B a c b := by
  unfold i3
  by_cases h1 : B a b ∧ B b c ∧ B c a
  · have h2 : ¬ (B a c ∧ B c b ∧ B b a) := fun q => as _ _ h1.1 q.2.2
    rw [if_pos (Or.inl h1), if_pos h1, if_neg h2]
  · by_cases h2 : B a c ∧ B c b ∧ B b a
    · rw [if_pos (Or.inr h2), if_neg h1, if_pos h2]
    · rw [if_neg (fun q => q.elim h1 h2), if_neg h1, if_neg h2]
theorem c2_eq (F : Nat → Nat → Nat → Nat) : am_it (fun a acc => am_it (fun j acc => am_it (fun i acc => acc + F a (a + 1 + j) (a + 1 + j + 1 + i)) (4 - (a + 1 + j)) acc) (4 - a) acc) 5 0 = 0 + F 0 1 2 + F 0 1 3 + F 0 1 4 + F 0 2 3 + F 0 2 4 + F 0 3 4 + F 1 2 3 + F 1 2 4 + F 1 3 4 + F 2 3 4 := rfl
theorem s2_eq (G : Nat → Nat → Nat → Nat) : am_it (fun a acc => am_it (fun j acc => am_it (fun i acc => acc + (if a + 1 + j = a + 1 + i then 0 else G a (a + 1 + j) (a + 1 + i))) (4 - a) acc) (4 - a) acc) 5 0 = 0 + 0 + G 0 1 2 + G 0 1 3 + G 0 1 4 + G 0 2 1 + 0 + G 0 2 3 + G 0 2 4 + G 0 3 1 + G 0 3 2 + 0 + G 0 3 4 + G 0 4 1 + G 0 4 2 + G 0 4 3 + 0 + 0 + G 1 2 3 + G 1 2 4 + G 1 3 2 + 0 + G 1 3 4 + G 1 4 2 + G 1 4 3 + 0 + 0 + G 2 3 4 + G 2 4 3 + 0 + 0 := rfl
theorem rg_eq {B : Nat → Nat → Prop} [∀ a b, Decidable (B a b)] (as : ∀ a b, B a b → ¬ B b a) : c_rg B = s_rg B := by
  unfold c_rg s_rg
  simp only [i3_or as]
  rw [s2_eq, c2_eq (fun a b c => i3 B a b c + i3 B a c b)]
  omega
theorem c_rg_c {B C : Nat → Nat → Prop} [∀ a b, Decidable (B a b)] [∀ a b, Decidable (C a b)] (h : ∀ a b, a < 5 → b < 5 → (B a b ↔ C a b)) : c_rg B = c_rg C := by
  unfold c_rg
  refine am_it_congr (fun a x ha => am_it_congr (fun j y hj => am_it_congr (fun i z hi => ?_) _) _) _
  have e : ((B a (a + 1 + j) ∧ B (a + 1 + j) (a + 1 + j + 1 + i) ∧ B (a + 1 + j + 1 + i) a) ∨ (B a (a + 1 + j + 1 + i) ∧ B (a + 1 + j + 1 + i) (a + 1 + j) ∧ B (a + 1 + j) a)) ↔ ((C a (a + 1 + j) ∧ C (a + 1 + j) (a + 1 + j + 1 + i) ∧ C (a + 1 + j + 1 + i) a) ∨ (C a (a + 1 + j + 1 + i) ∧ C (a + 1 + j + 1 + i) (a + 1 + j) ∧ C (a + 1 + j) a)) := by
    rw [h a (a + 1 + j) ha (by omega), h (a + 1 + j) (a + 1 + j + 1 + i) (by omega) (by omega), h (a + 1 + j + 1 + i) a (by omega) ha, h a (a + 1 + j + 1 + i) ha (by omega), h (a + 1 + j + 1 + i) (a + 1 + j) (by omega) (by omega), h (a + 1 + j) a (by omega) ha]
  congr 1
  by_cases q : (B a (a + 1 + j) ∧ B (a + 1 + j) (a + 1 + j + 1 + i) ∧ B (a + 1 + j + 1 + i) a) ∨ (B a (a + 1 + j + 1 + i) ∧ B (a + 1 + j + 1 + i) (a + 1 + j) ∧ B (a + 1 + j) a)
  · rw [if_pos q, if_pos (e.mp q)]
  · rw [if_neg q, if_neg (fun w => q (e.mpr w))]
section
variable {pr : am_Pr} {d : Nat} {S : List (Nat × Nat)} {I : Nat → Nat → Int32} {J : Nat → Nat → Int64} {P : Nat → Nat → Option Nat} {Q : Option Value → am_H → Prop} {n l s u tp : Nat} {kp : Nat → Int32} {lw : Option (Nat × List Cl)} {lv0 : Option (List Cl)}
theorem op_21 (r : am_R S I P n l s u tp) : am_op pr (d + 60) S I J P 123 [.ref 64] 264 [.ref 124] := by
  have hr := r.hr
  have n7 := hr.n7
  have L := r.L
  obtain ⟨lw, hx⟩ := r.lw
  refine op_rd r hx (fun I2 => nI (s_rg (m_bt I2 (I 126) n))) (fun Q k => ?_) (fun I1 J1 e Q k => ?_)
  · show am_wp pr (d + 60) 123 0 [(0, .ref 64)] [] _ _
    refine w123_0 rfl ?_
    refine w123_1 (k := c34 L hr hx (fun I1 J1 f1 f2 f3 => ?_))
    refine w123_4 rfl ?_
    refine w123_5 (L.2 _ _ _ rfl) ?_
    refine w123_8 (k := c122 L f2.1 n7 (fun I2 h1 h2 => ?_))
    refine w123_11 ?_
    refine w123_12 ?_
    refine w123_13 ?_
    refine w123_14 ?_
    have hp : am_ps I I2 := f1.ps.tr (am_ps114 h1)
    have fin : Q (some (.int (nI (c_rg (fun a b => am_bit (I2 114 a) b = 1))))) (S, I2, J1, P) := by
      refine k I2 J1 _ hp (fun I3 g => ?_)
      rw [← rg_eq (fun a b h => m_bt_as h)]
      congr 1
      exact c_rg_c (fun a b ha hb => (b_bt hr f2.2.1 f3 h2 g ha (by omega)).trans ⟨fun q => q.2, fun q => ⟨hb, q⟩⟩)
    refine am_loop (fun a acc => am_it (fun j acc => am_it (fun i acc => acc + (if (am_bit (I2 114 a) (a + 1 + j) = 1 ∧ am_bit (I2 114 (a + 1 + j)) (a + 1 + j + 1 + i) = 1 ∧ am_bit (I2 114 (a + 1 + j + 1 + i)) a = 1) ∨ (am_bit (I2 114 a) (a + 1 + j + 1 + i) = 1 ∧ am_bit (I2 114 (a + 1 + j + 1 + i)) (a + 1 + j) = 1 ∧ am_bit (I2 114 (a + 1 + j)) a = 1) then 1 else 0)) (4 - (a + 1 + j)) acc) (4 - a) acc) (fun a (acc : Nat) => ∀ lv, am_ld1 lv 0 = some (.ref 64) → am_ld1 lv 1 = some (.int (nI acc)) → am_ld1 lv 2 = some (.int (nI a)) → am_wp pr (d + 60) 123 15 lv [] (S, I2, J1, P) Q) 5 ?_ 0 ?_ _ rfl rfl rfl
    · intro a acc ha ih lv l0 l1 l2
      refine w123_15 l2 ?_
      refine w123_16 ?_
      refine w123_17 (fun hQ => absurd hQ (am_nlt ha (by decide))) (fun _ => ?_)
      refine w123_20 l2 ?_
      refine w123_21 ?_
      refine w123_22 ?_
      refine w123_23 ?_
      refine am_loop (fun j acc => am_it (fun i acc => acc + (if (am_bit (I2 114 a) (a + 1 + j) = 1 ∧ am_bit (I2 114 (a + 1 + j)) (a + 1 + j + 1 + i) = 1 ∧ am_bit (I2 114 (a + 1 + j + 1 + i)) a = 1) ∨ (am_bit (I2 114 a) (a + 1 + j + 1 + i) = 1 ∧ am_bit (I2 114 (a + 1 + j + 1 + i)) (a + 1 + j) = 1 ∧ am_bit (I2 114 (a + 1 + j)) a = 1) then 1 else 0)) (4 - (a + 1 + j)) acc) (fun j (acc : Nat) => ∀ lv, am_ld1 lv 0 = some (.ref 64) → am_ld1 lv 1 = some (.int (nI acc)) → am_ld1 lv 2 = some (.int (nI a)) → am_ld1 lv 3 = some (.int (nI (a + 1 + j))) → am_wp pr (d + 60) 123 24 lv [] (S, I2, J1, P) Q) (4 - a) ?_ acc ?_ _ l0 l1 l2 (am_nx a)
      · clear l0 l1 l2 lv ih
        intro j acc hj ih lv l0 l1 l2 l3
        have hb : a + 1 + j < 5 := by omega
        have hab : a < a + 1 + j := by omega
        rw [show a + 1 + (j + 1) = a + 1 + j + 1 by omega] at ih
        generalize a + 1 + j = b at *
        refine w123_24 l3 ?_
        refine w123_25 ?_
        refine w123_26 (fun hQ => absurd hQ (am_nlt hb (by decide))) (fun _ => ?_)
        refine w123_29 l3 ?_
        refine w123_30 ?_
        refine w123_31 ?_
        refine w123_32 ?_
        refine am_loop (fun i acc => acc + (if (am_bit (I2 114 a) b = 1 ∧ am_bit (I2 114 b) (b + 1 + i) = 1 ∧ am_bit (I2 114 (b + 1 + i)) a = 1) ∨ (am_bit (I2 114 a) (b + 1 + i) = 1 ∧ am_bit (I2 114 (b + 1 + i)) b = 1 ∧ am_bit (I2 114 b) a = 1) then 1 else 0)) (fun i (acc : Nat) => ∀ lv, am_ld1 lv 0 = some (.ref 64) → am_ld1 lv 1 = some (.int (nI acc)) → am_ld1 lv 2 = some (.int (nI a)) → am_ld1 lv 3 = some (.int (nI b)) → am_ld1 lv 4 = some (.int (nI (b + 1 + i))) → am_wp pr (d + 60) 123 34 lv [] (S, I2, J1, P) Q) (4 - b) ?_ acc ?_ _ l0 l1 l2 l3 (am_nx b)
        · clear l0 l1 l2 l3 lv ih
          intro i acc hi ih lv l0 l1 l2 l3 l4
          have hc : b + 1 + i < 5 := by omega
          rw [show b + 1 + (i + 1) = b + 1 + i + 1 by omega] at ih
          generalize b + 1 + i = c at *
          have y1 : ((am_bit (I2 114 a) b = 1 ∧ am_bit (I2 114 b) c = 1 ∧ am_bit (I2 114 c) a = 1) ∨ (am_bit (I2 114 a) c = 1 ∧ am_bit (I2 114 c) b = 1 ∧ am_bit (I2 114 b) a = 1)) → ∀ lv, am_ld1 lv 0 = some (.ref 64) → am_ld1 lv 1 = some (.int (nI (acc + 1))) → am_ld1 lv 2 = some (.int (nI a)) → am_ld1 lv 3 = some (.int (nI b)) → am_ld1 lv 4 = some (.int (nI (c + 1))) → am_wp pr (d + 60) 123 34 lv [] (S, I2, J1, P) Q := fun q => by rw [if_pos q] at ih; exact ih
          have y0 : ¬ ((am_bit (I2 114 a) b = 1 ∧ am_bit (I2 114 b) c = 1 ∧ am_bit (I2 114 c) a = 1) ∨ (am_bit (I2 114 a) c = 1 ∧ am_bit (I2 114 c) b = 1 ∧ am_bit (I2 114 b) a = 1)) → ∀ lv, am_ld1 lv 0 = some (.ref 64) → am_ld1 lv 1 = some (.int (nI acc)) → am_ld1 lv 2 = some (.int (nI a)) → am_ld1 lv 3 = some (.int (nI b)) → am_ld1 lv 4 = some (.int (nI (c + 1))) → am_wp pr (d + 60) 123 34 lv [] (S, I2, J1, P) Q := fun q => by rw [if_neg q] at ih; exact ih
          refine w123_34 l4 ?_
          refine w123_36 ?_
          refine w123_37 (fun hQ => absurd hQ (am_nlt hc (by decide))) (fun _ => ?_)
          refine w123_40 l0 ?_
          refine w123_41 (L.2 _ _ _ rfl) ?_
          refine w123_44 l2 ?_
          refine w123_45 l3 ?_
          refine w123_46 l4 ?_
          refine w123_48 (k := c124 L ha hb hc ?_)
          refine w123_51 (fun h51 => ?_) (fun h51 => ?_)
          · refine w123_68 l1 ?_
            refine w123_71 l4 ?_
            refine w123_74 ?_
            first | exact y1 (Or.inl (am_b_1 h51)) _ l0 (am_nx acc) l2 l3 (am_nx c) | exact y1 (Or.inr (am_b_1 h65)) _ l0 (am_nx acc) l2 l3 (am_nx c) | exact y0 (fun q => q.elim ((am_b_0 _).mp h51) ((am_b_0 _).mp h65)) _ l0 rfl l2 l3 (am_nx c)
          · replace h51 := Decidable.not_not.mp h51
            refine w123_54 l0 ?_
            refine w123_55 (L.2 _ _ _ rfl) ?_
            refine w123_58 l2 ?_
            refine w123_59 l4 ?_
            refine w123_61 l3 ?_
            refine w123_62 (k := c124 L ha hc hb ?_)
            refine w123_65 (fun h65 => ?_) (fun h65 => ?_)
            · refine w123_71 l4 ?_
              refine w123_74 ?_
              first | exact y1 (Or.inl (am_b_1 h51)) _ l0 (am_nx acc) l2 l3 (am_nx c) | exact y1 (Or.inr (am_b_1 h65)) _ l0 (am_nx acc) l2 l3 (am_nx c) | exact y0 (fun q => q.elim ((am_b_0 _).mp h51) ((am_b_0 _).mp h65)) _ l0 l1 l2 l3 (am_nx c)
            · refine w123_68 l1 ?_
              refine w123_71 l4 ?_
              refine w123_74 ?_
              first | exact y1 (Or.inl (am_b_1 h51)) _ l0 (am_nx acc) l2 l3 (am_nx c) | exact y1 (Or.inr (am_b_1 h65)) _ l0 (am_nx acc) l2 l3 (am_nx c) | exact y0 (fun q => q.elim ((am_b_0 _).mp h51) ((am_b_0 _).mp h65)) _ l0 rfl l2 l3 (am_nx c)
        · clear l0 l1 l2 l3 lv
          intro lv l0 l1 l2 l3 l4
          rw [show b + 1 + (4 - b) = 5 by omega] at l4
          refine w123_34 l4 ?_
          refine w123_36 ?_
          refine w123_37 (fun _ => ?_) (fun hQ => absurd (Int32.le_refl _) hQ)
          refine w123_77 l3 ?_
          refine w123_80 ?_
          exact ih _ l0 l1 l2 (am_nx b)
      · clear l0 l1 l2 lv
        intro lv l0 l1 l2 l3
        rw [show a + 1 + (4 - a) = 5 by omega] at l3
        refine w123_24 l3 ?_
        refine w123_25 ?_
        refine w123_26 (fun _ => ?_) (fun hQ => absurd (Int32.le_refl _) hQ)
        refine w123_83 l2 ?_
        refine w123_86 ?_
        exact ih _ l0 l1 (am_nx a)
    · intro lv l0 l1 l2
      refine w123_15 l2 ?_
      refine w123_16 ?_
      refine w123_17 (fun _ => ?_) (fun hQ => absurd (Int32.le_refl _) hQ)
      refine w123_89 l1 ?_
      refine w123_90 ?_
      exact fin
  · show am_wp pr (d + 60) 264 0 [(0, .ref 124)] [] _ _
    refine w264_0 rfl ?_
    refine w264_1 (k := c262 L e hr.kn n7 (hx.m hr.l6) (fun I2 f2 g h143 => ?_))
    refine w264_4 ?_
    refine w264_5 ?_
    refine w264_6 ?_
    refine w264_7 ?_
    have kk := k I2 f2.ps g
    have b01 : ∀ a b, a < 5 → b < 5 → I2 143 (a * 5 + b) = 0 ∨ I2 143 (a * 5 + b) = 1 := fun a b ha hb => by
      rw [h143 a b ha hb]
      unfold am_b
      split
      · exact Or.inr rfl
      · exact Or.inl rfl
    refine am_loop (fun a acc => am_it (fun j acc => am_it (fun i acc => acc + (if a + 1 + j = a + 1 + i then 0 else i3 (m_bt I2 (I 126) n) a (a + 1 + j) (a + 1 + i))) (4 - a) acc) (4 - a) acc) (fun a (acc : Nat) => ∀ lv, am_ld1 lv 0 = some (.ref 124) → am_ld1 lv 1 = some (.int (nI acc)) → am_ld1 lv 2 = some (.int (nI a)) → am_wp pr (d + 60) 264 8 lv [] (S, I2, J1, P) Q) 5 ?_ 0 ?_ _ rfl rfl rfl
    · clear kk
      intro a acc ha ih lv l0 l1 l2
      refine w264_8 l2 ?_
      refine w264_9 ?_
      refine w264_10 (fun hQ => absurd hQ (am_nlt ha (by decide))) (fun _ => ?_)
      refine w264_13 l2 ?_
      refine w264_14 ?_
      refine w264_15 ?_
      refine w264_16 ?_
      refine am_loop (fun j acc => am_it (fun i acc => acc + (if a + 1 + j = a + 1 + i then 0 else i3 (m_bt I2 (I 126) n) a (a + 1 + j) (a + 1 + i))) (4 - a) acc) (fun j (acc : Nat) => ∀ lv, am_ld1 lv 0 = some (.ref 124) → am_ld1 lv 1 = some (.int (nI acc)) → am_ld1 lv 2 = some (.int (nI a)) → am_ld1 lv 3 = some (.int (nI (a + 1 + j))) → am_wp pr (d + 60) 264 17 lv [] (S, I2, J1, P) Q) (4 - a) ?_ acc ?_ _ l0 l1 l2 (am_nx a)
      · clear l0 l1 l2 lv ih
        intro j acc hj ih lv l0 l1 l2 l3
        have hb : a + 1 + j < 5 := by omega
        rw [show a + 1 + (j + 1) = a + 1 + j + 1 by omega] at ih
        generalize a + 1 + j = b at *
        refine w264_17 l3 ?_
        refine w264_18 ?_
        refine w264_19 (fun hQ => absurd hQ (am_nlt hb (by decide))) (fun _ => ?_)
        refine w264_22 l2 ?_
        refine w264_23 ?_
        refine w264_24 ?_
        refine w264_25 ?_
        refine am_loop (fun i acc => acc + (if b = a + 1 + i then 0 else i3 (m_bt I2 (I 126) n) a b (a + 1 + i))) (fun i (acc : Nat) => ∀ lv, am_ld1 lv 0 = some (.ref 124) → am_ld1 lv 1 = some (.int (nI acc)) → am_ld1 lv 2 = some (.int (nI a)) → am_ld1 lv 3 = some (.int (nI b)) → am_ld1 lv 4 = some (.int (nI (a + 1 + i))) → am_wp pr (d + 60) 264 27 lv [] (S, I2, J1, P) Q) (4 - a) ?_ acc ?_ _ l0 l1 l2 l3 (am_nx a)
        · clear l0 l1 l2 l3 lv ih
          intro i acc hi ih lv l0 l1 l2 l3 l4
          have hc : a + 1 + i < 5 := by omega
          rw [show a + 1 + (i + 1) = a + 1 + i + 1 by omega] at ih
          generalize a + 1 + i = c at *
          have y1 : b ≠ c → m_bt I2 (I 126) n a b → m_bt I2 (I 126) n b c → m_bt I2 (I 126) n c a → ∀ lv, am_ld1 lv 0 = some (.ref 124) → am_ld1 lv 1 = some (.int (nI (acc + 1))) → am_ld1 lv 2 = some (.int (nI a)) → am_ld1 lv 3 = some (.int (nI b)) → am_ld1 lv 4 = some (.int (nI (c + 1))) → am_wp pr (d + 60) 264 27 lv [] (S, I2, J1, P) Q := by
            intro q1 q2 q3 q4
            rw [if_neg q1, show i3 (m_bt I2 (I 126) n) a b c = 1 from if_pos ⟨q2, q3, q4⟩] at ih
            exact ih
          have y0 : (b = c ∨ ¬ (m_bt I2 (I 126) n a b ∧ m_bt I2 (I 126) n b c ∧ m_bt I2 (I 126) n c a)) → ∀ lv, am_ld1 lv 0 = some (.ref 124) → am_ld1 lv 1 = some (.int (nI acc)) → am_ld1 lv 2 = some (.int (nI a)) → am_ld1 lv 3 = some (.int (nI b)) → am_ld1 lv 4 = some (.int (nI (c + 1))) → am_wp pr (d + 60) 264 27 lv [] (S, I2, J1, P) Q := by
            intro q1
            by_cases z : b = c
            · rw [if_pos z] at ih
              exact ih
            · rw [if_neg z, show i3 (m_bt I2 (I 126) n) a b c = 0 from if_neg (q1.resolve_left z)] at ih
              exact ih
          refine w264_27 l4 ?_
          refine w264_29 ?_
          refine w264_30 (fun hQ => absurd hQ (am_nlt hc (by decide))) (fun _ => ?_)
          refine w264_33 l1 ?_
          refine w264_34 l3 ?_
          refine w264_35 l4 ?_
          refine w264_37 (fun h37 => ?_) (fun h37 => ?_)
          · refine w264_73 ?_
            refine w264_74 ?_
            refine w264_75 ?_
            refine w264_76 l4 ?_
            refine w264_79 ?_
            first | exact y0 (Or.inl ((nI_eq (by omega) (by omega)).mp h37)) _ l0 (by rw [Int32.add_zero]; rfl) l2 l3 (am_nx c) | exact y1 (fun q => h37 (by rw [q])) (am_b_1 h46) (am_b_1 h56) (am_b_1 h66) _ l0 (am_nx acc) l2 l3 (am_nx c) | exact y0 (Or.inr (fun q => (am_b_0 _).mp h66 q.2.2)) _ l0 (by rw [Int32.add_zero]; rfl) l2 l3 (am_nx c) | exact y0 (Or.inr (fun q => (am_b_0 _).mp h56 q.2.1)) _ l0 (by rw [Int32.add_zero]; rfl) l2 l3 (am_nx c) | exact y0 (Or.inr (fun q => (am_b_0 _).mp h46 q.1)) _ l0 (by rw [Int32.add_zero]; rfl) l2 l3 (am_nx c)
          · refine w264_40 l0 ?_
            refine w264_41 l2 ?_
            refine w264_42 l3 ?_
            refine w264_43 (k := c263 L ha hb (b01 a b ha hb) ?_)
            rw [h143 a b ha hb]
            refine w264_46 (fun h46 => ?_) (fun h46 => ?_)
            · refine w264_73 ?_
              refine w264_74 ?_
              refine w264_75 ?_
              refine w264_76 l4 ?_
              refine w264_79 ?_
              first | exact y0 (Or.inl ((nI_eq (by omega) (by omega)).mp h37)) _ l0 (by rw [Int32.add_zero]; rfl) l2 l3 (am_nx c) | exact y1 (fun q => h37 (by rw [q])) (am_b_1 h46) (am_b_1 h56) (am_b_1 h66) _ l0 (am_nx acc) l2 l3 (am_nx c) | exact y0 (Or.inr (fun q => (am_b_0 _).mp h66 q.2.2)) _ l0 (by rw [Int32.add_zero]; rfl) l2 l3 (am_nx c) | exact y0 (Or.inr (fun q => (am_b_0 _).mp h56 q.2.1)) _ l0 (by rw [Int32.add_zero]; rfl) l2 l3 (am_nx c) | exact y0 (Or.inr (fun q => (am_b_0 _).mp h46 q.1)) _ l0 (by rw [Int32.add_zero]; rfl) l2 l3 (am_nx c)
            · refine w264_49 l0 ?_
              refine w264_50 l3 ?_
              refine w264_51 l4 ?_
              refine w264_53 (k := c263 L hb hc (b01 b c hb hc) ?_)
              rw [h143 b c hb hc]
              refine w264_56 (fun h56 => ?_) (fun h56 => ?_)
              · refine w264_73 ?_
                refine w264_74 ?_
                refine w264_75 ?_
                refine w264_76 l4 ?_
                refine w264_79 ?_
                first | exact y0 (Or.inl ((nI_eq (by omega) (by omega)).mp h37)) _ l0 (by rw [Int32.add_zero]; rfl) l2 l3 (am_nx c) | exact y1 (fun q => h37 (by rw [q])) (am_b_1 h46) (am_b_1 h56) (am_b_1 h66) _ l0 (am_nx acc) l2 l3 (am_nx c) | exact y0 (Or.inr (fun q => (am_b_0 _).mp h66 q.2.2)) _ l0 (by rw [Int32.add_zero]; rfl) l2 l3 (am_nx c) | exact y0 (Or.inr (fun q => (am_b_0 _).mp h56 q.2.1)) _ l0 (by rw [Int32.add_zero]; rfl) l2 l3 (am_nx c) | exact y0 (Or.inr (fun q => (am_b_0 _).mp h46 q.1)) _ l0 (by rw [Int32.add_zero]; rfl) l2 l3 (am_nx c)
              · refine w264_59 l0 ?_
                refine w264_60 l4 ?_
                refine w264_62 l2 ?_
                refine w264_63 (k := c263 L hc ha (b01 c a hc ha) ?_)
                rw [h143 c a hc ha]
                refine w264_66 (fun h66 => ?_) (fun h66 => ?_)
                · refine w264_73 ?_
                  refine w264_74 ?_
                  refine w264_75 ?_
                  refine w264_76 l4 ?_
                  refine w264_79 ?_
                  first | exact y0 (Or.inl ((nI_eq (by omega) (by omega)).mp h37)) _ l0 (by rw [Int32.add_zero]; rfl) l2 l3 (am_nx c) | exact y1 (fun q => h37 (by rw [q])) (am_b_1 h46) (am_b_1 h56) (am_b_1 h66) _ l0 (am_nx acc) l2 l3 (am_nx c) | exact y0 (Or.inr (fun q => (am_b_0 _).mp h66 q.2.2)) _ l0 (by rw [Int32.add_zero]; rfl) l2 l3 (am_nx c) | exact y0 (Or.inr (fun q => (am_b_0 _).mp h56 q.2.1)) _ l0 (by rw [Int32.add_zero]; rfl) l2 l3 (am_nx c) | exact y0 (Or.inr (fun q => (am_b_0 _).mp h46 q.1)) _ l0 (by rw [Int32.add_zero]; rfl) l2 l3 (am_nx c)
                · refine w264_69 ?_
                  refine w264_70 ?_
                  refine w264_74 ?_
                  refine w264_75 ?_
                  refine w264_76 l4 ?_
                  refine w264_79 ?_
                  first | exact y0 (Or.inl ((nI_eq (by omega) (by omega)).mp h37)) _ l0 (by rw [Int32.add_zero]; rfl) l2 l3 (am_nx c) | exact y1 (fun q => h37 (by rw [q])) (am_b_1 h46) (am_b_1 h56) (am_b_1 h66) _ l0 (am_nx acc) l2 l3 (am_nx c) | exact y0 (Or.inr (fun q => (am_b_0 _).mp h66 q.2.2)) _ l0 (by rw [Int32.add_zero]; rfl) l2 l3 (am_nx c) | exact y0 (Or.inr (fun q => (am_b_0 _).mp h56 q.2.1)) _ l0 (by rw [Int32.add_zero]; rfl) l2 l3 (am_nx c) | exact y0 (Or.inr (fun q => (am_b_0 _).mp h46 q.1)) _ l0 (by rw [Int32.add_zero]; rfl) l2 l3 (am_nx c)
        · clear l0 l1 l2 l3 lv
          intro lv l0 l1 l2 l3 l4
          rw [show a + 1 + (4 - a) = 5 by omega] at l4
          refine w264_27 l4 ?_
          refine w264_29 ?_
          refine w264_30 (fun _ => ?_) (fun hQ => absurd (Int32.le_refl _) hQ)
          refine w264_82 l3 ?_
          refine w264_85 ?_
          exact ih _ l0 l1 l2 (am_nx b)
      · clear l0 l1 l2 lv
        intro lv l0 l1 l2 l3
        rw [show a + 1 + (4 - a) = 5 by omega] at l3
        refine w264_17 l3 ?_
        refine w264_18 ?_
        refine w264_19 (fun _ => ?_) (fun hQ => absurd (Int32.le_refl _) hQ)
        refine w264_88 l2 ?_
        refine w264_91 ?_
        exact ih _ l0 l1 (am_nx a)
    · intro lv l0 l1 l2
      refine w264_8 l2 ?_
      refine w264_9 ?_
      refine w264_10 (fun _ => ?_) (fun hQ => absurd (Int32.le_refl _) hQ)
      refine w264_94 l1 ?_
      refine w264_95 ?_
      exact kk
end
