/-! both sides tell the same -/
theorem am_ps.tr {I I1 I2 : Nat → Nat → Int32} (h : am_ps I I1) (h2 : am_ps I1 I2) : am_ps I I2 := by
  obtain ⟨a0, a1, ⟨a2, a3, a4⟩, a5, a6, a7, a8, a9, a10, a11⟩ := h
  obtain ⟨b0, b1, ⟨b2, b3, b4⟩, b5, b6, b7, b8, b9, b10, b11⟩ := h2
  exact ⟨fun a q => (b0 a q).trans (a0 a q), b1.trans a1, ⟨b2.trans a2, b3.trans a3, b4.trans a4⟩, b5.trans a5, b6.trans a6, b7.trans a7, b8.trans a8, b9.trans a9, b10.trans a10, b11.trans a11⟩
theorem am_ps_0 (I : Nat → Nat → Int32) : am_ps I I := ⟨fun _ _ => rfl, rfl, ⟨rfl, rfl, rfl⟩, rfl, rfl, rfl, rfl, rfl, rfl, rfl⟩
/-- rows that don't last have changed -/
theorem am_ps_r {I I' : Nat → Nat → Int32} (h : ∀ a, am_pers a ∨ a = 64 ∨ a = 96 ∨ a = 124 → I' a = I a) : am_ps I I' := by
  have e1 := h 96 (by omega)
  have e2 := h 64 (by omega)
  have e3 := h 124 (by omega)
  refine ⟨fun a q => h a (Or.inl q), by rw [e1], ⟨by rw [e2], by rw [e2], by rw [e2]⟩, ?_, ?_, ?_, ?_, ?_, ?_, ?_⟩ <;> rw [e3]
theorem tb_fr.ps {I I' : Nat → Nat → Int32} (h : tb_fr I I') : am_ps I I' := am_ps_r (fun a q => h a (by unfold am_pers at q; omega))
theorem m_f2.ps {I I' : Nat → Nat → Int32} (h : m_f2 I I') : am_ps I I' := by
  have e : ∀ a, a ≠ 124 → am_pers a ∨ a = 64 ∨ a = 96 → I' a = I a := fun a z q => h.1 a z (by unfold am_pers at q; omega) (by unfold am_pers at q; omega) (by unfold am_pers at q; omega) (by unfold am_pers at q; omega)
  refine ⟨fun a q => e a (by unfold am_pers at q; omega) (Or.inl q), ?_, ⟨?_, ?_, ?_⟩, h.2 0 (by omega), h.2 6 (by omega), h.2 13 (by omega), h.2 14 (by omega), h.2 35 (by omega), h.2 40 (by omega), h.2 48 (by omega)⟩
  · rw [e 96 (by decide) (by omega)]
  · rw [e 64 (by decide) (by omega)]
  · rw [e 64 (by decide) (by omega)]
  · rw [e 64 (by decide) (by omega)]
theorem am_lw.m {S : List (Nat × Nat)} {I : Nat → Nat → Int32} {P : Nat → Nat → Option Nat} {p : Nat → Option Nat} {kp : Nat → Int32} {l : Nat} {lw : Option (Nat × List Cl)} (hl : l ≤ 6) (h : am_lw S I P p kp l (kp 76) lw) : m_lw kp (lw.map Prod.snd) := by
  rcases h with ⟨h1, rfl⟩ | ⟨f, t, xs, h1, h2, rfl, -, -, -, h3⟩
  · exact Or.inl ⟨h1, rfl⟩
  · exact Or.inr ⟨f, xs, by omega, h2, rfl, h3⟩
/-- those of n who are so, as bits -/
theorem su_bit {F : Nat → Prop} [DecidablePred F] {m : Nat} (hm : m < 32) : ∀ n, n ≤ 32 → (am_bit (am_it (fun m acc => acc ||| (if F m then 1 <<< (nI m &&& 31) else 0)) n 0) m = 1 ↔ m < n ∧ F m)
  | 0, _ => by
    show am_bit 0 m = 1 ↔ _
    rw [am_bit_0]
    exact ⟨fun z => absurd z (by decide), fun z => absurd z.1 (Nat.not_lt_zero _)⟩
  | n + 1, hn => by
    show am_bit (_ ||| (if F n then 1 <<< (nI n &&& 31) else 0)) m = 1 ↔ _
    rw [am_bit_or hm, su_bit hm n (by omega), am_bit_if (by omega) hm]
    constructor
    · rintro (⟨z1, z2⟩ | ⟨z1, rfl⟩)
      · exact ⟨by omega, z2⟩
      · exact ⟨by omega, z1⟩
    · rintro ⟨z1, z2⟩
      by_cases z : m = n
      · subst z
        exact Or.inr ⟨z2, rfl⟩
      · exact Or.inl ⟨by omega, z2⟩
theorem su_bit2 {F : Nat → Prop} [DecidablePred F] {m : Nat} (hm : m < 32) (n : Nat) (hn : n ≤ 32) : am_bit (am_it (fun m acc => if F m then acc ||| 1 <<< (nI m &&& 31) else acc) n 0) m = 1 ↔ m < n ∧ F m := by
  rw [← su_bit hm n hn (F := F)]
  rw [show am_it (fun m acc => if F m then acc ||| 1 <<< (nI m &&& 31) else acc) n 0 = am_it (fun m acc => acc ||| (if F m then 1 <<< (nI m &&& 31) else 0)) n 0 from am_it_congr (fun k a _ => by
    by_cases z : F k
    · rw [if_pos z, if_pos z]
    · rw [if_neg z, if_neg z, Int32.or_zero]) _]
theorem am_if_add {c : Prop} [Decidable c] (a x : Int32) : (if c then a + x else a) = a + (if c then x else 0) := by
  by_cases z : c
  · rw [if_pos z, if_pos z]
  · rw [if_neg z, if_neg z, Int32.add_zero]
theorem am_if_c {c c2 : Prop} [Decidable c] [Decidable c2] {x y : Int32} (h : c ↔ c2) (e : c → x = y) : (if c then x else 0) = (if c2 then y else 0) := by
  by_cases z : c
  · rw [if_pos z, if_pos (h.mp z), e z]
  · rw [if_neg z, if_neg (fun q => z (h.mpr q))]
/-- voices of a set: both sides -/
theorem b_vo {sp sp' : Nat → Int32} {X Y : Int32} {n b : Nat} (n7 : n ≤ 7) (hs : ∀ m, m < n → sp (m * 5 + b) = sp' (m * 5 + b)) (hx : ∀ m, m < 7 → (am_bit X m = 1 ↔ m < n ∧ am_bit Y m = 1)) : t_vo sp X b = m_vo sp' n b Y := by
  unfold t_vo m_vo
  rw [am_it_congr (g := fun m acc => acc + (if am_bit X m = 1 then sp (m * 5 + b) else 0)) (fun m a _ => am_if_add a _)]
  refine am_sum_cut (fun m hm => am_if_c ?_ (fun _ => hs m hm)) 7 n7 (fun m h1 h2 => if_neg (fun z => absurd ((hx m h2).mp z).1 (by omega)))
  rw [hx m (by omega)]
  exact ⟨fun z => z.2, fun z => ⟨hm, z⟩⟩
section
variable {I I' : Nat → Nat → Int32} {kp : Nat → Int32} {n b : Nat} {lw : Option (List Cl)}
theorem m_ld.sp (h : m_ld I' kp n lw (n * 5)) (hb : b < 5) {m : Nat} (hm : m < n) : I' 138 (m * 5 + b) = a_sp kp n lw m b := (h m b hb (by omega)).1
theorem m_ld.va (h : m_ld I' kp n lw (n * 5)) (hb : b < 5) {m : Nat} (hm : m < n) : I' 139 (m * 5 + b) = a_va kp n lw m b := (h m b hb (by omega)).2.1
theorem m_ld.ba (h : m_ld I' kp n lw (n * 5)) (hb : b < 5) {m : Nat} (hm : m < n) : I' 140 (m * 5 + b) = 0 ↔ ¬ a_ba kp n lw m b = 1 := by
  rw [(h m b hb (by omega)).2.2, am_b_0]
theorem m_ld.b1 (h : m_ld I' kp n lw (n * 5)) (hb : b < 5) {m : Nat} (hm : m < n) : I' 140 (m * 5 + b) = 0 ∨ I' 140 (m * 5 + b) = 1 := by
  rw [(h m b hb (by omega)).2.2]
  unfold am_b
  split
  · exact Or.inr rfl
  · exact Or.inl rfl
theorem m_ld.on (h : m_ld I' kp n lw (n * 5)) (hb : b < 5) {m : Nat} (hm : m < n) : m_on kp (I' 140) m b ↔ kp (35 + m) = 1 ∧ ¬ a_ba kp n lw m b = 1 := by
  show _ ∧ _ ↔ _
  rw [h.ba hb hm]
/-- who is on a bill, of a set -/
theorem m_of_bit (h : m_ld I' kp n lw (n * 5)) (n7 : n ≤ 7) (hb : b < 5) {set : Int32} {m : Nat} (hm : m < 32) : am_bit (m_of kp (I' 140) n b set) m = 1 ↔ m < n ∧ am_bit set m = 1 ∧ kp (35 + m) = 1 ∧ ¬ a_ba kp n lw m b = 1 := by
  unfold m_of
  rw [su_bit hm n (by omega)]
  constructor
  · rintro ⟨z1, z2, z3⟩
    exact ⟨z1, z2, (h.on hb z1).mp z3⟩
  · rintro ⟨z1, z2, z3⟩
    exact ⟨z1, z2, (h.on hb z1).mpr z3⟩
theorem m_fa_bit (h : m_ld I' kp n lw (n * 5)) (n7 : n ≤ 7) (hb : b < 5) {set : Int32} {m : Nat} (hm : m < 32) : am_bit (m_fa kp (I' 140) (I' 139) n b set) m = 1 ↔ m < n ∧ am_bit set m = 1 ∧ (kp (35 + m) = 1 ∧ ¬ a_ba kp n lw m b = 1) ∧ 5 ≤ a_va kp n lw m b := by
  unfold m_fa
  rw [su_bit hm n (by omega)]
  constructor
  · rintro ⟨z1, z2, z3, z4⟩
    exact ⟨z1, z2, (h.on hb z1).mp z3, by rw [← h.va hb z1]; exact z4⟩
  · rintro ⟨z1, z2, z3, z4⟩
    exact ⟨z1, z2, (h.on hb z1).mpr z3, by rw [h.va hb z1]; exact z4⟩
theorem t_fa_bit (h : t_B I kp n lw b) (n7 : n ≤ 7) {m : Nat} (hm : m < 32) : am_bit (t_fa (I 111) (I 113 b) b) m = 1 ↔ m < n ∧ (kp (35 + m) = 1 ∧ ¬ a_ba kp n lw m b = 1) ∧ 5 ≤ a_va kp n lw m b := by
  unfold t_fa
  rw [su_bit2 hm 7 (by omega)]
  constructor
  · rintro ⟨z1, z2, z3⟩
    obtain ⟨y1, y2⟩ := (h.2.2 m hm).mp z2
    exact ⟨y1, y2, by rw [← (h.1 m y1).2]; exact z3⟩
  · rintro ⟨z1, z2, z3⟩
    exact ⟨by omega, (h.2.2 m hm).mpr ⟨z1, z2⟩, by rw [(h.1 m z1).2]; exact z3⟩
/-- voices of all on it -/
theorem b_on (h : t_B I kp n lw b) (h' : m_ld I' kp n lw (n * 5)) (n7 : n ≤ 7) (hb : b < 5) : t_vo (I 110) (I 113 b) b = m_vo (I' 138) n b (m_of kp (I' 140) n b (1 <<< (nI n &&& 31) - 1)) := by
  refine b_vo n7 (fun m hm => by rw [(h.1 m hm).1, h'.sp hb hm]) (fun m hm => ?_)
  rw [h.2.2 m (by omega), m_of_bit h' n7 hb (by omega), am_bit_all n m n7 (by omega)]
  exact ⟨fun z => ⟨z.1, z.1, z.1, z.2⟩, fun z => ⟨z.1, z.2.2.2⟩⟩
theorem b_for (h : t_B I kp n lw b) (h' : m_ld I' kp n lw (n * 5)) (n7 : n ≤ 7) (hb : b < 5) : t_vo (I 110) (t_fa (I 111) (I 113 b) b) b = m_vo (I' 138) n b (m_fa kp (I' 140) (I' 139) n b (1 <<< (nI n &&& 31) - 1)) := by
  refine b_vo n7 (fun m hm => by rw [(h.1 m hm).1, h'.sp hb hm]) (fun m hm => ?_)
  rw [t_fa_bit h n7 (by omega), m_fa_bit h' n7 hb (by omega), am_bit_all n m n7 (by omega)]
  exact ⟨fun z => ⟨z.1, z.1, z.1, z.2⟩, fun z => ⟨z.1, z.2.2.2⟩⟩
/-- prefers -/
theorem b_pf {a m : Nat} (ha : t_B I kp n lw a) (hb : t_B I kp n lw b) (hm : m < n) (n7 : n ≤ 7) : t_pf (I 111) (I 112) m a b ↔ (¬ a_ba kp n lw m a = 1 ∧ ¬ a_ba kp n lw m b = 1) ∧ a_va kp n lw m b < a_va kp n lw m a := by
  show am_bit (I 112 a ||| I 112 b) m = 0 ∧ _ ↔ _
  rw [(ha.1 m hm).2, (hb.1 m hm).2, ← am_bit_n0, am_bit_or (by omega), ha.2.1 m (by omega), hb.2.1 m (by omega)]
  constructor
  · rintro ⟨z1, z2⟩
    exact ⟨⟨fun y => z1 (Or.inl ⟨hm, y⟩), fun y => z1 (Or.inr ⟨hm, y⟩)⟩, z2⟩
  · rintro ⟨⟨z1, z2⟩, z3⟩
    exact ⟨fun y => y.elim (fun q => z1 q.2) (fun q => z2 q.2), z3⟩
theorem b_wv {a m : Nat} (h' : m_ld I' kp n lw (n * 5)) (ha : a < 5) (hb : b < 5) (hm : m < n) : m_wv (I' 140) (I' 139) m a b ↔ (¬ a_ba kp n lw m a = 1 ∧ ¬ a_ba kp n lw m b = 1) ∧ a_va kp n lw m b < a_va kp n lw m a := by
  show _ ∧ _ ∧ _ ↔ _
  rw [h'.ba ha hm, h'.ba hb hm, h'.va ha hm, h'.va hb hm]
  exact ⟨fun z => ⟨⟨z.1, z.2.1⟩, z.2.2⟩, fun z => ⟨z.1.1, z.1.2, z.2⟩⟩
/-- votes -/
theorem b_va {a : Nat} {here : Int32} (ha : t_B I kp n lw a) (hb : t_B I kp n lw b) (h' : m_ld I' kp n lw (n * 5)) (n7 : n ≤ 7) (a5 : a < 5) (b5 : b < 5) (he : ∀ m, m < 32 → (am_bit here m = 1 ↔ m < n ∧ kp (35 + m) = 1)) : t_va (I 110) (I 111) (I 112) here n a b = m_va kp (I' 140) (I' 138) (I' 139) n a b := by
  unfold t_va t_vo m_va
  rw [am_it_congr (g := fun m acc => acc + (if am_bit (t_vs (I 111) (I 112) here n a b) m = 1 then I 110 (m * 5 + a) else 0)) (fun m a _ => am_if_add a _)]
  have hbit : ∀ m, m < 32 → (am_bit (t_vs (I 111) (I 112) here n a b) m = 1 ↔ m < n ∧ am_bit here m = 1 ∧ t_pf (I 111) (I 112) m a b) := fun m hm => by
    unfold t_vs
    rw [su_bit2 hm n (by omega)]
  refine am_sum_cut (fun m hm => am_if_c ?_ (fun _ => by rw [(ha.1 m hm).1, h'.sp a5 hm])) 7 n7 (fun m h1 h2 => if_neg (fun z => absurd ((hbit m (by omega)).mp z).1 (by omega)))
  rw [hbit m (by omega), he m (by omega), b_pf ha hb hm n7, h'.on a5 hm, h'.on b5 hm, h'.va a5 hm, h'.va b5 hm]
  constructor
  · rintro ⟨-, ⟨-, z1⟩, ⟨z2, z3⟩, z4⟩
    exact ⟨⟨z1, z2⟩, ⟨z1, z3⟩, z4⟩
  · rintro ⟨⟨z1, z2⟩, ⟨-, z3⟩, z4⟩
    exact ⟨hm, ⟨hm, z1⟩, ⟨z2, z3⟩, z4⟩
/-- points -/
theorem b_rk {m : Nat} (h : ∀ b, b < 5 → t_B I kp n lw b) (h' : m_ld I' kp n lw (n * 5)) (hm : m < n) (hb : b < 5) : t_rk (I 111) m b = t_rk (I' 139) m b := by
  unfold t_rk
  exact am_it_congr (fun j a hj => by rw [((h j hj).1 m hm).2, ((h b hb).1 m hm).2, h'.va hj hm, h'.va hb hm]) _
theorem b_pt (h : ∀ b, b < 5 → t_B I kp n lw b) (h' : m_ld I' kp n lw (n * 5)) (n7 : n ≤ 7) (hb : b < 5) : t_pt (I 110) (I 111) (I 113 b) b (-1) = m_pt kp (I' 140) (I' 138) (I' 139) n b := by
  unfold t_pt m_pt
  rw [am_it_congr (g := fun m acc => acc + (if am_bit (I 113 b) m = 1 then t_rk (I 111) m b * I 110 (m * 5 + b) else 0)) (fun m a hm => by
    rw [← am_if_add]
    have z : ¬ nI m = -1 := nI_nm1 (by omega)
    by_cases y : am_bit (I 113 b) m = 1
    · rw [if_pos ⟨z, y⟩, if_pos y]
    · rw [if_neg (fun q => y q.2), if_neg y])]
  refine am_sum_cut (fun m hm => ?_) 7 n7 (fun m h1 h2 => if_neg (fun z => absurd (((h b hb).2.2 m (by omega)).mp z).1 (by omega)))
  unfold m_gv
  refine am_if_c ?_ (fun _ => by rw [b_rk h h' hm hb, ((h b hb).1 m hm).1, h'.sp hb hm])
  rw [(h b hb).2.2 m (by omega), h'.on hb hm]
  exact ⟨fun z => z.2, fun z => ⟨hm, z⟩⟩
end
