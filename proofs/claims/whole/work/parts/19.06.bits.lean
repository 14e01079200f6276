/-! bits of sets -/
theorem am_ni31 {m : Nat} (h : m < 32) : nI m &&& 31 = nI m := by
  rw [pk_andN (by omega) 5 (by decide)]
  rw [Nat.mod_eq_of_lt (by omega)]
theorem am_bit_bv {x : Int32} {m : Nat} (h : m < 32) : am_bit x m = if x.toBitVec.getLsbD m then 1 else 0 := by
  unfold am_bit
  rw [am_ni31 h]
  have e1 : (x >>> nI m &&& 1).toBitVec = if x.toBitVec.getLsbD m then 1#32 else 0#32 := by
    have hm : (nI m).toBitVec = BitVec.ofNat 32 m := rfl
    rw [Int32.toBitVec_and, Int32.toBitVec_shiftRight, hm]
    have h2 : (BitVec.ofNat 32 m).smod 32 = BitVec.ofNat 32 m := by
      rcases (show m = 0 ∨ m = 1 ∨ m = 2 ∨ m = 3 ∨ m = 4 ∨ m = 5 ∨ m = 6 ∨ m = 7 ∨ m = 8 ∨ m = 9 ∨ m = 10 ∨ m = 11 ∨ m = 12 ∨ m = 13 ∨ m = 14 ∨ m = 15 ∨ m = 16 ∨ m = 17 ∨ m = 18 ∨ m = 19 ∨ m = 20 ∨ m = 21 ∨ m = 22 ∨ m = 23 ∨ m = 24 ∨ m = 25 ∨ m = 26 ∨ m = 27 ∨ m = 28 ∨ m = 29 ∨ m = 30 ∨ m = 31 by omega) with rfl | rfl | rfl | rfl | rfl | rfl | rfl | rfl | rfl | rfl | rfl | rfl | rfl | rfl | rfl | rfl | rfl | rfl | rfl | rfl | rfl | rfl | rfl | rfl | rfl | rfl | rfl | rfl | rfl | rfl | rfl | rfl <;> decide
    rw [h2]
    apply BitVec.eq_of_getLsbD_eq
    intro i hi
    have h3 : (1 : Int32).toBitVec = 1#32 := rfl
    rw [h3, BitVec.getLsbD_and, BitVec.sshiftRight_eq', BitVec.getLsbD_sshiftRight, BitVec.toNat_ofNat, Nat.mod_eq_of_lt (show m < 2 ^ 32 by omega)]
    by_cases h0 : i = 0
    · subst h0
      cases x.toBitVec.getLsbD m <;> simp [h]
    · have h4 : (1#32).getLsbD i = false := by
        rw [BitVec.getLsbD_one]
        simp [h0]
      rw [h4, Bool.and_false]
      split <;> simp [h0]
  apply Int32.toBitVec_inj.mp
  rw [e1]
  split <;> rfl
theorem am_bit_t {x : Int32} {m : Nat} (h : m < 32) : am_bit x m = 1 ↔ x.toBitVec.getLsbD m = true := by
  rw [am_bit_bv h]
  split
  · rename_i z; exact ⟨fun _ => z, fun _ => rfl⟩
  · rename_i z; exact ⟨fun e => absurd e (by decide), fun e => absurd e z⟩
theorem am_bit_n0 {x : Int32} {m : Nat} : ¬ am_bit x m = 1 ↔ am_bit x m = 0 := by
  rcases am_bit_01 x m with e | e <;> rw [e] <;> decide
theorem am_bit_n1 {x : Int32} {m : Nat} : ¬ am_bit x m = 0 ↔ am_bit x m = 1 := by
  rcases am_bit_01 x m with e | e <;> rw [e] <;> decide
theorem am_bit_eq {x y : Int32} {m j : Nat} (h : am_bit x m = 1 ↔ am_bit y j = 1) : am_bit x m = am_bit y j := by
  rcases am_bit_01 x m with e | e <;> rcases am_bit_01 y j with f | f <;> rw [e, f] at h ⊢
  · exact absurd (h.mpr rfl) (by decide)
  · exact absurd (h.mp rfl) (by decide)
theorem am_bit_or {x y : Int32} {m : Nat} (h : m < 32) : am_bit (x ||| y) m = 1 ↔ am_bit x m = 1 ∨ am_bit y m = 1 := by
  rw [am_bit_t h, am_bit_t h, am_bit_t h, Int32.toBitVec_or, BitVec.getLsbD_or, Bool.or_eq_true]
theorem am_bit_and {x y : Int32} {m : Nat} (h : m < 32) : am_bit (x &&& y) m = 1 ↔ am_bit x m = 1 ∧ am_bit y m = 1 := by
  rw [am_bit_t h, am_bit_t h, am_bit_t h, Int32.toBitVec_and, BitVec.getLsbD_and, Bool.and_eq_true]
theorem am_bit_xor {x y : Int32} {m : Nat} (h : m < 32) : am_bit (x ^^^ y) m = 1 ↔ ¬ (am_bit x m = 1 ↔ am_bit y m = 1) := by
  rw [am_bit_t h, am_bit_t h, am_bit_t h, Int32.toBitVec_xor, BitVec.getLsbD_xor]
  cases x.toBitVec.getLsbD m <;> cases y.toBitVec.getLsbD m <;> decide
theorem am_bit_not {x : Int32} {m : Nat} (h : m < 32) : am_bit (~~~ x) m = 1 ↔ ¬ am_bit x m = 1 := by
  rw [am_bit_t h, am_bit_t h, Int32.toBitVec_not, BitVec.getLsbD_not]
  cases x.toBitVec.getLsbD m <;> simp [h]
theorem am_bit_0 (m : Nat) : am_bit 0 m = 0 := by
  unfold am_bit
  rw [Int32.zero_shiftRight, Int32.zero_and]
def am_sh1 (k : Nat) : Int32 := 1 <<< (nI k &&& 31)
theorem am_bit_sh : ∀ k m, k < 32 → m < 32 → am_bit (1 <<< (nI k &&& 31)) m = if m = k then 1 else 0 := by
  have h : ∀ k : Fin 32, ∀ m : Fin 32, am_bit (1 <<< (nI k.1 &&& 31)) m.1 = if m.1 = k.1 then 1 else 0 := by decide +kernel
  intro k m hk hm
  exact h ⟨k, hk⟩ ⟨m, hm⟩
theorem am_bit_sh1 {k m : Nat} (hk : k < 32) (hm : m < 32) : am_bit (1 <<< (nI k &&& 31)) m = 1 ↔ m = k := by
  rw [am_bit_sh k m hk hm]
  split
  · rename_i e; exact ⟨fun _ => e, fun _ => rfl⟩
  · rename_i e; exact ⟨fun z => absurd z (by decide), fun z => absurd z e⟩
theorem am_bit_all : ∀ n m, n ≤ 7 → m < 32 → (am_bit (1 <<< (nI n &&& 31) - 1) m = 1 ↔ m < n) := by
  have h : ∀ n : Fin 8, ∀ m : Fin 32, (am_bit (1 <<< (nI n.1 &&& 31) - 1) m.1 = 1 ↔ m.1 < n.1) := by decide +kernel
  intro n m hn hm
  exact h ⟨n, by omega⟩ ⟨m, hm⟩
theorem am_bit_ext {x y : Int32} (h : ∀ m, m < 32 → (am_bit x m = 1 ↔ am_bit y m = 1)) : x = y := by
  apply Int32.toBitVec_inj.mp
  apply BitVec.eq_of_getLsbD_eq
  intro i hi
  have h1 := h i hi
  rw [am_bit_t hi, am_bit_t hi] at h1
  exact Bool.eq_iff_iff.mpr h1
/-- a number below 2^k has no bits from k on -/
theorem am_bit_high : ∀ s m, s < 128 → 7 ≤ m → m < 32 → am_bit (nI s) m = 0 := by
  have h : ∀ s : Fin 128, ∀ m : Fin 32, 7 ≤ m.1 → am_bit (nI s.1) m.1 = 0 := by decide +kernel
  intro s m hs h7 hm
  exact h ⟨s, hs⟩ ⟨m, hm⟩ h7
/-- a set of the first seven is a number below 128 -/
theorem am_set7 {x : Int32} (h : ∀ m, 7 ≤ m → m < 32 → am_bit x m = 0) : ∃ s, s < 128 ∧ x = nI s := by
  obtain ⟨j, h1, h2⟩ := pk_andE x (m := 127) 7 rfl
  refine ⟨j, h1, ?_⟩
  rw [← h2]
  apply am_bit_ext
  intro m hm
  rw [am_bit_and hm]
  have h3 : am_bit 127 m = 1 ↔ m < 7 := am_bit_all 7 m (by decide) hm
  rw [h3]
  refine ⟨fun z => ⟨z, ?_⟩, fun z => z.1⟩
  apply Classical.byContradiction
  intro z2
  rw [h m (by omega) hm] at z
  exact absurd z (by decide)
/-- counting: the library's way and the reference's -/
def am_bc (x : Int32) : Int32 := am_it (fun m acc => acc + am_bit x m) 7 0
