/-! numbers and places -/
theorem am_in_int {i : Int32} {n : Nat} (h0 : 0 ≤ i.toInt) (h : i.toInt < n) : am_in i n = true := by
  unfold am_in
  have h1 : ¬ i < 0 := by rw [Int32.lt_iff_toInt_lt]; show ¬ i.toInt < 0; omega
  have h2 : i.toNatClampNeg < n := by show i.toInt.toNat < n; omega
  simp [h1, h2]
theorem am_in_nI {k n : Nat} (h : k < n) (hn : n < 2 ^ 31) : am_in (nI k) n = true := by
  have e : (nI k).toInt = (k : Int) := nI_toInt (by omega)
  exact am_in_int (by omega) (by omega)
theorem am_in_lit {i : Int32} {k n : Nat} (e : i = nI k) (h : k < n) (hn : n < 2 ^ 31) : am_in i n = true := by rw [e]; exact am_in_nI h hn
theorem am_cln {k : Nat} (h : k < 2 ^ 31) : (nI k).toNatClampNeg = k := nI_clamp h
theorem am_seat (m b : Nat) : nI m * 5 + nI b = nI (m * 5 + b) := by
  rw [show (5 : Int32) = nI 5 from rfl, pk_mul, nI_add]
theorem am_seat' (m b : Nat) : 5 * nI m + nI b = nI (5 * m + b) := by
  rw [show (5 : Int32) = nI 5 from rfl, pk_mul, nI_add]
/-- n steps of f from a -/
def am_it {α : Type} (f : Nat → α → α) : Nat → α → α
  | 0, a => a
  | n + 1, a => f n (am_it f n a)
theorem am_loop {α : Type} (f : Nat → α → α) (W : Nat → α → Prop) (n : Nat) (step : ∀ k a, k < n → W (k + 1) (f k a) → W k a) (a : α) (h : W n (am_it f n a)) : W 0 a := by
  have key : ∀ j, j ≤ n → W (n - j) (am_it f (n - j) a) := by
    intro j
    induction j with
    | zero => intro _; exact h
    | succ j ih =>
      intro hj
      have h1 := ih (by omega)
      have e : n - j = (n - (j + 1)) + 1 := by omega
      rw [e] at h1
      exact step _ _ (by omega) h1
  have h2 := key n (Nat.le_refl n)
  rw [Nat.sub_self] at h2
  exact h2
theorem am_it_congr {α : Type} {f g : Nat → α → α} {n : Nat} (h : ∀ k a, k < n → f k a = g k a) (a : α) : am_it f n a = am_it g n a := by
  induction n with
  | zero => rfl
  | succ n ih => show f n _ = g n _; rw [ih (fun k a hk => h k a (by omega)), h n _ (by omega)]
/-- a bit of a set -/
def am_bit (x : Int32) (m : Nat) : Int32 := x >>> (nI m &&& 31) &&& 1
theorem am_bit_01 (x : Int32) (m : Nat) : am_bit x m = 0 ∨ am_bit x m = 1 := by
  unfold am_bit
  obtain ⟨j, h1, h2⟩ := pk_andE (x >>> (nI m &&& 31)) (m := 1) 1 rfl
  rw [h2]
  rcases (show j = 0 ∨ j = 1 by omega) with rfl | rfl
  · exact Or.inl rfl
  · exact Or.inr rfl
theorem am_u_get {α : Type} (f : Nat → Nat → α) (a k : Nat) (v : α) (b j : Nat) : am_u f a k v b j = if b = a ∧ j = k then v else f b j := rfl
theorem am_u_off {α : Type} {f : Nat → Nat → α} {a k : Nat} {v : α} {b j : Nat} (h : b ≠ a) : am_u f a k v b j = f b j := if_neg (fun z => h z.1)
theorem am_u_self {α : Type} {f : Nat → Nat → α} {a k : Nat} {v : α} : am_u f a k v a k = v := if_pos ⟨rfl, rfl⟩
theorem am_u_at {α : Type} {f : Nat → Nat → α} {a k : Nat} {v : α} {j : Nat} (h : j ≠ k) : am_u f a k v a j = f a j := if_neg (fun z => h z.2)
theorem am_row_get {α : Type} (f : Nat → Nat → α) (a : Nat) (g : Nat → α) (b : Nat) : am_row f a g b = if b = a then g else f b := rfl
