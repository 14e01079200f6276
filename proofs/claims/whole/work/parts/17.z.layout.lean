/-! where things lie once both objects are made -/
def am_lays : List (Nat × Nat) := [(8, 17)]
def am_lay (a : Nat) : Option (Nat × Nat) := if a < 64 then none else am_lays[a - 64]?
def am_ptr (a k : Nat) : Option Nat := none
def am_Lay (S : List (Nat × Nat)) (P : Nat → Nat → Option Nat) : Prop := (∀ (a : Nat) (q : Nat × Nat), am_lay a = some q → S[a]? = some q) ∧ ∀ a k b : Nat, am_ptr a k = some b → P a k = some b
theorem am_Lay.sh {S : List (Nat × Nat)} {P : Nat → Nat → Option Nat} {a : Nat} {q : Nat × Nat} (h : am_Lay S P) (e : am_lay a = some q) : am_sh S a q := ⟨by
  unfold am_lay at e
  split at e
  · cases e
  · omega, h.1 a q e⟩
/-- a House at h: its rows lie behind it -/
def am_hq : List (Nat × Nat) := [(20, 7), (20, 7), (20, 35), (20, 4), (25, 6), (20, 6), (20, 6)]
def am_Hs (S : List (Nat × Nat)) (P : Nat → Nat → Option Nat) (h : Nat) : Prop := am_sh S h (0, 13) ∧ (∀ k : Nat, k < 7 → P h (6 + k) = some (h + 1 + k)) ∧ ∀ (k : Nat) (q : Nat × Nat), am_hq[k]? = some q → am_sh S (h + 1 + k) q
theorem am_Hs.sh0 {S : List (Nat × Nat)} {P : Nat → Nat → Option Nat} {h : Nat} (x : am_Hs S P h) : am_sh S h (0, 13) := x.1
theorem am_Hs.sh {S : List (Nat × Nat)} {P : Nat → Nat → Option Nat} {h k : Nat} {q : Nat × Nat} (x : am_Hs S P h) (e : am_hq[k]? = some q) : am_sh S (h + 1 + k) q := x.2.2 k q e
/-- a Text at t with rows of n steps -/
def am_tq (n : Nat) : List (Nat × Nat) := [(20, 12), (20, 12), (20, 36), (20, 12), (20, n), (20, n)]
def am_Ts (S : List (Nat × Nat)) (P : Nat → Nat → Option Nat) (t n : Nat) : Prop := am_sh S t (6, 9) ∧ (∀ k : Nat, k < 6 → P t (3 + k) = some (t + 1 + k)) ∧ ∀ (k : Nat) (q : Nat × Nat), (am_tq n)[k]? = some q → am_sh S (t + 1 + k) q
theorem am_Ts.sh0 {S : List (Nat × Nat)} {P : Nat → Nat → Option Nat} {t n : Nat} (x : am_Ts S P t n) : am_sh S t (6, 9) := x.1
theorem am_Ts.sh {S : List (Nat × Nat)} {P : Nat → Nat → Option Nat} {t n k : Nat} {q : Nat × Nat} (x : am_Ts S P t n) (e : (am_tq n)[k]? = some q) : am_sh S (t + 1 + k) q := x.2.2 k q e
/-- a Past at p -/
def am_Pa (S : List (Nat × Nat)) (P : Nat → Nat → Option Nat) (p : Nat) : Prop := am_sh S p (1, 2) ∧ P p 1 = some (p + 1) ∧ am_sh S (p + 1) (20, 48)
theorem am_Pa.sh0 {S : List (Nat × Nat)} {P : Nat → Nat → Option Nat} {p : Nat} (x : am_Pa S P p) : am_sh S p (1, 2) := x.1
theorem am_Pa.sh {S : List (Nat × Nat)} {P : Nat → Nat → Option Nat} {p : Nat} (x : am_Pa S P p) : am_sh S (p + 1) (20, 48) := x.2.2
theorem am_rf_cat (r : Option Nat) : (va_rf r).category = 1 := by cases r <;> rfl
theorem am_cat_nil : am_cat [] = 0 := rfl
theorem am_cat_cons (v : Value) (l : List Value) : am_cat (v :: l) = v.category + am_cat l := rfl
theorem am_c_int (x : Int32) : (Value.int x).category = 1 := rfl
theorem am_c_long (x : Int64) : (Value.long x).category = 2 := rfl
theorem am_c_ref (x : Nat) : (Value.ref x).category = 1 := rfl
