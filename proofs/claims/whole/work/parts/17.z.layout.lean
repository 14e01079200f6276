/-! where things lie once both objects are made -/
def am_lays : List (Nat × Nat) := [(8, 17), (0, 13), (20, 7), (20, 7), (20, 35), (20, 4), (25, 6), (20, 6), (20, 6), (0, 13), (20, 7), (20, 7), (20, 35), (20, 4), (25, 6), (20, 6), (20, 6), (0, 13), (20, 7), (20, 7), (20, 35), (20, 4), (25, 6), (20, 6), (20, 6), (24, 2), (1, 2), (20, 48), (1, 2), (20, 48), (5, 2), (20, 400), (2, 9), (7, 4), (20, 401), (20, 401), (20, 401), (6, 9), (20, 12), (20, 12), (20, 36), (20, 12), (20, 480), (20, 480), (20, 17), (4, 13), (20, 35), (20, 35), (20, 5), (20, 5), (20, 5), (20, 5), (20, 5), (20, 5), (20, 9), (3, 2), (23, 64), (20, 5), (23, 20), (20, 7), (9, 50), (20, 7), (20, 5684), (20, 11368), (21, 2), (20, 88), (22, 135), (22, 400), (20, 5), (20, 401), (20, 401), (20, 401), (20, 9), (20, 5), (20, 35), (20, 35), (21, 35), (20, 720), (20, 720), (21, 25), (20, 5), (20, 5), (23, 21), (23, 3), (20, 44)]
def am_lay (a : Nat) : Option (Nat × Nat) := if a < 64 then none else am_lays[a - 64]?
def am_pts : List (List (Option Nat)) := [
  [some 65, some 73, some 81, some 89, some 90, some 92, some 94, some 96, some 108, some 109, some 121, some 122, none, none, none, some 123, none],
  [none, none, none, none, none, none, some 66, some 67, some 68, some 69, some 70, some 71, some 72],
  [],
  [],
  [],
  [],
  [],
  [],
  [],
  [none, none, none, none, none, none, some 74, some 75, some 76, some 77, some 78, some 79, some 80],
  [],
  [],
  [],
  [],
  [],
  [],
  [],
  [none, none, none, none, none, none, some 82, some 83, some 84, some 85, some 86, some 87, some 88],
  [],
  [],
  [],
  [],
  [],
  [],
  [],
  [],
  [none, some 91],
  [],
  [none, some 93],
  [],
  [none, some 95],
  [],
  [some 97, some 101, none, none, none, none, none, none, none],
  [none, some 98, some 99, some 100],
  [],
  [],
  [],
  [none, none, none, some 102, some 103, some 104, some 105, some 106, some 107],
  [],
  [],
  [],
  [],
  [],
  [],
  [],
  [none, none, none, some 110, some 111, some 112, some 113, some 114, some 115, some 116, some 117, some 118, some 119],
  [],
  [],
  [],
  [],
  [],
  [],
  [],
  [],
  [],
  [none, some 120],
  [],
  [],
  [],
  [],
  [none, some 125, some 126, some 127, some 128, some 129, none, some 130, none, none, none, some 131, some 132, none, none, some 133, some 134, some 135, none, none, none, none, none, none, none, none, some 136, none, none, some 137, some 138, some 139, some 140, some 141, some 142, none, some 143, some 144, some 145, some 146, none, none, none, none, none, none, some 147, some 148, none, none],
  [],
  [],
  [],
  [],
  [],
  [],
  [],
  [],
  [],
  [],
  [],
  [],
  [],
  [],
  [],
  [],
  [],
  [],
  [],
  [],
  [],
  [],
  [],
  []]
def am_ptr (a k : Nat) : Option Nat := if a < 64 then none else ((am_pts[a - 64]?).bind (fun l => l[k]?)).getD none
def am_Lay (S : List (Nat × Nat)) (P : Nat → Nat → Option Nat) : Prop := (∀ (a : Nat) (q : Nat × Nat), am_lay a = some q → S[a]? = some q) ∧ ∀ a k b : Nat, am_ptr a k = some b → P a k = some b
theorem am_Lay.sh {S : List (Nat × Nat)} {P : Nat → Nat → Option Nat} {a : Nat} {q : Nat × Nat} (h : am_Lay S P) (e : am_lay a = some q) : am_sh S a q := ⟨by
  unfold am_lay at e
  split at e
  · cases e
  · omega, h.1 a q e⟩
/-- a House at h: its rows lie behind it -/
def am_hq : List (Nat × Nat) := [(20, 7), (20, 7), (20, 35), (20, 4), (25, 6), (20, 6), (20, 6)]
def am_Hs (S : List (Nat × Nat)) (P : Nat → Nat → Option Nat) (h : Nat) : Prop := am_sh S h (0, 13) ∧ (∀ k : Nat, k < 7 → P h (6 + k) = some (h + 1 + k)) ∧ ∀ (k : Nat) (q : Nat × Nat), am_hq[k]? = some q → am_sh S (h + 1 + k) q
theorem am_Hs.sh0 {S : List (Nat × Nat)} {P : Nat → Nat → Option Nat} {h : Nat} (x : am_Hs S P h) : am_sh S h (0, 13) := x.1
theorem am_Hs.sh {S : List (Nat × Nat)} {P : Nat → Nat → Option Nat} {h k : Nat} {q : Nat × Nat} (x : am_Hs S P h) (e : am_hq[k]? = some q) : am_sh S (h + 1 + k) q := x.2.2 k q e
/-- a Text at t with rows of n steps -/
def am_tq (n : Nat) : List (Nat × Nat) := [(20, 12), (20, 12), (20, 36), (20, 12), (20, n), (20, n)]
def am_Ts (S : List (Nat × Nat)) (P : Nat → Nat → Option Nat) (t n : Nat) : Prop := am_sh S t (6, 9) ∧ (∀ k : Nat, k < 6 → P t (3 + k) = some (t + 1 + k)) ∧ ∀ (k : Nat) (q : Nat × Nat), (am_tq n)[k]? = some q → am_sh S (t + 1 + k) q
theorem am_Ts.sh0 {S : List (Nat × Nat)} {P : Nat → Nat → Option Nat} {t n : Nat} (x : am_Ts S P t n) : am_sh S t (6, 9) := x.1
theorem am_Ts.sh {S : List (Nat × Nat)} {P : Nat → Nat → Option Nat} {t n k : Nat} {q : Nat × Nat} (x : am_Ts S P t n) (e : (am_tq n)[k]? = some q) : am_sh S (t + 1 + k) q := x.2.2 k q e
/-- a Past at p -/
def am_Pa (S : List (Nat × Nat)) (P : Nat → Nat → Option Nat) (p : Nat) : Prop := am_sh S p (1, 2) ∧ P p 1 = some (p + 1) ∧ am_sh S (p + 1) (20, 48)
theorem am_Pa.sh0 {S : List (Nat × Nat)} {P : Nat → Nat → Option Nat} {p : Nat} (x : am_Pa S P p) : am_sh S p (1, 2) := x.1
theorem am_Pa.sh {S : List (Nat × Nat)} {P : Nat → Nat → Option Nat} {p : Nat} (x : am_Pa S P p) : am_sh S (p + 1) (20, 48) := x.2.2
theorem am_rf_cat (r : Option Nat) : (va_rf r).category = 1 := by cases r <;> rfl
theorem am_cat_nil : am_cat [] = 0 := rfl
theorem am_cat_cons (v : Value) (l : List Value) : am_cat (v :: l) = v.category + am_cat l := rfl
theorem am_c_int (x : Int32) : (Value.int x).category = 1 := rfl
theorem am_c_long (x : Int64) : (Value.long x).category = 2 := rfl
theorem am_c_ref (x : Nat) : (Value.ref x).category = 1 := rfl
