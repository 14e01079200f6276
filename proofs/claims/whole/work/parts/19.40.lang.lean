/-! the two languages: what is read of a text, and what it tells -/
/-- a sum: what it tells by its words (none: broken), and its steps -/
abbrev Ex : Type := ((Nat → Nat → Int32) → Option Int64) × List (Nat × Int32)
/-- a test: the same; its steps by where they begin -/
abbrev Te : Type := ((Nat → Nat → Int32) → Option Bool) × (Nat → List (Nat × Int32))
/-- a clause: its head, its sums, how often, its test -/
abbrev Cl : Type := Nat × List Ex × Nat × Option Te
def e_bd (v : Int64) : Option Int64 := if 1000000000 < v ∨ v < -1000000000 then none else some v
/-- 0 plus, 1 minus, 2 times, 3 by, 4 rest -/
def e_op (op : Nat) (a b : Int64) : Option Int64 :=
  if op = 0 then e_bd (a + b)
  else if op = 1 then e_bd (a - b)
  else if op = 2 then e_bd (a * b)
  else if op = 3 then (if b = 0 then none else e_bd (a / b))
  else (if b = 0 then none else e_bd (a - a / b * b))
/-- 0 less, 1 more, 2 same -/
def e_cm (op : Nat) (a b : Int64) : Bool := if op = 0 then decide (a < b) else if op = 1 then decide (b < a) else decide (a = b)
def k_word (o : Bool) (c k : Nat) : Nat :=
  if o then (if c = 16 then 0 else if c = 17 then 1 else if c = 18 then 2 else if c = 15 then 3 else if c = 19 then 4 else if c = 20 then 5 + k else 10 + k)
  else (if c = 8 then 0 else if c = 14 then 1 else if c = 9 then 2 else if c = 10 then 3 else if c = 11 then 4 else if c = 12 then 5 else if c = 15 then 6 else if c = 16 then 7 else 8)
def x_num (v : Int32) : Ex := (fun _ => some v.toInt64, [(1, v)])
def x_word (o : Bool) (c k : Nat) : Ex := (fun w => some (w c k).toInt64, [(2, nI (k_word o c k))])
def x_bin (op : Nat) (a b : Ex) : Ex := (fun w => (a.1 w).bind (fun x => (b.1 w).bind (fun y => e_op op x y)), a.2 ++ b.2 ++ [(3 + op, 0)])
def y_cmp (op : Nat) (a b : Ex) : Te := (fun w => (a.1 w).bind (fun x => (b.1 w).bind (fun y => some (e_cm op x y))), fun _ => a.2 ++ b.2 ++ [(8 + op, 0)])
def y_neg (a : Te) : Te := (fun w => (a.1 w).map (fun x => !x), fun p => a.2 p ++ [(11, 0)])
def y_and (a b : Te) : Te := (fun w => (a.1 w).bind (fun x => if x then b.1 w else some false), fun p => a.2 p ++ (13, nI (p + (a.2 p).length + 1 + (b.2 (p + (a.2 p).length + 1)).length)) :: b.2 (p + (a.2 p).length + 1))
def y_or (a b : Te) : Te := (fun w => (a.1 w).bind (fun x => if x then some true else b.1 w), fun p => a.2 p ++ (12, nI (p + (a.2 p).length + 1 + (b.2 (p + (a.2 p).length + 1)).length)) :: b.2 (p + (a.2 p).length + 1))
/-- a clause's "if": broken is not so -/
def e_if (w : Nat → Nat → Int32) (t : Option Te) : Bool := match t with | none => true | some t => (t.1 w).getD false
def e_near (x : Int64) : Int32 := if x < 0 then 0 else if 9 < x then 9 else x.toInt32
/-- what the clauses with a head tell -/
def e_tell1 (w : Nat → Nat → Int32) (head : Nat) (c : Cl) (told : Int32) : Int32 := if c.1 = head ∧ e_if w c.2.2.2 = true then (if head = 3 then 1 else match c.2.1 with | e :: _ => (match e.1 w with | some x => e_near x | none => told) | [] => told) else told
def e_tell (w : Nat → Nat → Int32) (head : Nat) : List Cl → Int32 → Int32
  | [], told => told
  | c :: cs, told => e_tell w head cs (e_tell1 w head c told)
/-! reading: none, if it was cut off; else what was read, where, and how many parts; or where the fault is -/
abbrev PR (α : Type) : Type := Option ((α × Nat × Nat) ⊕ Nat)
def pOk {α : Type} (a : α) (i lv : Nat) : PR α := some (.inl (a, i, lv))
def pBad {α : Type} (i : Nat) : PR α := some (.inr i)
def pBind {α β : Type} (x : PR α) (f : α → Nat → Nat → PR β) : PR β := match x with
  | some (.inl (a, i, lv)) => f a i lv
  | some (.inr i) => some (.inr i)
  | none => none
def pMap {α β : Type} (f : α → β) (x : PR α) : PR β := pBind x (fun a i lv => pOk (f a) i lv)
/-- codes, values, whether orders -/
abbrev Tk : Type := (Nat → Int32) × (Nat → Int32) × Bool
def p_ops (c : Int32) : Option Nat := if c = 143 then some 0 else if c = 145 then some 1 else none
def p_opt (c : Int32) : Option Nat := if c = 142 then some 2 else if c = 147 then some 3 else if c = 137 then some 4 else none
def p_opc (c : Int32) : Option Nat := if c = 160 then some 0 else if c = 162 then some 1 else if c = 161 then some 2 else none
def p_leaf (T : Tk) (i lv : Nat) : PR Ex :=
  if T.1 i = 50 ∧ T.2.1 i ≤ 1000 ∨ (if T.2.2 = true then 14 else 8) ≤ T.1 i ∧ T.1 i ≤ (if T.2.2 = true then 20 else 16) then
    if lv = 50 then pBad i
    else if T.1 i = 50 then pOk (x_num (T.2.1 i)) (i + 1) (lv + 1)
    else if T.2.2 = true ∧ (T.1 i = 14 ∨ T.1 i = 20) then
      (if T.1 (i + 1) = 50 ∧ 0 ≤ T.2.1 (i + 1) ∧ T.2.1 (i + 1) ≤ (if T.1 i = 14 then 6 else 4) then pOk (x_word true (T.1 i).toNatClampNeg (T.2.1 (i + 1)).toNatClampNeg) (i + 2) (lv + 1) else pBad (i + 1))
    else pOk (x_word T.2.2 (T.1 i).toNatClampNeg 0) (i + 1) (lv + 1)
  else pBad i
/-- a needed sign behind -/
def p_must {α : Type} (T : Tk) (c : Int32) (x : PR α) : PR α := pBind x (fun a i lv => if T.1 i = c then pOk a (i + 1) lv else pBad i)
/-- 0 a part, 1 a term, 2 a term's rest, 3 a sum, else a sum's rest -/
def p_go (T : Tk) : Nat → Nat → Nat → Ex → Nat → Nat → PR Ex
  | 0, _, _, _, _, _ => none
  | f + 1, m, dp, e, i, lv =>
    if m = 0 then (if T.1 i = 191 then (if dp = 8 then pBad i else p_must T 193 (p_go T f 3 (dp + 1) e (i + 1) lv)) else p_leaf T i lv)
    else if m = 1 then pBind (p_go T f 0 dp e i lv) (fun e1 j lv1 => p_go T f 2 dp e1 j lv1)
    else if m = 2 then (match p_opt (T.1 i) with
      | some op => pBind (p_go T f 0 dp e (i + 1) lv) (fun e2 j lv1 => p_go T f 2 dp (x_bin op e e2) j lv1)
      | none => pOk e i lv)
    else if m = 3 then pBind (p_go T f 1 dp e i lv) (fun e1 j lv1 => p_go T f 4 dp e1 j lv1)
    else (match p_ops (T.1 i) with
      | some op => pBind (p_go T f 1 dp e (i + 1) lv) (fun e2 j lv1 => p_go T f 4 dp (x_bin op e e2) j lv1)
      | none => pOk e i lv)
def x_0 : Ex := x_num 0
def p_sum (T : Tk) (f dp i lv : Nat) : PR Ex := p_go T f 3 dp x_0 i lv
/-- rows of "not": whether turned, and where they end -/
def p_nots (T : Tk) : Nat → Bool → Nat → Option (Bool × Nat)
  | 0, _, _ => none
  | f + 1, b, i => if T.1 i = 7 then p_nots T f (!b) (i + 1) else some (b, i)
def p_cmp (T : Tk) (f dp i lv : Nat) : PR Te := pBind (p_sum T f dp i lv) (fun a j lv1 => match p_opc (T.1 j) with
  | some op => pBind (p_sum T f dp (j + 1) lv1) (fun b j2 lv2 => pOk (y_cmp op a b) j2 lv2)
  | none => pBad j)
def p_turn (b : Bool) (x : PR Te) : PR Te := pMap (fun t => if b then y_neg t else t) x
/-- 0 a plain test, 1 both, 2 both's rest, 3 a test, else a test's rest -/
def q_go (T : Tk) : Nat → Nat → Nat → Te → Nat → Nat → PR Te
  | 0, _, _, _, _, _ => none
  | f + 1, m, dp, e, i, lv =>
    if m = 0 then (match p_nots T f false i with
      | none => none
      | some (b, j) => p_turn b (if T.1 j = 140 then (if dp = 8 then pBad j else p_must T 141 (q_go T f 3 (dp + 1) e (j + 1) lv)) else p_cmp T f dp j lv))
    else if m = 1 then pBind (q_go T f 0 dp e i lv) (fun e1 j lv1 => q_go T f 2 dp e1 j lv1)
    else if m = 2 then (if T.1 i = 6 then pBind (q_go T f 0 dp e (i + 1) lv) (fun e2 j lv1 => q_go T f 2 dp (y_and e e2) j lv1) else pOk e i lv)
    else if m = 3 then pBind (q_go T f 1 dp e i lv) (fun e1 j lv1 => q_go T f 4 dp e1 j lv1)
    else (if T.1 i = 5 then pBind (q_go T f 1 dp e (i + 1) lv) (fun e2 j lv1 => q_go T f 4 dp (y_or e e2) j lv1) else pOk e i lv)
def y_0 : Te := y_cmp 0 x_0 x_0
def p_test (T : Tk) (f dp i lv : Nat) : PR Te := q_go T f 3 dp y_0 i lv
/-- "if" with a test, or none -/
def p_if (T : Tk) (f i lv : Nat) : PR (Option Te) := if T.1 i = 4 then pMap some (p_test T f 0 (i + 1) lv) else pOk none i lv
def p_times (T : Tk) (i lv : Nat) : PR Nat := if T.1 i = 27 then (if T.1 (i + 1) = 50 ∧ 1 ≤ T.2.1 (i + 1) ∧ T.2.1 (i + 1) ≤ 20 then pOk (T.2.1 (i + 1)).toNatClampNeg (i + 2) lv else pBad (i + 1)) else pOk 1 i lv
/-- a word that must be, then a sum -/
def p_more (T : Tk) (f : Nat) (c : Int32) (i lv : Nat) : PR Ex := if T.1 i = c then p_sum T f 0 (i + 1) lv else pBad i
def p_head (T : Tk) (f i lv : Nat) : PR (Nat × List Ex) :=
  if T.2.2 = true then
    if T.1 i = 23 then pBind (p_sum T f 0 (i + 1) lv) (fun a j lv1 => pBind (p_more T f 24 j lv1) (fun b j2 lv2 => pBind (p_more T f 25 j2 lv2) (fun c j3 lv3 => pOk (23, [a, b, c]) j3 lv3)))
    else if T.1 i = 21 then pMap (fun a => (21, [a])) (p_sum T f 0 (i + 1) lv)
    else if T.1 i = 22 then pMap (fun a => (22, [a])) (p_sum T f 0 (i + 1) lv)
    else if T.1 i = 26 then pOk (26, []) (i + 1) lv
    else pBad i
  else
    if T.1 i = 1 then pMap (fun a => (1, [a])) (p_sum T f 0 (i + 1) lv)
    else if T.1 i = 2 then pMap (fun a => (2, [a])) (p_sum T f 0 (i + 1) lv)
    else if T.1 i = 3 then pOk (3, []) (i + 1) lv
    else pBad i
def p_cl (T : Tk) (f i lv : Nat) : PR Cl := pBind (p_head T f i lv) (fun h j lv1 => pBind (if T.2.2 = true then p_times T j lv1 else pOk 1 j lv1) (fun t j2 lv2 => pBind (p_if T f j2 lv2) (fun te j3 lv3 => pOk (h.1, h.2, t, te) j3 lv3)))
/-- r more clauses may come; N tokens -/
def p_list (T : Tk) (N f : Nat) : Nat → Nat → Nat → PR (List Cl)
  | 0, i, _ => pBad i
  | r + 1, i, lv => pBind (p_cl T f i lv) (fun c j lv1 => if j = N then pOk [c] j lv1 else if T.1 j = 159 then pMap (fun cs => c :: cs) (p_list T N f r (j + 1) lv1) else pBad j)
def p_fuel : Nat := 20000
def p_read (T : Tk) (N : Nat) : PR (List Cl) := p_list T N p_fuel 12 0 0
/-! how the steps lie -/
/-- steps x lie from p on in the rows st and wi -/
def k_at (st wi : Nat → Int32) (p : Nat) (x : List (Nat × Int32)) : Prop := ∀ i c v, x[i]? = some (c, v) → st (p + i) = nI c ∧ wi (p + i) = v
def k_kind (k : Nat) : Nat := if k = 21 then 0 else if k = 22 then 1 else if k = 23 then 2 else if k = 26 then 3 else k - 1
/-- a clause in the rows of a text that has z steps -/
def am_TC (kd tm sa ta st wi : Nat → Int32) (z c : Nat) (x : Cl) : Prop :=
  kd c = nI (k_kind x.1) ∧ tm c = nI x.2.2.1
  ∧ (∀ j e, x.2.1[j]? = some e → ∃ p, sa (c * 3 + j) = nI p ∧ p + e.2.length < z ∧ k_at st wi p (e.2 ++ [(0, 0)]))
  ∧ (∀ j, x.2.1.length ≤ j → j < 3 → sa (c * 3 + j) = -1)
  ∧ (∀ t, x.2.2.2 = some t → ∃ p, ta c = nI p ∧ p + (t.2 p).length < z ∧ k_at st wi p (t.2 p ++ [(0, 0)]))
  ∧ (x.2.2.2 = none → ta c = -1)
/-- the text at t tells the clauses xs -/
def am_TI (S : List (Nat × Nat)) (I : Nat → Nat → Int32) (P : Nat → Nat → Option Nat) (t : Nat) (xs : List Cl) : Prop :=
  ∃ N z, am_Ts S P t N ∧ N ≤ 480 ∧ xs.length ≤ 12 ∧ I t 0 = nI xs.length ∧ z ≤ N ∧ I t 1 = nI z
  ∧ ∀ c x, xs[c]? = some x → am_TC (I (t + 1 + 0)) (I (t + 1 + 1)) (I (t + 1 + 2)) (I (t + 1 + 3)) (I (t + 1 + 4)) (I (t + 1 + 5)) z c x
/-- the tokens of a law as they are kept -/
def k_tk (kp : Nat → Int32) (o : Bool) (i N : Nat) : Tk := (fun k => if k < N then kp (84 + 400 * i + k) else 0, fun k => if k < N then kp (2884 + 400 * i + k) else 0, o)
def am_TK (o : Bool) (kp : Nat → Int32) (i : Nat) (xs : List Cl) : Prop := ∃ N lv, N ≤ 400 ∧ 0 < N ∧ kp (77 + i) = nI N ∧ p_read (k_tk kp o i N) N = pOk xs N lv
/-- what a law's words tell of a member and a bill -/
def a_env (kp : Nat → Int32) (n m b : Nat) : Nat → Nat → Int32 := fun c _ =>
  if c = 8 then nI m else if c = 9 then kp (51 + m) else if c = 10 then nI b else if c = 11 then kp (m * 5 + b) else if c = 12 then am_b (am_bit (kp 42) b = 1) else if c = 13 then kp 71 else if c = 14 then kp (44 + m) else if c = 15 then m_hm kp n else kp 43
def a_sp (kp : Nat → Int32) (n : Nat) (lw : Option (List Cl)) (m b : Nat) : Int32 := match lw with | none => kp (44 + m) | some xs => e_tell (a_env kp n m b) 1 xs (kp (44 + m))
def a_va (kp : Nat → Int32) (n : Nat) (lw : Option (List Cl)) (m b : Nat) : Int32 := match lw with | none => kp (m * 5 + b) | some xs => e_tell (a_env kp n m b) 2 xs (kp (m * 5 + b))
def a_ba (kp : Nat → Int32) (n : Nat) (lw : Option (List Cl)) (m b : Nat) : Int32 := match lw with | none => 0 | some xs => e_tell (a_env kp n m b) 3 xs 0
