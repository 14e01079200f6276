/-! contracts: the reference's small methods, and what it reckons of bills -/
theorem am_inb' {m b : Nat} (hm : m < 7) (hb : b < 5) : am_in (5 * nI m + nI b) 35 = true := by
  rw [am_seat']
  exact am_in_nI (by omega) (by decide)
theorem am_clb' {m b : Nat} (hm : m < 7) (hb : b < 5) : (5 * nI m + nI b).toNatClampNeg = m * 5 + b := by
  rw [am_seat', Nat.mul_comm]
  exact am_cln (by omega)
theorem am_0n (m : Nat) : 0 + 5 * nI m = 5 * nI m := Int32.zero_add _
theorem am_inw {m b : Nat} (hm : m < 7) (hb : b < 5) : am_in (0 + 5 * nI m + nI b) 5684 = true := by
  rw [am_0n, am_seat']
  exact am_in_nI (by omega) (by decide)
theorem am_clw {m b : Nat} (hm : m < 7) (hb : b < 5) : (0 + 5 * nI m + nI b).toNatClampNeg = m * 5 + b := by
  rw [am_0n]
  exact am_clb' hm hb
theorem am_add35 (m : Nat) : (35 : Int32) + nI m = nI (35 + m) := by rw [show (35 : Int32) = nI 35 from rfl, nI_add]
theorem am_in35 {m : Nat} (hm : m < 7) : am_in (35 + nI m) 5684 = true := by
  rw [am_add35]
  exact am_in_nI (by omega) (by decide)
theorem am_cl35 {m : Nat} (hm : m < 7) : (35 + nI m).toNatClampNeg = 35 + m := by
  rw [am_add35]
  exact am_cln (by omega)
theorem am_nm1 {n : Nat} (h : n ≤ 7) : (nI n - 1).toInt = (n : Int) - 1 := by
  rcases (show n = 0 ∨ n = 1 ∨ n = 2 ∨ n = 3 ∨ n = 4 ∨ n = 5 ∨ n = 6 ∨ n = 7 by omega) with rfl | rfl | rfl | rfl | rfl | rfl | rfl | rfl <;> decide
/-- how many ones of the first seven -/
def t_on (x : Int32) : Int32 := am_it (fun m acc => acc + am_bit x m) 7 0
abbrev m_on (kp ba : Nat → Int32) (m b : Nat) : Prop := kp (35 + m) = 1 ∧ ba (m * 5 + b) = 0
def m_of (kp ba : Nat → Int32) (n b : Nat) (set : Int32) : Int32 := am_it (fun m acc => acc ||| (if am_bit set m = 1 ∧ m_on kp ba m b then 1 <<< (nI m &&& 31) else 0)) n 0
def m_vo (sp : Nat → Int32) (n b : Nat) (set : Int32) : Int32 := am_it (fun m acc => acc + (if am_bit set m = 1 then sp (m * 5 + b) else 0)) n 0
def m_fa (kp ba va : Nat → Int32) (n b : Nat) (set : Int32) : Int32 := am_it (fun m acc => acc ||| (if am_bit set m = 1 ∧ m_on kp ba m b ∧ 5 ≤ va (m * 5 + b) then 1 <<< (nI m &&& 31) else 0)) n 0
/-- needed, by some -/
def m_nd (need vo : Int32) : Int32 := if 0 < need then need else vo / 2 + 1
/-- given by a member to a bill -/
def m_gv (kp ba sp va : Nat → Int32) (m b : Nat) : Int32 := if m_on kp ba m b then t_rk va m b * sp (m * 5 + b) else 0
def m_pt (kp ba sp va : Nat → Int32) (n b : Nat) : Int32 := am_it (fun m acc => acc + m_gv kp ba sp va m b) n 0
/-- votes -/
def m_va (kp ba sp va : Nat → Int32) (n a b : Nat) : Int32 := am_it (fun m acc => acc + (if m_on kp ba m a ∧ m_on kp ba m b ∧ va (m * 5 + b) < va (m * 5 + a) then sp (m * 5 + a) else 0)) n 0
abbrev m_wv (ba va : Nat → Int32) (m a b : Nat) : Prop := ba (m * 5 + a) = 0 ∧ ba (m * 5 + b) = 0 ∧ va (m * 5 + b) < va (m * 5 + a)
def m_hm (kp : Nat → Int32) (n : Nat) : Int32 := am_it (fun m acc => acc + kp (35 + m)) n 0
section
variable {pr : am_Pr} {d : Nat} {S : List (Nat × Nat)} {I : Nat → Nat → Int32} {J : Nat → Nat → Int64} {P : Nat → Nat → Option Nat} {Q : Option Value → am_H → Prop}
/-- lies -/
theorem c164 {x y z : Int32} (k : Q (some (.int (am_b (y ≤ x ∧ x ≤ z)))) (S, I, J, P)) : am_ev pr d 164 [.int x, .int y, .int z] (S, I, J, P) Q := by
  show am_wp pr d 164 0 [(0, .int x), (1, .int y), (2, .int z)] [] _ _
  refine w164_0 rfl ?_
  refine w164_1 rfl ?_
  refine w164_2 (fun h2 => ?_) (fun h2 => ?_)
  · refine w164_14 ?_
    refine w164_15 (by first | rfl | exact am_narrow_b _) ?_
    first | exact am_kt k (by simp only [Int32.lt_iff_toInt_lt, Int32.le_iff_toInt_le, ← Int32.toInt_inj, am_z0, am_z1, am_z2, am_z3, am_z4, am_z5, am_z6, am_z7, am_z8, am_z9, am_z10, am_z12, am_z16, am_z20, am_z99, am_z999, am_zm1, am_zo4, am_zo5, am_zo7] at *; omega) | exact am_kf k (by simp only [Int32.lt_iff_toInt_lt, Int32.le_iff_toInt_le, ← Int32.toInt_inj, am_z0, am_z1, am_z2, am_z3, am_z4, am_z5, am_z6, am_z7, am_z8, am_z9, am_z10, am_z12, am_z16, am_z20, am_z99, am_z999, am_zm1, am_zo4, am_zo5, am_zo7] at *; omega)
  · replace h2 := Int32.not_lt.mp h2
    refine w164_5 rfl ?_
    refine w164_6 rfl ?_
    refine w164_7 (fun h7 => ?_) (fun h7 => ?_)
    · refine w164_14 ?_
      refine w164_15 (by first | rfl | exact am_narrow_b _) ?_
      first | exact am_kt k (by simp only [Int32.lt_iff_toInt_lt, Int32.le_iff_toInt_le, ← Int32.toInt_inj, am_z0, am_z1, am_z2, am_z3, am_z4, am_z5, am_z6, am_z7, am_z8, am_z9, am_z10, am_z12, am_z16, am_z20, am_z99, am_z999, am_zm1, am_zo4, am_zo5, am_zo7] at *; omega) | exact am_kf k (by simp only [Int32.lt_iff_toInt_lt, Int32.le_iff_toInt_le, ← Int32.toInt_inj, am_z0, am_z1, am_z2, am_z3, am_z4, am_z5, am_z6, am_z7, am_z8, am_z9, am_z10, am_z12, am_z16, am_z20, am_z99, am_z999, am_zm1, am_zo4, am_zo5, am_zo7] at *; omega)
    · replace h7 := Int32.not_lt.mp h7
      refine w164_10 ?_
      refine w164_11 ?_
      refine w164_15 (by first | rfl | exact am_narrow_b _) ?_
      first | exact am_kt k (by simp only [Int32.lt_iff_toInt_lt, Int32.le_iff_toInt_le, ← Int32.toInt_inj, am_z0, am_z1, am_z2, am_z3, am_z4, am_z5, am_z6, am_z7, am_z8, am_z9, am_z10, am_z12, am_z16, am_z20, am_z99, am_z999, am_zm1, am_zo4, am_zo5, am_zo7] at *; omega) | exact am_kf k (by simp only [Int32.lt_iff_toInt_lt, Int32.le_iff_toInt_le, ← Int32.toInt_inj, am_z0, am_z1, am_z2, am_z3, am_z4, am_z5, am_z6, am_z7, am_z8, am_z9, am_z10, am_z12, am_z16, am_z20, am_z99, am_z999, am_zm1, am_zo4, am_zo5, am_zo7] at *; omega)
/-- isIn -/
theorem c182 {x : Int32} {m : Nat} (k : Q (some (.int (am_b (am_bit x m = 1)))) (S, I, J, P)) : am_ev pr d 182 [.int x, .int (nI m)] (S, I, J, P) Q := by
  show am_wp pr d 182 0 [(0, .int x), (1, .int (nI m))] [] _ _
  refine w182_0 rfl ?_
  refine w182_1 rfl ?_
  refine w182_2 ?_
  refine w182_3 ?_
  refine w182_4 ?_
  refine w182_5 ?_
  refine w182_6 (fun h6 => ?_) (fun h6 => ?_)
  · refine w182_13 ?_
    refine w182_14 (by first | rfl | exact am_narrow_b _) ?_
    first | exact am_kt k h6 | exact am_kf k h6
  · replace h6 := Decidable.not_not.mp h6
    refine w182_9 ?_
    refine w182_10 ?_
    refine w182_14 (by first | rfl | exact am_narrow_b _) ?_
    first | exact am_kt k h6 | exact am_kf k h6
/-- ones -/
theorem c191 {x : Int32} (k : Q (some (.int (t_on x))) (S, I, J, P)) : am_ev pr d 191 [.int x] (S, I, J, P) Q := by
  show am_wp pr d 191 0 [(0, .int x)] [] _ _
  refine w191_0 ?_
  refine w191_1 ?_
  refine w191_2 ?_
  refine w191_3 ?_
  refine am_loop (fun m acc => acc + am_bit x m) (fun m acc => ∀ lv, am_ld1 lv 0 = some (.int x) → am_ld1 lv 1 = some (.int acc) → am_ld1 lv 2 = some (.int (nI m)) → am_wp pr (d) 191 4 lv [] (S, I, J, P) Q) 7 ?_ 0 ?_ _ rfl rfl rfl
  · intro m acc hm ih lv l0 l1 l2
    refine w191_4 l2 ?_
    refine w191_5 ?_
    refine w191_7 (fun h => absurd h (am_nlt hm (by decide))) (fun _ => ?_)
    refine w191_10 l1 ?_
    refine w191_11 l0 ?_
    refine w191_12 l2 ?_
    refine w191_13 ?_
    refine w191_14 ?_
    refine w191_15 ?_
    refine w191_16 ?_
    refine w191_17 ?_
    refine w191_18 l2 ?_
    refine w191_21 ?_
    exact ih _ l0 rfl (am_nx m)
  · intro lv l0 l1 l2
    refine w191_4 l2 ?_
    refine w191_5 ?_
    refine w191_7 (fun _ => ?_) (fun h => absurd (Int32.le_refl _) h)
    refine w191_24 l1 ?_
    refine w191_25 ?_
    exact k
/-- isBill -/
theorem c177 {x : Int32} (k : Q (some (.int (am_b (0 ≤ x ∧ x ≤ 4)))) (S, I, J, P)) : am_ev pr (d + 1) 177 [.int x] (S, I, J, P) Q := by
  show am_wp pr (d + 1) 177 0 [(0, .int x)] [] _ _
  refine w177_0 rfl ?_
  refine w177_1 ?_
  refine w177_2 ?_
  refine w177_3 (k := c164 ?_)
  refine w177_6 (am_b_n _) ?_
  exact k
theorem c177b {b : Nat} (hb : b < 5) (k : Q (some (.int 1)) (S, I, J, P)) : am_ev pr (d + 1) 177 [.int (nI b)] (S, I, J, P) Q := by
  refine c177 ?_
  rw [am_b_t ⟨nI_pos' (by omega), nI_le (b := 4) (by omega) (by decide)⟩]
  exact k
theorem c215 {x : Int32} (k : Q (some (.int (am_b (0 ≤ x ∧ x ≤ 9)))) (S, I, J, P)) : am_ev pr (d + 1) 215 [.int x] (S, I, J, P) Q := by
  show am_wp pr (d + 1) 215 0 [(0, .int x)] [] _ _
  refine w215_0 rfl ?_
  refine w215_1 ?_
  refine w215_2 ?_
  refine w215_4 (k := c164 ?_)
  refine w215_7 (am_b_n _) ?_
  exact k
/-- memberMany -/
theorem c171 (L : am_Lay S P) (k : Q (some (.int (I 126 73))) (S, I, J, P)) : am_ev pr d 171 [.ref 124] (S, I, J, P) Q := by
  show am_wp pr d 171 0 [(0, .ref 124)] [] _ _
  refine w171_0 rfl ?_
  refine w171_1 (L.2 _ _ _ rfl) ?_
  refine w171_4 ?_
  refine w171_6 (L.sh rfl) (by decide) ?_
  refine w171_7 ?_
  exact k
/-- isMember -/
theorem c174 (L : am_Lay S P) {n : Nat} {x : Int32} (hn : I 126 73 = nI n) (hn7 : n ≤ 7) (k : Q (some (.int (am_b (0 ≤ x ∧ x < nI n)))) (S, I, J, P)) : am_ev pr (d + 1) 174 [.ref 124, .int x] (S, I, J, P) Q := by
  show am_wp pr (d + 1) 174 0 [(0, .ref 124), (1, .int x)] [] _ _
  have e : am_b (0 ≤ x ∧ x ≤ nI n - 1) = am_b (0 ≤ x ∧ x < nI n) := by
    have h1 := am_nm1 hn7
    have h2 : (nI n).toInt = (n : Int) := nI_toInt (by omega)
    unfold am_b
    simp only [Int32.lt_iff_toInt_lt, Int32.le_iff_toInt_le, h1, h2, Int.le_sub_one_iff]
  refine w174_0 rfl ?_
  refine w174_1 ?_
  refine w174_2 rfl ?_
  refine w174_3 (k := c171 L ?_)
  rw [hn]
  refine w174_6 ?_
  refine w174_7 ?_
  refine w174_8 (k := c164 ?_)
  rw [e]
  refine w174_11 (am_b_n _) ?_
  exact k
/-- wantAt -/
theorem c175 (L : am_Lay S P) {m b : Nat} (hm : m < 7) (hb : b < 5) (k : Q (some (.int (I 126 (m * 5 + b)))) (S, I, J, P)) : am_ev pr d 175 [.ref 124, .int (nI m), .int (nI b)] (S, I, J, P) Q := by
  show am_wp pr d 175 0 [(0, .ref 124), (1, .int (nI m)), (2, .int (nI b))] [] _ _
  refine w175_0 rfl ?_
  refine w175_1 (L.2 _ _ _ rfl) ?_
  refine w175_4 ?_
  refine w175_5 ?_
  refine w175_6 rfl ?_
  refine w175_7 ?_
  refine w175_8 ?_
  refine w175_9 rfl ?_
  refine w175_10 ?_
  refine w175_11 (L.sh rfl) (am_inw hm hb) ?_
  rw [am_clw hm hb]
  refine w175_12 ?_
  exact k
/-- isStanding -/
theorem c181 (L : am_Lay S P) {b : Nat} (k : Q (some (.int (am_b (am_bit (I 126 42) b = 1)))) (S, I, J, P)) : am_ev pr (d + 1) 181 [.ref 124, .int (nI b)] (S, I, J, P) Q := by
  show am_wp pr (d + 1) 181 0 [(0, .ref 124), (1, .int (nI b))] [] _ _
  refine w181_0 rfl ?_
  refine w181_1 (L.2 _ _ _ rfl) ?_
  refine w181_4 ?_
  refine w181_6 (L.sh rfl) (by decide) ?_
  refine w181_7 rfl ?_
  refine w181_8 (k := c182 ?_)
  refine w181_11 (am_b_n _) ?_
  exact k
/-- canMember -/
theorem c170 {x y : Int32} (k : Q (some (.int (am_b (1 ≤ x ∧ x ≤ 9 ∧ 0 ≤ y ∧ y ≤ 3)))) (S, I, J, P)) : am_ev pr (d + 1) 170 [.int x, .int y] (S, I, J, P) Q := by
  show am_wp pr (d + 1) 170 0 [(0, .int x), (1, .int y)] [] _ _
  refine w170_0 rfl ?_
  refine w170_1 ?_
  refine w170_2 ?_
  refine w170_4 (k := c164 ?_)
  refine w170_7 (fun h7 => ?_) (fun h7 => ?_)
  · refine w170_23 ?_
    refine w170_24 (by first | rfl | exact am_narrow_b _) ?_
    simp only [am_b_0, Decidable.not_not] at *
    first | exact am_kt k (by simp only [Int32.lt_iff_toInt_lt, Int32.le_iff_toInt_le, ← Int32.toInt_inj, am_z0, am_z1, am_z2, am_z3, am_z4, am_z5, am_z6, am_z7, am_z8, am_z9, am_z10, am_z12, am_z16, am_z20, am_z99, am_z999, am_zm1, am_zo4, am_zo5, am_zo7] at *; omega) | exact am_kf k (by simp only [Int32.lt_iff_toInt_lt, Int32.le_iff_toInt_le, ← Int32.toInt_inj, am_z0, am_z1, am_z2, am_z3, am_z4, am_z5, am_z6, am_z7, am_z8, am_z9, am_z10, am_z12, am_z16, am_z20, am_z99, am_z999, am_zm1, am_zo4, am_zo5, am_zo7] at *; omega)
  · refine w170_10 rfl ?_
    refine w170_11 ?_
    refine w170_12 ?_
    refine w170_13 (k := c164 ?_)
    refine w170_16 (fun h16 => ?_) (fun h16 => ?_)
    · refine w170_23 ?_
      refine w170_24 (by first | rfl | exact am_narrow_b _) ?_
      simp only [am_b_0, Decidable.not_not] at *
      first | exact am_kt k (by simp only [Int32.lt_iff_toInt_lt, Int32.le_iff_toInt_le, ← Int32.toInt_inj, am_z0, am_z1, am_z2, am_z3, am_z4, am_z5, am_z6, am_z7, am_z8, am_z9, am_z10, am_z12, am_z16, am_z20, am_z99, am_z999, am_zm1, am_zo4, am_zo5, am_zo7] at *; omega) | exact am_kf k (by simp only [Int32.lt_iff_toInt_lt, Int32.le_iff_toInt_le, ← Int32.toInt_inj, am_z0, am_z1, am_z2, am_z3, am_z4, am_z5, am_z6, am_z7, am_z8, am_z9, am_z10, am_z12, am_z16, am_z20, am_z99, am_z999, am_zm1, am_zo4, am_zo5, am_zo7] at *; omega)
    · refine w170_19 ?_
      refine w170_20 ?_
      refine w170_24 (by first | rfl | exact am_narrow_b _) ?_
      simp only [am_b_0, Decidable.not_not] at *
      first | exact am_kt k (by simp only [Int32.lt_iff_toInt_lt, Int32.le_iff_toInt_le, ← Int32.toInt_inj, am_z0, am_z1, am_z2, am_z3, am_z4, am_z5, am_z6, am_z7, am_z8, am_z9, am_z10, am_z12, am_z16, am_z20, am_z99, am_z999, am_zm1, am_zo4, am_zo5, am_zo7] at *; omega) | exact am_kf k (by simp only [Int32.lt_iff_toInt_lt, Int32.le_iff_toInt_le, ← Int32.toInt_inj, am_z0, am_z1, am_z2, am_z3, am_z4, am_z5, am_z6, am_z7, am_z8, am_z9, am_z10, am_z12, am_z16, am_z20, am_z99, am_z999, am_zm1, am_zo4, am_zo5, am_zo7] at *; omega)
/-- good, settled, refuses -/
theorem c166 (L : am_Lay S P) {x : Int32} (k : Q (some (.int x)) (S, am_u I 124 0 0, J, P)) : am_ev pr d 166 [.ref 124, .int x] (S, I, J, P) Q := by
  show am_wp pr d 166 0 [(0, .ref 124), (1, .int x)] [] _ _
  refine w166_0 rfl ?_
  refine w166_1 ?_
  refine w166_2 ?_
  refine w166_5 rfl ?_
  refine w166_6 ?_
  exact k
theorem c168 (L : am_Lay S P) {x : Int32} (k : Q (some (.int x)) (S, am_u (am_u I 124 35 0) 124 0 0, J, P)) : am_ev pr (d + 1) 168 [.ref 124, .int x] (S, I, J, P) Q := by
  show am_wp pr (d + 1) 168 0 [(0, .ref 124), (1, .int x)] [] _ _
  refine w168_0 rfl ?_
  refine w168_1 ?_
  refine w168_2 ?_
  refine w168_5 rfl ?_
  refine w168_6 rfl ?_
  refine w168_7 (k := c166 L ?_)
  refine w168_10 ?_
  exact k
theorem c165 (L : am_Lay S P) {x : Int32} (hx : 0 ≤ -x ∧ -x < 7) (k : Q (some (.int x)) (S, am_u (am_u I 124 0 x) 125 (-x).toNatClampNeg (am_u I 124 0 x 125 (-x).toNatClampNeg + 1), J, P)) : am_ev pr d 165 [.ref 124, .int x] (S, I, J, P) Q := by
  have hi : am_in (-x) 7 = true := am_in_int (by have := hx.1; rw [Int32.le_iff_toInt_le] at this; exact this) (by have := hx.2; rw [Int32.lt_iff_toInt_lt] at this; exact this)
  show am_wp pr d 165 0 [(0, .ref 124), (1, .int x)] [] _ _
  refine w165_0 rfl ?_
  refine w165_1 rfl ?_
  refine w165_2 ?_
  refine w165_5 rfl ?_
  refine w165_6 (L.2 _ _ _ rfl) ?_
  refine w165_9 rfl ?_
  refine w165_10 ?_
  refine w165_11 ⟨rfl, rfl⟩ ?_
  refine w165_12 (L.sh rfl) hi ?_
  refine w165_13 ?_
  refine w165_14 ?_
  refine w165_15 (L.sh rfl) hi ?_
  refine w165_16 rfl ?_
  refine w165_17 ?_
  exact k
theorem c251 (L : am_Lay S P) {x : Int32} (hx : -7 < x) (k1 : x < 0 → Q (some (.int x)) (S, am_u (am_u I 124 0 x) 125 (-x).toNatClampNeg (am_u I 124 0 x 125 (-x).toNatClampNeg + 1), J, P)) (k2 : ¬ x < 0 → Q (some (.int x)) (S, am_u I 124 0 0, J, P)) : am_ev pr (d + 1) 251 [.ref 124, .int x] (S, I, J, P) Q := by
  show am_wp pr (d + 1) 251 0 [(0, .ref 124), (1, .int x)] [] _ _
  refine w251_0 rfl ?_
  refine w251_1 (fun h1 => ?_) (fun h1 => ?_)
  · refine w251_12 rfl ?_
    refine w251_13 rfl ?_
    refine w251_14 (k := c166 L ?_)
    refine w251_17 ?_
    first | exact k1 h1 | exact k2 (Int32.not_lt.mpr h1)
  · replace h1 := Int32.not_le.mp h1
    refine w251_4 rfl ?_
    refine w251_5 rfl ?_
    refine w251_6 (k := c165 L (am_neg6 h1 hx) ?_)
    refine w251_9 ?_
    refine w251_17 ?_
    first | exact k1 h1 | exact k2 (Int32.not_lt.mpr h1)
/-- everybody -/
theorem c200 (L : am_Lay S P) (k : Q (some (.int (1 <<< (I 126 73 &&& 31) - 1))) (S, I, J, P)) : am_ev pr (d + 1) 200 [.ref 124] (S, I, J, P) Q := by
  show am_wp pr (d + 1) 200 0 [(0, .ref 124)] [] _ _
  refine w200_0 ?_
  refine w200_1 rfl ?_
  refine w200_2 (k := c171 L ?_)
  refine w200_5 ?_
  refine w200_6 ?_
  refine w200_7 ?_
  refine w200_8 ?_
  exact k
/-- isOn, isFor -/
theorem c197 (L : am_Lay S P) {m b : Nat} (hm : m < 7) (hb : b < 5) (k : Q (some (.int (am_b (m_on (I 126) (I 140) m b)))) (S, I, J, P)) : am_ev pr d 197 [.ref 124, .int (nI m), .int (nI b)] (S, I, J, P) Q := by
  show am_wp pr d 197 0 [(0, .ref 124), (1, .int (nI m)), (2, .int (nI b))] [] _ _
  refine w197_0 rfl ?_
  refine w197_1 (L.2 _ _ _ rfl) ?_
  refine w197_4 ?_
  refine w197_6 rfl ?_
  refine w197_7 ?_
  refine w197_8 (L.sh rfl) (am_in35 hm) ?_
  rw [am_cl35 hm]
  refine w197_9 ?_
  refine w197_10 (fun h10 => ?_) (fun h10 => ?_)
  · refine w197_30 ?_
    refine w197_31 (by first | rfl | exact am_narrow_b _) ?_
    first | exact am_kt k ⟨h10, h23⟩ | exact am_kf k (fun z => h10 z.1) | exact am_kf k (fun z => h23 z.2)
  · replace h10 := Decidable.not_not.mp h10
    refine w197_13 rfl ?_
    refine w197_14 (L.2 _ _ _ rfl) ?_
    refine w197_17 ?_
    refine w197_18 rfl ?_
    refine w197_19 ?_
    refine w197_20 rfl ?_
    refine w197_21 ?_
    refine w197_22Z (L.sh rfl) (am_inb' hm hb) ?_
    rw [am_clb' hm hb]
    refine w197_23 (fun h23 => ?_) (fun h23 => ?_)
    · refine w197_30 ?_
      refine w197_31 (by first | rfl | exact am_narrow_b _) ?_
      first | exact am_kt k ⟨h10, h23⟩ | exact am_kf k (fun z => h10 z.1) | exact am_kf k (fun z => h23 z.2)
    · replace h23 := Decidable.not_not.mp h23
      refine w197_26 ?_
      refine w197_27 ?_
      refine w197_31 (by first | rfl | exact am_narrow_b _) ?_
      first | exact am_kt k ⟨h10, h23⟩ | exact am_kf k (fun z => h10 z.1) | exact am_kf k (fun z => h23 z.2)
theorem c198 (L : am_Lay S P) {m b : Nat} (hm : m < 7) (hb : b < 5) (k : Q (some (.int (am_b (m_on (I 126) (I 140) m b ∧ 5 ≤ I 139 (m * 5 + b))))) (S, I, J, P)) : am_ev pr (d + 1) 198 [.ref 124, .int (nI m), .int (nI b)] (S, I, J, P) Q := by
  show am_wp pr (d + 1) 198 0 [(0, .ref 124), (1, .int (nI m)), (2, .int (nI b))] [] _ _
  refine w198_0 rfl ?_
  refine w198_1 rfl ?_
  refine w198_2 rfl ?_
  refine w198_3 (k := c197 L hm hb ?_)
  refine w198_6 (fun h6 => ?_) (fun h6 => ?_)
  · refine w198_27 ?_
    refine w198_28 (by first | rfl | exact am_narrow_b _) ?_
    first | exact am_kf k (fun z => (am_b_0 _).mp h6 z.1) | exact am_kf k (fun z => absurd z.2 (Int32.not_le.mpr h20)) | exact am_kt k ⟨Decidable.not_not.mp (fun z => h6 ((am_b_0 _).mpr z)), h20⟩
  · refine w198_9 rfl ?_
    refine w198_10 (L.2 _ _ _ rfl) ?_
    refine w198_13 ?_
    refine w198_14 rfl ?_
    refine w198_15 ?_
    refine w198_16 rfl ?_
    refine w198_17 ?_
    refine w198_18 (L.sh rfl) (am_inb' hm hb) ?_
    rw [am_clb' hm hb]
    refine w198_19 ?_
    refine w198_20 (fun h20 => ?_) (fun h20 => ?_)
    · refine w198_27 ?_
      refine w198_28 (by first | rfl | exact am_narrow_b _) ?_
      first | exact am_kf k (fun z => (am_b_0 _).mp h6 z.1) | exact am_kf k (fun z => absurd z.2 (Int32.not_le.mpr h20)) | exact am_kt k ⟨Decidable.not_not.mp (fun z => h6 ((am_b_0 _).mpr z)), h20⟩
    · replace h20 := Int32.not_lt.mp h20
      refine w198_23 ?_
      refine w198_24 ?_
      refine w198_28 (by first | rfl | exact am_narrow_b _) ?_
      first | exact am_kf k (fun z => (am_b_0 _).mp h6 z.1) | exact am_kf k (fun z => absurd z.2 (Int32.not_le.mpr h20)) | exact am_kt k ⟨Decidable.not_not.mp (fun z => h6 ((am_b_0 _).mpr z)), h20⟩
/-- onOf -/
theorem c204 (L : am_Lay S P) {n b : Nat} {set : Int32} (hn : I 126 73 = nI n) (hn7 : n ≤ 7) (hb : b < 5) (k : Q (some (.int (m_of (I 126) (I 140) n b set))) (S, I, J, P)) : am_ev pr (d + 1) 204 [.ref 124, .int (nI b), .int set] (S, I, J, P) Q := by
  show am_wp pr (d + 1) 204 0 [(0, .ref 124), (1, .int (nI b)), (2, .int set)] [] _ _
  refine w204_0 ?_
  refine w204_1 ?_
  refine w204_2 ?_
  refine w204_3 ?_
  refine am_loop (fun m acc => acc ||| (if am_bit set m = 1 ∧ m_on (I 126) (I 140) m b then 1 <<< (nI m &&& 31) else 0)) (fun m acc => ∀ lv, am_ld1 lv 0 = some (.ref 124) → am_ld1 lv 1 = some (.int (nI b)) → am_ld1 lv 2 = some (.int set) → am_ld1 lv 3 = some (.int acc) → am_ld1 lv 4 = some (.int (nI m)) → am_wp pr (d + 1) 204 5 lv [] (S, I, J, P) Q) n ?_ 0 ?_ _ rfl rfl rfl rfl rfl
  · intro m acc hm ih lv l0 l1 l2 l3 l4
    have hm7 : m < 7 := by omega
    refine w204_5 l4 ?_
    refine w204_7 l0 ?_
    refine w204_8 (k := c171 L ?_)
    rw [hn]
    refine w204_11 (fun h => absurd h (am_nlt hm (by omega))) (fun _ => ?_)
    refine w204_14 l3 ?_
    refine w204_15 l2 ?_
    refine w204_16 l4 ?_
    refine w204_18 (k := c182 ?_)
    refine w204_21 (fun h21 => ?_) (fun h21 => ?_)
    · refine w204_41 ?_
      refine w204_42 ?_
      refine w204_43 ?_
      refine w204_44 l4 ?_
      refine w204_47 ?_
      first | (rw [if_pos ⟨(am_b_1 h21), (am_b_1 h31)⟩] at ih; exact ih _ l0 l1 l2 rfl (am_nx m)) | (rw [if_neg (fun z => (am_b_0 _).mp h31 z.2)] at ih; exact ih _ l0 l1 l2 rfl (am_nx m)) | (rw [if_neg (fun z => (am_b_0 _).mp h21 z.1)] at ih; exact ih _ l0 l1 l2 rfl (am_nx m))
    · refine w204_24 l0 ?_
      refine w204_25 l4 ?_
      refine w204_27 l1 ?_
      refine w204_28 (k := c197 L hm7 hb ?_)
      refine w204_31 (fun h31 => ?_) (fun h31 => ?_)
      · refine w204_41 ?_
        refine w204_42 ?_
        refine w204_43 ?_
        refine w204_44 l4 ?_
        refine w204_47 ?_
        first | (rw [if_pos ⟨(am_b_1 h21), (am_b_1 h31)⟩] at ih; exact ih _ l0 l1 l2 rfl (am_nx m)) | (rw [if_neg (fun z => (am_b_0 _).mp h31 z.2)] at ih; exact ih _ l0 l1 l2 rfl (am_nx m)) | (rw [if_neg (fun z => (am_b_0 _).mp h21 z.1)] at ih; exact ih _ l0 l1 l2 rfl (am_nx m))
      · refine w204_34 ?_
        refine w204_35 l4 ?_
        refine w204_37 ?_
        refine w204_38 ?_
        refine w204_42 ?_
        refine w204_43 ?_
        refine w204_44 l4 ?_
        refine w204_47 ?_
        first | (rw [if_pos ⟨(am_b_1 h21), (am_b_1 h31)⟩] at ih; exact ih _ l0 l1 l2 rfl (am_nx m)) | (rw [if_neg (fun z => (am_b_0 _).mp h31 z.2)] at ih; exact ih _ l0 l1 l2 rfl (am_nx m)) | (rw [if_neg (fun z => (am_b_0 _).mp h21 z.1)] at ih; exact ih _ l0 l1 l2 rfl (am_nx m))
  · intro lv l0 l1 l2 l3 l4
    refine w204_5 l4 ?_
    refine w204_7 l0 ?_
    refine w204_8 (k := c171 L ?_)
    rw [hn]
    refine w204_11 (fun _ => ?_) (fun h => absurd (Int32.le_refl _) h)
    refine w204_50 l3 ?_
    refine w204_51 ?_
    exact k
/-- voicesOf -/
theorem c202 (L : am_Lay S P) {n b : Nat} {set : Int32} (hn : I 126 73 = nI n) (hn7 : n ≤ 7) (hb : b < 5) (k : Q (some (.int (m_vo (I 138) n b set))) (S, I, J, P)) : am_ev pr (d + 1) 202 [.ref 124, .int (nI b), .int set] (S, I, J, P) Q := by
  show am_wp pr (d + 1) 202 0 [(0, .ref 124), (1, .int (nI b)), (2, .int set)] [] _ _
  refine w202_0 ?_
  refine w202_1 ?_
  refine w202_2 ?_
  refine w202_3 ?_
  refine am_loop (fun m acc => acc + (if am_bit set m = 1 then I 138 (m * 5 + b) else 0)) (fun m acc => ∀ lv, am_ld1 lv 0 = some (.ref 124) → am_ld1 lv 1 = some (.int (nI b)) → am_ld1 lv 2 = some (.int set) → am_ld1 lv 3 = some (.int acc) → am_ld1 lv 4 = some (.int (nI m)) → am_wp pr (d + 1) 202 5 lv [] (S, I, J, P) Q) n ?_ 0 ?_ _ rfl rfl rfl rfl rfl
  · intro m acc hm ih lv l0 l1 l2 l3 l4
    have hm7 : m < 7 := by omega
    refine w202_5 l4 ?_
    refine w202_7 l0 ?_
    refine w202_8 (k := c171 L ?_)
    rw [hn]
    refine w202_11 (fun h => absurd h (am_nlt hm (by omega))) (fun _ => ?_)
    refine w202_14 l3 ?_
    refine w202_15 l2 ?_
    refine w202_16 l4 ?_
    refine w202_18 (k := c182 ?_)
    refine w202_21 (fun h21 => ?_) (fun h21 => ?_)
    · refine w202_38 ?_
      refine w202_39 ?_
      refine w202_40 ?_
      refine w202_41 l4 ?_
      refine w202_44 ?_
      first | (rw [if_pos (am_b_1 h21)] at ih; exact ih _ l0 l1 l2 rfl (am_nx m)) | (rw [if_neg ((am_b_0 _).mp h21)] at ih; exact ih _ l0 l1 l2 rfl (am_nx m))
    · refine w202_24 l0 ?_
      refine w202_25 (L.2 _ _ _ rfl) ?_
      refine w202_28 ?_
      refine w202_29 l4 ?_
      refine w202_31 ?_
      refine w202_32 l1 ?_
      refine w202_33 ?_
      refine w202_34 (L.sh rfl) (am_inb' hm7 hb) ?_
      rw [am_clb' hm7 hb]
      refine w202_35 ?_
      refine w202_39 ?_
      refine w202_40 ?_
      refine w202_41 l4 ?_
      refine w202_44 ?_
      first | (rw [if_pos (am_b_1 h21)] at ih; exact ih _ l0 l1 l2 rfl (am_nx m)) | (rw [if_neg ((am_b_0 _).mp h21)] at ih; exact ih _ l0 l1 l2 rfl (am_nx m))
  · intro lv l0 l1 l2 l3 l4
    refine w202_5 l4 ?_
    refine w202_7 l0 ?_
    refine w202_8 (k := c171 L ?_)
    rw [hn]
    refine w202_11 (fun _ => ?_) (fun h => absurd (Int32.le_refl _) h)
    refine w202_47 l3 ?_
    refine w202_48 ?_
    exact k
theorem c203 (L : am_Lay S P) {n b : Nat} {set : Int32} (hn : I 126 73 = nI n) (hn7 : n ≤ 7) (hb : b < 5) (k : Q (some (.int (m_vo (I 138) n b (m_of (I 126) (I 140) n b set)))) (S, I, J, P)) : am_ev pr (d + 2) 203 [.ref 124, .int (nI b), .int set] (S, I, J, P) Q := by
  show am_wp pr (d + 2) 203 0 [(0, .ref 124), (1, .int (nI b)), (2, .int set)] [] _ _
  refine w203_0 rfl ?_
  refine w203_1 rfl ?_
  refine w203_2 rfl ?_
  refine w203_3 rfl ?_
  refine w203_4 rfl ?_
  refine w203_5 (k := c204 L hn hn7 hb ?_)
  refine w203_8 (k := c202 L hn hn7 hb ?_)
  refine w203_11 ?_
  exact k
/-- voicesFor -/
theorem c201 (L : am_Lay S P) {n b : Nat} {set : Int32} (hn : I 126 73 = nI n) (hn7 : n ≤ 7) (hb : b < 5) (k : Q (some (.int (m_vo (I 138) n b (m_fa (I 126) (I 140) (I 139) n b set)))) (S, I, J, P)) : am_ev pr (d + 2) 201 [.ref 124, .int (nI b), .int set] (S, I, J, P) Q := by
  show am_wp pr (d + 2) 201 0 [(0, .ref 124), (1, .int (nI b)), (2, .int set)] [] _ _
  refine w201_0 ?_
  refine w201_1 ?_
  refine w201_2 ?_
  refine w201_3 ?_
  refine am_loop (fun m acc => acc ||| (if am_bit set m = 1 ∧ m_on (I 126) (I 140) m b ∧ 5 ≤ I 139 (m * 5 + b) then 1 <<< (nI m &&& 31) else 0)) (fun m acc => ∀ lv, am_ld1 lv 0 = some (.ref 124) → am_ld1 lv 1 = some (.int (nI b)) → am_ld1 lv 2 = some (.int set) → am_ld1 lv 3 = some (.int acc) → am_ld1 lv 4 = some (.int (nI m)) → am_wp pr (d + 2) 201 5 lv [] (S, I, J, P) Q) n ?_ 0 ?_ _ rfl rfl rfl rfl rfl
  · intro m acc hm ih lv l0 l1 l2 l3 l4
    have hm7 : m < 7 := by omega
    refine w201_5 l4 ?_
    refine w201_7 l0 ?_
    refine w201_8 (k := c171 L ?_)
    rw [hn]
    refine w201_11 (fun h => absurd h (am_nlt hm (by omega))) (fun _ => ?_)
    refine w201_14 l3 ?_
    refine w201_15 l2 ?_
    refine w201_16 l4 ?_
    refine w201_18 (k := c182 ?_)
    refine w201_21 (fun h21 => ?_) (fun h21 => ?_)
    · refine w201_41 ?_
      refine w201_42 ?_
      refine w201_43 ?_
      refine w201_44 l4 ?_
      refine w201_47 ?_
      first | (rw [if_pos ⟨(am_b_1 h21), (am_b_1 h31)⟩] at ih; exact ih _ l0 l1 l2 rfl (am_nx m)) | (rw [if_neg (fun z => (am_b_0 _).mp h31 z.2)] at ih; exact ih _ l0 l1 l2 rfl (am_nx m)) | (rw [if_neg (fun z => (am_b_0 _).mp h21 z.1)] at ih; exact ih _ l0 l1 l2 rfl (am_nx m))
    · refine w201_24 l0 ?_
      refine w201_25 l4 ?_
      refine w201_27 l1 ?_
      refine w201_28 (k := c198 L hm7 hb ?_)
      refine w201_31 (fun h31 => ?_) (fun h31 => ?_)
      · refine w201_41 ?_
        refine w201_42 ?_
        refine w201_43 ?_
        refine w201_44 l4 ?_
        refine w201_47 ?_
        first | (rw [if_pos ⟨(am_b_1 h21), (am_b_1 h31)⟩] at ih; exact ih _ l0 l1 l2 rfl (am_nx m)) | (rw [if_neg (fun z => (am_b_0 _).mp h31 z.2)] at ih; exact ih _ l0 l1 l2 rfl (am_nx m)) | (rw [if_neg (fun z => (am_b_0 _).mp h21 z.1)] at ih; exact ih _ l0 l1 l2 rfl (am_nx m))
      · refine w201_34 ?_
        refine w201_35 l4 ?_
        refine w201_37 ?_
        refine w201_38 ?_
        refine w201_42 ?_
        refine w201_43 ?_
        refine w201_44 l4 ?_
        refine w201_47 ?_
        first | (rw [if_pos ⟨(am_b_1 h21), (am_b_1 h31)⟩] at ih; exact ih _ l0 l1 l2 rfl (am_nx m)) | (rw [if_neg (fun z => (am_b_0 _).mp h31 z.2)] at ih; exact ih _ l0 l1 l2 rfl (am_nx m)) | (rw [if_neg (fun z => (am_b_0 _).mp h21 z.1)] at ih; exact ih _ l0 l1 l2 rfl (am_nx m))
  · intro lv l0 l1 l2 l3 l4
    refine w201_5 l4 ?_
    refine w201_7 l0 ?_
    refine w201_8 (k := c171 L ?_)
    rw [hn]
    refine w201_11 (fun _ => ?_) (fun h => absurd (Int32.le_refl _) h)
    refine w201_50 l0 ?_
    refine w201_51 l1 ?_
    refine w201_52 l3 ?_
    refine w201_53 (k := c202 L hn hn7 hb ?_)
    refine w201_56 ?_
    exact k
/-- needed, carries -/
theorem c205 (L : am_Lay S P) {n b : Nat} {set : Int32} (hn : I 126 73 = nI n) (hn7 : n ≤ 7) (hb : b < 5) (k : Q (some (.int (t_nd (I 126 72) (m_vo (I 138) n b (m_of (I 126) (I 140) n b set))))) (S, I, J, P)) : am_ev pr (d + 3) 205 [.ref 124, .int (nI b), .int set] (S, I, J, P) Q := by
  show am_wp pr (d + 3) 205 0 [(0, .ref 124), (1, .int (nI b)), (2, .int set)] [] _ _
  unfold t_nd at k
  refine w205_0 rfl ?_
  refine w205_1 (L.2 _ _ _ rfl) ?_
  refine w205_4 ?_
  refine w205_6 (L.sh rfl) (by decide) ?_
  rw [show (72 : Int32).toNatClampNeg = 72 from rfl]
  refine w205_7 (fun h7 => ?_) (fun h7 => ?_)
  · refine w205_20 rfl ?_
    refine w205_21 rfl ?_
    refine w205_22 rfl ?_
    refine w205_23 (k := c203 L hn hn7 hb ?_)
    refine w205_26 ?_
    refine w205_27 (by decide) ?_
    refine w205_28 ?_
    refine w205_29 ?_
    refine w205_30 ?_
    first | (rw [if_pos h7] at k; exact k) | (rw [if_neg (Int32.not_lt.mpr h7)] at k; exact k)
  · replace h7 := Int32.not_le.mp h7
    refine w205_10 rfl ?_
    refine w205_11 (L.2 _ _ _ rfl) ?_
    refine w205_14 ?_
    refine w205_16 (L.sh rfl) (by decide) ?_
    refine w205_17 ?_
    refine w205_30 ?_
    first | (rw [if_pos h7] at k; exact k) | (rw [if_neg (Int32.not_lt.mpr h7)] at k; exact k)
theorem c206 (L : am_Lay S P) {n b : Nat} {set : Int32} (hn : I 126 73 = nI n) (hn7 : n ≤ 7) (hb : b < 5) (k : Q (some (.int (am_b (t_nd (I 126 72) (m_vo (I 138) n b (m_of (I 126) (I 140) n b set)) ≤ m_vo (I 138) n b (m_fa (I 126) (I 140) (I 139) n b set))))) (S, I, J, P)) : am_ev pr (d + 4) 206 [.ref 124, .int (nI b), .int set] (S, I, J, P) Q := by
  show am_wp pr (d + 4) 206 0 [(0, .ref 124), (1, .int (nI b)), (2, .int set)] [] _ _
  refine w206_0 rfl ?_
  refine w206_1 rfl ?_
  refine w206_2 rfl ?_
  refine w206_3 (k := c201 L hn hn7 hb ?_)
  refine w206_6 rfl ?_
  refine w206_7 rfl ?_
  refine w206_8 rfl ?_
  refine w206_9 (k := c205 L hn hn7 hb ?_)
  refine w206_12 (fun h12 => ?_) (fun h12 => ?_)
  · refine w206_19 ?_
    refine w206_20 (by first | rfl | exact am_narrow_b _) ?_
    first | exact am_kt k h12 | exact am_kf k (Int32.not_le.mpr h12)
  · replace h12 := Int32.not_lt.mp h12
    refine w206_15 ?_
    refine w206_16 ?_
    refine w206_20 (by first | rfl | exact am_narrow_b _) ?_
    first | exact am_kt k h12 | exact am_kf k (Int32.not_le.mpr h12)
/-- lessThan, givenBy, pointsOf -/
theorem c209 (L : am_Lay S P) {m b : Nat} (hm : m < 7) (hb : b < 5) (k : Q (some (.int (t_rk (I 139) m b))) (S, I, J, P)) : am_ev pr d 209 [.ref 124, .int (nI m), .int (nI b)] (S, I, J, P) Q := by
  show am_wp pr d 209 0 [(0, .ref 124), (1, .int (nI m)), (2, .int (nI b))] [] _ _
  refine w209_0 ?_
  refine w209_1 ?_
  refine w209_2 ?_
  refine w209_3 ?_
  refine am_loop (fun j acc => acc + (if I 139 (m * 5 + j) < I 139 (m * 5 + b) then 1 else 0)) (fun j acc => ∀ lv, am_ld1 lv 0 = some (.ref 124) → am_ld1 lv 1 = some (.int (nI m)) → am_ld1 lv 2 = some (.int (nI b)) → am_ld1 lv 3 = some (.int acc) → am_ld1 lv 4 = some (.int (nI j)) → am_wp pr (d) 209 5 lv [] (S, I, J, P) Q) 5 ?_ 0 ?_ _ rfl rfl rfl rfl rfl
  · intro j acc hj ih lv l0 l1 l2 l3 l4
    refine w209_5 l4 ?_
    refine w209_7 ?_
    refine w209_8 (fun h => absurd h (am_nlt hj (by decide))) (fun _ => ?_)
    refine w209_11 l3 ?_
    refine w209_12 l0 ?_
    refine w209_13 (L.2 _ _ _ rfl) ?_
    refine w209_16 ?_
    refine w209_17 l1 ?_
    refine w209_18 ?_
    refine w209_19 l4 ?_
    refine w209_21 ?_
    refine w209_22 (L.sh rfl) (am_inb' hm hj) ?_
    rw [am_clb' hm hj]
    refine w209_23 l0 ?_
    refine w209_24 (L.2 _ _ _ rfl) ?_
    refine w209_27 ?_
    refine w209_28 l1 ?_
    refine w209_29 ?_
    refine w209_30 l2 ?_
    refine w209_31 ?_
    refine w209_32 (L.sh rfl) (am_inb' hm hb) ?_
    rw [am_clb' hm hb]
    refine w209_33 (fun h33 => ?_) (fun h33 => ?_)
    · refine w209_40 ?_
      refine w209_41 ?_
      refine w209_42 ?_
      refine w209_43 l4 ?_
      refine w209_46 ?_
      first | (rw [if_pos h33] at ih; exact ih _ l0 l1 l2 rfl (am_nx j)) | (rw [if_neg (Int32.not_lt.mpr h33)] at ih; exact ih _ l0 l1 l2 rfl (am_nx j))
    · replace h33 := Int32.not_le.mp h33
      refine w209_36 ?_
      refine w209_37 ?_
      refine w209_41 ?_
      refine w209_42 ?_
      refine w209_43 l4 ?_
      refine w209_46 ?_
      first | (rw [if_pos h33] at ih; exact ih _ l0 l1 l2 rfl (am_nx j)) | (rw [if_neg (Int32.not_lt.mpr h33)] at ih; exact ih _ l0 l1 l2 rfl (am_nx j))
  · intro lv l0 l1 l2 l3 l4
    refine w209_5 l4 ?_
    refine w209_7 ?_
    refine w209_8 (fun _ => ?_) (fun h => absurd (Int32.le_refl _) h)
    refine w209_49 l3 ?_
    refine w209_50 ?_
    exact k
theorem c208 (L : am_Lay S P) {m b : Nat} (hm : m < 7) (hb : b < 5) (k : Q (some (.int (m_gv (I 126) (I 140) (I 138) (I 139) m b))) (S, I, J, P)) : am_ev pr (d + 1) 208 [.ref 124, .int (nI m), .int (nI b)] (S, I, J, P) Q := by
  show am_wp pr (d + 1) 208 0 [(0, .ref 124), (1, .int (nI m)), (2, .int (nI b))] [] _ _
  unfold m_gv at k
  refine w208_0 rfl ?_
  refine w208_1 rfl ?_
  refine w208_2 rfl ?_
  refine w208_3 (k := c197 L hm hb ?_)
  refine w208_6 (fun h6 => ?_) (fun h6 => ?_)
  · refine w208_29 ?_
    refine w208_30 ?_
    first | (rw [if_pos (am_b_1 h6)] at k; exact k) | (rw [if_neg ((am_b_0 _).mp h6)] at k; exact k)
  · refine w208_9 rfl ?_
    refine w208_10 rfl ?_
    refine w208_11 rfl ?_
    refine w208_12 (k := c209 L hm hb ?_)
    refine w208_15 rfl ?_
    refine w208_16 (L.2 _ _ _ rfl) ?_
    refine w208_19 ?_
    refine w208_20 rfl ?_
    refine w208_21 ?_
    refine w208_22 rfl ?_
    refine w208_23 ?_
    refine w208_24 (L.sh rfl) (am_inb' hm hb) ?_
    rw [am_clb' hm hb]
    refine w208_25 ?_
    refine w208_26 ?_
    refine w208_30 ?_
    first | (rw [if_pos (am_b_1 h6)] at k; exact k) | (rw [if_neg ((am_b_0 _).mp h6)] at k; exact k)
theorem c207 (L : am_Lay S P) {n b : Nat} (hn : I 126 73 = nI n) (hn7 : n ≤ 7) (hb : b < 5) (k : Q (some (.int (m_pt (I 126) (I 140) (I 138) (I 139) n b))) (S, I, J, P)) : am_ev pr (d + 2) 207 [.ref 124, .int (nI b)] (S, I, J, P) Q := by
  show am_wp pr (d + 2) 207 0 [(0, .ref 124), (1, .int (nI b))] [] _ _
  refine w207_0 ?_
  refine w207_1 ?_
  refine w207_2 ?_
  refine w207_3 ?_
  refine am_loop (fun m acc => acc + m_gv (I 126) (I 140) (I 138) (I 139) m b) (fun m acc => ∀ lv, am_ld1 lv 0 = some (.ref 124) → am_ld1 lv 1 = some (.int (nI b)) → am_ld1 lv 2 = some (.int acc) → am_ld1 lv 3 = some (.int (nI m)) → am_wp pr (d + 2) 207 4 lv [] (S, I, J, P) Q) n ?_ 0 ?_ _ rfl rfl rfl rfl
  · intro m acc hm ih lv l0 l1 l2 l3
    have hm7 : m < 7 := by omega
    refine w207_4 l3 ?_
    refine w207_5 l0 ?_
    refine w207_6 (k := c171 L ?_)
    rw [hn]
    refine w207_9 (fun h => absurd h (am_nlt hm (by omega))) (fun _ => ?_)
    refine w207_12 l2 ?_
    refine w207_13 l0 ?_
    refine w207_14 l3 ?_
    refine w207_15 l1 ?_
    refine w207_16 (k := c208 L hm7 hb ?_)
    refine w207_19 ?_
    refine w207_20 ?_
    refine w207_21 l3 ?_
    refine w207_24 ?_
    exact ih _ l0 l1 rfl (am_nx m)
  · intro lv l0 l1 l2 l3
    refine w207_4 l3 ?_
    refine w207_5 l0 ?_
    refine w207_6 (k := c171 L ?_)
    rw [hn]
    refine w207_9 (fun _ => ?_) (fun h => absurd (Int32.le_refl _) h)
    refine w207_27 l2 ?_
    refine w207_28 ?_
    exact k
/-- votesFor -/
theorem c260 (L : am_Lay S P) {n a b : Nat} (hn : I 126 73 = nI n) (hn7 : n ≤ 7) (ha : a < 5) (hb : b < 5) (k : Q (some (.int (m_va (I 126) (I 140) (I 138) (I 139) n a b))) (S, I, J, P)) : am_ev pr (d + 1) 260 [.ref 124, .int (nI a), .int (nI b)] (S, I, J, P) Q := by
  show am_wp pr (d + 1) 260 0 [(0, .ref 124), (1, .int (nI a)), (2, .int (nI b))] [] _ _
  refine w260_0 ?_
  refine w260_1 ?_
  refine w260_2 ?_
  refine w260_3 ?_
  refine am_loop (fun m acc => acc + (if m_on (I 126) (I 140) m a ∧ m_on (I 126) (I 140) m b ∧ I 139 (m * 5 + b) < I 139 (m * 5 + a) then I 138 (m * 5 + a) else 0)) (fun m acc => ∀ lv, am_ld1 lv 0 = some (.ref 124) → am_ld1 lv 1 = some (.int (nI a)) → am_ld1 lv 2 = some (.int (nI b)) → am_ld1 lv 3 = some (.int acc) → am_ld1 lv 4 = some (.int (nI m)) → am_wp pr (d + 1) 260 5 lv [] (S, I, J, P) Q) n ?_ 0 ?_ _ rfl rfl rfl rfl rfl
  · intro m acc hm ih lv l0 l1 l2 l3 l4
    have hm7 : m < 7 := by omega
    refine w260_5 l4 ?_
    refine w260_7 l0 ?_
    refine w260_8 (k := c171 L ?_)
    rw [hn]
    refine w260_11 (fun h => absurd h (am_nlt hm (by omega))) (fun _ => ?_)
    refine w260_14 l3 ?_
    refine w260_15 l0 ?_
    refine w260_16 l4 ?_
    refine w260_18 l1 ?_
    refine w260_19 (k := c197 L hm7 ha ?_)
    refine w260_22 (fun h22 => ?_) (fun h22 => ?_)
    · refine w260_74 ?_
      refine w260_75 ?_
      refine w260_76 ?_
      refine w260_77 l4 ?_
      refine w260_80 ?_
      first | (rw [if_pos ⟨am_b_1 h22, am_b_1 h32, h57⟩] at ih; exact ih _ l0 l1 l2 rfl (am_nx m)) | (rw [if_neg (fun z => absurd z.2.2 (Int32.not_lt.mpr h57))] at ih; exact ih _ l0 l1 l2 rfl (am_nx m)) | (rw [if_neg (fun z => (am_b_0 _).mp h32 z.2.1)] at ih; exact ih _ l0 l1 l2 rfl (am_nx m)) | (rw [if_neg (fun z => (am_b_0 _).mp h22 z.1)] at ih; exact ih _ l0 l1 l2 rfl (am_nx m))
    · refine w260_25 l0 ?_
      refine w260_26 l4 ?_
      refine w260_28 l2 ?_
      refine w260_29 (k := c197 L hm7 hb ?_)
      refine w260_32 (fun h32 => ?_) (fun h32 => ?_)
      · refine w260_74 ?_
        refine w260_75 ?_
        refine w260_76 ?_
        refine w260_77 l4 ?_
        refine w260_80 ?_
        first | (rw [if_pos ⟨am_b_1 h22, am_b_1 h32, h57⟩] at ih; exact ih _ l0 l1 l2 rfl (am_nx m)) | (rw [if_neg (fun z => absurd z.2.2 (Int32.not_lt.mpr h57))] at ih; exact ih _ l0 l1 l2 rfl (am_nx m)) | (rw [if_neg (fun z => (am_b_0 _).mp h32 z.2.1)] at ih; exact ih _ l0 l1 l2 rfl (am_nx m)) | (rw [if_neg (fun z => (am_b_0 _).mp h22 z.1)] at ih; exact ih _ l0 l1 l2 rfl (am_nx m))
      · refine w260_35 l0 ?_
        refine w260_36 (L.2 _ _ _ rfl) ?_
        refine w260_39 ?_
        refine w260_40 l4 ?_
        refine w260_42 ?_
        refine w260_43 l1 ?_
        refine w260_44 ?_
        refine w260_45 (L.sh rfl) (am_inb' hm7 ha) ?_
        rw [am_clb' hm7 ha]
        refine w260_46 l0 ?_
        refine w260_47 (L.2 _ _ _ rfl) ?_
        refine w260_50 ?_
        refine w260_51 l4 ?_
        refine w260_53 ?_
        refine w260_54 l2 ?_
        refine w260_55 ?_
        refine w260_56 (L.sh rfl) (am_inb' hm7 hb) ?_
        rw [am_clb' hm7 hb]
        refine w260_57 (fun h57 => ?_) (fun h57 => ?_)
        · refine w260_74 ?_
          refine w260_75 ?_
          refine w260_76 ?_
          refine w260_77 l4 ?_
          refine w260_80 ?_
          first | (rw [if_pos ⟨am_b_1 h22, am_b_1 h32, h57⟩] at ih; exact ih _ l0 l1 l2 rfl (am_nx m)) | (rw [if_neg (fun z => absurd z.2.2 (Int32.not_lt.mpr h57))] at ih; exact ih _ l0 l1 l2 rfl (am_nx m)) | (rw [if_neg (fun z => (am_b_0 _).mp h32 z.2.1)] at ih; exact ih _ l0 l1 l2 rfl (am_nx m)) | (rw [if_neg (fun z => (am_b_0 _).mp h22 z.1)] at ih; exact ih _ l0 l1 l2 rfl (am_nx m))
        · replace h57 := Int32.not_le.mp h57
          refine w260_60 l0 ?_
          refine w260_61 (L.2 _ _ _ rfl) ?_
          refine w260_64 ?_
          refine w260_65 l4 ?_
          refine w260_67 ?_
          refine w260_68 l1 ?_
          refine w260_69 ?_
          refine w260_70 (L.sh rfl) (am_inb' hm7 ha) ?_
          rw [am_clb' hm7 ha]
          refine w260_71 ?_
          refine w260_75 ?_
          refine w260_76 ?_
          refine w260_77 l4 ?_
          refine w260_80 ?_
          first | (rw [if_pos ⟨am_b_1 h22, am_b_1 h32, h57⟩] at ih; exact ih _ l0 l1 l2 rfl (am_nx m)) | (rw [if_neg (fun z => absurd z.2.2 (Int32.not_lt.mpr h57))] at ih; exact ih _ l0 l1 l2 rfl (am_nx m)) | (rw [if_neg (fun z => (am_b_0 _).mp h32 z.2.1)] at ih; exact ih _ l0 l1 l2 rfl (am_nx m)) | (rw [if_neg (fun z => (am_b_0 _).mp h22 z.1)] at ih; exact ih _ l0 l1 l2 rfl (am_nx m))
  · intro lv l0 l1 l2 l3 l4
    refine w260_5 l4 ?_
    refine w260_7 l0 ?_
    refine w260_8 (k := c171 L ?_)
    rw [hn]
    refine w260_11 (fun _ => ?_) (fun h => absurd (Int32.le_refl _) h)
    refine w260_83 l3 ?_
    refine w260_84 ?_
    exact k
/-- beats -/
theorem c263 (L : am_Lay S P) {a b : Nat} (ha : a < 5) (hb : b < 5) (h01 : I 143 (a * 5 + b) = 0 ∨ I 143 (a * 5 + b) = 1) (k : Q (some (.int (I 143 (a * 5 + b)))) (S, I, J, P)) : am_ev pr d 263 [.ref 124, .int (nI a), .int (nI b)] (S, I, J, P) Q := by
  have e1 : am_in (5 * nI a + nI b) 25 = true := by rw [am_seat']; exact am_in_nI (by omega) (by decide)
  have e2 : (5 * nI a + nI b).toNatClampNeg = a * 5 + b := am_clb' (by omega) hb
  have e3 : narrow .boolean (.int (I 143 (a * 5 + b))) = .int (I 143 (a * 5 + b)) := by rcases h01 with h | h <;> rw [h] <;> rfl
  show am_wp pr d 263 0 [(0, .ref 124), (1, .int (nI a)), (2, .int (nI b))] [] _ _
  refine w263_0 rfl ?_
  refine w263_1 (L.2 _ _ _ rfl) ?_
  refine w263_4 ?_
  refine w263_5 rfl ?_
  refine w263_6 ?_
  refine w263_7 rfl ?_
  refine w263_8 ?_
  refine w263_9Z (L.sh rfl) e1 ?_
  rw [e2]
  refine w263_10 e3 ?_
  exact k
/-- wouldVote -/
theorem c284 (L : am_Lay S P) {m a b : Nat} (hm : m < 7) (ha : a < 5) (hb : b < 5) (k : Q (some (.int (am_b (m_wv (I 140) (I 139) m a b)))) (S, I, J, P)) : am_ev pr d 284 [.ref 124, .int (nI m), .int (nI a), .int (nI b)] (S, I, J, P) Q := by
  show am_wp pr d 284 0 [(0, .ref 124), (1, .int (nI m)), (2, .int (nI a)), (3, .int (nI b))] [] _ _
  refine w284_0 rfl ?_
  refine w284_1 (L.2 _ _ _ rfl) ?_
  refine w284_4 ?_
  refine w284_5 rfl ?_
  refine w284_6 ?_
  refine w284_7 rfl ?_
  refine w284_8 ?_
  refine w284_9Z (L.sh rfl) (am_inb' hm ha) ?_
  rw [am_clb' hm ha]
  refine w284_10 (fun h10 => ?_) (fun h10 => ?_)
  · refine w284_53 ?_
    refine w284_54 (by first | rfl | exact am_narrow_b _) ?_
    first | exact am_kt k ⟨h10, h23, h46⟩ | exact am_kf k (fun z => absurd z.2.2 (Int32.not_lt.mpr h46)) | exact am_kf k (fun z => h23 z.2.1) | exact am_kf k (fun z => h10 z.1)
  · replace h10 := Decidable.not_not.mp h10
    refine w284_13 rfl ?_
    refine w284_14 (L.2 _ _ _ rfl) ?_
    refine w284_17 ?_
    refine w284_18 rfl ?_
    refine w284_19 ?_
    refine w284_20 rfl ?_
    refine w284_21 ?_
    refine w284_22Z (L.sh rfl) (am_inb' hm hb) ?_
    rw [am_clb' hm hb]
    refine w284_23 (fun h23 => ?_) (fun h23 => ?_)
    · refine w284_53 ?_
      refine w284_54 (by first | rfl | exact am_narrow_b _) ?_
      first | exact am_kt k ⟨h10, h23, h46⟩ | exact am_kf k (fun z => absurd z.2.2 (Int32.not_lt.mpr h46)) | exact am_kf k (fun z => h23 z.2.1) | exact am_kf k (fun z => h10 z.1)
    · replace h23 := Decidable.not_not.mp h23
      refine w284_26 rfl ?_
      refine w284_27 (L.2 _ _ _ rfl) ?_
      refine w284_30 ?_
      refine w284_31 rfl ?_
      refine w284_32 ?_
      refine w284_33 rfl ?_
      refine w284_34 ?_
      refine w284_35 (L.sh rfl) (am_inb' hm ha) ?_
      rw [am_clb' hm ha]
      refine w284_36 rfl ?_
      refine w284_37 (L.2 _ _ _ rfl) ?_
      refine w284_40 ?_
      refine w284_41 rfl ?_
      refine w284_42 ?_
      refine w284_43 rfl ?_
      refine w284_44 ?_
      refine w284_45 (L.sh rfl) (am_inb' hm hb) ?_
      rw [am_clb' hm hb]
      refine w284_46 (fun h46 => ?_) (fun h46 => ?_)
      · refine w284_53 ?_
        refine w284_54 (by first | rfl | exact am_narrow_b _) ?_
        first | exact am_kt k ⟨h10, h23, h46⟩ | exact am_kf k (fun z => absurd z.2.2 (Int32.not_lt.mpr h46)) | exact am_kf k (fun z => h23 z.2.1) | exact am_kf k (fun z => h10 z.1)
      · replace h46 := Int32.not_le.mp h46
        refine w284_49 ?_
        refine w284_50 ?_
        refine w284_54 (by first | rfl | exact am_narrow_b _) ?_
        first | exact am_kt k ⟨h10, h23, h46⟩ | exact am_kf k (fun z => absurd z.2.2 (Int32.not_lt.mpr h46)) | exact am_kf k (fun z => h23 z.2.1) | exact am_kf k (fun z => h10 z.1)
/-- hereMany -/
theorem c183 (L : am_Lay S P) {n : Nat} (hn : I 126 73 = nI n) (hn7 : n ≤ 7) (k : Q (some (.int (m_hm (I 126) n))) (S, I, J, P)) : am_ev pr (d + 1) 183 [.ref 124] (S, I, J, P) Q := by
  show am_wp pr (d + 1) 183 0 [(0, .ref 124)] [] _ _
  refine w183_0 ?_
  refine w183_1 ?_
  refine w183_2 ?_
  refine w183_3 ?_
  refine am_loop (fun m acc => acc + I 126 (35 + m)) (fun m acc => ∀ lv, am_ld1 lv 0 = some (.ref 124) → am_ld1 lv 1 = some (.int acc) → am_ld1 lv 2 = some (.int (nI m)) → am_wp pr (d + 1) 183 4 lv [] (S, I, J, P) Q) n ?_ 0 ?_ _ rfl rfl rfl
  · intro m acc hm ih lv l0 l1 l2
    have hm7 : m < 7 := by omega
    refine w183_4 l2 ?_
    refine w183_5 l0 ?_
    refine w183_6 (k := c171 L ?_)
    rw [hn]
    refine w183_9 (fun h => absurd h (am_nlt hm (by omega))) (fun _ => ?_)
    refine w183_12 l1 ?_
    refine w183_13 l0 ?_
    refine w183_14 (L.2 _ _ _ rfl) ?_
    refine w183_17 ?_
    refine w183_19 l2 ?_
    refine w183_20 ?_
    refine w183_21 (L.sh rfl) (am_in35 hm7) ?_
    rw [am_cl35 hm7]
    refine w183_22 ?_
    refine w183_23 ?_
    refine w183_24 l2 ?_
    refine w183_27 ?_
    exact ih _ l0 rfl (am_nx m)
  · intro lv l0 l1 l2
    refine w183_4 l2 ?_
    refine w183_5 l0 ?_
    refine w183_6 (k := c171 L ?_)
    rw [hn]
    refine w183_9 (fun _ => ?_) (fun h => absurd (Int32.le_refl _) h)
    refine w183_30 l1 ?_
    refine w183_31 ?_
    exact k
end
