/-! words: how they are spelled, and which one stands on the tape -/
/-- a byte by its number -/
def sb (n : Nat) : Int32 := (Int8.ofBitVec (BitVec.ofNat 8 n)).toInt32
def sb_q (n : Nat) : Bool := decide ((97 ≤ sb n ∧ sb n ≤ 122) ↔ (97 ≤ n ∧ n ≤ 122)) && decide ((48 ≤ sb n ∧ sb n ≤ 57) ↔ (48 ≤ n ∧ n ≤ 57)) && decide (sb n = 32 ↔ n = 32) && decide (sb n &&& 255 = nI n) && decide (n < 128 → sb n = nI n) && decide (128 ≤ n → sb n < 0)
set_option maxRecDepth 100000 in
theorem sb_all : (List.range 256).all sb_q = true := by decide +kernel
theorem sb_p {n : Nat} (h : n < 256) : ((97 ≤ sb n ∧ sb n ≤ 122) ↔ (97 ≤ n ∧ n ≤ 122)) ∧ ((48 ≤ sb n ∧ sb n ≤ 57) ↔ (48 ≤ n ∧ n ≤ 57)) ∧ (sb n = 32 ↔ n = 32) ∧ sb n &&& 255 = nI n ∧ (n < 128 → sb n = nI n) ∧ (128 ≤ n → sb n < 0) := by
  have z := List.all_eq_true.mp sb_all n (List.mem_range.mpr h)
  unfold sb_q at z
  simp only [Bool.and_eq_true, decide_eq_true_eq] at z
  exact ⟨z.1.1.1.1.1, z.1.1.1.1.2, z.1.1.1.2, z.1.1.2, z.1.2, z.2⟩
theorem sb_of {x : Int32} (h : x.toInt8.toInt32 = x) : ∃ n, n < 256 ∧ x = sb n ∧ x &&& 255 = nI n := by
  have e : Int8.ofBitVec (BitVec.ofNat 8 x.toInt8.toBitVec.toNat) = x.toInt8 := by
    rw [BitVec.ofNat_toNat, BitVec.setWidth_eq]
    rfl
  have e2 : sb x.toInt8.toBitVec.toNat = x := by
    unfold sb
    rw [e, h]
  have h2 : x.toInt8.toBitVec.toNat < 256 := BitVec.isLt _
  refine ⟨_, h2, e2.symm, ?_⟩
  have z := (sb_p h2).2.2.2.1
  rw [e2] at z
  exact z
theorem sb_eq {n x : Nat} (h : n < 256) (hx : x < 128) : nI x = sb n ↔ x = n := by
  rcases Nat.lt_or_ge n 128 with z | z
  · rw [(sb_p h).2.2.2.2.1 z]
    exact nI_eq (by omega) (by omega)
  · have q := (sb_p h).2.2.2.2.2 z
    refine ⟨fun w => ?_, fun w => by omega⟩
    rw [← w] at q
    exact absurd q (nI_pos (by omega))
/-- the words in the class's order, in the reference's -/
def w_c : List (List Nat) := [[115, 112, 101, 97, 107, 115], [119, 97, 110, 116, 115], [98, 97, 114, 115], [112, 117, 116], [103, 111], [115, 119, 97, 121], [112, 97, 115, 115], [111, 110], [116, 111], [116, 105, 109, 101, 115], [105, 102], [111, 114], [97, 110, 100], [110, 111, 116], [109, 101, 109, 98, 101, 114], [118, 111, 105, 99, 101], [115, 105, 100, 101], [98, 105, 108, 108], [119, 97, 110, 116], [115, 116, 97, 110, 100, 115], [104, 101, 114, 101], [100, 97, 121], [109, 111, 111, 100], [100, 111, 110, 101], [108, 97, 116, 101, 115, 116], [115, 116, 97, 110, 100, 105, 110, 103], [102, 111, 114]]
def w_m : List (List Nat) := [[115, 112, 101, 97, 107, 115], [119, 97, 110, 116, 115], [98, 97, 114, 115], [105, 102], [111, 114], [97, 110, 100], [110, 111, 116], [109, 101, 109, 98, 101, 114], [115, 105, 100, 101], [98, 105, 108, 108], [119, 97, 110, 116], [115, 116, 97, 110, 100, 115], [109, 111, 111, 100], [118, 111, 105, 99, 101], [104, 101, 114, 101], [100, 97, 121], [100, 111, 110, 101], [108, 97, 116, 101, 115, 116], [115, 116, 97, 110, 100, 105, 110, 103], [102, 111, 114], [112, 117, 116], [103, 111], [115, 119, 97, 121], [111, 110], [116, 111], [112, 97, 115, 115], [116, 105, 109, 101, 115]]
def seg (b : Nat → Nat) (p e : Nat) : List Nat := (List.range (e - p)).map (fun j => b (p + j))
theorem seg_len (b : Nat → Nat) (p e : Nat) : (seg b p e).length = e - p := by
  unfold seg
  rw [List.length_map, List.length_range]
theorem seg_get {b : Nat → Nat} {p e j : Nat} (h : j < e - p) : (seg b p e)[j]? = some (b (p + j)) := by
  unfold seg
  rw [List.getElem?_map, List.getElem?_range h]
  rfl
theorem seg_eq {b : Nat → Nat} {p e : Nat} {y : List Nat} (hl : y.length = e - p) (h : ∀ j x, y[j]? = some x → b (p + j) = x) : seg b p e = y := by
  apply List.ext_getElem?
  intro j
  rcases Nat.lt_or_ge j (e - p) with z | z
  · rw [seg_get z]
    have e2 : y[j]? = some y[j] := List.getElem?_eq_getElem (by omega)
    rw [e2, h j _ e2]
  · rw [List.getElem?_eq_none (by rw [seg_len]; omega), List.getElem?_eq_none (by omega)]
def w_cc (x : List Nat) : Nat := if w_c.idxOf x < 27 then 300 + w_c.idxOf x else 258
def w_rc (x : List Nat) : Nat := if w_m.idxOf x < 27 then 1 + w_m.idxOf x else 0
theorem w_cc_at {x : List Nat} {i : Nat} (hi : i < 27) (h : x = w_c.getD i []) : w_cc x = 300 + i := by
  have q : (List.range 27).all (fun i => decide (w_c.idxOf (w_c.getD i []) = i)) = true := by decide +kernel
  have z := of_decide_eq_true (List.all_eq_true.mp q i (List.mem_range.mpr hi))
  unfold w_cc
  rw [h, z, if_pos hi]
theorem w_rc_at {x : List Nat} {i : Nat} (hi : i < 27) (h : x = w_m.getD i []) : w_rc x = 1 + i := by
  have q : (List.range 27).all (fun i => decide (w_m.idxOf (w_m.getD i []) = i)) = true := by decide +kernel
  have z := of_decide_eq_true (List.all_eq_true.mp q i (List.mem_range.mpr hi))
  unfold w_rc
  rw [h, z, if_pos hi]
theorem w_no {w : List (List Nat)} {x : List Nat} (hl : w.length = 27) (h : ∀ q, q < 27 → ¬ x = w.getD q []) : ¬ w.idxOf x < 27 := by
  intro z
  refine h _ z ?_
  have z2 : w.idxOf x < w.length := by rw [hl]; exact z
  rw [List.getD_eq_getElem?_getD, List.getElem?_eq_getElem z2]
  exact (List.getElem_idxOf z2).symm
theorem w_cc_no {x : List Nat} (h : ∀ q, q < 27 → ¬ x = w_c.getD q []) : w_cc x = 258 := by
  unfold w_cc
  rw [if_neg (w_no rfl h)]
theorem w_rc_no {x : List Nat} (h : ∀ q, q < 27 → ¬ x = w_m.getD q []) : w_rc x = 0 := by
  unfold w_rc
  rw [if_neg (w_no rfl h)]
theorem am_sar_tx (pr : am_Pr) {i : Nat} (hi : i < 28) : am_sar pr (4 + i + 32) = some (22, (am_tb.getD i []).length, fun j => (am_tb.getD i []).getD j 0) := by
  unfold am_sar
  split
  · omega
  · omega
  · omega
  · rw [if_pos ⟨by omega, by omega⟩, show 4 + i + 32 - 36 = i by omega]
def w_chq (i j : Nat) : Bool := match (w_c.getD i [])[j]? with
  | some x => decide ((((am_tb.getD i []).getD j 0 &&& 255).toUInt32 % 65536).toInt32 = nI x) && decide (97 ≤ x ∧ x ≤ 122) && decide (j < (am_tb.getD i []).length)
  | none => true
set_option maxRecDepth 100000 in
theorem w_cha : (List.range 27).all (fun i => (List.range 9).all (fun j => w_chq i j)) = true := by decide +kernel
theorem w_le8 {i : Nat} (hi : i < 27) : (w_c.getD i []).length ≤ 8 ∧ (am_tb.getD i []).length = (w_c.getD i []).length ∧ Int32.ofNat (am_tb.getD i []).length >>> ((0 : Int32) &&& 31) = nI (w_c.getD i []).length := by
  have q : (List.range 27).all (fun i => decide ((w_c.getD i []).length ≤ 8 ∧ (am_tb.getD i []).length = (w_c.getD i []).length ∧ Int32.ofNat (am_tb.getD i []).length >>> ((0 : Int32) &&& 31) = nI (w_c.getD i []).length)) = true := by decide +kernel
  exact of_decide_eq_true (List.all_eq_true.mp q i (List.mem_range.mpr hi))
theorem w_chr {i j x : Nat} (hi : i < 27) (hx : (w_c.getD i [])[j]? = some x) : (((am_tb.getD i []).getD j 0 &&& 255).toUInt32 % 65536).toInt32 = nI x ∧ (97 ≤ x ∧ x ≤ 122) ∧ j < (am_tb.getD i []).length := by
  have hj : j < (w_c.getD i []).length := (List.getElem?_eq_some_iff.mp hx).1
  have h8 := (w_le8 hi).1
  have z := List.all_eq_true.mp (List.all_eq_true.mp w_cha i (List.mem_range.mpr hi)) j (List.mem_range.mpr (by omega))
  unfold w_chq at z
  rw [hx] at z
  simp only [Bool.and_eq_true, decide_eq_true_eq] at z
  exact ⟨z.1.1, z.1.2, z.2⟩
section
variable {pr : am_Pr} {d : Nat} {S : List (Nat × Nat)} {I : Nat → Nat → Int32} {J : Nat → Nat → Int64} {P : Nat → Nat → Option Nat} {Q : Option Value → am_H → Prop} {b : Nat → Nat} {p e i j x : Nat}
theorem c56 {a : Nat} (ha : 4 ≤ a ∧ a < 32) (k : Q (some (.int 0)) (S, I, J, P)) : am_ev pr d 56 [.ref a] (S, I, J, P) Q := by
  show am_wp pr d 56 0 [(0, .ref a)] [] _ _
  refine w56_0 ?_
  refine w56_3 (fun hQ => absurd hQ (by decide)) (fun _ => ?_)
  refine w56_6 rfl ?_
  refine w56_7 ⟨by omega, by omega⟩ ?_
  refine w56_10 ?_
  refine w56_14 (by first | rfl | exact am_narrow_b _) ?_
  exact k
theorem c55 (hi : i < 27) (k : Q (some (.int (nI (w_c.getD i []).length))) (S, I, J, P)) : am_ev pr (d + 1) 55 [.ref (4 + i)] (S, I, J, P) Q := by
  show am_wp pr (d + 1) 55 0 [(0, .ref (4 + i))] [] _ _
  refine w55_0 rfl ?_
  refine w55_1 ⟨by omega, by omega⟩ ?_
  refine w55_4S (by omega) (am_sar_tx pr (by omega)) (by decide) ?_
  refine w55_5 rfl ?_
  refine w55_6 ⟨by omega, by omega⟩ (k := c56 ⟨by omega, by omega⟩ ?_)
  refine w55_9 ?_
  rw [(w_le8 hi).2.2]
  refine w55_10 ?_
  exact k
theorem c58 {a : Nat} (ha : 4 ≤ a ∧ a < 32) (k : Q (some (.int 1)) (S, I, J, P)) : am_ev pr d 58 [.ref a] (S, I, J, P) Q := by
  show am_wp pr d 58 0 [(0, .ref a)] [] _ _
  refine w58_0 ?_
  refine w58_3 (fun hQ => absurd hQ (by decide)) (fun _ => ?_)
  refine w58_6 rfl ?_
  refine w58_7 ⟨by omega, by omega⟩ ?_
  refine w58_10 (fun hQ => absurd hQ (fun z => z rfl)) (fun _ => ?_)
  refine w58_13 ?_
  refine w58_14 ?_
  refine w58_18 (by first | rfl | exact am_narrow_b _) ?_
  exact k
theorem c61 {x y : Int32} {v : Value} (h0 : ¬ x < 0) (h1 : x < y) (k : Q (some (.int x)) (S, I, J, P)) : am_ev pr d 61 [.int x, .int y, v] (S, I, J, P) Q := by
  show am_wp pr d 61 0 [(0, .int x), (1, .int y), (2, v)] [] _ _
  refine w61_0 rfl ?_
  refine w61_1 (fun hQ => absurd hQ h0) (fun _ => ?_)
  refine w61_4 rfl ?_
  refine w61_5 rfl ?_
  refine w61_6 (fun _ => ?_) (fun hQ => absurd h1 hQ)
  refine w61_16 rfl ?_
  refine w61_17 ?_
  exact k
theorem c60 {x y : Int32} (h0 : ¬ x < 0) (h1 : x < y) (k : Q none (S, I, J, P)) : am_ev pr (d + 1) 60 [.int x, .int y] (S, I, J, P) Q := by
  show am_wp pr (d + 1) 60 0 [(0, .int x), (1, .int y)] [] _ _
  refine w60_0 rfl ?_
  refine w60_1 rfl ?_
  refine w60_2 ?_
  refine w60_5 (hv2 := by split <;> rfl) (k := c61 h0 h1 ?_)
  refine w60_8 rfl ?_
  refine w60_9 ?_
  exact k
theorem c59 (hi : i < 27) (hx : (w_c.getD i [])[j]? = some x) (k : Q (some (.int (nI x))) (S, I, J, P)) : am_ev pr (d + 2) 59 [.ref (4 + i + 32), .int (nI j)] (S, I, J, P) Q := by
  obtain ⟨e1, hx2, hj⟩ := w_chr hi hx
  have h8 := w_le8 hi
  show am_wp pr (d + 2) 59 0 [(0, .ref (4 + i + 32)), (1, .int (nI j))] [] _ _
  refine w59_0 rfl ?_
  refine w59_1 rfl ?_
  refine w59_2S (by omega) (am_sar_tx pr (by omega)) (by decide) ?_
  refine w59_3 (k := c60 (nI_pos (by omega)) (nI_lt (b := (am_tb.getD i []).length) hj (by omega)) ?_)
  refine w59_6 rfl ?_
  refine w59_7 rfl ?_
  refine w59_8S (by omega) (am_sar_tx pr (by omega)) (am_in_nI hj (by omega)) ?_
  rw [am_clN (by omega)]
  refine w59_9 ?_
  refine w59_12 ?_
  refine w59_13 ?_
  rw [e1]
  refine w59_14 (pk_charN (by omega)).1 ?_
  exact k
theorem c57 (hi : i < 27) (hx : (w_c.getD i [])[j]? = some x) (k : Q (some (.int (nI x))) (S, I, J, P)) : am_ev pr (d + 3) 57 [.ref (4 + i), .int (nI j)] (S, I, J, P) Q := by
  obtain ⟨-, hx2, -⟩ := w_chr hi hx
  show am_wp pr (d + 3) 57 0 [(0, .ref (4 + i)), (1, .int (nI j))] [] _ _
  refine w57_0 rfl ?_
  refine w57_1 ⟨by omega, by omega⟩ (k := c58 ⟨by omega, by omega⟩ ?_)
  refine w57_4 (fun hQ => absurd hQ (by decide)) (fun _ => ?_)
  refine w57_7 rfl ?_
  refine w57_8 ⟨by omega, by omega⟩ ?_
  refine w57_11 rfl ?_
  refine w57_12 (k := c59 hi hx ?_)
  refine w57_15 (pk_charN (by omega)).1 ?_
  exact k
theorem c53 (hi : i < 27) (k : Q (some (.ref (4 + i))) (S, I, J, P)) : am_ev pr d 53 [.int (nI (300 + i))] (S, I, J, P) Q := by
  show am_wp pr d 53 0 [(0, .int (nI (300 + i)))] [] _ _
  match i, hi with
  | 0, _ => exact w53_0 rfl (w53_1_300 (w53_124 (w53_126 k)))
  | 1, _ => exact w53_0 rfl (w53_1_301 (w53_127 (w53_129 k)))
  | 2, _ => exact w53_0 rfl (w53_1_302 (w53_130 (w53_132 k)))
  | 3, _ => exact w53_0 rfl (w53_1_303 (w53_133 (w53_135 k)))
  | 4, _ => exact w53_0 rfl (w53_1_304 (w53_136 (w53_138 k)))
  | 5, _ => exact w53_0 rfl (w53_1_305 (w53_139 (w53_141 k)))
  | 6, _ => exact w53_0 rfl (w53_1_306 (w53_142 (w53_144 k)))
  | 7, _ => exact w53_0 rfl (w53_1_307 (w53_145 (w53_147 k)))
  | 8, _ => exact w53_0 rfl (w53_1_308 (w53_148 (w53_150 k)))
  | 9, _ => exact w53_0 rfl (w53_1_309 (w53_151 (w53_153 k)))
  | 10, _ => exact w53_0 rfl (w53_1_310 (w53_154 (w53_156 k)))
  | 11, _ => exact w53_0 rfl (w53_1_311 (w53_157 (w53_159 k)))
  | 12, _ => exact w53_0 rfl (w53_1_312 (w53_160 (w53_162 k)))
  | 13, _ => exact w53_0 rfl (w53_1_313 (w53_163 (w53_165 k)))
  | 14, _ => exact w53_0 rfl (w53_1_314 (w53_166 (w53_168 k)))
  | 15, _ => exact w53_0 rfl (w53_1_315 (w53_169 (w53_171 k)))
  | 16, _ => exact w53_0 rfl (w53_1_316 (w53_172 (w53_174 k)))
  | 17, _ => exact w53_0 rfl (w53_1_317 (w53_175 (w53_177 k)))
  | 18, _ => exact w53_0 rfl (w53_1_318 (w53_178 (w53_180 k)))
  | 19, _ => exact w53_0 rfl (w53_1_319 (w53_181 (w53_183 k)))
  | 20, _ => exact w53_0 rfl (w53_1_320 (w53_184 (w53_186 k)))
  | 21, _ => exact w53_0 rfl (w53_1_321 (w53_187 (w53_189 k)))
  | 22, _ => exact w53_0 rfl (w53_1_322 (w53_190 (w53_192 k)))
  | 23, _ => exact w53_0 rfl (w53_1_323 (w53_193 (w53_195 k)))
  | 24, _ => exact w53_0 rfl (w53_1_324 (w53_196 (w53_198 k)))
  | 25, _ => exact w53_0 rfl (w53_1_325 (w53_199 (w53_201 k)))
  | 26, _ => exact w53_0 rfl (w53_1_326 (w53_202 (w53_204 k)))
  | i + 27, h => exact absurd h (by omega)
theorem c54 (L : am_Lay S P) (hi : i < 27) (hp : p ≤ e) (he : e ≤ 400) (hb : ∀ j, j < e → I 95 j = nI (b j)) (hb2 : ∀ j, j < e → b j < 256) (k1 : seg b p e = w_c.getD i [] → Q (some (.int 1)) (S, I, J, P)) (k0 : ¬ seg b p e = w_c.getD i [] → Q (some (.int 0)) (S, I, J, P)) : am_ev pr (d + 4) 54 [.ref 94, .int (nI p), .int (nI e), .ref (4 + i)] (S, I, J, P) Q := by
  have h8 := (w_le8 hi).1
  show am_wp pr (d + 4) 54 0 [(0, .ref 94), (1, .int (nI p)), (2, .int (nI e)), (3, .ref (4 + i))] [] _ _
  refine w54_0 rfl ?_
  refine w54_1 (fun hQ => absurd hQ (nI_pos (by omega))) (fun _ => ?_)
  refine w54_4 rfl ?_
  refine w54_5 ?_
  refine w54_8 (fun hQ => absurd hQ (nI_nlt (a := 400) he (by decide))) (fun _ => ?_)
  refine w54_11 rfl ?_
  refine w54_12 rfl ?_
  refine w54_13 ?_
  rw [am_nsub hp]
  refine w54_14 rfl ?_
  refine w54_15 ⟨by omega, by omega⟩ (k := c55 hi ?_)
  by_cases hl : (w_c.getD i []).length = e - p
  · refine w54_18 (fun _ => ?_) (fun z => absurd (by rw [hl]) z)
    refine w54_23 rfl ?_
    refine w54_24 ?_
    refine am_for (fun j => (∀ q x, q < j → (w_c.getD i [])[q]? = some x → b (p + q) = x) → ∀ lv, am_ld1 lv 0 = some (.ref 94) → am_ld1 lv 1 = some (.int (nI p)) → am_ld1 lv 2 = some (.int (nI e)) → am_ld1 lv 3 = some (.ref (4 + i)) → am_ld1 lv 4 = some (.int (nI (p + j))) → am_wp pr (d + 4) 54 26 lv [] (S, I, J, P) Q) (e - p) ?_ ?_ (fun q x h => absurd h (Nat.not_lt_zero q)) _ rfl rfl rfl rfl rfl
    · intro j hj ih hq lv l0 l1 l2 l3 l4
      obtain ⟨x, hx⟩ : ∃ x, (w_c.getD i [])[j]? = some x := ⟨_, List.getElem?_eq_getElem (by omega)⟩
      obtain ⟨-, hx2, -⟩ := w_chr hi hx
      have hb3 := hb2 (p + j) (by omega)
      refine w54_26 l4 ?_
      refine w54_28 l2 ?_
      refine w54_29 (fun hQ => absurd hQ (am_nlt (by omega) (by omega))) (fun _ => ?_)
      refine w54_32 l0 ?_
      refine w54_33 (L.2 _ _ _ rfl) ?_
      refine w54_36 l4 ?_
      refine w54_38 (L.sh rfl) (am_in_nI (by omega) (by decide)) ?_
      rw [am_clN (by omega), hb (p + j) (by omega)]
      refine w54_39 l3 ?_
      refine w54_40 l4 ?_
      refine w54_42 l1 ?_
      refine w54_43 ?_
      rw [am_nsub (Nat.le_add_right p j), Nat.add_sub_cancel_left]
      refine w54_44 ⟨by omega, by omega⟩ (k := c57 hi hx ?_)
      by_cases hE : b (p + j) = x
      · refine w54_47 (fun _ => ?_) (fun z => absurd (by rw [hE]) z)
        refine w54_52 l4 ?_
        refine w54_55 ?_
        refine ih (fun q y hq' hy => ?_) _ l0 l1 l2 l3 (am_nx (p + j))
        by_cases z : q = j
        · subst z
          rw [hx] at hy
          cases hy
          exact hE
        · exact hq q y (by omega) hy
      · refine w54_47 (fun z => absurd ((nI_eq (by omega) (by omega)).mp z) hE) (fun _ => ?_)
        refine w54_50 ?_
        refine w54_51 (by first | rfl | exact am_narrow_b _) ?_
        refine k0 (fun z => hE ?_)
        have z2 : (seg b p e)[j]? = some x := by rw [z]; exact hx
        rw [seg_get hj] at z2
        cases z2
        rfl
    · intro hq lv l0 l1 l2 l3 l4
      rw [show p + (e - p) = e by omega] at l4
      refine w54_26 l4 ?_
      refine w54_28 l2 ?_
      refine w54_29 (fun _ => ?_) (fun hQ => absurd (Int32.le_refl _) hQ)
      refine w54_58 ?_
      refine w54_59 (by first | rfl | exact am_narrow_b _) ?_
      exact k1 (seg_eq hl (fun j x hx => hq j x (by rw [← hl]; exact (List.getElem?_eq_some_iff.mp hx).1) hx))
  · refine w54_18 (fun z => absurd ((nI_eq (by omega) (by omega)).mp z).symm hl) (fun _ => ?_)
    refine w54_21 ?_
    refine w54_22 (by first | rfl | exact am_narrow_b _) ?_
    exact k0 (fun z => hl (by rw [← z, seg_len]))
/-- Tokens: wordOf -/
theorem c52 (L : am_Lay S P) (hp : p ≤ e) (he : e ≤ 400) (hb : ∀ j, j < e → I 95 j = nI (b j)) (hb2 : ∀ j, j < e → b j < 256) (k : Q (some (.int (nI (w_cc (seg b p e))))) (S, I, J, P)) : am_ev pr (d + 5) 52 [.ref 94, .int (nI p), .int (nI e)] (S, I, J, P) Q := by
  show am_wp pr (d + 5) 52 0 [(0, .ref 94), (1, .int (nI p)), (2, .int (nI e))] [] _ _
  refine w52_0 ?_
  refine w52_3 ?_
  refine am_for (fun i => (∀ q, q < i → ¬ seg b p e = w_c.getD q []) → ∀ lv, am_ld1 lv 0 = some (.ref 94) → am_ld1 lv 1 = some (.int (nI p)) → am_ld1 lv 2 = some (.int (nI e)) → am_ld1 lv 3 = some (.int (nI (300 + i))) → am_wp pr (d + 5) 52 4 lv [] (S, I, J, P) Q) 27 ?_ ?_ (fun q h => absurd h (Nat.not_lt_zero q)) _ rfl rfl rfl rfl
  · intro i hi ih hq lv l0 l1 l2 l3
    refine w52_4 l3 ?_
    refine w52_5 ?_
    refine w52_8 (fun hQ => absurd hQ (nI_nlt (a := 326) (by omega) (by decide))) (fun _ => ?_)
    refine w52_11 l0 ?_
    refine w52_12 l1 ?_
    refine w52_13 l2 ?_
    refine w52_14 l3 ?_
    refine w52_15 (k := c53 hi ?_)
    refine w52_18 (k := c54 L hi hp he hb hb2 (fun z => ?_) (fun z => ?_))
    · rw [w_cc_at hi z] at k
      refine w52_21 (fun hQ => absurd hQ (by decide)) (fun _ => ?_)
      refine w52_24 l3 ?_
      refine w52_25 ?_
      exact k
    · refine w52_21 (fun _ => ?_) (fun hQ => absurd rfl hQ)
      refine w52_26 l3 ?_
      refine w52_29 ?_
      refine ih (fun q hq' => ?_) _ l0 l1 l2 (am_nx (300 + i))
      by_cases y : q = i
      · rw [y]; exact z
      · exact hq q (by omega)
  · intro hq lv l0 l1 l2 l3
    rw [w_cc_no hq] at k
    refine w52_4 l3 ?_
    refine w52_5 ?_
    refine w52_8 (fun _ => ?_) (fun hQ => absurd (by decide) hQ)
    refine w52_32 ?_
    refine w52_35 ?_
    exact k
end
