/-! both objects made -/
/-- fields that are laid, in their order; numbers that are laid -/
def bE : List (Nat × Nat × Nat) := [(65, 6, 66), (65, 7, 67), (65, 8, 68), (65, 9, 69), (65, 10, 70), (65, 11, 71), (65, 12, 72), (64, 0, 65), (73, 6, 74), (73, 7, 75), (73, 8, 76), (73, 9, 77), (73, 10, 78), (73, 11, 79), (73, 12, 80), (64, 1, 73), (81, 6, 82), (81, 7, 83), (81, 8, 84), (81, 9, 85), (81, 10, 86), (81, 11, 87), (81, 12, 88), (64, 2, 81), (64, 3, 89), (90, 1, 91), (64, 4, 90), (92, 1, 93), (64, 5, 92), (94, 1, 95), (64, 6, 94), (97, 1, 98), (97, 2, 99), (97, 3, 100), (96, 0, 97), (101, 3, 102), (101, 4, 103), (101, 5, 104), (101, 6, 105), (101, 7, 106), (101, 8, 107), (96, 1, 101), (64, 7, 96), (64, 8, 108), (109, 3, 110), (109, 4, 111), (109, 5, 112), (109, 6, 113), (109, 7, 114), (109, 8, 115), (109, 9, 116), (109, 10, 117), (109, 11, 118), (119, 1, 120), (109, 12, 119), (64, 9, 109), (64, 10, 121), (64, 11, 122), (64, 15, 123), (124, 1, 125), (124, 2, 126), (124, 3, 127), (124, 4, 128), (124, 5, 129), (124, 7, 130), (124, 11, 131), (124, 12, 132), (124, 15, 133), (124, 16, 134), (124, 17, 135), (124, 26, 136), (124, 29, 137), (124, 30, 138), (124, 31, 139), (124, 32, 140), (124, 33, 141), (124, 34, 142), (124, 36, 143), (124, 37, 144), (124, 38, 145), (124, 39, 146), (124, 46, 147), (124, 47, 148)]
def bF : List (Nat × Nat × Int32) := [(65, 4, (-1)), (69, 1, 1), (73, 4, (-1)), (77, 1, 1), (81, 4, (-1)), (85, 1, 1), (96, 3, (-1)), (64, 13, (-1)), (130, 0, 115), (130, 1, 112), (130, 2, 101), (130, 3, 97), (130, 4, 107), (130, 5, 115), (130, 6, 32), (130, 7, 119), (130, 8, 97), (130, 9, 110), (130, 10, 116), (130, 11, 115), (130, 12, 32), (130, 13, 98), (130, 14, 97), (130, 15, 114), (130, 16, 115), (130, 17, 32), (130, 18, 105), (130, 19, 102), (130, 20, 32), (130, 21, 111), (130, 22, 114), (130, 23, 32), (130, 24, 97), (130, 25, 110), (130, 26, 100), (130, 27, 32), (130, 28, 110), (130, 29, 111), (130, 30, 116), (130, 31, 32), (130, 32, 109), (130, 33, 101), (130, 34, 109), (130, 35, 98), (130, 36, 101), (130, 37, 114), (130, 38, 32), (130, 39, 115), (130, 40, 105), (130, 41, 100), (130, 42, 101), (130, 43, 32), (130, 44, 98), (130, 45, 105), (130, 46, 108), (130, 47, 108), (130, 48, 32), (130, 49, 119), (130, 50, 97), (130, 51, 110), (130, 52, 116), (130, 53, 32), (130, 54, 115), (130, 55, 116), (130, 56, 97), (130, 57, 110), (130, 58, 100), (130, 59, 115), (130, 60, 32), (130, 61, 109), (130, 62, 111), (130, 63, 111), (130, 64, 100), (130, 65, 32), (130, 66, 118), (130, 67, 111), (130, 68, 105), (130, 69, 99), (130, 70, 101), (130, 71, 32), (130, 72, 104), (130, 73, 101), (130, 74, 114), (130, 75, 101), (130, 76, 32), (130, 77, 100), (130, 78, 97), (130, 79, 121), (130, 80, 32), (130, 81, 100), (130, 82, 111), (130, 83, 110), (130, 84, 101), (130, 85, 32), (130, 86, 108), (130, 87, 97), (130, 88, 116), (130, 89, 101), (130, 90, 115), (130, 91, 116), (130, 92, 32), (130, 93, 115), (130, 94, 116), (130, 95, 97), (130, 96, 110), (130, 97, 100), (130, 98, 105), (130, 99, 110), (130, 100, 103), (130, 101, 32), (130, 102, 102), (130, 103, 111), (130, 104, 114), (130, 105, 32), (130, 106, 112), (130, 107, 117), (130, 108, 116), (130, 109, 32), (130, 110, 103), (130, 111, 111), (130, 112, 32), (130, 113, 115), (130, 114, 119), (130, 115, 97), (130, 116, 121), (130, 117, 32), (130, 118, 111), (130, 119, 110), (130, 120, 32), (130, 121, 116), (130, 122, 111), (130, 123, 32), (130, 124, 112), (130, 125, 97), (130, 126, 115), (130, 127, 115), (130, 128, 32), (130, 129, 116), (130, 130, 105), (130, 131, 109), (130, 132, 101), (130, 133, 115), (130, 134, 32), (124, 14, (-1)), (124, 40, (-1)), (124, 48, (-1)), (126, 70, 1), (126, 76, (-1))]
def fP (n a j : Nat) : Option Nat := (bE.take n).foldl (fun acc e => if a = e.1 ∧ j = e.2.1 then some e.2.2 else acc) none
def fI (m a j : Nat) : Int32 := (bF.take m).foldl (fun acc e => if a = e.1 ∧ j = e.2.1 then e.2.2 else acc) 0
theorem fP_s {n a j : Nat} {e : Nat × Nat × Nat} (h : bE[n]? = some e) : fP (n + 1) a j = if a = e.1 ∧ j = e.2.1 then some e.2.2 else fP n a j := by
  unfold fP
  rw [List.take_succ, h, List.foldl_append]
  rfl
theorem fI_s {m a j : Nat} {e : Nat × Nat × Int32} (h : bF[m]? = some e) : fI (m + 1) a j = if a = e.1 ∧ j = e.2.1 then e.2.2 else fI m a j := by
  unfold fI
  rw [List.take_succ, h, List.foldl_append]
  rfl
theorem fP_no {n a : Nat} (h : (bE.take n).all (fun e => decide (a ≠ e.1)) = true) (j : Nat) : fP n a j = none := by
  unfold fP
  have key : ∀ (l : List (Nat × Nat × Nat)) (x : Option Nat), l.all (fun e => decide (a ≠ e.1)) = true → l.foldl (fun acc e => if a = e.1 ∧ j = e.2.1 then some e.2.2 else acc) x = x := by
    intro l
    induction l with
    | nil => intro x _; rfl
    | cons e l ih =>
      intro x hl
      rw [List.all_cons, Bool.and_eq_true] at hl
      rw [List.foldl_cons, if_neg (fun w => (of_decide_eq_true hl.1) w.1)]
      exact ih x hl.2
  exact key _ _ h
theorem fI_no {m a : Nat} (h : (bF.take m).all (fun e => decide (a ≠ e.1)) = true) (j : Nat) : fI m a j = 0 := by
  unfold fI
  have key : ∀ (l : List (Nat × Nat × Int32)) (x : Int32), l.all (fun e => decide (a ≠ e.1)) = true → l.foldl (fun acc e => if a = e.1 ∧ j = e.2.1 then e.2.2 else acc) x = x := by
    intro l
    induction l with
    | nil => intro x _; rfl
    | cons e l ih =>
      intro x hl
      rw [List.all_cons, Bool.and_eq_true] at hl
      rw [List.foldl_cons, if_neg (fun w => (of_decide_eq_true hl.1) w.1)]
      exact ih x hl.2
  exact key _ _ h
/-- k cells are made, n fields and m numbers laid -/
def bd (k n m : Nat) (S : List (Nat × Nat)) (I : Nat → Nat → Int32) (P : Nat → Nat → Option Nat) : Prop := S = List.replicate 64 (99, 0) ++ am_lays.take k ∧ k ≤ 85 ∧ (∀ a j, 64 ≤ a → a < 64 + k → I a j = fI m a j) ∧ ∀ a j, 64 ≤ a → a < 64 + k → P a j = fP n a j
section
variable {pr : am_Pr} {d mi pc : Nat} {lv : List (Nat × Value)} {st : List Value} {S : List (Nat × Nat)} {I : Nat → Nat → Int32} {J : Nat → Nat → Int64} {P : Nat → Nat → Option Nat} {Q : Option Value → am_H → Prop} {k n m : Nat}
theorem bd.len (B : bd k n m S I P) {L : Nat} (h : 64 + k = L) : S.length = L := by
  rw [B.1, List.length_append, List.length_replicate, List.length_take, show am_lays.length = 85 from rfl, Nat.min_eq_left B.2.1]
  exact h
theorem bd.at' (B : bd k n m S I P) {a : Nat} {q : Nat × Nat} (ha : 64 ≤ a) (hk : a < 64 + k) (h : am_lays[a - 64]? = some q) : am_sh S a q := by
  refine ⟨ha, ?_⟩
  rw [B.1, List.getElem?_append_right (by rw [List.length_replicate]; exact ha), List.length_replicate, List.getElem?_take_of_lt (by omega)]
  exact h
theorem bd.sh (B : bd k n m S I P) {a : Nat} {q : Nat × Nat} (h : am_lays[a - 64]? = some q) (ha : 64 ≤ a := by decide) (hk : a < 64 + k := by decide) : am_sh S a q := B.at' ha hk h
theorem bd.pt (B : bd k n m S I P) {a j b : Nat} (h : fP n a j = some b) (hk : 64 ≤ a ∧ a < 64 + k) : P a j = some b := (B.2.2.2 a j hk.1 hk.2).trans h
theorem bd_new {q : Nat × Nat} (B : bd k n m S I P) (hq : am_lays[k]? = some q) (hI : (bF.take m).all (fun e => decide (64 + k ≠ e.1)) = true) (hP : (bE.take n).all (fun e => decide (64 + k ≠ e.1)) = true) (K : ∀ S' I' J' P', bd (k + 1) n m S' I' P' → am_wp pr d mi pc lv st (S', I', J', P') Q) : am_wp pr d mi pc lv st (S ++ [q], am_row I (64 + k) (fun _ => 0), am_row J (64 + k) (fun _ => 0), am_row P (64 + k) (fun _ => none)) Q := by
  refine K _ _ _ _ ⟨?_, ?_, fun a j a1 a2 => ?_, fun a j a1 a2 => ?_⟩
  · rw [B.1, List.append_assoc, List.take_succ, hq]
    rfl
  · have := (List.getElem?_eq_some_iff.mp hq).1
    have : am_lays.length = 85 := rfl
    omega
  · by_cases e : a = 64 + k
    · rw [e, am_row_self, fI_no hI]
    · rw [am_row_ne e]
      exact B.2.2.1 a j a1 (by omega)
  · by_cases e : a = 64 + k
    · rw [e, am_row_self, fP_no hP]
    · rw [am_row_ne e]
      exact B.2.2.2 a j a1 (by omega)
theorem bd_putP {a j b : Nat} (B : bd k n m S I P) (h : bE[n]? = some (a, j, b)) (hk : 64 ≤ a ∧ a < 64 + k) (K : ∀ P', bd k (n + 1) m S I P' → am_wp pr d mi pc lv st (S, I, J, P') Q) : am_wp pr d mi pc lv st (S, I, J, am_u P a j (some b)) Q := by
  refine K _ ⟨B.1, B.2.1, B.2.2.1, fun x y a1 a2 => ?_⟩
  rw [am_u_get, fP_s h, B.2.2.2 x y a1 a2]
theorem bd_putI {a j : Nat} {v v0 : Int32} (B : bd k n m S I P) (h : bF[m]? = some (a, j, v0)) (hv : v = v0) (hk : 64 ≤ a ∧ a < 64 + k) (K : ∀ I', bd k n (m + 1) S I' P → am_wp pr d mi pc lv st (S, I', J, P) Q) : am_wp pr d mi pc lv st (S, am_u I a j v, J, P) Q := by
  refine K _ ⟨B.1, B.2.1, fun x y a1 a2 => ?_, B.2.2.2⟩
  rw [am_u_get, fI_s h, B.2.2.1 x y a1 a2, hv]
set_option maxHeartbeats 4000000 in
theorem c0 (B : bd 1 0 0 S I P) (k : ∀ S I J P, bd 60 59 8 S I P → Q none (S, I, J, P)) : am_ev pr (d + 5) 0 [.ref 64] (S, I, J, P) Q := by
  show am_wp pr (d + 5) 0 0 [(0, .ref 64)] [] _ _
  refine w0_0 rfl ?_
  refine w0_1 ?_
  refine w0_4 rfl ?_
  refine w0_5 ?_
  rw [B.len (L := 65) rfl]
  refine bd_new (q := (0, 13)) B (by decide +kernel) (by decide +kernel) (by decide +kernel) (fun S I J P B => ?_)
  refine w0_8 rfl ?_
  refine w0_9 (k := ?_)
  show am_wp pr _ 1 0 [(0, .ref 65)] [] _ _
  refine w1_0 rfl ?_
  refine w1_1 ?_
  refine w1_4 rfl ?_
  refine w1_5 ?_
  refine w1_7 ⟨by decide, by decide⟩ ?_
  rw [B.len (L := 66) rfl]
  refine bd_new (q := (20, 7)) B (by decide +kernel) (by decide +kernel) (by decide +kernel) (fun S I J P B => ?_)
  refine w1_9 ?_ (B.sh (q := (0, 13)) rfl)
  refine bd_putP B (by decide +kernel) (by decide) (fun P B => ?_)
  refine w1_12 rfl ?_
  refine w1_13 ?_
  refine w1_15 ⟨by decide, by decide⟩ ?_
  rw [B.len (L := 67) rfl]
  refine bd_new (q := (20, 7)) B (by decide +kernel) (by decide +kernel) (by decide +kernel) (fun S I J P B => ?_)
  refine w1_17 ?_ (B.sh (q := (0, 13)) rfl)
  refine bd_putP B (by decide +kernel) (by decide) (fun P B => ?_)
  refine w1_20 rfl ?_
  refine w1_21 ?_
  refine w1_23 ⟨by decide, by decide⟩ ?_
  rw [B.len (L := 68) rfl]
  refine bd_new (q := (20, 35)) B (by decide +kernel) (by decide +kernel) (by decide +kernel) (fun S I J P B => ?_)
  refine w1_25 ?_ (B.sh (q := (0, 13)) rfl)
  refine bd_putP B (by decide +kernel) (by decide) (fun P B => ?_)
  refine w1_28 rfl ?_
  refine w1_29 ?_
  refine w1_32S (by decide) rfl (by decide) ?_
  refine w1_33 ⟨by decide, by decide⟩ ?_
  rw [B.len (L := 69) rfl]
  refine bd_new (q := (20, 4)) B (by decide +kernel) (by decide +kernel) (by decide +kernel) (fun S I J P B => ?_)
  refine w1_35 ?_ (B.sh (q := (0, 13)) rfl)
  refine bd_putP B (by decide +kernel) (by decide) (fun P B => ?_)
  refine w1_38 rfl ?_
  refine w1_39 ?_
  refine w1_41 ⟨by decide, by decide⟩ ?_
  rw [B.len (L := 70) rfl]
  refine bd_new (q := (25, 6)) B (by decide +kernel) (by decide +kernel) (by decide +kernel) (fun S I J P B => ?_)
  refine w1_44 ?_ (B.sh (q := (0, 13)) rfl)
  refine bd_putP B (by decide +kernel) (by decide) (fun P B => ?_)
  refine w1_47 rfl ?_
  refine w1_48 ?_
  refine w1_50 ⟨by decide, by decide⟩ ?_
  rw [B.len (L := 71) rfl]
  refine bd_new (q := (20, 6)) B (by decide +kernel) (by decide +kernel) (by decide +kernel) (fun S I J P B => ?_)
  refine w1_52 ?_ (B.sh (q := (0, 13)) rfl)
  refine bd_putP B (by decide +kernel) (by decide) (fun P B => ?_)
  refine w1_55 rfl ?_
  refine w1_56 ?_
  refine w1_58 ⟨by decide, by decide⟩ ?_
  rw [B.len (L := 72) rfl]
  refine bd_new (q := (20, 6)) B (by decide +kernel) (by decide +kernel) (by decide +kernel) (fun S I J P B => ?_)
  refine w1_60 ?_ (B.sh (q := (0, 13)) rfl)
  refine bd_putP B (by decide +kernel) (by decide) (fun P B => ?_)
  refine w1_63 rfl ?_
  refine w1_64 ?_
  refine w1_65 ?_ (B.sh (q := (0, 13)) rfl)
  refine bd_putI (v0 := (-1)) B (by decide +kernel) rfl (by decide) (fun I B => ?_)
  refine w1_68 rfl ?_
  refine w1_69 (B.pt (b := 69) (by decide +kernel) (by decide)) ?_ (B.sh (q := (0, 13)) rfl)
  refine w1_72 ?_
  refine w1_73 ?_
  refine w1_74 (B.sh (q := (20, 4)) rfl) (by decide) ?_
  refine bd_putI (v0 := 1) B (by decide +kernel) rfl (by decide) (fun I B => ?_)
  refine w1_75 ?_
  refine w0_12 ?_ (B.sh (q := (8, 17)) rfl)
  refine bd_putP B (by decide +kernel) (by decide) (fun P B => ?_)
  refine w0_15 rfl ?_
  refine w0_16 ?_
  rw [B.len (L := 73) rfl]
  refine bd_new (q := (0, 13)) B (by decide +kernel) (by decide +kernel) (by decide +kernel) (fun S I J P B => ?_)
  refine w0_19 rfl ?_
  refine w0_20 (k := ?_)
  show am_wp pr _ 1 0 [(0, .ref 73)] [] _ _
  refine w1_0 rfl ?_
  refine w1_1 ?_
  refine w1_4 rfl ?_
  refine w1_5 ?_
  refine w1_7 ⟨by decide, by decide⟩ ?_
  rw [B.len (L := 74) rfl]
  refine bd_new (q := (20, 7)) B (by decide +kernel) (by decide +kernel) (by decide +kernel) (fun S I J P B => ?_)
  refine w1_9 ?_ (B.sh (q := (0, 13)) rfl)
  refine bd_putP B (by decide +kernel) (by decide) (fun P B => ?_)
  refine w1_12 rfl ?_
  refine w1_13 ?_
  refine w1_15 ⟨by decide, by decide⟩ ?_
  rw [B.len (L := 75) rfl]
  refine bd_new (q := (20, 7)) B (by decide +kernel) (by decide +kernel) (by decide +kernel) (fun S I J P B => ?_)
  refine w1_17 ?_ (B.sh (q := (0, 13)) rfl)
  refine bd_putP B (by decide +kernel) (by decide) (fun P B => ?_)
  refine w1_20 rfl ?_
  refine w1_21 ?_
  refine w1_23 ⟨by decide, by decide⟩ ?_
  rw [B.len (L := 76) rfl]
  refine bd_new (q := (20, 35)) B (by decide +kernel) (by decide +kernel) (by decide +kernel) (fun S I J P B => ?_)
  refine w1_25 ?_ (B.sh (q := (0, 13)) rfl)
  refine bd_putP B (by decide +kernel) (by decide) (fun P B => ?_)
  refine w1_28 rfl ?_
  refine w1_29 ?_
  refine w1_32S (by decide) rfl (by decide) ?_
  refine w1_33 ⟨by decide, by decide⟩ ?_
  rw [B.len (L := 77) rfl]
  refine bd_new (q := (20, 4)) B (by decide +kernel) (by decide +kernel) (by decide +kernel) (fun S I J P B => ?_)
  refine w1_35 ?_ (B.sh (q := (0, 13)) rfl)
  refine bd_putP B (by decide +kernel) (by decide) (fun P B => ?_)
  refine w1_38 rfl ?_
  refine w1_39 ?_
  refine w1_41 ⟨by decide, by decide⟩ ?_
  rw [B.len (L := 78) rfl]
  refine bd_new (q := (25, 6)) B (by decide +kernel) (by decide +kernel) (by decide +kernel) (fun S I J P B => ?_)
  refine w1_44 ?_ (B.sh (q := (0, 13)) rfl)
  refine bd_putP B (by decide +kernel) (by decide) (fun P B => ?_)
  refine w1_47 rfl ?_
  refine w1_48 ?_
  refine w1_50 ⟨by decide, by decide⟩ ?_
  rw [B.len (L := 79) rfl]
  refine bd_new (q := (20, 6)) B (by decide +kernel) (by decide +kernel) (by decide +kernel) (fun S I J P B => ?_)
  refine w1_52 ?_ (B.sh (q := (0, 13)) rfl)
  refine bd_putP B (by decide +kernel) (by decide) (fun P B => ?_)
  refine w1_55 rfl ?_
  refine w1_56 ?_
  refine w1_58 ⟨by decide, by decide⟩ ?_
  rw [B.len (L := 80) rfl]
  refine bd_new (q := (20, 6)) B (by decide +kernel) (by decide +kernel) (by decide +kernel) (fun S I J P B => ?_)
  refine w1_60 ?_ (B.sh (q := (0, 13)) rfl)
  refine bd_putP B (by decide +kernel) (by decide) (fun P B => ?_)
  refine w1_63 rfl ?_
  refine w1_64 ?_
  refine w1_65 ?_ (B.sh (q := (0, 13)) rfl)
  refine bd_putI (v0 := (-1)) B (by decide +kernel) rfl (by decide) (fun I B => ?_)
  refine w1_68 rfl ?_
  refine w1_69 (B.pt (b := 77) (by decide +kernel) (by decide)) ?_ (B.sh (q := (0, 13)) rfl)
  refine w1_72 ?_
  refine w1_73 ?_
  refine w1_74 (B.sh (q := (20, 4)) rfl) (by decide) ?_
  refine bd_putI (v0 := 1) B (by decide +kernel) rfl (by decide) (fun I B => ?_)
  refine w1_75 ?_
  refine w0_23 ?_ (B.sh (q := (8, 17)) rfl)
  refine bd_putP B (by decide +kernel) (by decide) (fun P B => ?_)
  refine w0_26 rfl ?_
  refine w0_27 ?_
  rw [B.len (L := 81) rfl]
  refine bd_new (q := (0, 13)) B (by decide +kernel) (by decide +kernel) (by decide +kernel) (fun S I J P B => ?_)
  refine w0_30 rfl ?_
  refine w0_31 (k := ?_)
  show am_wp pr _ 1 0 [(0, .ref 81)] [] _ _
  refine w1_0 rfl ?_
  refine w1_1 ?_
  refine w1_4 rfl ?_
  refine w1_5 ?_
  refine w1_7 ⟨by decide, by decide⟩ ?_
  rw [B.len (L := 82) rfl]
  refine bd_new (q := (20, 7)) B (by decide +kernel) (by decide +kernel) (by decide +kernel) (fun S I J P B => ?_)
  refine w1_9 ?_ (B.sh (q := (0, 13)) rfl)
  refine bd_putP B (by decide +kernel) (by decide) (fun P B => ?_)
  refine w1_12 rfl ?_
  refine w1_13 ?_
  refine w1_15 ⟨by decide, by decide⟩ ?_
  rw [B.len (L := 83) rfl]
  refine bd_new (q := (20, 7)) B (by decide +kernel) (by decide +kernel) (by decide +kernel) (fun S I J P B => ?_)
  refine w1_17 ?_ (B.sh (q := (0, 13)) rfl)
  refine bd_putP B (by decide +kernel) (by decide) (fun P B => ?_)
  refine w1_20 rfl ?_
  refine w1_21 ?_
  refine w1_23 ⟨by decide, by decide⟩ ?_
  rw [B.len (L := 84) rfl]
  refine bd_new (q := (20, 35)) B (by decide +kernel) (by decide +kernel) (by decide +kernel) (fun S I J P B => ?_)
  refine w1_25 ?_ (B.sh (q := (0, 13)) rfl)
  refine bd_putP B (by decide +kernel) (by decide) (fun P B => ?_)
  refine w1_28 rfl ?_
  refine w1_29 ?_
  refine w1_32S (by decide) rfl (by decide) ?_
  refine w1_33 ⟨by decide, by decide⟩ ?_
  rw [B.len (L := 85) rfl]
  refine bd_new (q := (20, 4)) B (by decide +kernel) (by decide +kernel) (by decide +kernel) (fun S I J P B => ?_)
  refine w1_35 ?_ (B.sh (q := (0, 13)) rfl)
  refine bd_putP B (by decide +kernel) (by decide) (fun P B => ?_)
  refine w1_38 rfl ?_
  refine w1_39 ?_
  refine w1_41 ⟨by decide, by decide⟩ ?_
  rw [B.len (L := 86) rfl]
  refine bd_new (q := (25, 6)) B (by decide +kernel) (by decide +kernel) (by decide +kernel) (fun S I J P B => ?_)
  refine w1_44 ?_ (B.sh (q := (0, 13)) rfl)
  refine bd_putP B (by decide +kernel) (by decide) (fun P B => ?_)
  refine w1_47 rfl ?_
  refine w1_48 ?_
  refine w1_50 ⟨by decide, by decide⟩ ?_
  rw [B.len (L := 87) rfl]
  refine bd_new (q := (20, 6)) B (by decide +kernel) (by decide +kernel) (by decide +kernel) (fun S I J P B => ?_)
  refine w1_52 ?_ (B.sh (q := (0, 13)) rfl)
  refine bd_putP B (by decide +kernel) (by decide) (fun P B => ?_)
  refine w1_55 rfl ?_
  refine w1_56 ?_
  refine w1_58 ⟨by decide, by decide⟩ ?_
  rw [B.len (L := 88) rfl]
  refine bd_new (q := (20, 6)) B (by decide +kernel) (by decide +kernel) (by decide +kernel) (fun S I J P B => ?_)
  refine w1_60 ?_ (B.sh (q := (0, 13)) rfl)
  refine bd_putP B (by decide +kernel) (by decide) (fun P B => ?_)
  refine w1_63 rfl ?_
  refine w1_64 ?_
  refine w1_65 ?_ (B.sh (q := (0, 13)) rfl)
  refine bd_putI (v0 := (-1)) B (by decide +kernel) rfl (by decide) (fun I B => ?_)
  refine w1_68 rfl ?_
  refine w1_69 (B.pt (b := 85) (by decide +kernel) (by decide)) ?_ (B.sh (q := (0, 13)) rfl)
  refine w1_72 ?_
  refine w1_73 ?_
  refine w1_74 (B.sh (q := (20, 4)) rfl) (by decide) ?_
  refine bd_putI (v0 := 1) B (by decide +kernel) rfl (by decide) (fun I B => ?_)
  refine w1_75 ?_
  refine w0_34 ?_ (B.sh (q := (8, 17)) rfl)
  refine bd_putP B (by decide +kernel) (by decide) (fun P B => ?_)
  refine w0_37 rfl ?_
  refine w0_38 ?_
  refine w0_39 ⟨by decide, by decide⟩ ?_
  rw [B.len (L := 89) rfl]
  refine bd_new (q := (24, 2)) B (by decide +kernel) (by decide +kernel) (by decide +kernel) (fun S I J P B => ?_)
  refine w0_42 ?_ (B.sh (q := (8, 17)) rfl)
  refine bd_putP B (by decide +kernel) (by decide) (fun P B => ?_)
  refine w0_45 rfl ?_
  refine w0_46 ?_
  rw [B.len (L := 90) rfl]
  refine bd_new (q := (1, 2)) B (by decide +kernel) (by decide +kernel) (by decide +kernel) (fun S I J P B => ?_)
  refine w0_49 rfl ?_
  refine w0_50 (k := ?_)
  show am_wp pr _ 2 0 [(0, .ref 90)] [] _ _
  refine w2_0 rfl ?_
  refine w2_1 ?_
  refine w2_4 rfl ?_
  refine w2_5 ?_
  refine w2_7 ⟨by decide, by decide⟩ ?_
  rw [B.len (L := 91) rfl]
  refine bd_new (q := (20, 48)) B (by decide +kernel) (by decide +kernel) (by decide +kernel) (fun S I J P B => ?_)
  refine w2_9 ?_ (B.sh (q := (1, 2)) rfl)
  refine bd_putP B (by decide +kernel) (by decide) (fun P B => ?_)
  refine w2_12 ?_
  refine w0_53 ?_ (B.sh (q := (8, 17)) rfl)
  refine bd_putP B (by decide +kernel) (by decide) (fun P B => ?_)
  refine w0_56 rfl ?_
  refine w0_57 ?_
  rw [B.len (L := 92) rfl]
  refine bd_new (q := (1, 2)) B (by decide +kernel) (by decide +kernel) (by decide +kernel) (fun S I J P B => ?_)
  refine w0_60 rfl ?_
  refine w0_61 (k := ?_)
  show am_wp pr _ 2 0 [(0, .ref 92)] [] _ _
  refine w2_0 rfl ?_
  refine w2_1 ?_
  refine w2_4 rfl ?_
  refine w2_5 ?_
  refine w2_7 ⟨by decide, by decide⟩ ?_
  rw [B.len (L := 93) rfl]
  refine bd_new (q := (20, 48)) B (by decide +kernel) (by decide +kernel) (by decide +kernel) (fun S I J P B => ?_)
  refine w2_9 ?_ (B.sh (q := (1, 2)) rfl)
  refine bd_putP B (by decide +kernel) (by decide) (fun P B => ?_)
  refine w2_12 ?_
  refine w0_64 ?_ (B.sh (q := (8, 17)) rfl)
  refine bd_putP B (by decide +kernel) (by decide) (fun P B => ?_)
  refine w0_67 rfl ?_
  refine w0_68 ?_
  rw [B.len (L := 94) rfl]
  refine bd_new (q := (5, 2)) B (by decide +kernel) (by decide +kernel) (by decide +kernel) (fun S I J P B => ?_)
  refine w0_71 rfl ?_
  refine w0_72 (k := ?_)
  show am_wp pr _ 3 0 [(0, .ref 94)] [] _ _
  refine w3_0 rfl ?_
  refine w3_1 ?_
  refine w3_4 rfl ?_
  refine w3_5 ?_
  refine w3_8 ⟨by decide, by decide⟩ ?_
  rw [B.len (L := 95) rfl]
  refine bd_new (q := (20, 400)) B (by decide +kernel) (by decide +kernel) (by decide +kernel) (fun S I J P B => ?_)
  refine w3_10 ?_ (B.sh (q := (5, 2)) rfl)
  refine bd_putP B (by decide +kernel) (by decide) (fun P B => ?_)
  refine w3_13 ?_
  refine w0_75 ?_ (B.sh (q := (8, 17)) rfl)
  refine bd_putP B (by decide +kernel) (by decide) (fun P B => ?_)
  refine w0_78 rfl ?_
  refine w0_79 ?_
  rw [B.len (L := 96) rfl]
  refine bd_new (q := (2, 9)) B (by decide +kernel) (by decide +kernel) (by decide +kernel) (fun S I J P B => ?_)
  refine w0_82 rfl ?_
  refine w0_83 (k := ?_)
  show am_wp pr _ 4 0 [(0, .ref 96)] [] _ _
  refine w4_0 rfl ?_
  refine w4_1 ?_
  refine w4_4 rfl ?_
  refine w4_5 ?_
  rw [B.len (L := 97) rfl]
  refine bd_new (q := (7, 4)) B (by decide +kernel) (by decide +kernel) (by decide +kernel) (fun S I J P B => ?_)
  refine w4_8 rfl ?_
  refine w4_9 (k := ?_)
  show am_wp pr _ 5 0 [(0, .ref 97)] [] _ _
  refine w5_0 rfl ?_
  refine w5_1 ?_
  refine w5_4 rfl ?_
  refine w5_5 ?_
  refine w5_8 ⟨by decide, by decide⟩ ?_
  rw [B.len (L := 98) rfl]
  refine bd_new (q := (20, 401)) B (by decide +kernel) (by decide +kernel) (by decide +kernel) (fun S I J P B => ?_)
  refine w5_10 ?_ (B.sh (q := (7, 4)) rfl)
  refine bd_putP B (by decide +kernel) (by decide) (fun P B => ?_)
  refine w5_13 rfl ?_
  refine w5_14 ?_
  refine w5_17 ⟨by decide, by decide⟩ ?_
  rw [B.len (L := 99) rfl]
  refine bd_new (q := (20, 401)) B (by decide +kernel) (by decide +kernel) (by decide +kernel) (fun S I J P B => ?_)
  refine w5_19 ?_ (B.sh (q := (7, 4)) rfl)
  refine bd_putP B (by decide +kernel) (by decide) (fun P B => ?_)
  refine w5_22 rfl ?_
  refine w5_23 ?_
  refine w5_26 ⟨by decide, by decide⟩ ?_
  rw [B.len (L := 100) rfl]
  refine bd_new (q := (20, 401)) B (by decide +kernel) (by decide +kernel) (by decide +kernel) (fun S I J P B => ?_)
  refine w5_28 ?_ (B.sh (q := (7, 4)) rfl)
  refine bd_putP B (by decide +kernel) (by decide) (fun P B => ?_)
  refine w5_31 ?_
  refine w4_12 ?_ (B.sh (q := (2, 9)) rfl)
  refine bd_putP B (by decide +kernel) (by decide) (fun P B => ?_)
  refine w4_15 rfl ?_
  refine w4_16 ?_
  rw [B.len (L := 101) rfl]
  refine bd_new (q := (6, 9)) B (by decide +kernel) (by decide +kernel) (by decide +kernel) (fun S I J P B => ?_)
  refine w4_19 rfl ?_
  refine w4_20 ?_
  refine w4_23 (k := ?_)
  show am_wp pr _ 6 0 [(0, .ref 101), (1, .int 480)] [] _ _
  refine w6_0 rfl ?_
  refine w6_1 ?_
  refine w6_4 rfl ?_
  refine w6_5 ?_
  refine w6_7 ⟨by decide, by decide⟩ ?_
  rw [B.len (L := 102) rfl]
  refine bd_new (q := (20, 12)) B (by decide +kernel) (by decide +kernel) (by decide +kernel) (fun S I J P B => ?_)
  refine w6_9 ?_ (B.sh (q := (6, 9)) rfl)
  refine bd_putP B (by decide +kernel) (by decide) (fun P B => ?_)
  refine w6_12 rfl ?_
  refine w6_13 ?_
  refine w6_15 ⟨by decide, by decide⟩ ?_
  rw [B.len (L := 103) rfl]
  refine bd_new (q := (20, 12)) B (by decide +kernel) (by decide +kernel) (by decide +kernel) (fun S I J P B => ?_)
  refine w6_17 ?_ (B.sh (q := (6, 9)) rfl)
  refine bd_putP B (by decide +kernel) (by decide) (fun P B => ?_)
  refine w6_20 rfl ?_
  refine w6_21 ?_
  refine w6_23 ⟨by decide, by decide⟩ ?_
  rw [B.len (L := 104) rfl]
  refine bd_new (q := (20, 36)) B (by decide +kernel) (by decide +kernel) (by decide +kernel) (fun S I J P B => ?_)
  refine w6_25 ?_ (B.sh (q := (6, 9)) rfl)
  refine bd_putP B (by decide +kernel) (by decide) (fun P B => ?_)
  refine w6_28 rfl ?_
  refine w6_29 ?_
  refine w6_31 ⟨by decide, by decide⟩ ?_
  rw [B.len (L := 105) rfl]
  refine bd_new (q := (20, 12)) B (by decide +kernel) (by decide +kernel) (by decide +kernel) (fun S I J P B => ?_)
  refine w6_33 ?_ (B.sh (q := (6, 9)) rfl)
  refine bd_putP B (by decide +kernel) (by decide) (fun P B => ?_)
  refine w6_36 rfl ?_
  refine w6_37 rfl ?_
  refine w6_38 ?_
  refine w6_39 ?_
  rw [if_neg (by decide)]
  refine w6_42 ⟨by decide, by decide⟩ ?_
  rw [B.len (L := 106) rfl]
  refine bd_new (q := (20, 480)) B (by decide +kernel) (by decide +kernel) (by decide +kernel) (fun S I J P B => ?_)
  refine w6_44 ?_ (B.sh (q := (6, 9)) rfl)
  refine bd_putP B (by decide +kernel) (by decide) (fun P B => ?_)
  refine w6_47 rfl ?_
  refine w6_48 rfl ?_
  refine w6_49 ?_
  refine w6_50 ?_
  rw [if_neg (by decide)]
  refine w6_53 ⟨by decide, by decide⟩ ?_
  rw [B.len (L := 107) rfl]
  refine bd_new (q := (20, 480)) B (by decide +kernel) (by decide +kernel) (by decide +kernel) (fun S I J P B => ?_)
  refine w6_55 ?_ (B.sh (q := (6, 9)) rfl)
  refine bd_putP B (by decide +kernel) (by decide) (fun P B => ?_)
  refine w6_58 ?_
  refine w4_26 ?_ (B.sh (q := (2, 9)) rfl)
  refine bd_putP B (by decide +kernel) (by decide) (fun P B => ?_)
  refine w4_29 rfl ?_
  refine w4_30 ?_
  refine w4_31 ?_ (B.sh (q := (2, 9)) rfl)
  refine bd_putI (v0 := (-1)) B (by decide +kernel) rfl (by decide) (fun I B => ?_)
  refine w4_34 ?_
  refine w0_86 ?_ (B.sh (q := (8, 17)) rfl)
  refine bd_putP B (by decide +kernel) (by decide) (fun P B => ?_)
  refine w0_89 rfl ?_
  refine w0_90 ?_
  refine w0_92 ⟨by decide, by decide⟩ ?_
  rw [B.len (L := 108) rfl]
  refine bd_new (q := (20, 17)) B (by decide +kernel) (by decide +kernel) (by decide +kernel) (fun S I J P B => ?_)
  refine w0_94 ?_ (B.sh (q := (8, 17)) rfl)
  refine bd_putP B (by decide +kernel) (by decide) (fun P B => ?_)
  refine w0_97 rfl ?_
  refine w0_98 ?_
  rw [B.len (L := 109) rfl]
  refine bd_new (q := (4, 13)) B (by decide +kernel) (by decide +kernel) (by decide +kernel) (fun S I J P B => ?_)
  refine w0_101 rfl ?_
  refine w0_102 (k := ?_)
  show am_wp pr _ 7 0 [(0, .ref 109)] [] _ _
  refine w7_0 rfl ?_
  refine w7_1 ?_
  refine w7_4 rfl ?_
  refine w7_5 ?_
  refine w7_7 ⟨by decide, by decide⟩ ?_
  rw [B.len (L := 110) rfl]
  refine bd_new (q := (20, 35)) B (by decide +kernel) (by decide +kernel) (by decide +kernel) (fun S I J P B => ?_)
  refine w7_9 ?_ (B.sh (q := (4, 13)) rfl)
  refine bd_putP B (by decide +kernel) (by decide) (fun P B => ?_)
  refine w7_12 rfl ?_
  refine w7_13 ?_
  refine w7_15 ⟨by decide, by decide⟩ ?_
  rw [B.len (L := 111) rfl]
  refine bd_new (q := (20, 35)) B (by decide +kernel) (by decide +kernel) (by decide +kernel) (fun S I J P B => ?_)
  refine w7_17 ?_ (B.sh (q := (4, 13)) rfl)
  refine bd_putP B (by decide +kernel) (by decide) (fun P B => ?_)
  refine w7_20 rfl ?_
  refine w7_21 ?_
  refine w7_22 ⟨by decide, by decide⟩ ?_
  rw [B.len (L := 112) rfl]
  refine bd_new (q := (20, 5)) B (by decide +kernel) (by decide +kernel) (by decide +kernel) (fun S I J P B => ?_)
  refine w7_24 ?_ (B.sh (q := (4, 13)) rfl)
  refine bd_putP B (by decide +kernel) (by decide) (fun P B => ?_)
  refine w7_27 rfl ?_
  refine w7_28 ?_
  refine w7_29 ⟨by decide, by decide⟩ ?_
  rw [B.len (L := 113) rfl]
  refine bd_new (q := (20, 5)) B (by decide +kernel) (by decide +kernel) (by decide +kernel) (fun S I J P B => ?_)
  refine w7_31 ?_ (B.sh (q := (4, 13)) rfl)
  refine bd_putP B (by decide +kernel) (by decide) (fun P B => ?_)
  refine w7_34 rfl ?_
  refine w7_35 ?_
  refine w7_36 ⟨by decide, by decide⟩ ?_
  rw [B.len (L := 114) rfl]
  refine bd_new (q := (20, 5)) B (by decide +kernel) (by decide +kernel) (by decide +kernel) (fun S I J P B => ?_)
  refine w7_38 ?_ (B.sh (q := (4, 13)) rfl)
  refine bd_putP B (by decide +kernel) (by decide) (fun P B => ?_)
  refine w7_41 rfl ?_
  refine w7_42 ?_
  refine w7_43 ⟨by decide, by decide⟩ ?_
  rw [B.len (L := 115) rfl]
  refine bd_new (q := (20, 5)) B (by decide +kernel) (by decide +kernel) (by decide +kernel) (fun S I J P B => ?_)
  refine w7_45 ?_ (B.sh (q := (4, 13)) rfl)
  refine bd_putP B (by decide +kernel) (by decide) (fun P B => ?_)
  refine w7_48 rfl ?_
  refine w7_49 ?_
  refine w7_50 ⟨by decide, by decide⟩ ?_
  rw [B.len (L := 116) rfl]
  refine bd_new (q := (20, 5)) B (by decide +kernel) (by decide +kernel) (by decide +kernel) (fun S I J P B => ?_)
  refine w7_52 ?_ (B.sh (q := (4, 13)) rfl)
  refine bd_putP B (by decide +kernel) (by decide) (fun P B => ?_)
  refine w7_55 rfl ?_
  refine w7_56 ?_
  refine w7_57 ⟨by decide, by decide⟩ ?_
  rw [B.len (L := 117) rfl]
  refine bd_new (q := (20, 5)) B (by decide +kernel) (by decide +kernel) (by decide +kernel) (fun S I J P B => ?_)
  refine w7_59 ?_ (B.sh (q := (4, 13)) rfl)
  refine bd_putP B (by decide +kernel) (by decide) (fun P B => ?_)
  refine w7_62 rfl ?_
  refine w7_63 ?_
  refine w7_65 ⟨by decide, by decide⟩ ?_
  rw [B.len (L := 118) rfl]
  refine bd_new (q := (20, 9)) B (by decide +kernel) (by decide +kernel) (by decide +kernel) (fun S I J P B => ?_)
  refine w7_67 ?_ (B.sh (q := (4, 13)) rfl)
  refine bd_putP B (by decide +kernel) (by decide) (fun P B => ?_)
  refine w7_70 rfl ?_
  refine w7_71 ?_
  rw [B.len (L := 119) rfl]
  refine bd_new (q := (3, 2)) B (by decide +kernel) (by decide +kernel) (by decide +kernel) (fun S I J P B => ?_)
  refine w7_74 rfl ?_
  refine w7_75 (k := ?_)
  show am_wp pr _ 8 0 [(0, .ref 119)] [] _ _
  refine w8_0 rfl ?_
  refine w8_1 ?_
  refine w8_4 rfl ?_
  refine w8_5 ?_
  refine w8_7 ⟨by decide, by decide⟩ ?_
  rw [B.len (L := 120) rfl]
  refine bd_new (q := (23, 64)) B (by decide +kernel) (by decide +kernel) (by decide +kernel) (fun S I J P B => ?_)
  refine w8_9 ?_ (B.sh (q := (3, 2)) rfl)
  refine bd_putP B (by decide +kernel) (by decide) (fun P B => ?_)
  refine w8_12 ?_
  refine w7_78 ?_ (B.sh (q := (4, 13)) rfl)
  refine bd_putP B (by decide +kernel) (by decide) (fun P B => ?_)
  refine w7_81 ?_
  refine w0_105 ?_ (B.sh (q := (8, 17)) rfl)
  refine bd_putP B (by decide +kernel) (by decide) (fun P B => ?_)
  refine w0_108 rfl ?_
  refine w0_109 ?_
  refine w0_110 ⟨by decide, by decide⟩ ?_
  rw [B.len (L := 121) rfl]
  refine bd_new (q := (20, 5)) B (by decide +kernel) (by decide +kernel) (by decide +kernel) (fun S I J P B => ?_)
  refine w0_112 ?_ (B.sh (q := (8, 17)) rfl)
  refine bd_putP B (by decide +kernel) (by decide) (fun P B => ?_)
  refine w0_115 rfl ?_
  refine w0_116 ?_
  refine w0_118 ⟨by decide, by decide⟩ ?_
  rw [B.len (L := 122) rfl]
  refine bd_new (q := (23, 20)) B (by decide +kernel) (by decide +kernel) (by decide +kernel) (fun S I J P B => ?_)
  refine w0_120 ?_ (B.sh (q := (8, 17)) rfl)
  refine bd_putP B (by decide +kernel) (by decide) (fun P B => ?_)
  refine w0_123 rfl ?_
  refine w0_124 ?_
  refine w0_126 ⟨by decide, by decide⟩ ?_
  rw [B.len (L := 123) rfl]
  refine bd_new (q := (20, 7)) B (by decide +kernel) (by decide +kernel) (by decide +kernel) (fun S I J P B => ?_)
  refine w0_128 ?_ (B.sh (q := (8, 17)) rfl)
  refine bd_putP B (by decide +kernel) (by decide) (fun P B => ?_)
  refine w0_131 rfl ?_
  refine w0_132 ?_
  refine w0_133 ?_ (B.sh (q := (8, 17)) rfl)
  refine bd_putI (v0 := (-1)) B (by decide +kernel) rfl (by decide) (fun I B => ?_)
  refine w0_136 ?_
  exact k _ _ _ _ B

set_option maxHeartbeats 4000000 in
theorem c162 (B : bd 61 59 8 S I P) (k : ∀ S I J P, bd 85 83 148 S I P → Q none (S, I, J, P)) : am_ev pr (d + 5) 162 [.ref 124] (S, I, J, P) Q := by
  show am_wp pr (d + 5) 162 0 [(0, .ref 124)] [] _ _
  refine w162_0 rfl ?_
  refine w162_1 ?_
  refine w162_4 rfl ?_
  refine w162_5 ?_
  refine w162_7 ⟨by decide, by decide⟩ ?_
  rw [B.len (L := 125) rfl]
  refine bd_new (q := (20, 7)) B (by decide +kernel) (by decide +kernel) (by decide +kernel) (fun S I J P B => ?_)
  refine w162_9 ?_ (B.sh (q := (9, 50)) rfl)
  refine bd_putP B (by decide +kernel) (by decide) (fun P B => ?_)
  refine w162_12 rfl ?_
  refine w162_13 ?_
  refine w162_16 ⟨by decide, by decide⟩ ?_
  rw [B.len (L := 126) rfl]
  refine bd_new (q := (20, 5684)) B (by decide +kernel) (by decide +kernel) (by decide +kernel) (fun S I J P B => ?_)
  refine w162_18 ?_ (B.sh (q := (9, 50)) rfl)
  refine bd_putP B (by decide +kernel) (by decide) (fun P B => ?_)
  refine w162_21 rfl ?_
  refine w162_22 ?_
  refine w162_25 ⟨by decide, by decide⟩ ?_
  rw [B.len (L := 127) rfl]
  refine bd_new (q := (20, 11368)) B (by decide +kernel) (by decide +kernel) (by decide +kernel) (fun S I J P B => ?_)
  refine w162_27 ?_ (B.sh (q := (9, 50)) rfl)
  refine bd_putP B (by decide +kernel) (by decide) (fun P B => ?_)
  refine w162_30 rfl ?_
  refine w162_31 ?_
  refine w162_32 ⟨by decide, by decide⟩ ?_
  rw [B.len (L := 128) rfl]
  refine bd_new (q := (21, 2)) B (by decide +kernel) (by decide +kernel) (by decide +kernel) (fun S I J P B => ?_)
  refine w162_34 ?_ (B.sh (q := (9, 50)) rfl)
  refine bd_putP B (by decide +kernel) (by decide) (fun P B => ?_)
  refine w162_37 rfl ?_
  refine w162_38 ?_
  refine w162_40 ⟨by decide, by decide⟩ ?_
  rw [B.len (L := 129) rfl]
  refine bd_new (q := (20, 88)) B (by decide +kernel) (by decide +kernel) (by decide +kernel) (fun S I J P B => ?_)
  refine w162_42 ?_ (B.sh (q := (9, 50)) rfl)
  refine bd_putP B (by decide +kernel) (by decide) (fun P B => ?_)
  refine w162_45 rfl ?_
  refine w162_46 ?_
  refine w162_49 ⟨by decide, by decide⟩ ?_
  rw [B.len (L := 130) rfl]
  refine bd_new (q := (22, 135)) B (by decide +kernel) (by decide +kernel) (by decide +kernel) (fun S I J P B => ?_)
  refine w162_51 rfl ?_
  refine w162_52 ?_
  refine w162_53 ?_
  refine w162_55 (B.sh (q := (22, 135)) rfl) (by decide) ?_
  refine bd_putI (v0 := 115) B (by decide +kernel) (by decide) (by decide) (fun I B => ?_)
  refine w162_56 rfl ?_
  refine w162_57 ?_
  refine w162_58 ?_
  refine w162_60 (B.sh (q := (22, 135)) rfl) (by decide) ?_
  refine bd_putI (v0 := 112) B (by decide +kernel) (by decide) (by decide) (fun I B => ?_)
  refine w162_61 rfl ?_
  refine w162_62 ?_
  refine w162_63 ?_
  refine w162_65 (B.sh (q := (22, 135)) rfl) (by decide) ?_
  refine bd_putI (v0 := 101) B (by decide +kernel) (by decide) (by decide) (fun I B => ?_)
  refine w162_66 rfl ?_
  refine w162_67 ?_
  refine w162_68 ?_
  refine w162_70 (B.sh (q := (22, 135)) rfl) (by decide) ?_
  refine bd_putI (v0 := 97) B (by decide +kernel) (by decide) (by decide) (fun I B => ?_)
  refine w162_71 rfl ?_
  refine w162_72 ?_
  refine w162_73 ?_
  refine w162_75 (B.sh (q := (22, 135)) rfl) (by decide) ?_
  refine bd_putI (v0 := 107) B (by decide +kernel) (by decide) (by decide) (fun I B => ?_)
  refine w162_76 rfl ?_
  refine w162_77 ?_
  refine w162_78 ?_
  refine w162_80 (B.sh (q := (22, 135)) rfl) (by decide) ?_
  refine bd_putI (v0 := 115) B (by decide +kernel) (by decide) (by decide) (fun I B => ?_)
  refine w162_81 rfl ?_
  refine w162_82 ?_
  refine w162_84 ?_
  refine w162_86 (B.sh (q := (22, 135)) rfl) (by decide) ?_
  refine bd_putI (v0 := 32) B (by decide +kernel) (by decide) (by decide) (fun I B => ?_)
  refine w162_87 rfl ?_
  refine w162_88 ?_
  refine w162_90 ?_
  refine w162_92 (B.sh (q := (22, 135)) rfl) (by decide) ?_
  refine bd_putI (v0 := 119) B (by decide +kernel) (by decide) (by decide) (fun I B => ?_)
  refine w162_93 rfl ?_
  refine w162_94 ?_
  refine w162_96 ?_
  refine w162_98 (B.sh (q := (22, 135)) rfl) (by decide) ?_
  refine bd_putI (v0 := 97) B (by decide +kernel) (by decide) (by decide) (fun I B => ?_)
  refine w162_99 rfl ?_
  refine w162_100 ?_
  refine w162_102 ?_
  refine w162_104 (B.sh (q := (22, 135)) rfl) (by decide) ?_
  refine bd_putI (v0 := 110) B (by decide +kernel) (by decide) (by decide) (fun I B => ?_)
  refine w162_105 rfl ?_
  refine w162_106 ?_
  refine w162_108 ?_
  refine w162_110 (B.sh (q := (22, 135)) rfl) (by decide) ?_
  refine bd_putI (v0 := 116) B (by decide +kernel) (by decide) (by decide) (fun I B => ?_)
  refine w162_111 rfl ?_
  refine w162_112 ?_
  refine w162_114 ?_
  refine w162_116 (B.sh (q := (22, 135)) rfl) (by decide) ?_
  refine bd_putI (v0 := 115) B (by decide +kernel) (by decide) (by decide) (fun I B => ?_)
  refine w162_117 rfl ?_
  refine w162_118 ?_
  refine w162_120 ?_
  refine w162_122 (B.sh (q := (22, 135)) rfl) (by decide) ?_
  refine bd_putI (v0 := 32) B (by decide +kernel) (by decide) (by decide) (fun I B => ?_)
  refine w162_123 rfl ?_
  refine w162_124 ?_
  refine w162_126 ?_
  refine w162_128 (B.sh (q := (22, 135)) rfl) (by decide) ?_
  refine bd_putI (v0 := 98) B (by decide +kernel) (by decide) (by decide) (fun I B => ?_)
  refine w162_129 rfl ?_
  refine w162_130 ?_
  refine w162_132 ?_
  refine w162_134 (B.sh (q := (22, 135)) rfl) (by decide) ?_
  refine bd_putI (v0 := 97) B (by decide +kernel) (by decide) (by decide) (fun I B => ?_)
  refine w162_135 rfl ?_
  refine w162_136 ?_
  refine w162_138 ?_
  refine w162_140 (B.sh (q := (22, 135)) rfl) (by decide) ?_
  refine bd_putI (v0 := 114) B (by decide +kernel) (by decide) (by decide) (fun I B => ?_)
  refine w162_141 rfl ?_
  refine w162_142 ?_
  refine w162_144 ?_
  refine w162_146 (B.sh (q := (22, 135)) rfl) (by decide) ?_
  refine bd_putI (v0 := 115) B (by decide +kernel) (by decide) (by decide) (fun I B => ?_)
  refine w162_147 rfl ?_
  refine w162_148 ?_
  refine w162_150 ?_
  refine w162_152 (B.sh (q := (22, 135)) rfl) (by decide) ?_
  refine bd_putI (v0 := 32) B (by decide +kernel) (by decide) (by decide) (fun I B => ?_)
  refine w162_153 rfl ?_
  refine w162_154 ?_
  refine w162_156 ?_
  refine w162_158 (B.sh (q := (22, 135)) rfl) (by decide) ?_
  refine bd_putI (v0 := 105) B (by decide +kernel) (by decide) (by decide) (fun I B => ?_)
  refine w162_159 rfl ?_
  refine w162_160 ?_
  refine w162_162 ?_
  refine w162_164 (B.sh (q := (22, 135)) rfl) (by decide) ?_
  refine bd_putI (v0 := 102) B (by decide +kernel) (by decide) (by decide) (fun I B => ?_)
  refine w162_165 rfl ?_
  refine w162_166 ?_
  refine w162_168 ?_
  refine w162_170 (B.sh (q := (22, 135)) rfl) (by decide) ?_
  refine bd_putI (v0 := 32) B (by decide +kernel) (by decide) (by decide) (fun I B => ?_)
  refine w162_171 rfl ?_
  refine w162_172 ?_
  refine w162_174 ?_
  refine w162_176 (B.sh (q := (22, 135)) rfl) (by decide) ?_
  refine bd_putI (v0 := 111) B (by decide +kernel) (by decide) (by decide) (fun I B => ?_)
  refine w162_177 rfl ?_
  refine w162_178 ?_
  refine w162_180 ?_
  refine w162_182 (B.sh (q := (22, 135)) rfl) (by decide) ?_
  refine bd_putI (v0 := 114) B (by decide +kernel) (by decide) (by decide) (fun I B => ?_)
  refine w162_183 rfl ?_
  refine w162_184 ?_
  refine w162_186 ?_
  refine w162_188 (B.sh (q := (22, 135)) rfl) (by decide) ?_
  refine bd_putI (v0 := 32) B (by decide +kernel) (by decide) (by decide) (fun I B => ?_)
  refine w162_189 rfl ?_
  refine w162_190 ?_
  refine w162_192 ?_
  refine w162_194 (B.sh (q := (22, 135)) rfl) (by decide) ?_
  refine bd_putI (v0 := 97) B (by decide +kernel) (by decide) (by decide) (fun I B => ?_)
  refine w162_195 rfl ?_
  refine w162_196 ?_
  refine w162_198 ?_
  refine w162_200 (B.sh (q := (22, 135)) rfl) (by decide) ?_
  refine bd_putI (v0 := 110) B (by decide +kernel) (by decide) (by decide) (fun I B => ?_)
  refine w162_201 rfl ?_
  refine w162_202 ?_
  refine w162_204 ?_
  refine w162_206 (B.sh (q := (22, 135)) rfl) (by decide) ?_
  refine bd_putI (v0 := 100) B (by decide +kernel) (by decide) (by decide) (fun I B => ?_)
  refine w162_207 rfl ?_
  refine w162_208 ?_
  refine w162_210 ?_
  refine w162_212 (B.sh (q := (22, 135)) rfl) (by decide) ?_
  refine bd_putI (v0 := 32) B (by decide +kernel) (by decide) (by decide) (fun I B => ?_)
  refine w162_213 rfl ?_
  refine w162_214 ?_
  refine w162_216 ?_
  refine w162_218 (B.sh (q := (22, 135)) rfl) (by decide) ?_
  refine bd_putI (v0 := 110) B (by decide +kernel) (by decide) (by decide) (fun I B => ?_)
  refine w162_219 rfl ?_
  refine w162_220 ?_
  refine w162_222 ?_
  refine w162_224 (B.sh (q := (22, 135)) rfl) (by decide) ?_
  refine bd_putI (v0 := 111) B (by decide +kernel) (by decide) (by decide) (fun I B => ?_)
  refine w162_225 rfl ?_
  refine w162_226 ?_
  refine w162_228 ?_
  refine w162_230 (B.sh (q := (22, 135)) rfl) (by decide) ?_
  refine bd_putI (v0 := 116) B (by decide +kernel) (by decide) (by decide) (fun I B => ?_)
  refine w162_231 rfl ?_
  refine w162_232 ?_
  refine w162_234 ?_
  refine w162_236 (B.sh (q := (22, 135)) rfl) (by decide) ?_
  refine bd_putI (v0 := 32) B (by decide +kernel) (by decide) (by decide) (fun I B => ?_)
  refine w162_237 rfl ?_
  refine w162_238 ?_
  refine w162_240 ?_
  refine w162_242 (B.sh (q := (22, 135)) rfl) (by decide) ?_
  refine bd_putI (v0 := 109) B (by decide +kernel) (by decide) (by decide) (fun I B => ?_)
  refine w162_243 rfl ?_
  refine w162_244 ?_
  refine w162_246 ?_
  refine w162_248 (B.sh (q := (22, 135)) rfl) (by decide) ?_
  refine bd_putI (v0 := 101) B (by decide +kernel) (by decide) (by decide) (fun I B => ?_)
  refine w162_249 rfl ?_
  refine w162_250 ?_
  refine w162_252 ?_
  refine w162_254 (B.sh (q := (22, 135)) rfl) (by decide) ?_
  refine bd_putI (v0 := 109) B (by decide +kernel) (by decide) (by decide) (fun I B => ?_)
  refine w162_255 rfl ?_
  refine w162_256 ?_
  refine w162_258 ?_
  refine w162_260 (B.sh (q := (22, 135)) rfl) (by decide) ?_
  refine bd_putI (v0 := 98) B (by decide +kernel) (by decide) (by decide) (fun I B => ?_)
  refine w162_261 rfl ?_
  refine w162_262 ?_
  refine w162_264 ?_
  refine w162_266 (B.sh (q := (22, 135)) rfl) (by decide) ?_
  refine bd_putI (v0 := 101) B (by decide +kernel) (by decide) (by decide) (fun I B => ?_)
  refine w162_267 rfl ?_
  refine w162_268 ?_
  refine w162_270 ?_
  refine w162_272 (B.sh (q := (22, 135)) rfl) (by decide) ?_
  refine bd_putI (v0 := 114) B (by decide +kernel) (by decide) (by decide) (fun I B => ?_)
  refine w162_273 rfl ?_
  refine w162_274 ?_
  refine w162_276 ?_
  refine w162_278 (B.sh (q := (22, 135)) rfl) (by decide) ?_
  refine bd_putI (v0 := 32) B (by decide +kernel) (by decide) (by decide) (fun I B => ?_)
  refine w162_279 rfl ?_
  refine w162_280 ?_
  refine w162_282 ?_
  refine w162_284 (B.sh (q := (22, 135)) rfl) (by decide) ?_
  refine bd_putI (v0 := 115) B (by decide +kernel) (by decide) (by decide) (fun I B => ?_)
  refine w162_285 rfl ?_
  refine w162_286 ?_
  refine w162_288 ?_
  refine w162_290 (B.sh (q := (22, 135)) rfl) (by decide) ?_
  refine bd_putI (v0 := 105) B (by decide +kernel) (by decide) (by decide) (fun I B => ?_)
  refine w162_291 rfl ?_
  refine w162_292 ?_
  refine w162_294 ?_
  refine w162_296 (B.sh (q := (22, 135)) rfl) (by decide) ?_
  refine bd_putI (v0 := 100) B (by decide +kernel) (by decide) (by decide) (fun I B => ?_)
  refine w162_297 rfl ?_
  refine w162_298 ?_
  refine w162_300 ?_
  refine w162_302 (B.sh (q := (22, 135)) rfl) (by decide) ?_
  refine bd_putI (v0 := 101) B (by decide +kernel) (by decide) (by decide) (fun I B => ?_)
  refine w162_303 rfl ?_
  refine w162_304 ?_
  refine w162_306 ?_
  refine w162_308 (B.sh (q := (22, 135)) rfl) (by decide) ?_
  refine bd_putI (v0 := 32) B (by decide +kernel) (by decide) (by decide) (fun I B => ?_)
  refine w162_309 rfl ?_
  refine w162_310 ?_
  refine w162_312 ?_
  refine w162_314 (B.sh (q := (22, 135)) rfl) (by decide) ?_
  refine bd_putI (v0 := 98) B (by decide +kernel) (by decide) (by decide) (fun I B => ?_)
  refine w162_315 rfl ?_
  refine w162_316 ?_
  refine w162_318 ?_
  refine w162_320 (B.sh (q := (22, 135)) rfl) (by decide) ?_
  refine bd_putI (v0 := 105) B (by decide +kernel) (by decide) (by decide) (fun I B => ?_)
  refine w162_321 rfl ?_
  refine w162_322 ?_
  refine w162_324 ?_
  refine w162_326 (B.sh (q := (22, 135)) rfl) (by decide) ?_
  refine bd_putI (v0 := 108) B (by decide +kernel) (by decide) (by decide) (fun I B => ?_)
  refine w162_327 rfl ?_
  refine w162_328 ?_
  refine w162_330 ?_
  refine w162_332 (B.sh (q := (22, 135)) rfl) (by decide) ?_
  refine bd_putI (v0 := 108) B (by decide +kernel) (by decide) (by decide) (fun I B => ?_)
  refine w162_333 rfl ?_
  refine w162_334 ?_
  refine w162_336 ?_
  refine w162_338 (B.sh (q := (22, 135)) rfl) (by decide) ?_
  refine bd_putI (v0 := 32) B (by decide +kernel) (by decide) (by decide) (fun I B => ?_)
  refine w162_339 rfl ?_
  refine w162_340 ?_
  refine w162_342 ?_
  refine w162_344 (B.sh (q := (22, 135)) rfl) (by decide) ?_
  refine bd_putI (v0 := 119) B (by decide +kernel) (by decide) (by decide) (fun I B => ?_)
  refine w162_345 rfl ?_
  refine w162_346 ?_
  refine w162_348 ?_
  refine w162_350 (B.sh (q := (22, 135)) rfl) (by decide) ?_
  refine bd_putI (v0 := 97) B (by decide +kernel) (by decide) (by decide) (fun I B => ?_)
  refine w162_351 rfl ?_
  refine w162_352 ?_
  refine w162_354 ?_
  refine w162_356 (B.sh (q := (22, 135)) rfl) (by decide) ?_
  refine bd_putI (v0 := 110) B (by decide +kernel) (by decide) (by decide) (fun I B => ?_)
  refine w162_357 rfl ?_
  refine w162_358 ?_
  refine w162_360 ?_
  refine w162_362 (B.sh (q := (22, 135)) rfl) (by decide) ?_
  refine bd_putI (v0 := 116) B (by decide +kernel) (by decide) (by decide) (fun I B => ?_)
  refine w162_363 rfl ?_
  refine w162_364 ?_
  refine w162_366 ?_
  refine w162_368 (B.sh (q := (22, 135)) rfl) (by decide) ?_
  refine bd_putI (v0 := 32) B (by decide +kernel) (by decide) (by decide) (fun I B => ?_)
  refine w162_369 rfl ?_
  refine w162_370 ?_
  refine w162_372 ?_
  refine w162_374 (B.sh (q := (22, 135)) rfl) (by decide) ?_
  refine bd_putI (v0 := 115) B (by decide +kernel) (by decide) (by decide) (fun I B => ?_)
  refine w162_375 rfl ?_
  refine w162_376 ?_
  refine w162_378 ?_
  refine w162_380 (B.sh (q := (22, 135)) rfl) (by decide) ?_
  refine bd_putI (v0 := 116) B (by decide +kernel) (by decide) (by decide) (fun I B => ?_)
  refine w162_381 rfl ?_
  refine w162_382 ?_
  refine w162_384 ?_
  refine w162_386 (B.sh (q := (22, 135)) rfl) (by decide) ?_
  refine bd_putI (v0 := 97) B (by decide +kernel) (by decide) (by decide) (fun I B => ?_)
  refine w162_387 rfl ?_
  refine w162_388 ?_
  refine w162_390 ?_
  refine w162_392 (B.sh (q := (22, 135)) rfl) (by decide) ?_
  refine bd_putI (v0 := 110) B (by decide +kernel) (by decide) (by decide) (fun I B => ?_)
  refine w162_393 rfl ?_
  refine w162_394 ?_
  refine w162_396 ?_
  refine w162_398 (B.sh (q := (22, 135)) rfl) (by decide) ?_
  refine bd_putI (v0 := 100) B (by decide +kernel) (by decide) (by decide) (fun I B => ?_)
  refine w162_399 rfl ?_
  refine w162_400 ?_
  refine w162_402 ?_
  refine w162_404 (B.sh (q := (22, 135)) rfl) (by decide) ?_
  refine bd_putI (v0 := 115) B (by decide +kernel) (by decide) (by decide) (fun I B => ?_)
  refine w162_405 rfl ?_
  refine w162_406 ?_
  refine w162_408 ?_
  refine w162_410 (B.sh (q := (22, 135)) rfl) (by decide) ?_
  refine bd_putI (v0 := 32) B (by decide +kernel) (by decide) (by decide) (fun I B => ?_)
  refine w162_411 rfl ?_
  refine w162_412 ?_
  refine w162_414 ?_
  refine w162_416 (B.sh (q := (22, 135)) rfl) (by decide) ?_
  refine bd_putI (v0 := 109) B (by decide +kernel) (by decide) (by decide) (fun I B => ?_)
  refine w162_417 rfl ?_
  refine w162_418 ?_
  refine w162_420 ?_
  refine w162_422 (B.sh (q := (22, 135)) rfl) (by decide) ?_
  refine bd_putI (v0 := 111) B (by decide +kernel) (by decide) (by decide) (fun I B => ?_)
  refine w162_423 rfl ?_
  refine w162_424 ?_
  refine w162_426 ?_
  refine w162_428 (B.sh (q := (22, 135)) rfl) (by decide) ?_
  refine bd_putI (v0 := 111) B (by decide +kernel) (by decide) (by decide) (fun I B => ?_)
  refine w162_429 rfl ?_
  refine w162_430 ?_
  refine w162_432 ?_
  refine w162_434 (B.sh (q := (22, 135)) rfl) (by decide) ?_
  refine bd_putI (v0 := 100) B (by decide +kernel) (by decide) (by decide) (fun I B => ?_)
  refine w162_435 rfl ?_
  refine w162_436 ?_
  refine w162_438 ?_
  refine w162_440 (B.sh (q := (22, 135)) rfl) (by decide) ?_
  refine bd_putI (v0 := 32) B (by decide +kernel) (by decide) (by decide) (fun I B => ?_)
  refine w162_441 rfl ?_
  refine w162_442 ?_
  refine w162_444 ?_
  refine w162_446 (B.sh (q := (22, 135)) rfl) (by decide) ?_
  refine bd_putI (v0 := 118) B (by decide +kernel) (by decide) (by decide) (fun I B => ?_)
  refine w162_447 rfl ?_
  refine w162_448 ?_
  refine w162_450 ?_
  refine w162_452 (B.sh (q := (22, 135)) rfl) (by decide) ?_
  refine bd_putI (v0 := 111) B (by decide +kernel) (by decide) (by decide) (fun I B => ?_)
  refine w162_453 rfl ?_
  refine w162_454 ?_
  refine w162_456 ?_
  refine w162_458 (B.sh (q := (22, 135)) rfl) (by decide) ?_
  refine bd_putI (v0 := 105) B (by decide +kernel) (by decide) (by decide) (fun I B => ?_)
  refine w162_459 rfl ?_
  refine w162_460 ?_
  refine w162_462 ?_
  refine w162_464 (B.sh (q := (22, 135)) rfl) (by decide) ?_
  refine bd_putI (v0 := 99) B (by decide +kernel) (by decide) (by decide) (fun I B => ?_)
  refine w162_465 rfl ?_
  refine w162_466 ?_
  refine w162_468 ?_
  refine w162_470 (B.sh (q := (22, 135)) rfl) (by decide) ?_
  refine bd_putI (v0 := 101) B (by decide +kernel) (by decide) (by decide) (fun I B => ?_)
  refine w162_471 rfl ?_
  refine w162_472 ?_
  refine w162_474 ?_
  refine w162_476 (B.sh (q := (22, 135)) rfl) (by decide) ?_
  refine bd_putI (v0 := 32) B (by decide +kernel) (by decide) (by decide) (fun I B => ?_)
  refine w162_477 rfl ?_
  refine w162_478 ?_
  refine w162_480 ?_
  refine w162_482 (B.sh (q := (22, 135)) rfl) (by decide) ?_
  refine bd_putI (v0 := 104) B (by decide +kernel) (by decide) (by decide) (fun I B => ?_)
  refine w162_483 rfl ?_
  refine w162_484 ?_
  refine w162_486 ?_
  refine w162_488 (B.sh (q := (22, 135)) rfl) (by decide) ?_
  refine bd_putI (v0 := 101) B (by decide +kernel) (by decide) (by decide) (fun I B => ?_)
  refine w162_489 rfl ?_
  refine w162_490 ?_
  refine w162_492 ?_
  refine w162_494 (B.sh (q := (22, 135)) rfl) (by decide) ?_
  refine bd_putI (v0 := 114) B (by decide +kernel) (by decide) (by decide) (fun I B => ?_)
  refine w162_495 rfl ?_
  refine w162_496 ?_
  refine w162_498 ?_
  refine w162_500 (B.sh (q := (22, 135)) rfl) (by decide) ?_
  refine bd_putI (v0 := 101) B (by decide +kernel) (by decide) (by decide) (fun I B => ?_)
  refine w162_501 rfl ?_
  refine w162_502 ?_
  refine w162_504 ?_
  refine w162_506 (B.sh (q := (22, 135)) rfl) (by decide) ?_
  refine bd_putI (v0 := 32) B (by decide +kernel) (by decide) (by decide) (fun I B => ?_)
  refine w162_507 rfl ?_
  refine w162_508 ?_
  refine w162_510 ?_
  refine w162_512 (B.sh (q := (22, 135)) rfl) (by decide) ?_
  refine bd_putI (v0 := 100) B (by decide +kernel) (by decide) (by decide) (fun I B => ?_)
  refine w162_513 rfl ?_
  refine w162_514 ?_
  refine w162_516 ?_
  refine w162_518 (B.sh (q := (22, 135)) rfl) (by decide) ?_
  refine bd_putI (v0 := 97) B (by decide +kernel) (by decide) (by decide) (fun I B => ?_)
  refine w162_519 rfl ?_
  refine w162_520 ?_
  refine w162_522 ?_
  refine w162_524 (B.sh (q := (22, 135)) rfl) (by decide) ?_
  refine bd_putI (v0 := 121) B (by decide +kernel) (by decide) (by decide) (fun I B => ?_)
  refine w162_525 rfl ?_
  refine w162_526 ?_
  refine w162_528 ?_
  refine w162_530 (B.sh (q := (22, 135)) rfl) (by decide) ?_
  refine bd_putI (v0 := 32) B (by decide +kernel) (by decide) (by decide) (fun I B => ?_)
  refine w162_531 rfl ?_
  refine w162_532 ?_
  refine w162_534 ?_
  refine w162_536 (B.sh (q := (22, 135)) rfl) (by decide) ?_
  refine bd_putI (v0 := 100) B (by decide +kernel) (by decide) (by decide) (fun I B => ?_)
  refine w162_537 rfl ?_
  refine w162_538 ?_
  refine w162_540 ?_
  refine w162_542 (B.sh (q := (22, 135)) rfl) (by decide) ?_
  refine bd_putI (v0 := 111) B (by decide +kernel) (by decide) (by decide) (fun I B => ?_)
  refine w162_543 rfl ?_
  refine w162_544 ?_
  refine w162_546 ?_
  refine w162_548 (B.sh (q := (22, 135)) rfl) (by decide) ?_
  refine bd_putI (v0 := 110) B (by decide +kernel) (by decide) (by decide) (fun I B => ?_)
  refine w162_549 rfl ?_
  refine w162_550 ?_
  refine w162_552 ?_
  refine w162_554 (B.sh (q := (22, 135)) rfl) (by decide) ?_
  refine bd_putI (v0 := 101) B (by decide +kernel) (by decide) (by decide) (fun I B => ?_)
  refine w162_555 rfl ?_
  refine w162_556 ?_
  refine w162_558 ?_
  refine w162_560 (B.sh (q := (22, 135)) rfl) (by decide) ?_
  refine bd_putI (v0 := 32) B (by decide +kernel) (by decide) (by decide) (fun I B => ?_)
  refine w162_561 rfl ?_
  refine w162_562 ?_
  refine w162_564 ?_
  refine w162_566 (B.sh (q := (22, 135)) rfl) (by decide) ?_
  refine bd_putI (v0 := 108) B (by decide +kernel) (by decide) (by decide) (fun I B => ?_)
  refine w162_567 rfl ?_
  refine w162_568 ?_
  refine w162_570 ?_
  refine w162_572 (B.sh (q := (22, 135)) rfl) (by decide) ?_
  refine bd_putI (v0 := 97) B (by decide +kernel) (by decide) (by decide) (fun I B => ?_)
  refine w162_573 rfl ?_
  refine w162_574 ?_
  refine w162_576 ?_
  refine w162_578 (B.sh (q := (22, 135)) rfl) (by decide) ?_
  refine bd_putI (v0 := 116) B (by decide +kernel) (by decide) (by decide) (fun I B => ?_)
  refine w162_579 rfl ?_
  refine w162_580 ?_
  refine w162_582 ?_
  refine w162_584 (B.sh (q := (22, 135)) rfl) (by decide) ?_
  refine bd_putI (v0 := 101) B (by decide +kernel) (by decide) (by decide) (fun I B => ?_)
  refine w162_585 rfl ?_
  refine w162_586 ?_
  refine w162_588 ?_
  refine w162_590 (B.sh (q := (22, 135)) rfl) (by decide) ?_
  refine bd_putI (v0 := 115) B (by decide +kernel) (by decide) (by decide) (fun I B => ?_)
  refine w162_591 rfl ?_
  refine w162_592 ?_
  refine w162_594 ?_
  refine w162_596 (B.sh (q := (22, 135)) rfl) (by decide) ?_
  refine bd_putI (v0 := 116) B (by decide +kernel) (by decide) (by decide) (fun I B => ?_)
  refine w162_597 rfl ?_
  refine w162_598 ?_
  refine w162_600 ?_
  refine w162_602 (B.sh (q := (22, 135)) rfl) (by decide) ?_
  refine bd_putI (v0 := 32) B (by decide +kernel) (by decide) (by decide) (fun I B => ?_)
  refine w162_603 rfl ?_
  refine w162_604 ?_
  refine w162_606 ?_
  refine w162_608 (B.sh (q := (22, 135)) rfl) (by decide) ?_
  refine bd_putI (v0 := 115) B (by decide +kernel) (by decide) (by decide) (fun I B => ?_)
  refine w162_609 rfl ?_
  refine w162_610 ?_
  refine w162_612 ?_
  refine w162_614 (B.sh (q := (22, 135)) rfl) (by decide) ?_
  refine bd_putI (v0 := 116) B (by decide +kernel) (by decide) (by decide) (fun I B => ?_)
  refine w162_615 rfl ?_
  refine w162_616 ?_
  refine w162_618 ?_
  refine w162_620 (B.sh (q := (22, 135)) rfl) (by decide) ?_
  refine bd_putI (v0 := 97) B (by decide +kernel) (by decide) (by decide) (fun I B => ?_)
  refine w162_621 rfl ?_
  refine w162_622 ?_
  refine w162_624 ?_
  refine w162_626 (B.sh (q := (22, 135)) rfl) (by decide) ?_
  refine bd_putI (v0 := 110) B (by decide +kernel) (by decide) (by decide) (fun I B => ?_)
  refine w162_627 rfl ?_
  refine w162_628 ?_
  refine w162_630 ?_
  refine w162_632 (B.sh (q := (22, 135)) rfl) (by decide) ?_
  refine bd_putI (v0 := 100) B (by decide +kernel) (by decide) (by decide) (fun I B => ?_)
  refine w162_633 rfl ?_
  refine w162_634 ?_
  refine w162_636 ?_
  refine w162_638 (B.sh (q := (22, 135)) rfl) (by decide) ?_
  refine bd_putI (v0 := 105) B (by decide +kernel) (by decide) (by decide) (fun I B => ?_)
  refine w162_639 rfl ?_
  refine w162_640 ?_
  refine w162_642 ?_
  refine w162_644 (B.sh (q := (22, 135)) rfl) (by decide) ?_
  refine bd_putI (v0 := 110) B (by decide +kernel) (by decide) (by decide) (fun I B => ?_)
  refine w162_645 rfl ?_
  refine w162_646 ?_
  refine w162_648 ?_
  refine w162_650 (B.sh (q := (22, 135)) rfl) (by decide) ?_
  refine bd_putI (v0 := 103) B (by decide +kernel) (by decide) (by decide) (fun I B => ?_)
  refine w162_651 rfl ?_
  refine w162_652 ?_
  refine w162_654 ?_
  refine w162_656 (B.sh (q := (22, 135)) rfl) (by decide) ?_
  refine bd_putI (v0 := 32) B (by decide +kernel) (by decide) (by decide) (fun I B => ?_)
  refine w162_657 rfl ?_
  refine w162_658 ?_
  refine w162_660 ?_
  refine w162_662 (B.sh (q := (22, 135)) rfl) (by decide) ?_
  refine bd_putI (v0 := 102) B (by decide +kernel) (by decide) (by decide) (fun I B => ?_)
  refine w162_663 rfl ?_
  refine w162_664 ?_
  refine w162_666 ?_
  refine w162_668 (B.sh (q := (22, 135)) rfl) (by decide) ?_
  refine bd_putI (v0 := 111) B (by decide +kernel) (by decide) (by decide) (fun I B => ?_)
  refine w162_669 rfl ?_
  refine w162_670 ?_
  refine w162_672 ?_
  refine w162_674 (B.sh (q := (22, 135)) rfl) (by decide) ?_
  refine bd_putI (v0 := 114) B (by decide +kernel) (by decide) (by decide) (fun I B => ?_)
  refine w162_675 rfl ?_
  refine w162_676 ?_
  refine w162_678 ?_
  refine w162_680 (B.sh (q := (22, 135)) rfl) (by decide) ?_
  refine bd_putI (v0 := 32) B (by decide +kernel) (by decide) (by decide) (fun I B => ?_)
  refine w162_681 rfl ?_
  refine w162_682 ?_
  refine w162_684 ?_
  refine w162_686 (B.sh (q := (22, 135)) rfl) (by decide) ?_
  refine bd_putI (v0 := 112) B (by decide +kernel) (by decide) (by decide) (fun I B => ?_)
  refine w162_687 rfl ?_
  refine w162_688 ?_
  refine w162_690 ?_
  refine w162_692 (B.sh (q := (22, 135)) rfl) (by decide) ?_
  refine bd_putI (v0 := 117) B (by decide +kernel) (by decide) (by decide) (fun I B => ?_)
  refine w162_693 rfl ?_
  refine w162_694 ?_
  refine w162_696 ?_
  refine w162_698 (B.sh (q := (22, 135)) rfl) (by decide) ?_
  refine bd_putI (v0 := 116) B (by decide +kernel) (by decide) (by decide) (fun I B => ?_)
  refine w162_699 rfl ?_
  refine w162_700 ?_
  refine w162_702 ?_
  refine w162_704 (B.sh (q := (22, 135)) rfl) (by decide) ?_
  refine bd_putI (v0 := 32) B (by decide +kernel) (by decide) (by decide) (fun I B => ?_)
  refine w162_705 rfl ?_
  refine w162_706 ?_
  refine w162_708 ?_
  refine w162_710 (B.sh (q := (22, 135)) rfl) (by decide) ?_
  refine bd_putI (v0 := 103) B (by decide +kernel) (by decide) (by decide) (fun I B => ?_)
  refine w162_711 rfl ?_
  refine w162_712 ?_
  refine w162_714 ?_
  refine w162_716 (B.sh (q := (22, 135)) rfl) (by decide) ?_
  refine bd_putI (v0 := 111) B (by decide +kernel) (by decide) (by decide) (fun I B => ?_)
  refine w162_717 rfl ?_
  refine w162_718 ?_
  refine w162_720 ?_
  refine w162_722 (B.sh (q := (22, 135)) rfl) (by decide) ?_
  refine bd_putI (v0 := 32) B (by decide +kernel) (by decide) (by decide) (fun I B => ?_)
  refine w162_723 rfl ?_
  refine w162_724 ?_
  refine w162_726 ?_
  refine w162_728 (B.sh (q := (22, 135)) rfl) (by decide) ?_
  refine bd_putI (v0 := 115) B (by decide +kernel) (by decide) (by decide) (fun I B => ?_)
  refine w162_729 rfl ?_
  refine w162_730 ?_
  refine w162_732 ?_
  refine w162_734 (B.sh (q := (22, 135)) rfl) (by decide) ?_
  refine bd_putI (v0 := 119) B (by decide +kernel) (by decide) (by decide) (fun I B => ?_)
  refine w162_735 rfl ?_
  refine w162_736 ?_
  refine w162_738 ?_
  refine w162_740 (B.sh (q := (22, 135)) rfl) (by decide) ?_
  refine bd_putI (v0 := 97) B (by decide +kernel) (by decide) (by decide) (fun I B => ?_)
  refine w162_741 rfl ?_
  refine w162_742 ?_
  refine w162_744 ?_
  refine w162_746 (B.sh (q := (22, 135)) rfl) (by decide) ?_
  refine bd_putI (v0 := 121) B (by decide +kernel) (by decide) (by decide) (fun I B => ?_)
  refine w162_747 rfl ?_
  refine w162_748 ?_
  refine w162_750 ?_
  refine w162_752 (B.sh (q := (22, 135)) rfl) (by decide) ?_
  refine bd_putI (v0 := 32) B (by decide +kernel) (by decide) (by decide) (fun I B => ?_)
  refine w162_753 rfl ?_
  refine w162_754 ?_
  refine w162_756 ?_
  refine w162_758 (B.sh (q := (22, 135)) rfl) (by decide) ?_
  refine bd_putI (v0 := 111) B (by decide +kernel) (by decide) (by decide) (fun I B => ?_)
  refine w162_759 rfl ?_
  refine w162_760 ?_
  refine w162_762 ?_
  refine w162_764 (B.sh (q := (22, 135)) rfl) (by decide) ?_
  refine bd_putI (v0 := 110) B (by decide +kernel) (by decide) (by decide) (fun I B => ?_)
  refine w162_765 rfl ?_
  refine w162_766 ?_
  refine w162_768 ?_
  refine w162_770 (B.sh (q := (22, 135)) rfl) (by decide) ?_
  refine bd_putI (v0 := 32) B (by decide +kernel) (by decide) (by decide) (fun I B => ?_)
  refine w162_771 rfl ?_
  refine w162_772 ?_
  refine w162_774 ?_
  refine w162_776 (B.sh (q := (22, 135)) rfl) (by decide) ?_
  refine bd_putI (v0 := 116) B (by decide +kernel) (by decide) (by decide) (fun I B => ?_)
  refine w162_777 rfl ?_
  refine w162_778 ?_
  refine w162_780 ?_
  refine w162_782 (B.sh (q := (22, 135)) rfl) (by decide) ?_
  refine bd_putI (v0 := 111) B (by decide +kernel) (by decide) (by decide) (fun I B => ?_)
  refine w162_783 rfl ?_
  refine w162_784 ?_
  refine w162_786 ?_
  refine w162_788 (B.sh (q := (22, 135)) rfl) (by decide) ?_
  refine bd_putI (v0 := 32) B (by decide +kernel) (by decide) (by decide) (fun I B => ?_)
  refine w162_789 rfl ?_
  refine w162_790 ?_
  refine w162_792 ?_
  refine w162_794 (B.sh (q := (22, 135)) rfl) (by decide) ?_
  refine bd_putI (v0 := 112) B (by decide +kernel) (by decide) (by decide) (fun I B => ?_)
  refine w162_795 rfl ?_
  refine w162_796 ?_
  refine w162_798 ?_
  refine w162_800 (B.sh (q := (22, 135)) rfl) (by decide) ?_
  refine bd_putI (v0 := 97) B (by decide +kernel) (by decide) (by decide) (fun I B => ?_)
  refine w162_801 rfl ?_
  refine w162_802 ?_
  refine w162_804 ?_
  refine w162_806 (B.sh (q := (22, 135)) rfl) (by decide) ?_
  refine bd_putI (v0 := 115) B (by decide +kernel) (by decide) (by decide) (fun I B => ?_)
  refine w162_807 rfl ?_
  refine w162_808 ?_
  refine w162_810 ?_
  refine w162_812 (B.sh (q := (22, 135)) rfl) (by decide) ?_
  refine bd_putI (v0 := 115) B (by decide +kernel) (by decide) (by decide) (fun I B => ?_)
  refine w162_813 rfl ?_
  refine w162_814 ?_
  refine w162_817 ?_
  refine w162_819 (B.sh (q := (22, 135)) rfl) (by decide) ?_
  refine bd_putI (v0 := 32) B (by decide +kernel) (by decide) (by decide) (fun I B => ?_)
  refine w162_820 rfl ?_
  refine w162_821 ?_
  refine w162_824 ?_
  refine w162_826 (B.sh (q := (22, 135)) rfl) (by decide) ?_
  refine bd_putI (v0 := 116) B (by decide +kernel) (by decide) (by decide) (fun I B => ?_)
  refine w162_827 rfl ?_
  refine w162_828 ?_
  refine w162_831 ?_
  refine w162_833 (B.sh (q := (22, 135)) rfl) (by decide) ?_
  refine bd_putI (v0 := 105) B (by decide +kernel) (by decide) (by decide) (fun I B => ?_)
  refine w162_834 rfl ?_
  refine w162_835 ?_
  refine w162_838 ?_
  refine w162_840 (B.sh (q := (22, 135)) rfl) (by decide) ?_
  refine bd_putI (v0 := 109) B (by decide +kernel) (by decide) (by decide) (fun I B => ?_)
  refine w162_841 rfl ?_
  refine w162_842 ?_
  refine w162_845 ?_
  refine w162_847 (B.sh (q := (22, 135)) rfl) (by decide) ?_
  refine bd_putI (v0 := 101) B (by decide +kernel) (by decide) (by decide) (fun I B => ?_)
  refine w162_848 rfl ?_
  refine w162_849 ?_
  refine w162_852 ?_
  refine w162_854 (B.sh (q := (22, 135)) rfl) (by decide) ?_
  refine bd_putI (v0 := 115) B (by decide +kernel) (by decide) (by decide) (fun I B => ?_)
  refine w162_855 rfl ?_
  refine w162_856 ?_
  refine w162_859 ?_
  refine w162_861 (B.sh (q := (22, 135)) rfl) (by decide) ?_
  refine bd_putI (v0 := 32) B (by decide +kernel) (by decide) (by decide) (fun I B => ?_)
  refine w162_862 ?_ (B.sh (q := (9, 50)) rfl)
  refine bd_putP B (by decide +kernel) (by decide) (fun P B => ?_)
  refine w162_865 rfl ?_
  refine w162_866 ?_
  refine w162_869 ⟨by decide, by decide⟩ ?_
  rw [B.len (L := 131) rfl]
  refine bd_new (q := (22, 400)) B (by decide +kernel) (by decide +kernel) (by decide +kernel) (fun S I J P B => ?_)
  refine w162_871 ?_ (B.sh (q := (9, 50)) rfl)
  refine bd_putP B (by decide +kernel) (by decide) (fun P B => ?_)
  refine w162_874 rfl ?_
  refine w162_875 ?_
  refine w162_876 ⟨by decide, by decide⟩ ?_
  rw [B.len (L := 132) rfl]
  refine bd_new (q := (20, 5)) B (by decide +kernel) (by decide +kernel) (by decide +kernel) (fun S I J P B => ?_)
  refine w162_878 ?_ (B.sh (q := (9, 50)) rfl)
  refine bd_putP B (by decide +kernel) (by decide) (fun P B => ?_)
  refine w162_881 rfl ?_
  refine w162_882 ?_
  refine w162_883 ?_ (B.sh (q := (9, 50)) rfl)
  refine bd_putI (v0 := (-1)) B (by decide +kernel) rfl (by decide) (fun I B => ?_)
  refine w162_886 rfl ?_
  refine w162_887 ?_
  refine w162_890 ⟨by decide, by decide⟩ ?_
  rw [B.len (L := 133) rfl]
  refine bd_new (q := (20, 401)) B (by decide +kernel) (by decide +kernel) (by decide +kernel) (fun S I J P B => ?_)
  refine w162_892 ?_ (B.sh (q := (9, 50)) rfl)
  refine bd_putP B (by decide +kernel) (by decide) (fun P B => ?_)
  refine w162_895 rfl ?_
  refine w162_896 ?_
  refine w162_899 ⟨by decide, by decide⟩ ?_
  rw [B.len (L := 134) rfl]
  refine bd_new (q := (20, 401)) B (by decide +kernel) (by decide +kernel) (by decide +kernel) (fun S I J P B => ?_)
  refine w162_901 ?_ (B.sh (q := (9, 50)) rfl)
  refine bd_putP B (by decide +kernel) (by decide) (fun P B => ?_)
  refine w162_904 rfl ?_
  refine w162_905 ?_
  refine w162_908 ⟨by decide, by decide⟩ ?_
  rw [B.len (L := 135) rfl]
  refine bd_new (q := (20, 401)) B (by decide +kernel) (by decide +kernel) (by decide +kernel) (fun S I J P B => ?_)
  refine w162_910 ?_ (B.sh (q := (9, 50)) rfl)
  refine bd_putP B (by decide +kernel) (by decide) (fun P B => ?_)
  refine w162_913 rfl ?_
  refine w162_914 ?_
  refine w162_916 ⟨by decide, by decide⟩ ?_
  rw [B.len (L := 136) rfl]
  refine bd_new (q := (20, 9)) B (by decide +kernel) (by decide +kernel) (by decide +kernel) (fun S I J P B => ?_)
  refine w162_918 ?_ (B.sh (q := (9, 50)) rfl)
  refine bd_putP B (by decide +kernel) (by decide) (fun P B => ?_)
  refine w162_921 rfl ?_
  refine w162_922 ?_
  refine w162_923 ⟨by decide, by decide⟩ ?_
  rw [B.len (L := 137) rfl]
  refine bd_new (q := (20, 5)) B (by decide +kernel) (by decide +kernel) (by decide +kernel) (fun S I J P B => ?_)
  refine w162_925 ?_ (B.sh (q := (9, 50)) rfl)
  refine bd_putP B (by decide +kernel) (by decide) (fun P B => ?_)
  refine w162_928 rfl ?_
  refine w162_929 ?_
  refine w162_931 ⟨by decide, by decide⟩ ?_
  rw [B.len (L := 138) rfl]
  refine bd_new (q := (20, 35)) B (by decide +kernel) (by decide +kernel) (by decide +kernel) (fun S I J P B => ?_)
  refine w162_933 ?_ (B.sh (q := (9, 50)) rfl)
  refine bd_putP B (by decide +kernel) (by decide) (fun P B => ?_)
  refine w162_936 rfl ?_
  refine w162_937 ?_
  refine w162_939 ⟨by decide, by decide⟩ ?_
  rw [B.len (L := 139) rfl]
  refine bd_new (q := (20, 35)) B (by decide +kernel) (by decide +kernel) (by decide +kernel) (fun S I J P B => ?_)
  refine w162_941 ?_ (B.sh (q := (9, 50)) rfl)
  refine bd_putP B (by decide +kernel) (by decide) (fun P B => ?_)
  refine w162_944 rfl ?_
  refine w162_945 ?_
  refine w162_947 ⟨by decide, by decide⟩ ?_
  rw [B.len (L := 140) rfl]
  refine bd_new (q := (21, 35)) B (by decide +kernel) (by decide +kernel) (by decide +kernel) (fun S I J P B => ?_)
  refine w162_949 ?_ (B.sh (q := (9, 50)) rfl)
  refine bd_putP B (by decide +kernel) (by decide) (fun P B => ?_)
  refine w162_952 rfl ?_
  refine w162_953 ?_
  refine w162_956 ⟨by decide, by decide⟩ ?_
  rw [B.len (L := 141) rfl]
  refine bd_new (q := (20, 720)) B (by decide +kernel) (by decide +kernel) (by decide +kernel) (fun S I J P B => ?_)
  refine w162_958 ?_ (B.sh (q := (9, 50)) rfl)
  refine bd_putP B (by decide +kernel) (by decide) (fun P B => ?_)
  refine w162_961 rfl ?_
  refine w162_962 ?_
  refine w162_965 ⟨by decide, by decide⟩ ?_
  rw [B.len (L := 142) rfl]
  refine bd_new (q := (20, 720)) B (by decide +kernel) (by decide +kernel) (by decide +kernel) (fun S I J P B => ?_)
  refine w162_967 ?_ (B.sh (q := (9, 50)) rfl)
  refine bd_putP B (by decide +kernel) (by decide) (fun P B => ?_)
  refine w162_970 rfl ?_
  refine w162_971 ?_
  refine w162_973 ⟨by decide, by decide⟩ ?_
  rw [B.len (L := 143) rfl]
  refine bd_new (q := (21, 25)) B (by decide +kernel) (by decide +kernel) (by decide +kernel) (fun S I J P B => ?_)
  refine w162_975 ?_ (B.sh (q := (9, 50)) rfl)
  refine bd_putP B (by decide +kernel) (by decide) (fun P B => ?_)
  refine w162_978 rfl ?_
  refine w162_979 ?_
  refine w162_980 ⟨by decide, by decide⟩ ?_
  rw [B.len (L := 144) rfl]
  refine bd_new (q := (20, 5)) B (by decide +kernel) (by decide +kernel) (by decide +kernel) (fun S I J P B => ?_)
  refine w162_982 ?_ (B.sh (q := (9, 50)) rfl)
  refine bd_putP B (by decide +kernel) (by decide) (fun P B => ?_)
  refine w162_985 rfl ?_
  refine w162_986 ?_
  refine w162_987 ⟨by decide, by decide⟩ ?_
  rw [B.len (L := 145) rfl]
  refine bd_new (q := (20, 5)) B (by decide +kernel) (by decide +kernel) (by decide +kernel) (fun S I J P B => ?_)
  refine w162_989 ?_ (B.sh (q := (9, 50)) rfl)
  refine bd_putP B (by decide +kernel) (by decide) (fun P B => ?_)
  refine w162_992 rfl ?_
  refine w162_993 ?_
  refine w162_995 ⟨by decide, by decide⟩ ?_
  rw [B.len (L := 146) rfl]
  refine bd_new (q := (23, 21)) B (by decide +kernel) (by decide +kernel) (by decide +kernel) (fun S I J P B => ?_)
  refine w162_997 ?_ (B.sh (q := (9, 50)) rfl)
  refine bd_putP B (by decide +kernel) (by decide) (fun P B => ?_)
  refine w162_1000 rfl ?_
  refine w162_1001 ?_
  refine w162_1002 ?_ (B.sh (q := (9, 50)) rfl)
  refine bd_putI (v0 := (-1)) B (by decide +kernel) rfl (by decide) (fun I B => ?_)
  refine w162_1005 rfl ?_
  refine w162_1006 ?_
  refine w162_1007 ⟨by decide, by decide⟩ ?_
  rw [B.len (L := 147) rfl]
  refine bd_new (q := (23, 3)) B (by decide +kernel) (by decide +kernel) (by decide +kernel) (fun S I J P B => ?_)
  refine w162_1009 ?_ (B.sh (q := (9, 50)) rfl)
  refine bd_putP B (by decide +kernel) (by decide) (fun P B => ?_)
  refine w162_1012 rfl ?_
  refine w162_1013 ?_
  refine w162_1015 ⟨by decide, by decide⟩ ?_
  rw [B.len (L := 148) rfl]
  refine bd_new (q := (20, 44)) B (by decide +kernel) (by decide +kernel) (by decide +kernel) (fun S I J P B => ?_)
  refine w162_1017 ?_ (B.sh (q := (9, 50)) rfl)
  refine bd_putP B (by decide +kernel) (by decide) (fun P B => ?_)
  refine w162_1020 rfl ?_
  refine w162_1021 ?_
  refine w162_1022 ?_ (B.sh (q := (9, 50)) rfl)
  refine bd_putI (v0 := (-1)) B (by decide +kernel) rfl (by decide) (fun I B => ?_)
  refine w162_1025 rfl ?_
  refine w162_1026 (B.pt (b := 126) (by decide +kernel) (by decide)) ?_ (B.sh (q := (9, 50)) rfl)
  refine w162_1029 ?_
  refine w162_1031 ?_
  refine w162_1032 (B.sh (q := (20, 5684)) rfl) (by decide) ?_
  refine bd_putI (v0 := 1) B (by decide +kernel) rfl (by decide) (fun I B => ?_)
  refine w162_1033 rfl ?_
  refine w162_1034 (B.pt (b := 126) (by decide +kernel) (by decide)) ?_ (B.sh (q := (9, 50)) rfl)
  refine w162_1037 ?_
  refine w162_1039 ?_
  refine w162_1040 (B.sh (q := (20, 5684)) rfl) (by decide) ?_
  refine bd_putI (v0 := (-1)) B (by decide +kernel) rfl (by decide) (fun I B => ?_)
  refine w162_1041 ?_
  exact k _ _ _ _ B

set_option maxRecDepth 100000 in
theorem bd_ptr : (List.range 85).all (fun a => (List.range 50).all (fun j => decide (am_ptr (64 + a) j = fP 83 (64 + a) j))) = true := by decide +kernel
theorem am_ptr_50 {a j b : Nat} (h : am_ptr a j = some b) : 64 ≤ a ∧ j < 50 := by
  have ha : 64 ≤ a := by
    refine Nat.le_of_not_lt (fun z => ?_)
    unfold am_ptr at h
    rw [if_pos z] at h
    cases h
  refine ⟨ha, Nat.lt_of_not_le (fun z => ?_)⟩
  have q : am_pts.all (fun l => decide (l.length ≤ 50)) = true := by decide +kernel
  unfold am_ptr at h
  rw [if_neg (by omega)] at h
  cases hc : am_pts[a - 64]? with
  | none => rw [hc] at h; cases h
  | some l =>
    rw [hc] at h
    have hl := of_decide_eq_true (List.all_eq_true.mp q l (List.mem_of_getElem? hc))
    have e : l[j]? = none := List.getElem?_eq_none (by omega)
    change (l[j]?).getD none = some b at h
    rw [e] at h
    cases h
set_option maxRecDepth 100000 in
theorem bd_wds : (List.range 135).all (fun k => decide (fI 148 130 k = nI (am_wds.getD k 0))) = true := by decide +kernel
end
