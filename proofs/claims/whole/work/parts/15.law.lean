/-! THE CLAIM OUT OF ONE WALK OF THE LAW'S BODY. Your part is whole_start (and what it stands on); all else here is the same for every law, but numbers. -/
def R_law : String := "RookHouseLaw"
def lw_P (b : Addr) (xs : List Int32) (args : Array Value) (s : State) : Prop := args = #[.ref b] ∧ s.IntsAt b xs ∧ xs.length ≤ 3072 ∧ (Jvm.Cond.and given_1 narrow_1).before args s = true
def lw_Q (_ : Array Value) (s : State) (o : Outcome) (t : State) : Prop := o = .returned (some (.int 1)) ∧ Framed s o t [] 600000 7302249
def lw_Z (below : List Frame) (a : Array Value) (s : State) : State → Prop := fun t => ∃ o, t.status = .running ∧ Ended t below o ∧ lw_Q a s o t
/-- the law's own end, with 1 on the stack, nothing written that was there before, its room as the claim has it -/
theorem lw_ret {p : Program} {l : Launch} {e : Env} {s : State} {m : MethodId} {below : List Frame} {meth : Method} {c : Code} {b : Nat} (hx : p.tables.exec = Jvm.exec) (hb : c.code = code) (hr : meth.sig.returnType = ret) (hlocks : meth.locks = false) {pc : Nat} {H : Heap} {ls : Array Slot} (hdg : decode code pc = .ok (.ireturn, 1)) : W p l e room_1 s m #[Value.ref b] below meth c H [] 600000 7302249 (lw_Z below #[Value.ref b] s) (F0 m pc ls [.int 1]) := by
  intro T hT X
  obtain ⟨fs, hret, hrun, hended, hW, hframe⟩ := X.leave (v := some (.int 1)) (hlocks := hlocks) (fun h => by rw [hr] at h; cases h)
  have hmeth' : T.vm.method? m = some meth := X.method'
  refine ⟨T.setFrames fs, ?_, .returned (some (.int 1)), hrun, hended, rfl, ⟨_, rfl⟩, hW, hframe⟩
  jvm_step X.here [X.here.top, hx, hb, hdg, hmeth', hr, ret, narrow_b1]
  (try refine ⟨rfl, ?_⟩); (try refine ⟨rfl, ?_⟩)
  first | (intro acts; rw [hret _ acts rfl rfl rfl]) | rw [hret _ _ rfl rfl rfl]
  exact Steps.refl _
/-- what holds at the law's entry: the machine, the code, the tables' words (any of lw_tbl by 'hts w (by decide +kernel)'), the script of L ints xs at the cell b, what the Statement gives of the start (any of its parts by flat_of_before) -/
def lw_At (p : Program) (s : State) (m : MethodId) (meth : Method) (c : Code) (b L : Nat) (xs : Nat → Int32) : Prop :=
  p.tables.exec = Jvm.exec ∧ c.code = code ∧ meth.sig.returnType = ret ∧ c.maxLocals = 4 ∧ s.vm.findClass R_law = some m.cls ∧ (∀ w ∈ lw_tbl, w.before #[Value.ref b] s = true) ∧ va_X b L xs s s.heap ∧ b < s.heap.size ∧ meth.locks = false ∧ (Jvm.Cond.and given_1 narrow_1).before #[Value.ref b] s = true
/-- the empty heap -/
def am_H0 : am_H := (List.replicate 64 (99, 0), fun _ _ => 0, fun _ _ => 0, fun _ _ => none)
/-- WHAT IS LEFT: for every script the plain machine's law comes to 1, within the room -/
def am_claim : Prop := ∀ pr : am_Pr, pr.1 ≤ 3072 → ∃ (n : Nat) (τ : am_H), am_run pr n 1000 304 0 (lv_args 0 [.ref 0]) [] am_H0 = some (some (.int 1), τ) ∧ τ.1.length ≤ 600064 ∧ am_sl τ ≤ 7302249
theorem am_law_at : am_ms[304]? = some am_law := by
  unfold am_ms
  rw [List.getElem?_append_right (show am_mt.length ≤ 304 by decide +kernel), show 304 - am_mt.length = 0 by decide +kernel]
  rfl
def am_flat : List Cond := flatC (Jvm.Cond.and given_1 narrow_1)
def am_tm (i : Nat) : Term := .string "RookHouse$Tokens" (am_tx.getD i (0, "")).1
def am_tv (i : Nat) : Term := .field (am_tm i) "java/lang/String" "value" "[B"
def am_fb : List Nat := [47, 57, 66, 74, 81, 87, 95, 103, 109, 115, 124, 130, 136, 143, 150, 160, 169, 177, 185, 193, 203, 211, 218, 226, 234, 244, 256, 263]
def am_str1 (i : Nat) : Bool := decide (am_flat[am_fb.getD i 0]? = some (Cond.exactly (am_tm i) "java/lang/String")) && decide (am_flat[am_fb.getD i 0 + 1]? = some (Cond.eq (.field (am_tm i) "java/lang/String" "coder" "B") (.int 0))) && decide (am_flat[am_fb.getD i 0 + 2]? = some (Cond.arrayOf (am_tv i) .byte)) && decide (am_flat[am_fb.getD i 0 + 3]? = some (Cond.eq (.length (am_tv i)) (.int (Int32.ofNat (am_tb.getD i []).length)))) && (List.range (am_tb.getD i []).length).all (fun j => decide (am_flat[am_fb.getD i 0 + 4 + j]? = some (Cond.eq (.elem (am_tv i) (.int (Int32.ofNat j))) (.int ((am_tb.getD i []).getD j 0)))))
set_option maxRecDepth 100000 in
theorem am_str_0 : am_str1 0 = true := by decide +kernel
set_option maxRecDepth 100000 in
theorem am_str_1 : am_str1 1 = true := by decide +kernel
set_option maxRecDepth 100000 in
theorem am_str_2 : am_str1 2 = true := by decide +kernel
set_option maxRecDepth 100000 in
theorem am_str_3 : am_str1 3 = true := by decide +kernel
set_option maxRecDepth 100000 in
theorem am_str_4 : am_str1 4 = true := by decide +kernel
set_option maxRecDepth 100000 in
theorem am_str_5 : am_str1 5 = true := by decide +kernel
set_option maxRecDepth 100000 in
theorem am_str_6 : am_str1 6 = true := by decide +kernel
set_option maxRecDepth 100000 in
theorem am_str_7 : am_str1 7 = true := by decide +kernel
set_option maxRecDepth 100000 in
theorem am_str_8 : am_str1 8 = true := by decide +kernel
set_option maxRecDepth 100000 in
theorem am_str_9 : am_str1 9 = true := by decide +kernel
set_option maxRecDepth 100000 in
theorem am_str_10 : am_str1 10 = true := by decide +kernel
set_option maxRecDepth 100000 in
theorem am_str_11 : am_str1 11 = true := by decide +kernel
set_option maxRecDepth 100000 in
theorem am_str_12 : am_str1 12 = true := by decide +kernel
set_option maxRecDepth 100000 in
theorem am_str_13 : am_str1 13 = true := by decide +kernel
set_option maxRecDepth 100000 in
theorem am_str_14 : am_str1 14 = true := by decide +kernel
set_option maxRecDepth 100000 in
theorem am_str_15 : am_str1 15 = true := by decide +kernel
set_option maxRecDepth 100000 in
theorem am_str_16 : am_str1 16 = true := by decide +kernel
set_option maxRecDepth 100000 in
theorem am_str_17 : am_str1 17 = true := by decide +kernel
set_option maxRecDepth 100000 in
theorem am_str_18 : am_str1 18 = true := by decide +kernel
set_option maxRecDepth 100000 in
theorem am_str_19 : am_str1 19 = true := by decide +kernel
set_option maxRecDepth 100000 in
theorem am_str_20 : am_str1 20 = true := by decide +kernel
set_option maxRecDepth 100000 in
theorem am_str_21 : am_str1 21 = true := by decide +kernel
set_option maxRecDepth 100000 in
theorem am_str_22 : am_str1 22 = true := by decide +kernel
set_option maxRecDepth 100000 in
theorem am_str_23 : am_str1 23 = true := by decide +kernel
set_option maxRecDepth 100000 in
theorem am_str_24 : am_str1 24 = true := by decide +kernel
set_option maxRecDepth 100000 in
theorem am_str_25 : am_str1 25 = true := by decide +kernel
set_option maxRecDepth 100000 in
theorem am_str_26 : am_str1 26 = true := by decide +kernel
set_option maxRecDepth 100000 in
theorem am_str_27 : am_str1 27 = true := by decide +kernel
theorem am_str_ok (i : Nat) (hi : i < 28) : am_str1 i = true := by
  rcases (show i = 0 ∨ i = 1 ∨ i = 2 ∨ i = 3 ∨ i = 4 ∨ i = 5 ∨ i = 6 ∨ i = 7 ∨ i = 8 ∨ i = 9 ∨ i = 10 ∨ i = 11 ∨ i = 12 ∨ i = 13 ∨ i = 14 ∨ i = 15 ∨ i = 16 ∨ i = 17 ∨ i = 18 ∨ i = 19 ∨ i = 20 ∨ i = 21 ∨ i = 22 ∨ i = 23 ∨ i = 24 ∨ i = 25 ∨ i = 26 ∨ i = 27 by omega) with rfl | rfl | rfl | rfl | rfl | rfl | rfl | rfl | rfl | rfl | rfl | rfl | rfl | rfl | rfl | rfl | rfl | rfl | rfl | rfl | rfl | rfl | rfl | rfl | rfl | rfl | rfl | rfl
  · exact am_str_0
  · exact am_str_1
  · exact am_str_2
  · exact am_str_3
  · exact am_str_4
  · exact am_str_5
  · exact am_str_6
  · exact am_str_7
  · exact am_str_8
  · exact am_str_9
  · exact am_str_10
  · exact am_str_11
  · exact am_str_12
  · exact am_str_13
  · exact am_str_14
  · exact am_str_15
  · exact am_str_16
  · exact am_str_17
  · exact am_str_18
  · exact am_str_19
  · exact am_str_20
  · exact am_str_21
  · exact am_str_22
  · exact am_str_23
  · exact am_str_24
  · exact am_str_25
  · exact am_str_26
  · exact am_str_27
theorem am_str_ref : (List.range 28).all (fun i => decide (lw_tbl[686 + i]? = some (.stringRef "RookHouse$Tokens" (am_tx.getD i (0, "")).1 (am_tx.getD i (0, "")).2))) = true := by decide +kernel
set_option maxHeartbeats 4000000 in
set_option maxRecDepth 100000 in
/-- from the claim of the plain machine to the real one's -/
theorem am_whole (hcl : am_claim) {p : Program} {e : Env} {s : State} {m : MethodId} {below : List Frame} {meth : Method} {c : Code} (l : Launch) (hflags : l.flags = flags0) {b L : Nat} {xs : Nat → Int32} (hL : L ≤ 3072) (C0 : lw_At p s m meth c b L xs) : W p l e room_1 s m #[Value.ref b] below meth c s.heap [] 0 0 (lw_Z below #[Value.ref b] s) (entryFrame m ([Value.ref b] : List Value).toArray 4) := by
  obtain ⟨hx, hb, hr, hml, hown, hts, hX, hbl, hlocks, hgv⟩ := C0
  have hs := flat_of_before _ hgv
  have hA : ∀ a : Nat, a < s.heap.size → ¬ (fun q => s.heap.size ≤ q) a := fun a h => Nat.not_le.mpr h
  obtain ⟨t1, ht1, hTt1⟩ : ∃ t : Nat, (Term.static "RookHouse" "MOST_OF_TERM" "[I").eval #[Value.ref b] s none [] s = some (Value.ref t) ∧ va_T .int t 4 (fun j => .int ([999, 10, 9, 99].getD j 0)) (fun q => s.heap.size ≤ q) s s.heap := by
    refine va_Tof (by decide) (hs (.arrayOf (Term.static "RookHouse" "MOST_OF_TERM" "[I") .int) (by decide +kernel)) (va_eqt (hs (.eq (.length (Term.static "RookHouse" "MOST_OF_TERM" "[I")) (.int 4)) (by decide +kernel))) (fun j hj => ?_) hA
    rcases (show j = 0 ∨ j = 1 ∨ j = 2 ∨ j = 3 by omega) with rfl | rfl | rfl | rfl
    · exact va_eqt (hs (.eq (.elem (Term.static "RookHouse" "MOST_OF_TERM" "[I") (.int 0)) (.int 999)) (by decide +kernel))
    · exact va_eqt (hs (.eq (.elem (Term.static "RookHouse" "MOST_OF_TERM" "[I") (.int 1)) (.int 10)) (by decide +kernel))
    · exact va_eqt (hs (.eq (.elem (Term.static "RookHouse" "MOST_OF_TERM" "[I") (.int 2)) (.int 9)) (by decide +kernel))
    · exact va_eqt (hs (.eq (.elem (Term.static "RookHouse" "MOST_OF_TERM" "[I") (.int 3)) (.int 99)) (by decide +kernel))
  obtain ⟨t2, ht2, hTt2⟩ : ∃ t : Nat, (Term.static "RookHouse" "ORDERS_OF" "[I").eval #[Value.ref b] s none [] s = some (Value.ref t) ∧ va_T .int t 8 (fun j => .int ([1, 1, 2, 6, 24, 120, 720, 5040].getD j 0)) (fun q => s.heap.size ≤ q) s s.heap := by
    refine va_Tof (by decide) (hs (.arrayOf (Term.static "RookHouse" "ORDERS_OF" "[I") .int) (by decide +kernel)) (va_eqt (hs (.eq (.length (Term.static "RookHouse" "ORDERS_OF" "[I")) (.int 8)) (by decide +kernel))) (fun j hj => ?_) hA
    rcases (show j = 0 ∨ j = 1 ∨ j = 2 ∨ j = 3 ∨ j = 4 ∨ j = 5 ∨ j = 6 ∨ j = 7 by omega) with rfl | rfl | rfl | rfl | rfl | rfl | rfl | rfl
    · exact va_eqt (hs (.eq (.elem (Term.static "RookHouse" "ORDERS_OF" "[I") (.int 0)) (.int 1)) (by decide +kernel))
    · exact va_eqt (hs (.eq (.elem (Term.static "RookHouse" "ORDERS_OF" "[I") (.int 1)) (.int 1)) (by decide +kernel))
    · exact va_eqt (hs (.eq (.elem (Term.static "RookHouse" "ORDERS_OF" "[I") (.int 2)) (.int 2)) (by decide +kernel))
    · exact va_eqt (hs (.eq (.elem (Term.static "RookHouse" "ORDERS_OF" "[I") (.int 3)) (.int 6)) (by decide +kernel))
    · exact va_eqt (hs (.eq (.elem (Term.static "RookHouse" "ORDERS_OF" "[I") (.int 4)) (.int 24)) (by decide +kernel))
    · exact va_eqt (hs (.eq (.elem (Term.static "RookHouse" "ORDERS_OF" "[I") (.int 5)) (.int 120)) (by decide +kernel))
    · exact va_eqt (hs (.eq (.elem (Term.static "RookHouse" "ORDERS_OF" "[I") (.int 6)) (.int 720)) (by decide +kernel))
    · exact va_eqt (hs (.eq (.elem (Term.static "RookHouse" "ORDERS_OF" "[I") (.int 7)) (.int 5040)) (by decide +kernel))
  have hZ1 : va_Z "RookHouse" "MOST_OF_TERM" "[I" (.ref t1) (fun q => s.heap.size ≤ q) s s.heap := va_Zof (hts (.laysStatic "RookHouse" "MOST_OF_TERM" "[I") (List.mem_of_getElem? (i := 160) (by decide +kernel))) (hts (.initialized "RookHouse") (List.mem_of_getElem? (i := 128) (by decide +kernel))) ht1 hA
  have hZ2 : va_Z "RookHouse" "ORDERS_OF" "[I" (.ref t2) (fun q => s.heap.size ≤ q) s s.heap := va_Zof (hts (.laysStatic "RookHouse" "ORDERS_OF" "[I") (List.mem_of_getElem? (i := 1042) (by decide +kernel))) (hts (.initialized "RookHouse") (List.mem_of_getElem? (i := 128) (by decide +kernel))) ht2 hA
  have hZ3 : va_Z "java/lang/String" "COMPACT_STRINGS" "Z" (.int 1) (fun q => s.heap.size ≤ q) s s.heap := va_Zof (hts (.laysStatic "java/lang/String" "COMPACT_STRINGS" "Z") (List.mem_of_getElem? (i := 726) (by decide +kernel))) (hts (.initialized "java/lang/String") (List.mem_of_getElem? (i := 140) (by decide +kernel))) (va_eqt (hs (.eq (.static "java/lang/String" "COMPACT_STRINGS" "Z") (.int 1)) (by decide +kernel))) hA
  obtain ⟨fm, t3, hZ4⟩ : ∃ (fm : Bool) (t3 : Nat), va_Z "jdk/internal/util/Preconditions" "SIOOBE_FORMATTER" "Ljava/util/function/BiFunction;" (if fm then .null else .ref t3) (fun q => s.heap.size ≤ q) s s.heap := by
    rcases va_Zqof (A := fun q => s.heap.size ≤ q) (hts (.laysStatic "jdk/internal/util/Preconditions" "SIOOBE_FORMATTER" "Ljava/util/function/BiFunction;") (List.mem_of_getElem? (i := 742) (by decide +kernel))) (hts (.initialized "jdk/internal/util/Preconditions") (List.mem_of_getElem? (i := 142) (by decide +kernel))) (hs (.isRef (.static "jdk/internal/util/Preconditions" "SIOOBE_FORMATTER" "Ljava/util/function/BiFunction;")) (by decide +kernel)) hA with h | ⟨t, h⟩
    · exact ⟨true, 0, h⟩
    · exact ⟨false, t, h⟩
  have hst : ∀ i : Nat, ∃ q : Nat × Nat, i < 28 → (am_tm i).eval #[Value.ref b] s none [] s = some (.ref q.1) ∧ va_O "java/lang/String" q.1 (fun q => s.heap.size ≤ q) s s.heap ∧ va_OF "java/lang/String" "coder" "B" (.int 0) q.1 (fun q => s.heap.size ≤ q) s s.heap ∧ va_OF "java/lang/String" "value" "[B" (.ref q.2) q.1 (fun q => s.heap.size ≤ q) s s.heap ∧ va_T .byte q.2 (am_tb.getD i []).length (fun j => .int ((am_tb.getD i []).getD j 0)) (fun q => s.heap.size ≤ q) s s.heap := by
    intro i
    by_cases hi : i < 28
    · have h1 := am_str_ok i hi
      simp only [am_str1, Bool.and_eq_true, decide_eq_true_eq] at h1
      obtain ⟨⟨⟨⟨a1, a2⟩, a3⟩, a4⟩, a5⟩ := h1
      obtain ⟨a, c0, cA, kA, q1, q2, q3, q4, q5, q6, -⟩ := Cond.exactly_spec (args := #[Value.ref b]) (first := s) (o := none) (s := s) (idx := []) (t := am_tm i) (cls := "java/lang/String") (hs _ (List.mem_of_getElem? a1))
      have hlen : (am_tb.getD i []).length < 2 ^ 31 := by
        have h2 : am_tb.all (fun l => decide (l.length < 100)) = true := by decide +kernel
        by_cases hl : i < am_tb.length
        · have h3 := List.all_eq_true.mp h2 _ (List.getElem_mem hl)
          simp only [decide_eq_true_eq] at h3
          rw [List.getD_eq_getElem?_getD, List.getElem?_eq_getElem hl]
          simp only [Option.getD_some]
          omega
        · rw [List.getD_eq_getElem?_getD, List.getElem?_eq_none_iff.mpr (by omega)]
          simp
      obtain ⟨t, ht, hT⟩ := va_Tof (f := fun j => .int ((am_tb.getD i []).getD j 0)) (A := fun q => s.heap.size ≤ q) hlen (hs _ (List.mem_of_getElem? a3)) (va_eqt (hs _ (List.mem_of_getElem? a4))) (fun j hj => va_eqt (hs _ (List.mem_of_getElem? (of_decide_eq_true (List.all_eq_true.mp a5 j (List.mem_range.mpr hj)))))) hA
      exact ⟨(a, t), fun _ => ⟨q1, ⟨cA, q3, q5, by rw [q6]; exact q2, hA a (Array.getElem?_eq_some_iff.mp q3).1⟩, vk_OFof q1 (va_eqt (hs _ (List.mem_of_getElem? a2))) hA, vk_OFof q1 ht hA, hT⟩⟩
    · exact ⟨(0, 0), fun h => absurd h hi⟩
  obtain ⟨ad, had⟩ := Classical.axiomOfChoice hst
  have hkn : ∀ ci : Nat, ∃ q : ClassId × (Nat → Nat), ci < 10 → u_Kn s (am_cn ci) (am_T ci) (am_nf ci) q.1 q.2 := by
    intro ci
    by_cases hi : ci < 10
    · obtain ⟨cC, iS, h⟩ := u_known hts (fun w hw => am_TG_in (am_uin ci hi w hw)) (hts _ (am_TG_in (am_inst hi).1))
      exact ⟨(cC, iS), fun _ => h⟩
    · exact ⟨(0, fun _ => 0), fun h => absurd h hi⟩
  obtain ⟨kn, hkn⟩ := Classical.axiomOfChoice hkn
  have hAC := am_arr_all
  simp only [Bool.and_eq_true] at hAC
  have hprim : ∀ ty : FieldType, (∀ C, ty ≠ .object C) → Cond.arrayClass ty ∈ am_TG → ∃ cA : ClassId, ArrOfT s cA ty ∧ va_RA s cA ty := by
    intro ty hno hm
    obtain ⟨cA, kA, comp, h1, h2, h3⟩ := Cond.arrayClass_spec (hts _ (am_TG_in hm))
    refine ⟨cA, fun n z => ⟨fun k h => (by cases h), kA, h2, comp, h3⟩, ?_⟩
    cases ty <;> first | exact h1 | exact absurd rfl (hno _)
  have hobj : ∀ C : String, va_AO C s → ∃ cA : ClassId, ArrOfT s cA (.object C) ∧ va_RA s cA (.object C) := by
    intro C h
    obtain ⟨comp, cA, kA, f1, -, f2, f3, f4⟩ := Cond.arrayOver_spec (va_AO.use (A := #[Value.ref b]) h)
    exact ⟨cA, fun N z => ⟨fun k h => (by cases h), kA, f2, comp, f3⟩, kA, comp, f2, f3, f1, f4⟩
  have hAO1 : va_AO "RookHouse$House" s := va_AO.of (hts (.arrayOver (.object "RookHouse$House")) (List.mem_of_getElem? (i := 227) (by decide +kernel)))
  have hAO2 : va_AO "RookHouse$Text" s := va_AO.of (hts (.arrayOver (.object "RookHouse$Text")) (List.mem_of_getElem? (i := 162) (by decide +kernel)))
  obtain ⟨c0, hc0⟩ := hprim .int (fun C h => by cases h) (am_is_mem hAC.1.1.1)
  obtain ⟨c1, hc1⟩ := hprim .boolean (fun C h => by cases h) (am_is_mem hAC.1.1.2)
  obtain ⟨c2, hc2⟩ := hprim .byte (fun C h => by cases h) (am_is_mem hAC.1.2)
  obtain ⟨c3, hc3⟩ := hprim .long (fun C h => by cases h) (am_is_mem hAC.2)
  obtain ⟨c4, hc4⟩ := hobj _ hAO1
  obtain ⟨c5, hc5⟩ := hobj _ hAO2
  obtain ⟨dA, hd0, hd1, hd2, hd3, hd4, hd5⟩ : ∃ dA : Nat → ClassId, dA 0 = c0 ∧ dA 1 = c1 ∧ dA 2 = c2 ∧ dA 3 = c3 ∧ dA 4 = c4 ∧ dA 5 = c5 := ⟨fun k => if k = 0 then c0 else if k = 1 then c1 else if k = 2 then c2 else if k = 3 then c3 else if k = 4 then c4 else c5, rfl, rfl, rfl, rfl, rfl, rfl⟩
  have hK : va_K (fun k => (kn k).1, fun k => (kn k).2) am_cl (am_tys dA) s := by
    refine ⟨fun k q hq => ?_, fun k q hq => ?_⟩
    · have hk : k < 10 := (List.getElem?_eq_some_iff.mp hq).1
      have h1 := am_cl_get k hk
      cases Option.some.inj (h1.symm.trans hq)
      exact hkn k hk
    · have hk : k < 6 := (List.getElem?_eq_some_iff.mp hq).1
      rcases (show k = 0 ∨ k = 1 ∨ k = 2 ∨ k = 3 ∨ k = 4 ∨ k = 5 by omega) with rfl | rfl | rfl | rfl | rfl | rfl <;> cases hq
      · rw [hd0]; exact hc0
      · rw [hd1]; exact hc1
      · rw [hd2]; exact hc2
      · rw [hd3]; exact hc3
      · rw [hd4]; exact hc4
      · rw [hd5]; exact hc5
  obtain ⟨sa, hsa0, hsa1, hsa2, hsa3, hsaK, hsaV⟩ : ∃ sa : Nat → Nat, sa 0 = b ∧ sa 1 = t1 ∧ sa 2 = t2 ∧ sa 3 = t3 ∧ (∀ i, i < 28 → sa (4 + i) = (ad i).1) ∧ (∀ i, i < 28 → sa (36 + i) = (ad i).2) := by
    refine ⟨fun a => if a = 0 then b else if a = 1 then t1 else if a = 2 then t2 else if a = 3 then t3 else if a < 32 then (ad (a - 4)).1 else (ad (a - 36)).2, rfl, rfl, rfl, rfl, fun i hi => ?_, fun i hi => ?_⟩
    · have e1 : 4 + i - 4 = i := by omega
      simp only [e1]
      rw [if_neg (by omega), if_neg (by omega), if_neg (by omega), if_neg (by omega), if_pos (by omega)]
    · have e1 : 36 + i - 36 = i := by omega
      simp only [e1]
      rw [if_neg (by omega), if_neg (by omega), if_neg (by omega), if_neg (by omega), if_neg (by omega)]
  obtain ⟨scr, hx1, hx2, hx3, hx4, hx5⟩ := hX
  have hTS : va_T .int b L (fun j => .int (xs j)) (fun q => s.heap.size ≤ q) s s.heap := ⟨scr, hx1, hx2, hx3, by omega, by rw [hx4], hx5, hA b hbl⟩
  have hF : am_SF s.heap.size sa (L, xs, fm) s.heap s := by
    refine ⟨by rw [hsa1]; exact hZ1, by rw [hsa2]; exact hZ2, hZ3, by rw [hsa3]; exact hZ4, ?_, ?_, ?_, ?_, ?_, hAO1, hAO2⟩
    · intro a q hq
      unfold am_sar at hq
      split at hq
      · cases hq; rw [hsa0]; exact hTS
      · cases hq; rw [hsa1]; exact hTt1
      · cases hq; rw [hsa2]; exact hTt2
      · split at hq
        · rename_i ha
          cases hq
          have h1 := (had (a - 36) (by omega)).2.2.2.2
          have h2 := hsaV (a - 36) (by omega)
          rw [show 36 + (a - 36) = a by omega] at h2
          rw [h2]
          exact h1
        · cases hq
    · intro i hi
      obtain ⟨-, g1, g2, g3, -⟩ := had i hi
      rw [hsaK i hi, hsaV i hi]
      exact ⟨g1, g2, g3⟩
    · intro i q hq
      have hi : i < 28 := (List.getElem?_eq_some_iff.mp hq).1
      have h1 := of_decide_eq_true (List.all_eq_true.mp am_str_ref i (List.mem_range.mpr hi))
      have e1 : am_tx.getD i (0, "") = q := by rw [List.getD_eq_getElem?_getD, hq]; rfl
      rw [e1] at h1
      have h2 := (had i hi).1
      unfold am_tm at h2
      rw [e1] at h2
      rw [hsaK i hi]
      exact vk_R.of (hts _ (List.mem_of_getElem? h1)) h2
    · exact va_Nw.of rfl (hts (.fieldLinkNest "RookHouse$House" 21 "RookHouse" "MOST_OF_TERM" "[I" "RookHouse") (List.mem_of_getElem? (i := 159) (by decide +kernel)))
    · exact fun own idx y hy => va_Nw.of rfl (hts _ hy)
  obtain ⟨n, τ, hrun, hlen, hsl⟩ := hcl (L, xs, fm) hL
  have C : am_C p s m #[Value.ref b] meth c code 10 4 (decide (x.name = "<init>")) s.heap.size sa (fun k => (kn k).1) (fun k => (kn k).2) dA (L, xs, fm) s.heap := ⟨hx, hb, hml, hown, fun w hw => hts w (am_TG_in hw), fun h => absurd h (by decide), hK, hF, fun q _ => rfl, rfl, Nat.le_refl _⟩
  have hW : am_Wd s.heap.size sa (fun k => (kn k).1) (fun k => (kn k).2) dA am_H0 s.heap := ⟨by decide, by show s.heap.size = s.heap.size + ((List.replicate 64 (99, 0)).length - 64); simp, fun k q hq => by
    have e1 : am_ws s.heap.size (am_rho s.heap.size sa) dA am_H0 = [] := rfl
    rw [e1] at hq
    cases hq⟩
  have hl := lv_entry ([.ref b]) (n := 4) (Nat.le_of_ble_eq_true rfl)
  rw [lg_entry_eq]
  generalize (lg_sl ([.ref b]) ++ List.replicate (4 - (lg_sl ([.ref b])).length) Slot.unset).toArray = ls at hl ⊢
  have e0 : [Value.ref b] = [Value.ref 0].map (am_tr (am_rho s.heap.size sa)) := by
    show [Value.ref b] = [Value.ref (am_rho s.heap.size sa 0)]
    rw [show am_rho s.heap.size sa 0 = sa 0 from rfl, hsa0]
  rw [e0] at hl
  have h0l : am_H0.1.length = 64 := rfl
  have h0s : am_sl am_H0 = 0 := rfl
  refine am_snd (L, xs, fm) n p l e room_1 s m #[Value.ref b] below meth c s.heap [] 0 0 (lw_Z below #[Value.ref b] s) s.heap.size sa (fun k => (kn k).1) (fun k => (kn k).2) dA s.heap 1000 304 0 ls (lv_args 0 [.ref 0]) [] am_H0 (some (.int 1)) τ am_law am_law_at hrun C hW va_S.rf (am_L0 hl) (by decide) (by decide) (by rw [h0l]; show 0 + (τ.1.length - 64) ≤ 600000; omega) (by rw [h0s]; show 0 + (am_sl τ - 0) ≤ 7302249; omega) ?_
  intro H' locs' ls' pc' st' ins len hd hret hW' hS'
  rw [h0l, h0s, Nat.zero_add, Nat.zero_add, Nat.sub_zero]
  refine va_forget hS'.2.2 (W.widen (k := 600000) (n := 7302249) (by omega) hsl ?_)
  unfold am_ret at hret
  split at hret
  · split at hret <;> cases hret
  · split at hret
    · split at hret
      · cases hret
        exact lw_ret hx hb hr hlocks hd
      · cases hret
    · cases hret
  · split at hret <;> cases hret
  · split at hret <;> cases hret
  · cases hret
