/-! what a program decides of the tables -/
def am_TG : List Cond := lw_tbl.filter goodWord
def am_is (i : Nat) (w : Cond) : Bool := decide (lw_tbl[i]? = some w) && goodWord w
theorem am_is_mem {i : Nat} {w : Cond} (h : am_is i w = true) : w ∈ am_TG := by
  simp only [am_is, Bool.and_eq_true, decide_eq_true_eq] at h
  exact List.mem_filter.mpr ⟨List.mem_of_getElem? h.1, h.2⟩
theorem am_TG_good {w : Cond} (h : w ∈ am_TG) : (w.onTables && w.keeps) = true ∨ ∃ ty, w = .arrayClass ty := good_of_word (List.mem_filter.mp h).2
theorem am_TG_in {w : Cond} (h : w ∈ am_TG) : w ∈ lw_tbl := (List.mem_filter.mp h).1
def am_me_ok (M : am_Me) : Bool :=
  goodWord (.code M.2.1 M.2.2.1 M.2.2.2.1 M.2.2.2.2.1) && (if M.2.2.2.2.2.2.1 = 1 then am_is M.2.2.2.2.2.2.2.2.1 (.static M.2.1) else am_is M.2.2.2.2.2.2.2.2.1 (.instanceMethod M.2.1)) && (if M.2.2.2.2.2.2.1 = 0 then am_is M.2.2.2.2.2.2.2.2.2 (.selects M.2.1.cls M.2.1 M.2.1) else true) &&
  decide (M.2.1.cls = am_cn M.1) && decide (M.2.1.cls ≠ "java/lang/invoke/MethodHandle") && decide (M.2.1.cls ≠ "java/lang/invoke/VarHandle") && decide ((parseMethodDescriptor M.2.1.desc).map (fun d => d.parameters.length) = some M.2.2.2.2.2.1) && Jvm.plainName M.2.1.cls && decide (M.2.2.2.1 ≤ 40) && (if M.2.2.2.2.2.2.1 = 2 then decide (M.2.1.name = "<init>") && decide (M.2.2.2.2.1 = none) else true) && (match am_pin.lookup M.1 with | some i => am_is i (.initialized (am_cn M.1)) | none => false)
theorem am_all_cut {α : Type} {l : List α} {f : α → Bool} (n : Nat) (h1 : (l.take n).all f = true) (h2 : (l.drop n).all f = true) : l.all f = true := by
  rw [← List.take_append_drop n l, List.all_append, h1, h2]
  rfl
set_option maxRecDepth 100000 in
theorem am_mt_ok0 : (am_mt.take 26).all am_me_ok = true := by decide +kernel
set_option maxRecDepth 100000 in
theorem am_mt_ok1 : ((am_mt.drop 26).take 26).all am_me_ok = true := by decide +kernel
set_option maxRecDepth 100000 in
theorem am_mt_ok2 : (((am_mt.drop 26).drop 26).take 26).all am_me_ok = true := by decide +kernel
set_option maxRecDepth 100000 in
theorem am_mt_ok3 : ((((am_mt.drop 26).drop 26).drop 26).take 26).all am_me_ok = true := by decide +kernel
set_option maxRecDepth 100000 in
theorem am_mt_ok4 : (((((am_mt.drop 26).drop 26).drop 26).drop 26).take 26).all am_me_ok = true := by decide +kernel
set_option maxRecDepth 100000 in
theorem am_mt_ok5 : ((((((am_mt.drop 26).drop 26).drop 26).drop 26).drop 26).take 26).all am_me_ok = true := by decide +kernel
set_option maxRecDepth 100000 in
theorem am_mt_ok6 : (((((((am_mt.drop 26).drop 26).drop 26).drop 26).drop 26).drop 26).take 26).all am_me_ok = true := by decide +kernel
set_option maxRecDepth 100000 in
theorem am_mt_ok7 : ((((((((am_mt.drop 26).drop 26).drop 26).drop 26).drop 26).drop 26).drop 26).take 26).all am_me_ok = true := by decide +kernel
set_option maxRecDepth 100000 in
theorem am_mt_ok8 : (((((((((am_mt.drop 26).drop 26).drop 26).drop 26).drop 26).drop 26).drop 26).drop 26).take 26).all am_me_ok = true := by decide +kernel
set_option maxRecDepth 100000 in
theorem am_mt_ok9 : ((((((((((am_mt.drop 26).drop 26).drop 26).drop 26).drop 26).drop 26).drop 26).drop 26).drop 26).take 26).all am_me_ok = true := by decide +kernel
set_option maxRecDepth 100000 in
theorem am_mt_ok10 : (((((((((((am_mt.drop 26).drop 26).drop 26).drop 26).drop 26).drop 26).drop 26).drop 26).drop 26).drop 26).take 26).all am_me_ok = true := by decide +kernel
set_option maxRecDepth 100000 in
theorem am_mt_ok11 : (((((((((((am_mt.drop 26).drop 26).drop 26).drop 26).drop 26).drop 26).drop 26).drop 26).drop 26).drop 26).drop 26).all am_me_ok = true := by decide +kernel
theorem am_mt_ok : am_mt.all am_me_ok = true := am_all_cut 26 am_mt_ok0 (am_all_cut 26 am_mt_ok1 (am_all_cut 26 am_mt_ok2 (am_all_cut 26 am_mt_ok3 (am_all_cut 26 am_mt_ok4 (am_all_cut 26 am_mt_ok5 (am_all_cut 26 am_mt_ok6 (am_all_cut 26 am_mt_ok7 (am_all_cut 26 am_mt_ok8 (am_all_cut 26 am_mt_ok9 (am_all_cut 26 am_mt_ok10 am_mt_ok11))))))))))
def am_fl_ok (q : Nat × Nat × Nat × Nat) : Bool := am_is q.2.2.2 (.fieldLink (am_cn (q.1 / 10000)) (q.1 % 10000) (am_T q.2.1 q.2.2.1).1 (am_T q.2.1 q.2.2.1).2.1 (am_T q.2.1 q.2.2.1).2.2.1) && decide (q.2.1 < 10) && decide (q.2.2.1 < am_nf q.2.1) && decide ((am_T q.2.1 q.2.2.1).1 = am_cn q.2.1)
set_option maxRecDepth 100000 in
theorem am_fl_all : am_fl.all am_fl_ok = true := by decide +kernel
def am_ml_ok (q : Nat × Nat × Nat × Nat) : Bool := match q.2.2.1 with
  | 4 => am_is q.2.2.2 (.methodLink (am_cn (q.1 / 10000)) (q.1 % 10000) Lib.objectInit)
  | 5 => am_is q.2.2.2 (.methodLink (am_cn (q.1 / 10000)) (q.1 % 10000) arraycopyName)
  | 6 => am_is q.2.2.2 (.methodLink (am_cn (q.1 / 10000)) (q.1 % 10000) Lib.Math.max.name)
  | 7 => am_is q.2.2.2 (.methodLink (am_cn (q.1 / 10000)) (q.1 % 10000) Lib.Math.min.name)
  | 3 => (match am_mt[q.2.1]? with | some N => decide (N.2.2.2.2.2.2.1 = 1) && decide (lw_tbl[q.2.2.2]? = some (.methodLinkNest (am_cn (q.1 / 10000)) (q.1 % 10000) N.2.1 "RookHouse")) && decide (N.1 = 8) | none => false)
  | k => (match am_mt[q.2.1]? with | some N => decide (N.2.2.2.2.2.2.1 = k) && am_is q.2.2.2 (.methodLink (am_cn (q.1 / 10000)) (q.1 % 10000) N.2.1) | none => false)
set_option maxRecDepth 100000 in
theorem am_ml_all : am_ml.all am_ml_ok = true := by decide +kernel
def am_kl_ok (q : Nat × Nat × Nat) : Bool := am_is q.2.2 (.classLink (am_cn (q.1 / 10000)) (q.1 % 10000) (am_cn q.2.1)) && decide (q.2.1 < 10)
theorem am_kl_all : am_kl.all am_kl_ok = true := by decide +kernel
theorem am_il_all : am_il.all (fun q => am_is q.2.2 (.constant (am_cn (q.1 / 10000)) (q.1 % 10000) q.2.1)) = true := by decide +kernel
theorem am_jl_all : am_jl.all (fun q => am_is q.2.2 (.constantLong (am_cn (q.1 / 10000)) (q.1 % 10000) q.2.1)) = true := by decide +kernel
theorem am_pis_all : am_pis.all (fun q => am_is q.2 (.instantiable (am_cn q.1) (am_nf q.1))) = true := by decide +kernel
theorem am_arr_all : (am_is 226 (.arrayClass .int) && am_is 1323 (.arrayClass .boolean) && am_is 880 (.arrayClass .byte) && am_is 397 (.arrayClass .long)) = true := by decide +kernel
theorem am_mt_mem {M : am_Me} (h : M ∈ am_mt) : Cond.code M.2.1 M.2.2.1 M.2.2.2.1 M.2.2.2.2.1 ∈ am_TG := by
  have h1 := am_mc M h
  have h2 := List.all_eq_true.mp am_mt_ok M h
  simp only [am_me_ok, Bool.and_eq_true] at h2
  exact List.mem_filter.mpr ⟨List.mem_of_getElem? h1, h2.1.1.1.1.1.1.1.1.1.1⟩
/-- a key of a table tells class and entry -/
theorem am_key_of {α : Type} {l : List (Nat × α)} {cn k : Nat} {v : α} (hz : l.lookup 9999999 = none) (h : l.lookup (am_key cn k) = some v) : (am_key cn k, v) ∈ l ∧ am_key cn k / 10000 = cn ∧ am_key cn k % 10000 = k := by
  have hm : (am_key cn k, v) ∈ l := by
    obtain ⟨l1, l2, e, -⟩ := List.lookup_eq_some_iff.mp h
    rw [e]; simp
  by_cases hk : k < 10000
  · have e : am_key cn k = cn * 10000 + k := if_pos hk
    rw [e]
    rw [e] at hm
    exact ⟨hm, by omega, by omega⟩
  · have e : am_key cn k = 9999999 := if_neg hk
    rw [e, hz] at h
    cases h
