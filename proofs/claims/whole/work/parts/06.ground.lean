/-! what stands at a method's entry, and the plain heap beside the real one -/
/-- the texts: Strings of one byte a sign, their rows of bytes -/
def am_Str (z0 : Nat) (sa : Nat → Nat) (U : State) (H : Heap) : Prop := ∀ i : Nat, i < 28 → va_O "java/lang/String" (sa (4 + i)) (fun q => z0 ≤ q) U H ∧ va_OF "java/lang/String" "coder" "B" (.int 0) (sa (4 + i)) (fun q => z0 ≤ q) U H ∧ va_OF "java/lang/String" "value" "[B" (.ref (sa (36 + i))) (sa (4 + i)) (fun q => z0 ≤ q) U H
theorem am_Str.moved {z0 : Nat} {sa : Nat → Nat} {u U : State} {H : Heap} (hvm : u.vm.Alike U.vm) (h : am_Str z0 sa u H) : am_Str z0 sa U H := fun i hi => ⟨va_O.moved hvm (h i hi).1, va_OF.moved hvm (h i hi).2.1, va_OF.moved hvm (h i hi).2.2⟩
theorem am_Str.kept {z0 : Nat} {sa : Nat → Nat} {U : State} {H H1 : Heap} (h : am_Str z0 sa U H) (hq : ∀ a : Nat, a < H.size → ¬ (fun q => z0 ≤ q) a → H1[a]? = H[a]?) : am_Str z0 sa U H1 := fun i hi => ⟨(h i hi).1.kept hq, (h i hi).2.1.kept hq, (h i hi).2.2.kept hq⟩
def am_SF (z0 : Nat) (sa : Nat → Nat) (pr : am_Pr) (Hz : Heap) (U : State) : Prop :=
  va_Z "RookHouse" "MOST_OF_TERM" "[I" (.ref (sa 1)) (fun q => z0 ≤ q) U Hz ∧ va_Z "RookHouse" "ORDERS_OF" "[I" (.ref (sa 2)) (fun q => z0 ≤ q) U Hz ∧ va_Z "java/lang/String" "COMPACT_STRINGS" "Z" (.int 1) (fun q => z0 ≤ q) U Hz ∧
  va_Z "jdk/internal/util/Preconditions" "SIOOBE_FORMATTER" "Ljava/util/function/BiFunction;" (if pr.2.2 then .null else .ref (sa 3)) (fun q => z0 ≤ q) U Hz ∧
  (∀ (a : Nat) (q : Nat × Nat × (Nat → Int32)), am_sar pr a = some q → va_T (if q.1 = 20 then .int else .byte) (sa a) q.2.1 (fun j => .int (q.2.2 j)) (fun q => z0 ≤ q) U Hz) ∧
  am_Str z0 sa U Hz ∧
  (∀ (i : Nat) (q : Nat × String), am_tx[i]? = some q → vk_R "RookHouse$Tokens" q.1 q.2 (sa (4 + i)) U) ∧
  va_Nw (.fieldLinkNest "RookHouse$House" 21 "RookHouse" "MOST_OF_TERM" "[I" "RookHouse") U ∧
  (∀ (own : String) (idx : Nat) (y : MethodName), Cond.methodLinkNest own idx y "RookHouse" ∈ lw_tbl → va_Nw (.methodLinkNest own idx y "RookHouse") U) ∧
  va_AO "RookHouse$House" U ∧ va_AO "RookHouse$Text" U
theorem am_SF.warm {z0 : Nat} {sa : Nat → Nat} {pr : am_Pr} {Hz : Heap} {s U : State} (hW : s.WarmedH U.vm) (h : am_SF z0 sa pr Hz s) : am_SF z0 sa pr Hz U := by
  obtain ⟨h1, h2, h3, h4, h5, h6, h7, h8, h9, h10, h11⟩ := h
  have ha := hW.alike
  exact ⟨h1.moved ha, h2.moved ha, h3.moved ha, h4.moved ha, fun a q hq => (h5 a q hq).moved ha, h6.moved ha, fun i q hq => (h7 i q hq).warm hW, h8.warmF hW, fun own idx y hy => (h9 own idx y hy).warmM hW, h10.moved ha, h11.moved ha⟩
theorem am_SF.call {z0 : Nat} {sa : Nat → Nat} {pr : am_Pr} {Hz : Heap} {U : State} (g : JFrame) (mk : MethodId) (a : Array Value) (h : am_SF z0 sa pr Hz U) : am_SF z0 sa pr Hz (U.calling g mk a) := by
  obtain ⟨h1, h2, h3, h4, h5, h6, h7, h8, h9, h10, h11⟩ := h
  have ha : U.vm.Alike (U.calling g mk a).vm := Vm.Alike.refl U.vm
  exact ⟨h1.moved ha, h2.moved ha, h3.moved ha, h4.moved ha, fun a q hq => (h5 a q hq).moved ha, h6.moved ha, fun i q hq => (h7 i q hq).same rfl, h8.same rfl rfl, fun own idx y hy => (h9 own idx y hy).same rfl rfl, h10.moved ha, h11.moved ha⟩
/-- the method, its class, its words, the statics -/
def am_C (p : Program) (s : State) (m : MethodId) (args : Array Value) (meth : Method) (c : Code) (cc : ByteArray) (cn mx : Nat) (ini : Bool) (z0 : Nat) (sa : Nat → Nat) (dC : Nat → ClassId) (dI : Nat → Nat → Nat) (dA : Nat → ClassId) (pr : am_Pr) (Hz : Heap) : Prop :=
  p.tables.exec = Jvm.exec ∧ c.code = cc ∧ c.maxLocals = mx ∧ s.vm.findClass (am_cn cn) = some m.cls ∧ (∀ w ∈ am_TG, w.before args s = true) ∧ (ini = true → meth.name = "<init>") ∧ va_K (dC, dI) am_cl (am_tys dA) s ∧ am_SF z0 sa pr Hz s ∧ (∀ q, q < z0 → s.heap[q]? = Hz[q]?) ∧ Hz.size = z0 ∧ z0 ≤ s.heap.size
def am_Wd (z0 : Nat) (sa : Nat → Nat) (dC : Nat → ClassId) (dI : Nat → Nat → Nat) (dA : Nat → ClassId) (σ : am_H) (H : Heap) : Prop :=
  64 ≤ σ.1.length ∧ H.size = z0 + (σ.1.length - 64) ∧ va_P (dC, dI) am_cl (am_ws z0 (am_rho z0 sa) dA σ) H
def am_sl (σ : am_H) : Nat := (σ.1.map (fun q => q.2)).sum
theorem am_sl_push (σ : am_H) (c n : Nat) : am_sl (am_push σ c n) = am_sl σ + n := by simp [am_sl, am_push]
theorem am_len_push (σ : am_H) (c n : Nat) : (am_push σ c n).1.length = σ.1.length + 1 := by simp [am_push]
theorem am_kept {z0 : Nat} {s : State} {Hz : Heap} (hE : ∀ q, q < z0 → s.heap[q]? = Hz[q]?) (hz : Hz.size = z0) : ∀ a : Nat, a < Hz.size → ¬ (fun q => z0 ≤ q) a → s.heap[a]? = Hz[a]? := fun a h _ => hE a (by omega)
theorem am_cl_get : ∀ ci, ci < 10 → am_cl[ci]? = some (am_cn ci, am_T ci, am_nf ci)
  | 0, _ => rfl
  | 1, _ => rfl
  | 2, _ => rfl
  | 3, _ => rfl
  | 4, _ => rfl
  | 5, _ => rfl
  | 6, _ => rfl
  | 7, _ => rfl
  | 8, _ => rfl
  | 9, _ => rfl
theorem am_ty_ok : ∀ ci, ci < 10 → ∀ k, k < am_nf ci → parseFieldDescriptor (am_T ci k).2.2.1 = some (am_ty ci k)
  | 0, _ => tyX0_ok
  | 1, _ => tyX1_ok
  | 2, _ => tyX2_ok
  | 3, _ => tyX3_ok
  | 4, _ => tyX4_ok
  | 5, _ => tyX5_ok
  | 6, _ => tyX6_ok
  | 7, _ => tyX7_ok
  | 8, _ => tyX8_ok
  | 9, _ => tyX9_ok
theorem am_nm_ok : ∀ ci, ci < 10 → ∀ a, a < am_nf ci → ∀ b, b < am_nf ci → a ≠ b → (am_T ci a).2.1 ≠ (am_T ci b).2.1
  | 0, _ => nmX0
  | 1, _ => nmX1
  | 2, _ => nmX2
  | 3, _ => nmX3
  | 4, _ => nmX4
  | 5, _ => nmX5
  | 6, _ => nmX6
  | 7, _ => nmX7
  | 8, _ => nmX8
  | 9, _ => nmX9
set_option maxRecDepth 100000 in
theorem am_uin_all : (List.range 10).all (fun ci => (u_ws (am_cn ci) (am_T ci) (am_nf ci)).all (fun w => decide (w ∈ lw_tbl) && goodWord w)) = true := by decide +kernel
theorem am_uin (ci : Nat) (h : ci < 10) : ∀ w ∈ u_ws (am_cn ci) (am_T ci) (am_nf ci), w ∈ am_TG := by
  intro w hw
  have h1 := List.all_eq_true.mp (List.all_eq_true.mp am_uin_all ci (List.mem_range.mpr h)) w hw
  simp only [Bool.and_eq_true, decide_eq_true_eq] at h1
  exact List.mem_filter.mpr h1
theorem am_fl_z : am_fl.lookup 9999999 = none := by decide +kernel
theorem am_ml_z : am_ml.lookup 9999999 = none := by decide +kernel
theorem am_kl_z : am_kl.lookup 9999999 = none := by decide +kernel
theorem am_il_z : am_il.lookup 9999999 = none := by decide +kernel
theorem am_jl_z : am_jl.lookup 9999999 = none := by decide +kernel
theorem am_tl_z : am_tl.lookup 9999999 = none := by decide +kernel
/-- a field link -/
theorem am_flink {cn k : Nat} {q : Nat × Nat × Nat} (h : am_fl.lookup (am_key cn k) = some q) : Cond.fieldLink (am_cn cn) k (am_T q.1 q.2.1).1 (am_T q.1 q.2.1).2.1 (am_T q.1 q.2.1).2.2.1 ∈ am_TG ∧ q.1 < 10 ∧ q.2.1 < am_nf q.1 ∧ (am_T q.1 q.2.1).1 = am_cn q.1 := by
  obtain ⟨hm, h1, h2⟩ := am_key_of am_fl_z h
  have h3 := List.all_eq_true.mp am_fl_all _ hm
  simp only [am_fl_ok, Bool.and_eq_true, decide_eq_true_eq] at h3
  rw [h1, h2] at h3
  exact ⟨am_is_mem h3.1.1.1, h3.1.1.2, h3.1.2, h3.2⟩
theorem am_klink {cn k : Nat} {q : Nat × Nat} (h : am_kl.lookup (am_key cn k) = some q) : Cond.classLink (am_cn cn) k (am_cn q.1) ∈ am_TG ∧ q.1 < 10 := by
  obtain ⟨hm, h1, h2⟩ := am_key_of am_kl_z h
  have h3 := List.all_eq_true.mp am_kl_all _ hm
  simp only [am_kl_ok, Bool.and_eq_true, decide_eq_true_eq] at h3
  rw [h1, h2] at h3
  exact ⟨am_is_mem h3.1, h3.2⟩
theorem am_ilink {cn k : Nat} {q : Int32 × Nat} (h : am_il.lookup (am_key cn k) = some q) : Cond.constant (am_cn cn) k q.1 ∈ am_TG := by
  obtain ⟨hm, h1, h2⟩ := am_key_of am_il_z h
  have h3 := List.all_eq_true.mp am_il_all _ hm
  simp only at h3
  rw [h1, h2] at h3
  exact am_is_mem h3
theorem am_jlink {cn k : Nat} {q : Int64 × Nat} (h : am_jl.lookup (am_key cn k) = some q) : Cond.constantLong (am_cn cn) k q.1 ∈ am_TG := by
  obtain ⟨hm, h1, h2⟩ := am_key_of am_jl_z h
  have h3 := List.all_eq_true.mp am_jl_all _ hm
  simp only at h3
  rw [h1, h2] at h3
  exact am_is_mem h3
theorem am_tl_all : am_tl.all (fun q => decide (q.1 / 10000 = 7) && (match am_tx[q.2]? with | some t => decide (t.1 = q.1 % 10000) | none => false)) = true := by decide +kernel
theorem am_tlink {cn k i : Nat} (h : am_tl.lookup (am_key cn k) = some i) : cn = 7 ∧ ∃ tx, am_tx[i]? = some (k, tx) := by
  obtain ⟨hm, h1, h2⟩ := am_key_of am_tl_z h
  have h3 := List.all_eq_true.mp am_tl_all _ hm
  simp only [Bool.and_eq_true, decide_eq_true_eq] at h3
  rw [h1, h2] at h3
  refine ⟨h3.1, ?_⟩
  have h4 := h3.2
  split at h4
  · rename_i t ht
    exact ⟨t.2, by rw [ht, ← of_decide_eq_true h4]⟩
  · cases h4
theorem am_inst {ci : Nat} (h : ci < 10) : Cond.instantiable (am_cn ci) (am_nf ci) ∈ am_TG ∧ Cond.initialized (am_cn ci) ∈ am_TG := by
  have h1 : am_pis.all (fun q => am_is q.2 (.instantiable (am_cn q.1) (am_nf q.1))) = true := am_pis_all
  have h2 : ∀ ci, ci < 10 → ∃ i, (ci, i) ∈ am_pis := by
    intro ci h
    have h5 : (List.range 10).all (fun c => am_pis.any (fun q => decide (q.1 = c))) = true := by decide +kernel
    have h6 := List.all_eq_true.mp h5 ci (List.mem_range.mpr h)
    obtain ⟨q, hq, h7⟩ := List.any_eq_true.mp h6
    have h8 : q.1 = ci := of_decide_eq_true h7
    subst h8
    exact ⟨q.2, hq⟩
  have h3 : (List.range 10).all (fun c => match am_pin.lookup c with | some i => am_is i (.initialized (am_cn c)) | none => false) = true := by decide +kernel
  obtain ⟨i, hi⟩ := h2 ci h
  refine ⟨am_is_mem (List.all_eq_true.mp h1 _ hi), ?_⟩
  have h4 := List.all_eq_true.mp h3 ci (List.mem_range.mpr h)
  split at h4
  · exact am_is_mem h4
  · cases h4
theorem am_in_vp {i : Int32} {n : Nat} (h : am_in i n = true) : vp_in i n := by
  simp only [am_in, Bool.and_eq_true, decide_eq_true_eq] at h
  intro z
  rcases z with z | z
  · exact h.1 z
  · omega
theorem am_tgt_spec {pc t : Nat} {off : Int} (h : am_tgt pc off = some t) : (pc : Int) + off = (t : Int) := by
  unfold am_tgt at h
  split at h
  · cases h
    rename_i h0
    exact (Int.toNat_of_nonneg h0).symm
  · cases h
