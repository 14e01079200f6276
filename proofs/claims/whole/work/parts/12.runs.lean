/-! a run of the plain machine is a run of the real one -/
def am_Pc (z0 : Nat) (sa : Nat → Nat) (dC : Nat → ClassId) (dI : Nat → Nat → Nat) (dA : Nat → ClassId) (pr : am_Pr) (Hz : Heap) (vs : List Value) (σ : am_H) : Array Value → State → Prop :=
  va_Pc (vs.map (am_tr (am_rho z0 sa))) (fun U => am_Wd z0 sa dC dI dA σ U.heap ∧ va_K (dC, dI) am_cl (am_tys dA) U ∧ am_SF z0 sa pr Hz U ∧ ∀ q, q < z0 → U.heap[q]? = Hz[q]?)
def am_Qc (z0 : Nat) (sa : Nat → Nat) (dC : Nat → ClassId) (dI : Nat → Nat → Nat) (dA : Nat → ClassId) (r : Option Value) (τ : am_H) : Array Value → State → Outcome → State → Prop := fun _ st oc t => oc = .returned (r.map (am_tr (am_rho z0 sa))) ∧ am_Wd z0 sa dC dI dA τ t.heap ∧ va_F (fun q => z0 ≤ q) st t
def am_wsM (N : am_Me) : List Cond := .code N.2.1 N.2.2.1 N.2.2.2.1 N.2.2.2.2.1 :: am_TG
def am_rm (d mc ms : Nat) : Room := { frames := d, cells := mc, slots := ms, locals := 60 * d }
/-- what a run of n steps promises -/
def am_Snd (pr : am_Pr) (n : Nat) : Prop := ∀ (p : Program) (l : Launch) (e : Env) (R : Room) (s : State) (m : MethodId) (args : Array Value) (below : List Frame) (meth : Method) (c : Code) (H : Heap) (locs : List Loc) (cells slots : Nat) (Q : State → Prop) (z0 : Nat) (sa : Nat → Nat) (dC : Nat → ClassId) (dI : Nat → Nat → Nat) (dA : Nat → ClassId) (Hz : Heap) (d mi pc : Nat) (ls : Array Slot) (lv : List (Nat × Value)) (st : List Value) (σ : am_H) (r : Option Value) (τ : am_H) (M : am_Me),
  am_ms[mi]? = some M → am_run pr n d mi pc lv st σ = some (r, τ) → am_C p s m args meth c M.2.2.1 M.1 M.2.2.2.1 (decide (M.2.1.name = "<init>")) z0 sa dC dI dA pr Hz → am_Wd z0 sa dC dI dA σ H → va_S (fun q => z0 ≤ q) s.heap H locs → am_L (am_rho z0 sa) ls M.2.2.2.1 lv → d ≤ R.frames → 60 * d ≤ R.locals → cells + (τ.1.length - σ.1.length) ≤ R.cells → slots + (am_sl τ - am_sl σ) ≤ R.slots →
  (∀ (H' : Heap) (locs' : List Loc) (ls' : Array Slot) (pc' : Nat) (st' : List Value) (ins : Instr) (len : Nat), decode M.2.2.1 pc' = .ok (ins, len) → am_ret M.2.2.2.2.1 st' ins len = some r → am_Wd z0 sa dC dI dA τ H' → va_S (fun q => z0 ≤ q) s.heap H' locs' → W p l e R s m args below meth c H' locs' (cells + (τ.1.length - σ.1.length)) (slots + (am_sl τ - am_sl σ)) Q (F0 m pc' ls' (st'.map (am_tr (am_rho z0 sa))))) →
  am_G p l e R s m args below meth c Q z0 sa cells slots H locs pc ls st
theorem am_sl_len (ρ : Nat → Nat) : ∀ vs : List Value, (lg_sl (vs.map (am_tr ρ))).length = am_cat vs
  | [] => rfl
  | v :: vs => by
    have ih := am_sl_len ρ vs
    unfold lg_sl at ih ⊢
    rw [List.map_cons, List.flatMap_cons, List.length_append, ih, am_tr_cat]
    show _ = v.category + am_cat vs
    rcases lv_cat v with h | h <;> simp [h]
theorem am_me_of {mj : Nat} {N : am_Me} (h : am_mt[mj]? = some N) : am_ms[mj]? = some N := by
  have hl : mj < am_mt.length := (List.getElem?_eq_some_iff.mp h).1
  unfold am_ms
  rw [List.getElem?_append_left hl]
  exact h
/-- a method of the table -/
theorem am_me_facts {mj : Nat} {N : am_Me} (h : am_mt[mj]? = some N) : Cond.code N.2.1 N.2.2.1 N.2.2.2.1 N.2.2.2.2.1 ∈ am_TG ∧ N.2.1.cls = am_cn N.1 ∧ (N.2.1.cls ≠ "java/lang/invoke/MethodHandle" ∧ N.2.1.cls ≠ "java/lang/invoke/VarHandle" ∧ (parseMethodDescriptor N.2.1.desc).map (fun d => d.parameters.length) = some N.2.2.2.2.2.1) ∧ Jvm.plainName N.2.1.cls = true ∧ N.2.2.2.1 ≤ 40 ∧ Cond.initialized N.2.1.cls ∈ am_TG ∧ (N.2.2.2.2.2.2.1 = 1 → Cond.static N.2.1 ∈ am_TG) ∧ (N.2.2.2.2.2.2.1 ≠ 1 → Cond.instanceMethod N.2.1 ∈ am_TG) ∧ (N.2.2.2.2.2.2.1 = 0 → Cond.selects N.2.1.cls N.2.1 N.2.1 ∈ am_TG) ∧ (N.2.2.2.2.2.2.1 = 2 → N.2.1.name = "<init>" ∧ N.2.2.2.2.1 = none) := by
  have hm := List.mem_of_getElem? h
  have h2 := List.all_eq_true.mp am_mt_ok N hm
  simp only [am_me_ok, Bool.and_eq_true, decide_eq_true_eq] at h2
  obtain ⟨⟨⟨⟨⟨⟨⟨⟨⟨⟨a1, a2⟩, a3⟩, a4⟩, a5⟩, a6⟩, a7⟩, a8⟩, a9⟩, a10⟩, a11⟩ := h2
  refine ⟨am_mt_mem hm, a4, ⟨a5, a6, a7⟩, a8, a9, ?_, fun hk => ?_, fun hk => ?_, fun hk => ?_, fun hk => ?_⟩
  · rw [a4]
    split at a11
    · exact am_is_mem a11
    · cases a11
  · rw [if_pos hk] at a2
    exact am_is_mem a2
  · rw [if_neg hk] at a2
    exact am_is_mem a2
  · rw [if_pos hk] at a3
    exact am_is_mem a3
  · rw [if_pos hk] at a10
    simpa using a10
section AmRun2
variable {p : Program} {l : Launch} {e : Env} {R : Room} {s : State} {m : MethodId} {args : Array Value} {below : List Frame} {meth : Method} {c : Code} {H : Heap} {locs : List Loc} {cells slots : Nat} {Q : State → Prop}
variable {cc : ByteArray} {cn mx : Nat} {ini : Bool} {z0 : Nat} {sa : Nat → Nat} {dC : Nat → ClassId} {dI : Nat → Nat → Nat} {dA : Nat → ClassId} {pr : am_Pr} {Hz : Heap} {pc : Nat} {ls : Array Slot} {lv : List (Nat × Value)} {st : List Value} {σ : am_H}
theorem am_cont {mc ms : Nat} {st0 rest : List Value} {r : Option Value} {τ : am_H} {a : Array Value} (hr : va_Run p l e R s m args below meth c H locs cells slots mc ms (F0 m pc ls st0) rest (am_Qc z0 sa dC dI dA r τ a) (fun q => z0 ≤ q)) (hS : va_S (fun q => z0 ≤ q) s.heap H locs)
    (kk : ∀ (H1 : Heap) (locs1 : List Loc), am_Wd z0 sa dC dI dA τ H1 → va_S (fun q => z0 ≤ q) s.heap H1 locs1 → W p l e R s m args below meth c H1 locs1 (cells + mc) (slots + ms) Q (F0 m (pc + 3) ls ((r.map (am_tr (am_rho z0 sa))).toList ++ rest))) : W p l e R s m args below meth c H locs cells slots Q (F0 m pc ls st0) := by
  intro T hT X
  obtain ⟨v, st₀, t, T', L, h0, X', hL, e1, e2, ⟨hv, hw, hz, hk⟩, st⟩ := hr T hT X
  cases hv
  rw [h0] at hz hk
  obtain ⟨t2, a1, b1⟩ := kk T'.heap (locs ++ L) (by rw [e1]; exact hw) ⟨Nat.le_trans hS.1 (by rw [e1]; exact hz), fun q h1 h2 => by rw [e1, hk q (Nat.lt_of_lt_of_le h1 hS.1) h2]; exact hS.2.1 q h1 h2, fun q hq => by
      rcases List.mem_append.mp hq with h | h
      · exact hS.2.2 q h
      · exact hL q h⟩ T' rfl X'
  exact ⟨t2, st t2 a1, b1⟩
theorem am_blind {vs : List Value} : FrameBlind (am_Pc z0 sa dC dI dA pr Hz vs σ) := by
  intro a U g mk h
  obtain ⟨h0, h1, h2, h3, h4⟩ := h
  exact ⟨h0, h1, va_K.moved (u := U) (U := U.calling g mk a) (Vm.Alike.refl U.vm) h2, h3.call g mk a, h4⟩
theorem am_pre {vs : List Value} (hK : va_K (dC, dI) am_cl (am_tys dA) s) (hF : am_SF z0 sa pr Hz s) (hE : ∀ q, q < z0 → s.heap[q]? = Hz[q]?) (hzs : z0 ≤ s.heap.size) (hW : am_Wd z0 sa dC dI dA σ H) (hS : va_S (fun q => z0 ≤ q) s.heap H locs) : ∀ U : State, U.heap = H → s.WarmedH U.vm → am_Pc z0 sa dC dI dA pr Hz vs σ (vs.map (am_tr (am_rho z0 sa))).toArray U := by
  intro U hU hWm
  refine ⟨rfl, by rw [hU]; exact hW, va_K.moved hWm.alike hK, hF.warm hWm, fun q hq => ?_⟩
  rw [hU, hS.2.1 q (by omega) (by simpa using hq)]
  exact hE q hq
/-- the contract of a method, out of a run -/
theorem am_met {n d mj : Nat} {N : am_Me} {vs : List Value} {r : Option Value} {τ : am_H} (l : Launch) (IH : am_Snd pr n) (hN : am_mt[mj]? = some N) (hrun : am_run pr n d mj 0 (lv_args 0 vs) [] σ = some (r, τ)) (hc : am_cat vs ≤ N.2.2.2.1) (hz : Hz.size = z0) :
    Met l N.2.1 (am_wsM N) (am_rm d (τ.1.length - σ.1.length) (am_sl τ - am_sl σ)) (am_Pc z0 sa dC dI dA pr Hz vs σ) (am_Qc z0 sa dC dI dA r τ) (τ.1.length - σ.1.length) (am_sl τ - am_sl σ) (fun q => z0 ≤ q) := by
  obtain ⟨w1, w2, w3, w4, w5, w6, w7, w8, w9, w10⟩ := am_me_facts hN
  refine Met.ofW (cc := N.2.2.1) (maxL := N.2.2.2.1) (ret := N.2.2.2.2.1) w4 rfl ?_
  intro p e s m args below meth c s₁ B hml hv
  obtain ⟨rfl, hW, hK, hF, hE⟩ := hv
  have hts := atoms_spec (ws := am_wsM N) B.pre
  have hown : s.vm.findClass (am_cn N.1) = some m.cls := by rw [← w2]; exact findClass_of_methodNamed B.named
  have hlocks := B.notSynchronized
  have hin : meth.name = N.2.1.name := (name_of_methodNamed B.named B.method).1
  have hzs : z0 ≤ s.heap.size := by rw [hW.2.1]; omega
  have C : am_C p s m (vs.map (am_tr (am_rho z0 sa))).toArray meth c N.2.2.1 N.1 N.2.2.2.1 (decide (N.2.1.name = "<init>")) z0 sa dC dI dA pr Hz := ⟨B.exec, B.bytes, hml, hown, fun w hw => hts w (List.mem_cons_of_mem _ hw), fun h => by rw [hin]; exact of_decide_eq_true h, hK, hF, hE, hz, hzs⟩
  have hl := lv_entry (vs.map (am_tr (am_rho z0 sa))) (n := N.2.2.2.1) (by rw [am_sl_len]; exact hc)
  rw [lg_entry_eq]
  generalize (lg_sl (vs.map (am_tr (am_rho z0 sa))) ++ List.replicate (N.2.2.2.1 - (lg_sl (vs.map (am_tr (am_rho z0 sa)))).length) Slot.unset).toArray = ls at hl ⊢
  refine IH p l e _ s m _ below meth c s.heap [] 0 0 _ z0 sa dC dI dA Hz d mj 0 ls (lv_args 0 vs) [] σ r τ N (am_me_of hN) hrun C hW va_S.rf (am_L0 hl) (Nat.le_refl _) (Nat.le_refl _) (by show 0 + _ ≤ _; rw [Nat.zero_add]; exact Nat.le_refl _) (by show 0 + _ ≤ _; rw [Nat.zero_add]; exact Nat.le_refl _) ?_
  intro H' locs' ls' pc' st' ins len hd hret hW' hS'
  rw [Nat.zero_add, Nat.zero_add]
  have hq : ∀ t : State, t.heap = H' → s.WarmedH t.vm → am_Qc z0 sa dC dI dA r τ (vs.map (am_tr (am_rho z0 sa))).toArray s (.returned (r.map (am_tr (am_rho z0 sa)))) t := fun t ht _ => ⟨rfl, by rw [ht]; exact hW', hS'.F ht⟩
  have hf : ∀ q ∈ locs', (fun q => z0 ≤ q) q.base := hS'.2.2
  unfold am_ret at hret
  split at hret
  · split at hret
    · rename_i hh
      cases hret
      rw [hh.2]
      exact W.vret B.exec B.bytes (B.returns.trans hh.1) hq hf hd
    · cases hret
  · split at hret
    · rename_i v ty hr
      split at hret
      · rename_i hh
        cases hret
        rcases hh.2 with rfl | rfl | rfl | rfl
        · exact W.iret B.exec B.bytes (B.returns.trans hr) hq hf hd
        · exact W.zret B.exec B.bytes (B.returns.trans hr) hh.1 hq hf hd
        · exact W.zret B.exec B.bytes (B.returns.trans hr) hh.1 hq hf hd
        · exact W.zret B.exec B.bytes (B.returns.trans hr) hh.1 hq hf hd
      · cases hret
    · cases hret
  · split at hret
    · rename_i v hr
      cases hret
      exact W.lret B.exec B.bytes (B.returns.trans hr) hq hf hd
    · cases hret
  · split at hret
    · rename_i v nm hr
      cases hret
      exact W.aret B.exec B.bytes (B.returns.trans hr) (Or.inl ⟨_, rfl⟩) (Or.inr ⟨_, rfl⟩) hq hf hd
    · rename_i nm hr
      cases hret
      exact W.aret B.exec B.bytes (B.returns.trans hr) (Or.inl ⟨_, rfl⟩) (Or.inl rfl) hq hf hd
    · cases hret
  · cases hret
end AmRun2
