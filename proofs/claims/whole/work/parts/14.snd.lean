section AmSnd
variable {p : Program} {l : Launch} {e : Env} {R : Room} {s : State} {m : MethodId} {args : Array Value} {below : List Frame} {meth : Method} {c : Code} {H : Heap} {locs : List Loc} {cells slots : Nat} {Q : State → Prop}
variable {cc : ByteArray} {cn mx : Nat} {ini : Bool} {z0 : Nat} {sa : Nat → Nat} {dC : Nat → ClassId} {dI : Nat → Nat → Nat} {dA : Nat → ClassId} {pr : am_Pr} {Hz : Heap} {pc : Nat} {ls : Array Slot} {lv : List (Nat × Value)} {st : List Value} {σ : am_H}
theorem am_goodM {mj : Nat} {N : am_Me} (hN : am_mt[mj]? = some N) : GoodIn am_TG (am_wsM N) := by
  intro w hw
  rcases List.mem_cons.mp hw with h | h
  · rw [h]
    exact ⟨(am_me_facts hN).1, am_TG_good (am_me_facts hN).1⟩
  · exact ⟨h, am_TG_good h⟩
theorem am_split {k : Nat} {vs : List Value} (hk : k ≤ st.length) (hv : (st.take k).reverse = vs) (ρ : Nat → Nat) : st.map (am_tr ρ) = (vs.map (am_tr ρ)).reverse ++ (st.drop k).map (am_tr ρ) ∧ vs.length = k := by
  refine ⟨?_, ?_⟩
  · rw [← hv, List.map_reverse, List.reverse_reverse, ← List.map_append, List.take_append_drop]
  · rw [← hv, List.length_reverse, List.length_take]
    omega
/-- a receiver's cell -/
theorem am_recv_cell {b : Nat} {N : am_Me} (hcls : N.2.1.cls = am_cn N.1) (hK : va_K (dC, dI) am_cl (am_tys dA) s) (hF : am_SF z0 sa pr Hz s) (hE : ∀ q, q < z0 → s.heap[q]? = Hz[q]?) (hz : Hz.size = z0) (hW : am_Wd z0 sa dC dI dA σ H) (hS : va_S (fun q => z0 ≤ q) s.heap H locs) (h : am_recv σ N.1 (.ref b) = true) : ∃ cell : Cell, H[am_rho z0 sa b]? = some cell ∧ cell.vm.isStatics = false ∧ s.vm.findClass N.2.1.cls = some cell.cls := by
  simp only [am_recv, Bool.or_eq_true, Bool.and_eq_true, decide_eq_true_eq] at h
  rw [hcls]
  rcases h with ⟨⟨h1, h2⟩, h3⟩ | ⟨⟨h1, h2⟩, h3⟩
  · exact va_recv hK hW.2.2 (am_cl_get N.1 h3) (am_obj h1 h3 h2)
  · rw [h1, am_e2 b ⟨h2, h3⟩]
    obtain ⟨cell, g1, g2, g3, g4⟩ := ((hF.2.2.2.2.2.1.kept (am_kept hE hz)) (b - 4) (am_e3 b ⟨h2, h3⟩)).1
    exact ⟨cell, by rw [hS.2.1 _ (Array.getElem?_eq_some_iff.mp g1).1 g4]; exact g1, g2, g3⟩
theorem am_cok_spec {ck kind : Nat} {N : am_Me} (h : am_cok ck kind N st σ = true) : ck = (if kind = 3 then 1 else kind) ∧ am_k ck N ≤ st.length ∧ am_cat (st.drop (am_k ck N)) ≤ 8 ∧ am_cat (st.take (am_k ck N)).reverse ≤ N.2.2.2.1 ∧ (ck = 0 → ∃ v As, (st.take (am_k ck N)).reverse = v :: As ∧ am_recv σ N.1 v = true) ∧ (ck = 2 → ∃ b As, (st.take (am_k ck N)).reverse = .ref b :: As) := by
  simp only [am_cok, Bool.and_eq_true, decide_eq_true_eq] at h
  obtain ⟨⟨⟨⟨h1, h2⟩, h3⟩, h4⟩, h5⟩ := h
  refine ⟨h1, h2, h3, h4, fun h0 => ?_, fun h0 => ?_⟩
  · subst h0
    cases hv : (st.take (am_k 0 N)).reverse with
    | nil =>
      rw [hv] at h5
      have h6 : false = true := h5
      cases h6
    | cons v As =>
      rw [hv] at h5
      exact ⟨v, As, rfl, h5⟩
  · subst h0
    cases hv : (st.take (am_k 2 N)).reverse with
    | nil =>
      rw [hv] at h5
      have h6 : false = true := h5
      cases h6
    | cons v As =>
      rw [hv] at h5
      cases v with
      | ref b => exact ⟨b, As, rfl⟩
      | _ =>
        have h6 : false = true := h5
        cases h6
set_option maxHeartbeats 4000000 in
/-- a call, out of a run of the callee -/
theorem am_callrun {n d mj ck kind k i0 : Nat} {N : am_Me} {ins : Instr} {r : Option Value} {τ : am_H} (IH : am_Snd pr n) (C : am_C p s m args meth c cc cn mx ini z0 sa dC dI dA pr Hz) (hW : am_Wd z0 sa dC dI dA σ H) (hS : va_S (fun q => z0 ≤ q) s.heap H locs) (hL : am_L (am_rho z0 sa) ls mx lv) (hd : decode cc pc = .ok (ins, 3)) (hck : am_cidx ins 3 = some (ck, k)) (hm : am_ml.lookup (am_key cn k) = some (mj, kind, i0)) (hkd : ¬ 4 ≤ kind) (hN : am_mt[mj]? = some N) (hok : am_cok ck kind N st σ = true) (hrun : am_run pr n d mj 0 (lv_args 0 (st.take (am_k ck N)).reverse) [] σ = some (r, τ)) (hfr : d + 1 ≤ R.frames) (hlo : 60 * (d + 1) ≤ R.locals) (hc : cells + (τ.1.length - σ.1.length) ≤ R.cells) (hs : slots + (am_sl τ - am_sl σ) ≤ R.slots) :
    va_Run p l e R s m args below meth c H locs cells slots (τ.1.length - σ.1.length) (am_sl τ - am_sl σ) (F0 m pc ls (st.map (am_tr (am_rho z0 sa)))) ((st.drop (am_k ck N)).map (am_tr (am_rho z0 sa))) (am_Qc z0 sa dC dI dA r τ ((st.take (am_k ck N)).reverse.map (am_tr (am_rho z0 sa))).toArray) (fun q => z0 ≤ q) := by
  obtain ⟨hx, hb, hml, hown, hts, hini, hK, hF, hE, hz, hzs⟩ := C
  obtain ⟨o1, o2, o3, o4, o5, o6⟩ := am_cok_spec hok
  obtain ⟨w1, w2, w3, w4, w5, w6, w7, w8, w9, w10⟩ := am_me_facts hN
  obtain ⟨l1, l2, l3⟩ := am_mlink hm
  have hM := am_met (z0 := z0) (sa := sa) (dC := dC) (dI := dI) (dA := dA) (Hz := Hz) l IH hN hrun o4 hz
  have hG := am_goodM hN
  have hR : (am_rm d (τ.1.length - σ.1.length) (am_sl τ - am_sl σ)).frames + 1 ≤ R.frames ∧ 8 + (N.2.2.2.1 + 11) + (am_rm d (τ.1.length - σ.1.length) (am_sl τ - am_sl σ)).locals ≤ R.locals := ⟨hfr, by show 8 + (N.2.2.2.1 + 11) + 60 * d ≤ R.locals; omega⟩
  have hroom : (((st.drop (am_k ck N)).map (am_tr (am_rho z0 sa))).map fun v => v.category).sum ≤ 8 := by rw [am_cat_tr]; exact o3
  have hsp := am_split (vs := (st.take (am_k ck N)).reverse) o2 rfl (am_rho z0 sa)
  have hlen : ((st.take (am_k ck N)).reverse.map (am_tr (am_rho z0 sa))).length = am_k ck N := by rw [List.length_map]; exact hsp.2
  have hpre := am_pre (vs := (st.take (am_k ck N)).reverse) hK hF hE hzs hW hS
  have hS4 : CallFix p m c cc mx s args am_TG (am_cn cn) := ⟨hx, hb, hml, hown, hts⟩
  rcases (show kind = 0 ∨ kind = 1 ∨ kind = 2 ∨ kind = 3 by omega) with rfl | rfl | rfl | rfl
  · have hc0 : ck = 0 := o1
    subst hc0
    simp only [am_ml_ok, hN, Bool.and_eq_true, decide_eq_true_eq] at l3
    rw [l1, l2] at l3
    obtain ⟨v, As, hv, hrc⟩ := o5 rfl
    have hb0 : ∃ b, v = .ref b := by
      cases v <;> first | exact ⟨_, rfl⟩ | (simp [am_recv] at hrc)
    obtain ⟨b, rfl⟩ := hb0
    have hi : ins = .invokevirtual k := by
      revert hck
      cases ins <;> simp [am_cidx]
    subst hi
    rw [hv] at hM hpre hsp hlen ⊢
    have hAs : (As.map (am_tr (am_rho z0 sa))).length = N.2.2.2.2.2.1 := by
      have h9 : am_k 0 N = 1 + N.2.2.2.2.2.1 := rfl
      rw [h9] at hlen
      simp only [List.map_cons, List.length_cons] at hlen
      omega
    exact va_runV (As := As.map (am_tr (am_rho z0 sa))) (rest := (st.drop (am_k 0 N)).map (am_tr (am_rho z0 sa))) hS4 hM ⟨callB_of N.2.2.2.2.2.1 hts hG rfl rfl rfl (hts _ w6) (hts _ (am_is_mem l3.2)) w3 hR, hts _ (w8 (by rw [l3.1]; decide)), hts _ (w9 l3.1)⟩ ⟨am_blind, am_recv_cell w2 hK hF hE hz hW hS hrc, hpre⟩ rfl hAs hL.1 (by
      show st.map (am_tr (am_rho z0 sa)) = _
      rw [hsp.1]
      simp [am_tr]) (lv_room hroom) hd ⟨hc, hs⟩
  · have hc0 : ck = 1 := o1
    subst hc0
    simp only [am_ml_ok, hN, Bool.and_eq_true, decide_eq_true_eq] at l3
    rw [l1, l2] at l3
    have hi : ins = .invokestatic k := by
      revert hck
      cases ins <;> simp [am_cidx]
    subst hi
    have hAs : ((st.take (am_k 1 N)).reverse.map (am_tr (am_rho z0 sa))).length = N.2.2.2.2.2.1 := by
      have h9 : am_k 1 N = 0 + N.2.2.2.2.2.1 := rfl
      omega
    exact va_runS (rest := (st.drop (am_k 1 N)).map (am_tr (am_rho z0 sa))) hS4 hM ⟨callB_of N.2.2.2.2.2.1 hts hG rfl rfl rfl (hts _ w6) (hts _ (am_is_mem l3.2)) w3 hR, hts _ (w7 l3.1)⟩ ⟨am_blind, hpre⟩ rfl hAs hL.1 hsp.1 (lv_room hroom) hd ⟨hc, hs⟩
  · have hc0 : ck = 2 := o1
    subst hc0
    simp only [am_ml_ok, hN, Bool.and_eq_true, decide_eq_true_eq] at l3
    rw [l1, l2] at l3
    obtain ⟨b, As, hv⟩ := o6 rfl
    have hi : ins = .invokespecial k := by
      revert hck
      cases ins <;> simp [am_cidx]
    subst hi
    rw [hv] at hM hpre hsp hlen ⊢
    have hAs : (As.map (am_tr (am_rho z0 sa))).length = N.2.2.2.2.2.1 := by
      have h9 : am_k 2 N = 1 + N.2.2.2.2.2.1 := rfl
      rw [h9] at hlen
      simp only [List.map_cons, List.length_cons] at hlen
      omega
    have hrn := (w10 l3.1).2
    have hwm : am_wsM N = Cond.code N.2.1 N.2.2.1 N.2.2.2.1 none :: am_TG := by unfold am_wsM; rw [hrn]
    exact va_runI (As := As.map (am_tr (am_rho z0 sa))) (rest := (st.drop (am_k 2 N)).map (am_tr (am_rho z0 sa))) hS4 hM ⟨callB_of N.2.2.2.2.2.1 hts hG hwm rfl rfl (hts _ w6) (hts _ (am_is_mem l3.2)) w3 hR, (w10 l3.1).1, hts _ (w8 (by rw [l3.1]; decide))⟩ ⟨am_blind, hpre⟩ rfl hAs hL.1 (by
      show st.map (am_tr (am_rho z0 sa)) = _
      rw [hsp.1]
      simp [am_tr]) (lv_room hroom) hd ⟨hc, hs⟩
  · have hc0 : ck = 1 := o1
    subst hc0
    simp only [am_ml_ok, hN, Bool.and_eq_true, decide_eq_true_eq] at l3
    rw [l1, l2] at l3
    have hi : ins = .invokestatic k := by
      revert hck
      cases ins <;> simp [am_cidx]
    subst hi
    have hAs : ((st.take (am_k 1 N)).reverse.map (am_tr (am_rho z0 sa))).length = N.2.2.2.2.2.1 := by
      have h9 : am_k 1 N = 0 + N.2.2.2.2.2.1 := rfl
      omega
    exact va_runSN (host := "RookHouse") (rest := (st.drop (am_k 1 N)).map (am_tr (am_rho z0 sa))) hS4 hM ⟨va_cnB N.2.2.2.2.2.1 hts hG rfl rfl rfl (hF.2.2.2.2.2.2.2.2.1 _ _ _ (List.mem_of_getElem? l3.1.2)) (hts _ w6) w3 hR, hts _ (w7 l3.1.1), trivial⟩ ⟨am_blind, hpre⟩ rfl hAs hL.1 hsp.1 (lv_room hroom) hd ⟨hc, hs⟩
set_option maxHeartbeats 4000000 in
theorem am_snd (pr : am_Pr) : ∀ n : Nat, am_Snd pr n
  | 0 => by
    intro p l e R s m args below meth c H locs cells slots Q z0 sa dC dI dA Hz d mi pc ls lv st σ r τ M hM h
    cases h
  | n + 1 => by
    have IH := am_snd pr n
    intro p l e R s m args below meth c H locs cells slots Q z0 sa dC dI dA Hz d mi pc ls lv st σ r τ M hM h C hW hS hL hfr hlo hc hs kret
    have hmono := am_run_mono (n + 1) d mi pc lv st σ r τ h
    unfold am_run at h
    rw [hM] at h
    dsimp only at h
    split at h
    · cases h
    · rename_i ins len hd
      split at h
      · rename_i r0 hr0
        cases h
        have k0 := kret H locs ls pc st ins len hd hr0 hW hS
        simpa only [Nat.sub_self, Nat.add_zero] using k0
      · split at h
        · split at h
          · rename_i f hf
            have m1 := am_st1_mono hf
            have m2 := am_run_mono n _ _ _ _ _ _ _ _ h
            have a1 := am_pre_len m1
            have a2 := am_pre_len m2
            have b1 := am_pre_sl m1
            have b2 := am_pre_sl m2
            refine am_simple C hW hS hL hd hf (by omega) (by omega) ?_
            intro H' locs' ls' hW' hS' hL'
            refine IH p l e R s m args below meth c H' locs' _ _ Q z0 sa dC dI dA Hz d mi f.1 ls' f.2.1 f.2.2.1 f.2.2.2 r τ M hM h C hW' hS' hL' hfr hlo (by omega) (by omega) ?_
            intro H2 locs2 ls2 pc2 st2 ins2 len2 g1 g2 g3 g4
            have k0 := kret H2 locs2 ls2 pc2 st2 ins2 len2 g1 g2 g3 g4
            refine W.cs (by omega) (by omega) k0
          · cases h
        · rename_i ck k hck
          split at h
          · rename_i d0 mj kind i0 hm
            have hlen3 : len = 3 := by
              revert hck
              unfold am_cidx
              split <;> simp
            subst hlen3
            split at h
            · split at h
              · rename_i hkd hcase
                split at h
                · rename_i f hf
                  have e1 := am_nat_mono hf
                  have e2 : am_sl f.2.2.2 = am_sl σ := by unfold am_sl; rw [e1]
                  have m2 := am_run_mono n _ _ _ _ _ _ _ _ h
                  have hkk : am_K p l e R s m args below meth c Q M.2.2.2.1 z0 sa dC dI dA cells slots σ f := by
                    intro H' locs' ls' hW' hS' hL'
                    refine IH p l e R s m args below meth c H' locs' _ _ Q z0 sa dC dI dA Hz (d0 + 1) mi f.1 ls' f.2.1 f.2.2.1 f.2.2.2 r τ M hM h C hW' hS' hL' hfr hlo (by rw [e1]; omega) (by rw [e2]; omega) ?_
                    intro H2 locs2 ls2 pc2 st2 ins2 len2 g1 g2 g3 g4
                    have k0 := kret H2 locs2 ls2 pc2 st2 ins2 len2 g1 g2 g3 g4
                    exact W.cs (by rw [e1]; omega) (by rw [e2]; omega) k0
                  have hf1 : 1 ≤ R.frames := by omega
                  have hl1 : 60 ≤ R.locals := by omega
                  rcases hcase with ⟨rfl, rfl⟩ | ⟨h5, rfl⟩
                  · have hi : ins = .invokespecial k := by
                      revert hck
                      cases ins <;> simp [am_cidx]
                    subst hi
                    exact am_i_objinit (len := 0) C hW hS hL hd hm hf hf1 hl1 hkk
                  · have hi : ins = .invokestatic k := by
                      revert hck
                      cases ins <;> simp [am_cidx]
                    subst hi
                    have hk7 : kind = 5 ∨ kind = 6 ∨ kind = 7 := by
                      unfold am_nat at hf
                      split at hf <;> first | omega | (cases hf)
                    rcases hk7 with rfl | rfl | rfl
                    · exact am_i_copy C hW hS hL hd hm hf hf1 hl1 hkk
                    · exact am_i_max C hW hS hL hd hm hf hf1 hl1 (by omega) (by omega) hkk
                    · exact am_i_min C hW hS hL hd hm hf hf1 hl1 (by omega) (by omega) hkk
                · cases h
              · cases h
            · rename_i hkd
              split at h
              · cases h
              · rename_i N hN
                split at h
                · rename_i hok
                  split at h
                  · rename_i r1 τ1 hr1
                    have m1 := am_run_mono n _ _ _ _ _ _ _ _ hr1
                    have m2 := am_run_mono n _ _ _ _ _ _ _ _ h
                    have a1 := am_pre_len m1
                    have a2 := am_pre_len m2
                    have b1 := am_pre_sl m1
                    have b2 := am_pre_sl m2
                    refine am_cont (am_callrun IH C hW hS hL hd hck hm hkd hN hok hr1 hfr hlo (by omega) (by omega)) hS ?_
                    intro H' locs' hW' hS'
                    have k1 := IH p l e R s m args below meth c H' locs' (cells + (τ1.1.length - σ.1.length)) (slots + (am_sl τ1 - am_sl σ)) Q z0 sa dC dI dA Hz (d0 + 1) mi (pc + 3) ls lv (r1.toList ++ st.drop (am_k ck N)) τ1 r τ M hM h C hW' hS' hL hfr hlo (by omega) (by omega) (by
                      intro H2 locs2 ls2 pc2 st2 ins2 len2 g1 g2 g3 g4
                      have k0 := kret H2 locs2 ls2 pc2 st2 ins2 len2 g1 g2 g3 g4
                      exact W.cs (by omega) (by omega) k0)
                    have e3 : (r1.toList ++ st.drop (am_k ck N)).map (am_tr (am_rho z0 sa)) = (r1.map (am_tr (am_rho z0 sa))).toList ++ (st.drop (am_k ck N)).map (am_tr (am_rho z0 sa)) := by
                      rw [List.map_append]
                      cases r1 <;> rfl
                    unfold am_G at k1
                    rw [e3] at k1
                    exact k1
                  · cases h
                · cases h
          · cases h
end AmSnd
