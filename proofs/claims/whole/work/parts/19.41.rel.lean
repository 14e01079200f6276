/-! how both sides' memories belong together -/
/-- a house's rows, and a row as the reference keeps it: n members, l laws, s sights -/
def am_HRf (x0 x1 x2 x3 x4 x6 x7 kp : Nat → Int32) (n l s : Nat) : Nat → Prop
  | 0 => n ≤ 7 ∧ l ≤ 6 ∧ s ≤ 6
  | 1 => x0 0 = nI n ∧ kp 73 = nI n
  | 2 => ∀ m, m < 32 → (am_bit (x0 1) m = 1 ↔ m < n ∧ kp (35 + m) = 1)
  | 3 => ∀ m, m < n → kp (35 + m) = 0 ∨ kp (35 + m) = 1
  | 4 => x0 2 = kp 42 ∧ ∃ x, x < 32 ∧ kp 42 = nI x
  | 5 => x0 3 = nI l ∧ kp 75 = nI l
  | 6 => x0 4 = kp 76 ∧ (kp 76 = -1 ∨ ∃ f, f < l ∧ kp 76 = nI f)
  | 7 => x0 5 = nI s ∧ kp 74 = nI s
  | 8 => ∀ m, m < n → x1 m = kp (44 + m) ∧ ∃ x, 1 ≤ x ∧ x ≤ 9 ∧ kp (44 + m) = nI x
  | 9 => ∀ m, m < n → x2 m = kp (51 + m)
  | 10 => ∀ j, j < n * 5 → x3 j = kp j ∧ ∃ x, x ≤ 9 ∧ kp j = nI x
  | 11 => x4 0 = kp 43 ∧ ∃ x, x ≤ 999 ∧ kp 43 = nI x
  | 12 => x4 1 = kp 70 ∧ ∃ x, x ≤ 10 ∧ kp 70 = nI x
  | 13 => x4 2 = kp 71
  | 14 => x4 3 = kp 72 ∧ ∃ x, x ≤ 99 ∧ kp 72 = nI x
  | 15 => ∀ i, i < s → ∃ a b, a < 5 ∧ b < 5 ∧ x6 i = nI a ∧ kp (58 + 2 * i) = nI a ∧ x7 i = nI b ∧ kp (58 + 2 * i + 1) = nI b
  | _ => True
def am_HR (I : Nat → Nat → Int32) (h : Nat) (kp : Nat → Int32) (n l s : Nat) : Prop := ∀ q, am_HRf (I h) (I (h + 1 + 0)) (I (h + 1 + 1)) (I (h + 1 + 2)) (I (h + 1 + 3)) (I (h + 1 + 5)) (I (h + 1 + 6)) kp n l s q
/-- a house's laws: p its row of texts -/
def am_LW (S : List (Nat × Nat)) (I : Nat → Nat → Int32) (P : Nat → Nat → Option Nat) (p : Nat → Option Nat) (kp : Nat → Int32) (l : Nat) : Prop :=
  ∀ i, i < l → ∃ t xs, p i = some t ∧ 149 ≤ t ∧ am_TI S I P t xs ∧ am_TK false kp i xs
/-- every text in a row is one, and lies apart from the images -/
def am_LS (S : List (Nat × Nat)) (P : Nat → Nat → Option Nat) (p : Nat → Option Nat) : Prop :=
  ∀ i t, p i = some t → am_sh S t (6, 9) ∧ t + 6 < S.length ∧ ∀ q h, q < 2 → P 89 q = some h → t + 6 < h ∨ h + 7 < t
/-- an image -/
def am_IM (S : List (Nat × Nat)) (I : Nat → Nat → Int32) (P : Nat → Nat → Option Nat) (q : Nat) : Prop :=
  (I 128 q = 0 ∧ P 89 q = none) ∨ (I 128 q = 1 ∧ ∃ h n l s, P 89 q = some h ∧ 149 ≤ h ∧ h + 7 < S.length ∧ am_Hs S P h ∧ am_HR I h (fun j => I 127 (5684 * q + j)) n l s ∧ am_LW S I P (P (h + 1 + 4)) (fun j => I 127 (5684 * q + j)) l ∧ am_LS S P (P (h + 1 + 4)))
/-- a deed taken back: kind, where, what was -/
def am_un (n : Nat) (kd wh ws : Int32) (kp : Nat → Int32) (j : Nat) : Int32 :=
  if kd = 0 then (if j = 42 then kp 42 ^^^ (1 <<< (wh &&& 31)) else kp j)
  else if kd = 1 then (if 35 + wh.toNatClampNeg = j then 1 - kp j else kp j)
  else if kd = 2 then (if wh.toNatClampNeg = j then ws else kp j)
  else (if j = 43 then kp 43 - 1 else if 35 ≤ j ∧ j < 35 + n then am_bit wh (j - 35) else kp j)
/-- a deed that can have been -/
def am_dd (n : Nat) (kd wh ws : Int32) : Prop :=
  (kd = 0 ∧ ∃ b, b < 5 ∧ wh = nI b) ∨ (kd = 1 ∧ ∃ m, m < n ∧ wh = nI m) ∨ (kd = 2 ∧ ∃ j, j < n * 5 ∧ wh = nI j) ∨ (kd = 3 ∧ ∀ m, n ≤ m → m < 32 → am_bit wh m = 0)
/-- what hands move is as it must be -/
def am_mv (n : Nat) (kp : Nat → Int32) : Prop :=
  (∀ m, m < n → kp (35 + m) = 0 ∨ kp (35 + m) = 1) ∧ (∃ x, x < 32 ∧ kp 42 = nI x) ∧ (∃ x, x ≤ 999 ∧ kp 43 = nI x) ∧ ∀ j, j < n * 5 → ∃ x, x ≤ 9 ∧ kp j = nI x
/-- the past: deeds dd of the one side, rows lf laid ahead of each of the other one; u of them -/
def am_PA (dd lf kp : Nat → Int32) (n u : Nat) : Prop :=
  ∀ i, i < u → am_dd n (dd (3 * i)) (dd (3 * i + 1)) (dd (3 * i + 2)) ∧ lf (45 * i + 44) = dd (3 * i) ∧ am_mv n (fun j => lf (45 * i + j)) ∧ ∀ j, j < 44 → lf (45 * i + j) = am_un n (dd (3 * i)) (dd (3 * i + 1)) (dd (3 * i + 2)) (if i + 1 = u then kp else fun j => lf (45 * (i + 1) + j)) j
/-- what was drawn -/
def am_DR (x0 x3 dm : Nat → Int32) (many : Int32) : Prop :=
  (many = -1 ∧ x0 0 = 0) ∨ ∃ n, 0 < n ∧ n ≤ 7 ∧ many = nI n ∧ x0 0 = nI n ∧ x0 2 = dm 42 ∧ (∀ m, m < n → dm (35 + m) = am_bit (x0 1) m) ∧ ∀ j, j < n * 5 → x3 j = dm j
/-- the reference's words -/
def am_wds : List Nat := [115, 112, 101, 97, 107, 115, 32, 119, 97, 110, 116, 115, 32, 98, 97, 114, 115, 32, 105, 102, 32, 111, 114, 32, 97, 110, 100, 32, 110, 111, 116, 32, 109, 101, 109, 98, 101, 114, 32, 115, 105, 100, 101, 32, 98, 105, 108, 108, 32, 119, 97, 110, 116, 32, 115, 116, 97, 110, 100, 115, 32, 109, 111, 111, 100, 32, 118, 111, 105, 99, 101, 32, 104, 101, 114, 101, 32, 100, 97, 121, 32, 100, 111, 110, 101, 32, 108, 97, 116, 101, 115, 116, 32, 115, 116, 97, 110, 100, 105, 110, 103, 32, 102, 111, 114, 32, 112, 117, 116, 32, 103, 111, 32, 115, 119, 97, 121, 32, 111, 110, 32, 116, 111, 32, 112, 97, 115, 115, 32, 116, 105, 109, 101, 115, 32]
def am_Rf (S : List (Nat × Nat)) (I : Nat → Nat → Int32) (P : Nat → Nat → Option Nat) (n l s u tp : Nat) : Nat → Prop
  | 0 => am_Lay S P
  | 1 => am_HR I 65 (I 126) n l s
  | 2 => am_LW S I P (P 70) (I 126) l
  | 3 => am_LS S P (P 70)
  | 4 => ∀ q, q < 2 → am_IM S I P q
  | 5 => ∀ h0 h1, P 89 0 = some h0 → P 89 1 = some h1 → h0 + 7 < h1 ∨ h1 + 7 < h0
  | 6 => u ≤ 16 ∧ I 90 0 = nI u ∧ I 124 35 = nI u ∧ am_PA (I 91) (I 141) (I 126) n u
  | 7 => tp ≤ 400 ∧ I 94 0 = nI tp ∧ I 124 13 = nI tp ∧ ∀ k, k < tp → (I 95 k = I 131 k &&& 255 ∧ (I 131 k).toInt8.toInt32 = I 131 k)
  | 8 => I 96 3 = I 124 14 ∧ I 64 13 = I 124 40 ∧ I 64 14 = I 124 6 ∧ I 64 16 = I 124 0
  | 9 => ∀ k, k < 7 → I 123 k = I 125 k
  | 10 => am_DR (I 81) (I 84) (I 148) (I 124 48)
  | 11 => ∀ k x, am_wds[k]? = some x → I 130 k = nI x
  | _ => True
def am_R (S : List (Nat × Nat)) (I : Nat → Nat → Int32) (P : Nat → Nat → Option Nat) (n l s u tp : Nat) : Prop := ∀ q, am_Rf S I P n l s u tp q
section
variable {S : List (Nat × Nat)} {I I' : Nat → Nat → Int32} {P : Nat → Nat → Option Nat} {n l s u tp h : Nat} {kp : Nat → Int32}
theorem am_R.L (r : am_R S I P n l s u tp) : am_Lay S P := r 0
theorem am_R.hr (r : am_R S I P n l s u tp) : am_HR I 65 (I 126) n l s := r 1
theorem am_HR.n7 (r : am_HR I h kp n l s) : n ≤ 7 := (r 0).1
theorem am_HR.l6 (r : am_HR I h kp n l s) : l ≤ 6 := (r 0).2.1
theorem am_HR.s6 (r : am_HR I h kp n l s) : s ≤ 6 := (r 0).2.2
theorem am_HR.hn (r : am_HR I h kp n l s) : I h 0 = nI n := (r 1).1
theorem am_HR.kn (r : am_HR I h kp n l s) : kp 73 = nI n := (r 1).2
theorem am_HR.he (r : am_HR I h kp n l s) : ∀ m, m < 32 → (am_bit (I h 1) m = 1 ↔ m < n ∧ kp (35 + m) = 1) := r 2
theorem am_HR.k01 (r : am_HR I h kp n l s) : ∀ m, m < n → kp (35 + m) = 0 ∨ kp (35 + m) = 1 := r 3
theorem am_HR.st (r : am_HR I h kp n l s) : I h 2 = kp 42 := (r 4).1
theorem am_HR.ks (r : am_HR I h kp n l s) : ∃ x, x < 32 ∧ kp 42 = nI x := (r 4).2
theorem am_HR.hl (r : am_HR I h kp n l s) : I h 3 = nI l := (r 5).1
theorem am_HR.kl (r : am_HR I h kp n l s) : kp 75 = nI l := (r 5).2
theorem am_HR.hf (r : am_HR I h kp n l s) : I h 4 = kp 76 := (r 6).1
theorem am_HR.kf (r : am_HR I h kp n l s) : kp 76 = -1 ∨ ∃ f, f < l ∧ kp 76 = nI f := (r 6).2
theorem am_HR.hs (r : am_HR I h kp n l s) : I h 5 = nI s := (r 7).1
theorem am_HR.kss (r : am_HR I h kp n l s) : kp 74 = nI s := (r 7).2
theorem am_HR.vo (r : am_HR I h kp n l s) : ∀ m, m < n → I (h + 1 + 0) m = kp (44 + m) := fun m hm => ((r 8) m hm).1
theorem am_HR.vr (r : am_HR I h kp n l s) : ∀ m, m < n → ∃ x, 1 ≤ x ∧ x ≤ 9 ∧ kp (44 + m) = nI x := fun m hm => ((r 8) m hm).2
theorem am_HR.sd (r : am_HR I h kp n l s) : ∀ m, m < n → I (h + 1 + 1) m = kp (51 + m) := r 9
theorem am_HR.wa (r : am_HR I h kp n l s) : ∀ j, j < n * 5 → I (h + 1 + 2) j = kp j := fun j hj => ((r 10) j hj).1
theorem am_HR.wr (r : am_HR I h kp n l s) : ∀ j, j < n * 5 → ∃ x, x ≤ 9 ∧ kp j = nI x := fun j hj => ((r 10) j hj).2
theorem am_HR.td (r : am_HR I h kp n l s) : I (h + 1 + 3) 0 = kp 43 := (r 11).1
theorem am_HR.dr (r : am_HR I h kp n l s) : ∃ x, x ≤ 999 ∧ kp 43 = nI x := (r 11).2
theorem am_HR.tz (r : am_HR I h kp n l s) : I (h + 1 + 3) 1 = kp 70 := (r 12).1
theorem am_HR.zr (r : am_HR I h kp n l s) : ∃ x, x ≤ 10 ∧ kp 70 = nI x := (r 12).2
theorem am_HR.tm (r : am_HR I h kp n l s) : I (h + 1 + 3) 2 = kp 71 := r 13
theorem am_HR.tn (r : am_HR I h kp n l s) : I (h + 1 + 3) 3 = kp 72 := (r 14).1
theorem am_HR.nr (r : am_HR I h kp n l s) : ∃ x, x ≤ 99 ∧ kp 72 = nI x := (r 14).2
theorem am_HR.si (r : am_HR I h kp n l s) : ∀ i, i < s → ∃ a b, a < 5 ∧ b < 5 ∧ I (h + 1 + 5) i = nI a ∧ kp (58 + 2 * i) = nI a ∧ I (h + 1 + 6) i = nI b ∧ kp (58 + 2 * i + 1) = nI b := r 15
theorem am_Hs_of (h : Nat) (L : am_Lay S P) (e : am_lay h = some (0, 13)) (e1 : ∀ k, k < 7 → am_ptr h (6 + k) = some (h + 1 + k)) (e2 : ∀ k q, am_hq[k]? = some q → am_lay (h + 1 + k) = some q) : am_Hs S P h := ⟨L.sh e, fun k hk => L.2 _ _ _ (e1 k hk), fun k q hq => L.sh (e2 k q hq)⟩
theorem am_hq_all {F : Nat → Nat × Nat → Prop} (h0 : F 0 (20, 7)) (h1 : F 1 (20, 7)) (h2 : F 2 (20, 35)) (h3 : F 3 (20, 4)) (h4 : F 4 (25, 6)) (h5 : F 5 (20, 6)) (h6 : F 6 (20, 6)) : ∀ k q, am_hq[k]? = some q → F k q := by
  intro k q e
  match k with
  | 0 => cases e; exact h0
  | 1 => cases e; exact h1
  | 2 => cases e; exact h2
  | 3 => cases e; exact h3
  | 4 => cases e; exact h4
  | 5 => cases e; exact h5
  | 6 => cases e; exact h6
  | k + 7 => cases e
theorem am_Lay.h65 (L : am_Lay S P) : am_Hs S P 65 := am_Hs_of 65 L rfl (by decide) (am_hq_all rfl rfl rfl rfl rfl rfl rfl)
theorem am_Lay.h73 (L : am_Lay S P) : am_Hs S P 73 := am_Hs_of 73 L rfl (by decide) (am_hq_all rfl rfl rfl rfl rfl rfl rfl)
theorem am_Lay.h81 (L : am_Lay S P) : am_Hs S P 81 := am_Hs_of 81 L rfl (by decide) (am_hq_all rfl rfl rfl rfl rfl rfl rfl)
theorem am_Lay.p90 (L : am_Lay S P) : am_Pa S P 90 := ⟨L.sh rfl, L.2 _ _ _ rfl, L.sh rfl⟩
theorem am_Lay.p92 (L : am_Lay S P) : am_Pa S P 92 := ⟨L.sh rfl, L.2 _ _ _ rfl, L.sh rfl⟩
theorem am_HR_cg {kp' : Nat → Int32} (h : Nat) (e : ∀ a, h ≤ a → a ≤ h + 7 → I' a = I a) (ek : kp' = kp) (r : am_HR I h kp n l s) : am_HR I' h kp' n l s := by
  unfold am_HR
  rw [ek, e h (by omega) (by omega), e (h + 1 + 0) (by omega) (by omega), e (h + 1 + 1) (by omega) (by omega), e (h + 1 + 2) (by omega) (by omega), e (h + 1 + 3) (by omega) (by omega), e (h + 1 + 5) (by omega) (by omega), e (h + 1 + 6) (by omega) (by omega)]
  exact r
theorem am_TI_cg {P' : Nat → Nat → Option Nat} {S' : List (Nat × Nat)} {t : Nat} {xs : List Cl} (eS : ∀ a q, am_sh S a q → am_sh S' a q) (eP : P' t = P t) (e : ∀ a, t ≤ a → a ≤ t + 6 → I' a = I a) (r : am_TI S I P t xs) : am_TI S' I' P' t xs := by
  obtain ⟨N, z, h1, h2, h3, h4, h5, h6, h7⟩ := r
  refine ⟨N, z, ⟨eS _ _ h1.1, ?_, fun k q hq => eS _ _ (h1.2.2 k q hq)⟩, h2, h3, ?_, h5, ?_, ?_⟩
  · intro k hk
    rw [eP]
    exact h1.2.1 k hk
  · rw [e t (by omega) (by omega)]
    exact h4
  · rw [e t (by omega) (by omega)]
    exact h6
  · rw [e (t + 1 + 0) (by omega) (by omega), e (t + 1 + 1) (by omega) (by omega), e (t + 1 + 2) (by omega) (by omega), e (t + 1 + 3) (by omega) (by omega), e (t + 1 + 4) (by omega) (by omega), e (t + 1 + 5) (by omega) (by omega)]
    exact h7
theorem am_LW_cg {p : Nat → Option Nat} (e : ∀ a, 149 ≤ a → I' a = I a) (r : am_LW S I P p kp l) : am_LW S I' P p kp l := by
  intro i hi
  obtain ⟨t, xs, h1, h2, h3, h4⟩ := r i hi
  exact ⟨t, xs, h1, h2, am_TI_cg (fun _ _ z => z) rfl (fun a h _ => e a (by omega)) h3, h4⟩
/-- rows that last -/
def am_pers (a : Nat) : Prop := (65 ≤ a ∧ a ≤ 72) ∨ (81 ≤ a ∧ a ≤ 88) ∨ a = 90 ∨ a = 91 ∨ a = 94 ∨ a = 95 ∨ a = 123 ∨ (125 ≤ a ∧ a ≤ 128) ∨ a = 130 ∨ a = 131 ∨ a = 141 ∨ a = 148 ∨ 149 ≤ a
/-- nothing that lasts has changed -/
def am_ps (I I' : Nat → Nat → Int32) : Prop := (∀ a, am_pers a → I' a = I a) ∧ I' 96 3 = I 96 3 ∧ (I' 64 13 = I 64 13 ∧ I' 64 14 = I 64 14 ∧ I' 64 16 = I 64 16) ∧ I' 124 0 = I 124 0 ∧ I' 124 6 = I 124 6 ∧ I' 124 13 = I 124 13 ∧ I' 124 14 = I 124 14 ∧ I' 124 35 = I 124 35 ∧ I' 124 40 = I 124 40 ∧ I' 124 48 = I 124 48
theorem am_ps.r {a : Nat} (h : am_ps I I') (e : am_pers a) : I' a = I a := h.1 a e
theorem am_R_ps (r : am_R S I P n l s u tp) (h : am_ps I I') : am_R S I' P n l s u tp := by
  obtain ⟨e, h96, ⟨h64a, h64b, h64c⟩, f0, f6, f13, f14, f35, f40, f48⟩ := h
  have e126 : I' 126 = I 126 := e 126 (by unfold am_pers; omega)
  have e149 : ∀ a, 149 ≤ a → I' a = I a := fun a ha => e a (by unfold am_pers; omega)
  intro q
  match q with
  | 0 => exact r 0
  | 1 => exact am_HR_cg 65 (fun a h1 h2 => e a (by unfold am_pers; omega)) e126 (r 1)
  | 2 =>
    show am_LW S I' P (P 70) (I' 126) l
    rw [e126]
    exact am_LW_cg e149 (r 2)
  | 3 => exact r 3
  | 4 =>
    intro q hq
    have e128 : I' 128 = I 128 := e 128 (by unfold am_pers; omega)
    have e127 : I' 127 = I 127 := e 127 (by unfold am_pers; omega)
    unfold am_IM
    rw [e128, e127]
    rcases (r 4 : ∀ q, q < 2 → am_IM S I P q) q hq with z | ⟨z, h, n1, l1, s1, z1, z2, z3, z4, z5, z6, z7⟩
    · exact Or.inl z
    · exact Or.inr ⟨z, h, n1, l1, s1, z1, z2, z3, z4, am_HR_cg h (fun a h1 h2 => e149 a (by omega)) rfl z5, am_LW_cg e149 z6, z7⟩
  | 5 => exact r 5
  | 6 =>
    show u ≤ 16 ∧ I' 90 0 = nI u ∧ I' 124 35 = nI u ∧ am_PA (I' 91) (I' 141) (I' 126) n u
    rw [e126, e 90 (by unfold am_pers; omega), e 91 (by unfold am_pers; omega), e 141 (by unfold am_pers; omega), f35]
    exact r 6
  | 7 =>
    show tp ≤ 400 ∧ I' 94 0 = nI tp ∧ I' 124 13 = nI tp ∧ ∀ k, k < tp → (I' 95 k = I' 131 k &&& 255 ∧ (I' 131 k).toInt8.toInt32 = I' 131 k)
    rw [e 94 (by unfold am_pers; omega), e 95 (by unfold am_pers; omega), e 131 (by unfold am_pers; omega), f13]
    exact r 7
  | 8 =>
    show I' 96 3 = I' 124 14 ∧ I' 64 13 = I' 124 40 ∧ I' 64 14 = I' 124 6 ∧ I' 64 16 = I' 124 0
    rw [h96, f14, h64a, f40, h64b, f6, h64c, f0]
    exact r 8
  | 9 =>
    show ∀ k, k < 7 → I' 123 k = I' 125 k
    rw [e 123 (by unfold am_pers; omega), e 125 (by unfold am_pers; omega)]
    exact r 9
  | 10 =>
    show am_DR (I' 81) (I' 84) (I' 148) (I' 124 48)
    rw [e 81 (by unfold am_pers; omega), e 84 (by unfold am_pers; omega), e 148 (by unfold am_pers; omega), f48]
    exact r 10
  | 11 =>
    show ∀ k x, am_wds[k]? = some x → I' 130 k = nI x
    rw [e 130 (by unfold am_pers; omega)]
    exact r 11
  | q + 12 => exact trivial
end
