/-! a row an instruction, over the memory's four parts -/
/-- a cell that was made, and its shape -/
def am_sh (S : List (Nat × Nat)) (a : Nat) (q : Nat × Nat) : Prop := 64 ≤ a ∧ S[a]? = some q
section AmRows
variable {pr : am_Pr} {d mi pc pc' : Nat} {lv : List (Nat × Value)} {st : List Value} {S : List (Nat × Nat)} {I : Nat → Nat → Int32} {J : Nat → Nat → Int64} {P : Nat → Nat → Option Nat} {Q : Option Value → am_H → Prop} {M : am_Me}
theorem am_r_iconst {n : Int} {v : Int32} (hM : am_ms[mi]? = some M) (hd : decode M.2.2.1 pc = .ok (.iconst n, 1)) (hp : pc + 1 = pc') (hv : Int32.ofInt n = v) (k : am_wp pr d mi pc' lv (.int v :: st) (S, I, J, P) Q) : am_wp pr d mi pc lv (st) (S, I, J, P) Q := by
  subst hp
  rw [am_wp_st hM hd rfl rfl]
  subst hv
  exact k
theorem am_r_bipush {n : Int} {v : Int32} (hM : am_ms[mi]? = some M) (hd : decode M.2.2.1 pc = .ok (.bipush n, 2)) (hp : pc + 2 = pc') (hv : (Int8.ofInt n).toInt32 = v) (k : am_wp pr d mi pc' lv (.int v :: st) (S, I, J, P) Q) : am_wp pr d mi pc lv (st) (S, I, J, P) Q := by
  subst hp
  rw [am_wp_st hM hd rfl rfl]
  subst hv
  exact k
theorem am_r_sipush {n : Int} {v : Int32} (hM : am_ms[mi]? = some M) (hd : decode M.2.2.1 pc = .ok (.sipush n, 3)) (hp : pc + 3 = pc') (hv : (Int16.ofInt n).toInt32 = v) (k : am_wp pr d mi pc' lv (.int v :: st) (S, I, J, P) Q) : am_wp pr d mi pc lv (st) (S, I, J, P) Q := by
  subst hp
  rw [am_wp_st hM hd rfl rfl]
  subst hv
  exact k
theorem am_r_lconst {n : Fin 2} {v : Int64} (hM : am_ms[mi]? = some M) (hd : decode M.2.2.1 pc = .ok (.lconst n, 1)) (hp : pc + 1 = pc') (hv : Int64.ofNat (n : Nat) = v) (k : am_wp pr d mi pc' lv (.long v :: st) (S, I, J, P) Q) : am_wp pr d mi pc lv (st) (S, I, J, P) Q := by
  subst hp
  rw [am_wp_st hM hd rfl rfl]
  subst hv
  exact k
theorem am_r_null (hM : am_ms[mi]? = some M) (hd : decode M.2.2.1 pc = .ok (.aconst_null, 1)) (hp : pc + 1 = pc') (k : am_wp pr d mi pc' lv (.null :: st) (S, I, J, P) Q) : am_wp pr d mi pc lv (st) (S, I, J, P) Q := by
  subst hp
  rw [am_wp_st hM hd rfl rfl]
  exact k
theorem am_r_iload_n {k0 : Fin 4} {x : Int32} (hM : am_ms[mi]? = some M) (hd : decode M.2.2.1 pc = .ok (.iload_n k0, 1)) (hp : pc + 1 = pc') (hl : am_ld1 lv (k0 : Nat) = some (.int x)) (k : am_wp pr d mi pc' lv (.int x :: st) (S, I, J, P) Q) : am_wp pr d mi pc lv (st) (S, I, J, P) Q := by
  subst hp
  rw [am_wp_st hM hd rfl rfl]
  dsimp only [am_st1]
  rw [if_pos rfl, hl]
  exact k
theorem am_r_iload {i : Nat} {x : Int32} (hM : am_ms[mi]? = some M) (hd : decode M.2.2.1 pc = .ok (.iload i, 2)) (hp : pc + 2 = pc') (hl : am_ld1 lv i = some (.int x)) (k : am_wp pr d mi pc' lv (.int x :: st) (S, I, J, P) Q) : am_wp pr d mi pc lv (st) (S, I, J, P) Q := by
  subst hp
  rw [am_wp_st hM hd rfl rfl]
  dsimp only [am_st1]
  rw [if_pos rfl, hl]
  exact k
theorem am_r_lload_n {k0 : Fin 4} {x : Int64} (hM : am_ms[mi]? = some M) (hd : decode M.2.2.1 pc = .ok (.lload_n k0, 1)) (hp : pc + 1 = pc') (hl : am_ld2 lv (k0 : Nat) = some (.long x)) (k : am_wp pr d mi pc' lv (.long x :: st) (S, I, J, P) Q) : am_wp pr d mi pc lv (st) (S, I, J, P) Q := by
  subst hp
  rw [am_wp_st hM hd rfl rfl]
  dsimp only [am_st1]
  rw [if_pos rfl, hl]
  exact k
theorem am_r_lload {i : Nat} {x : Int64} (hM : am_ms[mi]? = some M) (hd : decode M.2.2.1 pc = .ok (.lload i, 2)) (hp : pc + 2 = pc') (hl : am_ld2 lv i = some (.long x)) (k : am_wp pr d mi pc' lv (.long x :: st) (S, I, J, P) Q) : am_wp pr d mi pc lv (st) (S, I, J, P) Q := by
  subst hp
  rw [am_wp_st hM hd rfl rfl]
  dsimp only [am_st1]
  rw [if_pos rfl, hl]
  exact k
theorem am_r_aload_n {k0 : Fin 4} {x : Nat} (hM : am_ms[mi]? = some M) (hd : decode M.2.2.1 pc = .ok (.aload_n k0, 1)) (hp : pc + 1 = pc') (hl : am_ld1 lv (k0 : Nat) = some (.ref x)) (k : am_wp pr d mi pc' lv (.ref x :: st) (S, I, J, P) Q) : am_wp pr d mi pc lv (st) (S, I, J, P) Q := by
  subst hp
  rw [am_wp_st hM hd rfl rfl]
  dsimp only [am_st1]
  rw [if_pos rfl, hl]
  exact k
theorem am_r_aload {i : Nat} {x : Nat} (hM : am_ms[mi]? = some M) (hd : decode M.2.2.1 pc = .ok (.aload i, 2)) (hp : pc + 2 = pc') (hl : am_ld1 lv i = some (.ref x)) (k : am_wp pr d mi pc' lv (.ref x :: st) (S, I, J, P) Q) : am_wp pr d mi pc lv (st) (S, I, J, P) Q := by
  subst hp
  rw [am_wp_st hM hd rfl rfl]
  dsimp only [am_st1]
  rw [if_pos rfl, hl]
  exact k
theorem am_r_aloadN_n {k0 : Fin 4} (hM : am_ms[mi]? = some M) (hd : decode M.2.2.1 pc = .ok (.aload_n k0, 1)) (hp : pc + 1 = pc') (hl : am_ld1 lv (k0 : Nat) = some .null) (k : am_wp pr d mi pc' lv (.null :: st) (S, I, J, P) Q) : am_wp pr d mi pc lv (st) (S, I, J, P) Q := by
  subst hp
  rw [am_wp_st hM hd rfl rfl]
  dsimp only [am_st1]
  rw [if_pos rfl, hl]
  exact k
theorem am_r_aloadN {i : Nat} (hM : am_ms[mi]? = some M) (hd : decode M.2.2.1 pc = .ok (.aload i, 2)) (hp : pc + 2 = pc') (hl : am_ld1 lv i = some .null) (k : am_wp pr d mi pc' lv (.null :: st) (S, I, J, P) Q) : am_wp pr d mi pc lv (st) (S, I, J, P) Q := by
  subst hp
  rw [am_wp_st hM hd rfl rfl]
  dsimp only [am_st1]
  rw [if_pos rfl, hl]
  exact k
theorem am_r_istore_n {k0 : Fin 4} {x : Int32} (hM : am_ms[mi]? = some M) (hd : decode M.2.2.1 pc = .ok (.istore_n k0, 1)) (hp : pc + 1 = pc') (hlt : (k0 : Nat) < M.2.2.2.1) (k : am_wp pr d mi pc' (((k0 : Nat), .int x) :: lv) (st) (S, I, J, P) Q) : am_wp pr d mi pc lv (.int x :: st) (S, I, J, P) Q := by
  subst hp
  rw [am_wp_st hM hd rfl rfl]
  dsimp only [am_st1]
  rw [if_pos ⟨rfl, hlt⟩]
  exact k
theorem am_r_istore {i : Nat} {x : Int32} (hM : am_ms[mi]? = some M) (hd : decode M.2.2.1 pc = .ok (.istore i, 2)) (hp : pc + 2 = pc') (hlt : i < M.2.2.2.1) (k : am_wp pr d mi pc' ((i, .int x) :: lv) (st) (S, I, J, P) Q) : am_wp pr d mi pc lv (.int x :: st) (S, I, J, P) Q := by
  subst hp
  rw [am_wp_st hM hd rfl rfl]
  dsimp only [am_st1]
  rw [if_pos ⟨rfl, hlt⟩]
  exact k
theorem am_r_lstore_n {k0 : Fin 4} {x : Int64} (hM : am_ms[mi]? = some M) (hd : decode M.2.2.1 pc = .ok (.lstore_n k0, 1)) (hp : pc + 1 = pc') (hlt : (k0 : Nat) + 1 < M.2.2.2.1) (k : am_wp pr d mi pc' (((k0 : Nat), .long x) :: lv) (st) (S, I, J, P) Q) : am_wp pr d mi pc lv (.long x :: st) (S, I, J, P) Q := by
  subst hp
  rw [am_wp_st hM hd rfl rfl]
  dsimp only [am_st1]
  rw [if_pos ⟨rfl, hlt⟩]
  exact k
theorem am_r_lstore {i : Nat} {x : Int64} (hM : am_ms[mi]? = some M) (hd : decode M.2.2.1 pc = .ok (.lstore i, 2)) (hp : pc + 2 = pc') (hlt : i + 1 < M.2.2.2.1) (k : am_wp pr d mi pc' ((i, .long x) :: lv) (st) (S, I, J, P) Q) : am_wp pr d mi pc lv (.long x :: st) (S, I, J, P) Q := by
  subst hp
  rw [am_wp_st hM hd rfl rfl]
  dsimp only [am_st1]
  rw [if_pos ⟨rfl, hlt⟩]
  exact k
theorem am_r_astore_n {k0 : Fin 4} {x : Nat} (hM : am_ms[mi]? = some M) (hd : decode M.2.2.1 pc = .ok (.astore_n k0, 1)) (hp : pc + 1 = pc') (hlt : (k0 : Nat) < M.2.2.2.1) (k : am_wp pr d mi pc' (((k0 : Nat), .ref x) :: lv) (st) (S, I, J, P) Q) : am_wp pr d mi pc lv (.ref x :: st) (S, I, J, P) Q := by
  subst hp
  rw [am_wp_st hM hd rfl rfl]
  dsimp only [am_st1]
  rw [if_pos ⟨rfl, hlt⟩]
  exact k
theorem am_r_astore {i : Nat} {x : Nat} (hM : am_ms[mi]? = some M) (hd : decode M.2.2.1 pc = .ok (.astore i, 2)) (hp : pc + 2 = pc') (hlt : i < M.2.2.2.1) (k : am_wp pr d mi pc' ((i, .ref x) :: lv) (st) (S, I, J, P) Q) : am_wp pr d mi pc lv (.ref x :: st) (S, I, J, P) Q := by
  subst hp
  rw [am_wp_st hM hd rfl rfl]
  dsimp only [am_st1]
  rw [if_pos ⟨rfl, hlt⟩]
  exact k
theorem am_r_astoreN_n {k0 : Fin 4} (hM : am_ms[mi]? = some M) (hd : decode M.2.2.1 pc = .ok (.astore_n k0, 1)) (hp : pc + 1 = pc') (hlt : (k0 : Nat) < M.2.2.2.1) (k : am_wp pr d mi pc' (((k0 : Nat), .null) :: lv) (st) (S, I, J, P) Q) : am_wp pr d mi pc lv (.null :: st) (S, I, J, P) Q := by
  subst hp
  rw [am_wp_st hM hd rfl rfl]
  dsimp only [am_st1]
  rw [if_pos ⟨rfl, hlt⟩]
  exact k
theorem am_r_astoreN {i : Nat} (hM : am_ms[mi]? = some M) (hd : decode M.2.2.1 pc = .ok (.astore i, 2)) (hp : pc + 2 = pc') (hlt : i < M.2.2.2.1) (k : am_wp pr d mi pc' ((i, .null) :: lv) (st) (S, I, J, P) Q) : am_wp pr d mi pc lv (.null :: st) (S, I, J, P) Q := by
  subst hp
  rw [am_wp_st hM hd rfl rfl]
  dsimp only [am_st1]
  rw [if_pos ⟨rfl, hlt⟩]
  exact k
theorem am_r_iinc {i : Nat} {n : Int} {v x : Int32} (hM : am_ms[mi]? = some M) (hd : decode M.2.2.1 pc = .ok (.iinc i n, 3)) (hp : pc + 3 = pc') (hlt : i < M.2.2.2.1) (hv : Int32.ofInt n = v) (hl : am_ld1 lv i = some (.int x)) (k : am_wp pr d mi pc' ((i, .int (x + v)) :: lv) (st) (S, I, J, P) Q) : am_wp pr d mi pc lv (st) (S, I, J, P) Q := by
  subst hp
  rw [am_wp_st hM hd rfl rfl]
  dsimp only [am_st1]
  rw [if_pos ⟨rfl, hlt⟩, hl]
  subst hv
  exact k
theorem am_r_iadd {x y : Int32} (hM : am_ms[mi]? = some M) (hd : decode M.2.2.1 pc = .ok (.iadd, 1)) (hp : pc + 1 = pc') (k : am_wp pr d mi pc' lv (.int (x + y) :: st) (S, I, J, P) Q) : am_wp pr d mi pc lv (.int y :: .int x :: st) (S, I, J, P) Q := by
  subst hp
  rw [am_wp_st hM hd rfl rfl]
  exact k
theorem am_r_isub {x y : Int32} (hM : am_ms[mi]? = some M) (hd : decode M.2.2.1 pc = .ok (.isub, 1)) (hp : pc + 1 = pc') (k : am_wp pr d mi pc' lv (.int (x - y) :: st) (S, I, J, P) Q) : am_wp pr d mi pc lv (.int y :: .int x :: st) (S, I, J, P) Q := by
  subst hp
  rw [am_wp_st hM hd rfl rfl]
  exact k
theorem am_r_imul {x y : Int32} (hM : am_ms[mi]? = some M) (hd : decode M.2.2.1 pc = .ok (.imul, 1)) (hp : pc + 1 = pc') (k : am_wp pr d mi pc' lv (.int (x * y) :: st) (S, I, J, P) Q) : am_wp pr d mi pc lv (.int y :: .int x :: st) (S, I, J, P) Q := by
  subst hp
  rw [am_wp_st hM hd rfl rfl]
  exact k
theorem am_r_iand {x y : Int32} (hM : am_ms[mi]? = some M) (hd : decode M.2.2.1 pc = .ok (.iand, 1)) (hp : pc + 1 = pc') (k : am_wp pr d mi pc' lv (.int (x &&& y) :: st) (S, I, J, P) Q) : am_wp pr d mi pc lv (.int y :: .int x :: st) (S, I, J, P) Q := by
  subst hp
  rw [am_wp_st hM hd rfl rfl]
  exact k
theorem am_r_ior {x y : Int32} (hM : am_ms[mi]? = some M) (hd : decode M.2.2.1 pc = .ok (.ior, 1)) (hp : pc + 1 = pc') (k : am_wp pr d mi pc' lv (.int (x ||| y) :: st) (S, I, J, P) Q) : am_wp pr d mi pc lv (.int y :: .int x :: st) (S, I, J, P) Q := by
  subst hp
  rw [am_wp_st hM hd rfl rfl]
  exact k
theorem am_r_ixor {x y : Int32} (hM : am_ms[mi]? = some M) (hd : decode M.2.2.1 pc = .ok (.ixor, 1)) (hp : pc + 1 = pc') (k : am_wp pr d mi pc' lv (.int (x ^^^ y) :: st) (S, I, J, P) Q) : am_wp pr d mi pc lv (.int y :: .int x :: st) (S, I, J, P) Q := by
  subst hp
  rw [am_wp_st hM hd rfl rfl]
  exact k
theorem am_r_ishl {x y : Int32} (hM : am_ms[mi]? = some M) (hd : decode M.2.2.1 pc = .ok (.ishl, 1)) (hp : pc + 1 = pc') (k : am_wp pr d mi pc' lv (.int (x <<< (y &&& 31)) :: st) (S, I, J, P) Q) : am_wp pr d mi pc lv (.int y :: .int x :: st) (S, I, J, P) Q := by
  subst hp
  rw [am_wp_st hM hd rfl rfl]
  exact k
theorem am_r_ishr {x y : Int32} (hM : am_ms[mi]? = some M) (hd : decode M.2.2.1 pc = .ok (.ishr, 1)) (hp : pc + 1 = pc') (k : am_wp pr d mi pc' lv (.int (x >>> (y &&& 31)) :: st) (S, I, J, P) Q) : am_wp pr d mi pc lv (.int y :: .int x :: st) (S, I, J, P) Q := by
  subst hp
  rw [am_wp_st hM hd rfl rfl]
  exact k
theorem am_r_iushr {x y : Int32} (hM : am_ms[mi]? = some M) (hd : decode M.2.2.1 pc = .ok (.iushr, 1)) (hp : pc + 1 = pc') (k : am_wp pr d mi pc' lv (.int ((x.toUInt32 >>> (y.toUInt32 &&& Int32.toUInt32 31)).toInt32) :: st) (S, I, J, P) Q) : am_wp pr d mi pc lv (.int y :: .int x :: st) (S, I, J, P) Q := by
  subst hp
  rw [am_wp_st hM hd rfl rfl]
  exact k
theorem am_r_ladd {x y : Int64} (hM : am_ms[mi]? = some M) (hd : decode M.2.2.1 pc = .ok (.ladd, 1)) (hp : pc + 1 = pc') (k : am_wp pr d mi pc' lv (.long (x + y) :: st) (S, I, J, P) Q) : am_wp pr d mi pc lv (.long y :: .long x :: st) (S, I, J, P) Q := by
  subst hp
  rw [am_wp_st hM hd rfl rfl]
  exact k
theorem am_r_lsub {x y : Int64} (hM : am_ms[mi]? = some M) (hd : decode M.2.2.1 pc = .ok (.lsub, 1)) (hp : pc + 1 = pc') (k : am_wp pr d mi pc' lv (.long (x - y) :: st) (S, I, J, P) Q) : am_wp pr d mi pc lv (.long y :: .long x :: st) (S, I, J, P) Q := by
  subst hp
  rw [am_wp_st hM hd rfl rfl]
  exact k
theorem am_r_lmul {x y : Int64} (hM : am_ms[mi]? = some M) (hd : decode M.2.2.1 pc = .ok (.lmul, 1)) (hp : pc + 1 = pc') (k : am_wp pr d mi pc' lv (.long (x * y) :: st) (S, I, J, P) Q) : am_wp pr d mi pc lv (.long y :: .long x :: st) (S, I, J, P) Q := by
  subst hp
  rw [am_wp_st hM hd rfl rfl]
  exact k
theorem am_r_lcmp {x y : Int64} (hM : am_ms[mi]? = some M) (hd : decode M.2.2.1 pc = .ok (.lcmp, 1)) (hp : pc + 1 = pc') (k : am_wp pr d mi pc' lv (.int (lg_cmp x y) :: st) (S, I, J, P) Q) : am_wp pr d mi pc lv (.long y :: .long x :: st) (S, I, J, P) Q := by
  subst hp
  rw [am_wp_st hM hd rfl rfl]
  exact k
theorem am_r_idiv {x y : Int32} (hM : am_ms[mi]? = some M) (hd : decode M.2.2.1 pc = .ok (.idiv, 1)) (hp : pc + 1 = pc') (hne : ¬ y = 0) (k : am_wp pr d mi pc' lv (.int (x / y) :: st) (S, I, J, P) Q) : am_wp pr d mi pc lv (.int y :: .int x :: st) (S, I, J, P) Q := by
  subst hp
  rw [am_wp_st hM hd rfl rfl]
  dsimp only [am_st1]
  rw [if_pos rfl, if_neg hne]
  exact k
theorem am_r_irem {x y : Int32} (hM : am_ms[mi]? = some M) (hd : decode M.2.2.1 pc = .ok (.irem, 1)) (hp : pc + 1 = pc') (hne : ¬ y = 0) (k : am_wp pr d mi pc' lv (.int (x - x / y * y) :: st) (S, I, J, P) Q) : am_wp pr d mi pc lv (.int y :: .int x :: st) (S, I, J, P) Q := by
  subst hp
  rw [am_wp_st hM hd rfl rfl]
  dsimp only [am_st1]
  rw [if_pos rfl, if_neg hne]
  exact k
theorem am_r_ldiv {x y : Int64} (hM : am_ms[mi]? = some M) (hd : decode M.2.2.1 pc = .ok (.ldiv, 1)) (hp : pc + 1 = pc') (hne : ¬ y = 0) (k : am_wp pr d mi pc' lv (.long (x / y) :: st) (S, I, J, P) Q) : am_wp pr d mi pc lv (.long y :: .long x :: st) (S, I, J, P) Q := by
  subst hp
  rw [am_wp_st hM hd rfl rfl]
  dsimp only [am_st1]
  rw [if_pos rfl, if_neg hne]
  exact k
theorem am_r_lrem {x y : Int64} (hM : am_ms[mi]? = some M) (hd : decode M.2.2.1 pc = .ok (.lrem, 1)) (hp : pc + 1 = pc') (hne : ¬ y = 0) (k : am_wp pr d mi pc' lv (.long (x - x / y * y) :: st) (S, I, J, P) Q) : am_wp pr d mi pc lv (.long y :: .long x :: st) (S, I, J, P) Q := by
  subst hp
  rw [am_wp_st hM hd rfl rfl]
  dsimp only [am_st1]
  rw [if_pos rfl, if_neg hne]
  exact k
theorem am_r_ineg {x : Int32} (hM : am_ms[mi]? = some M) (hd : decode M.2.2.1 pc = .ok (.ineg, 1)) (hp : pc + 1 = pc') (k : am_wp pr d mi pc' lv (.int (-x) :: st) (S, I, J, P) Q) : am_wp pr d mi pc lv (.int x :: st) (S, I, J, P) Q := by
  subst hp
  rw [am_wp_st hM hd rfl rfl]
  exact k
theorem am_r_i2l {x : Int32} (hM : am_ms[mi]? = some M) (hd : decode M.2.2.1 pc = .ok (.i2l, 1)) (hp : pc + 1 = pc') (k : am_wp pr d mi pc' lv (.long x.toInt64 :: st) (S, I, J, P) Q) : am_wp pr d mi pc lv (.int x :: st) (S, I, J, P) Q := by
  subst hp
  rw [am_wp_st hM hd rfl rfl]
  exact k
theorem am_r_l2i {x : Int64} (hM : am_ms[mi]? = some M) (hd : decode M.2.2.1 pc = .ok (.l2i, 1)) (hp : pc + 1 = pc') (k : am_wp pr d mi pc' lv (.int x.toInt32 :: st) (S, I, J, P) Q) : am_wp pr d mi pc lv (.long x :: st) (S, I, J, P) Q := by
  subst hp
  rw [am_wp_st hM hd rfl rfl]
  exact k
theorem am_r_i2b {x : Int32} (hM : am_ms[mi]? = some M) (hd : decode M.2.2.1 pc = .ok (.i2b, 1)) (hp : pc + 1 = pc') (k : am_wp pr d mi pc' lv (.int x.toInt8.toInt32 :: st) (S, I, J, P) Q) : am_wp pr d mi pc lv (.int x :: st) (S, I, J, P) Q := by
  subst hp
  rw [am_wp_st hM hd rfl rfl]
  exact k
theorem am_r_i2c {x : Int32} (hM : am_ms[mi]? = some M) (hd : decode M.2.2.1 pc = .ok (.i2c, 1)) (hp : pc + 1 = pc') (k : am_wp pr d mi pc' lv (.int (x.toUInt32 % 65536).toInt32 :: st) (S, I, J, P) Q) : am_wp pr d mi pc lv (.int x :: st) (S, I, J, P) Q := by
  subst hp
  rw [am_wp_st hM hd rfl rfl]
  exact k
theorem am_r_dup {v : Value} (hM : am_ms[mi]? = some M) (hd : decode M.2.2.1 pc = .ok (.dup, 1)) (hp : pc + 1 = pc') (hc : v.category = 1) (k : am_wp pr d mi pc' lv (v :: v :: st) (S, I, J, P) Q) : am_wp pr d mi pc lv (v :: st) (S, I, J, P) Q := by
  subst hp
  rw [am_wp_st hM hd rfl rfl]
  dsimp only [am_st1]
  rw [if_pos rfl, if_pos hc]
  exact k
theorem am_r_pop {v : Value} (hM : am_ms[mi]? = some M) (hd : decode M.2.2.1 pc = .ok (.pop, 1)) (hp : pc + 1 = pc') (hc : v.category = 1) (k : am_wp pr d mi pc' lv (st) (S, I, J, P) Q) : am_wp pr d mi pc lv (v :: st) (S, I, J, P) Q := by
  subst hp
  rw [am_wp_st hM hd rfl rfl]
  dsimp only [am_st1]
  rw [if_pos rfl, if_pos hc]
  exact k
theorem am_r_dup2 {v w : Value} (hM : am_ms[mi]? = some M) (hd : decode M.2.2.1 pc = .ok (.dup2, 1)) (hp : pc + 1 = pc') (hc : v.category = 1 ∧ w.category = 1) (k : am_wp pr d mi pc' lv (v :: w :: v :: w :: st) (S, I, J, P) Q) : am_wp pr d mi pc lv (v :: w :: st) (S, I, J, P) Q := by
  subst hp
  rw [am_wp_st hM hd rfl rfl]
  dsimp only [am_st1]
  rw [if_pos rfl, if_pos hc]
  exact k
theorem am_r_goto {off : Int} (hM : am_ms[mi]? = some M) (hd : decode M.2.2.1 pc = .ok (.goto off, 3)) (ht : am_tgt pc off = some pc') (k : am_wp pr d mi pc' lv st (S, I, J, P) Q) : am_wp pr d mi pc lv st (S, I, J, P) Q := by
  rw [am_wp_st hM hd rfl rfl]
  dsimp only [am_st1]
  rw [if_pos rfl, ht]
  exact k
theorem am_r_if_eq {off : Int} {x : Int32} {t : Nat} (hM : am_ms[mi]? = some M) (hd : decode M.2.2.1 pc = .ok (.ifCond .eq off, 3)) (hp : pc + 3 = pc') (ht : am_tgt pc off = some t) (kt : x = 0 → am_wp pr d mi t lv st (S, I, J, P) Q) (kf : ¬ (x = 0) → am_wp pr d mi pc' lv st (S, I, J, P) Q) : am_wp pr d mi pc lv (.int x :: st) (S, I, J, P) Q := by
  subst hp
  rw [am_wp_st hM hd rfl rfl]
  dsimp only [am_st1, am_br]
  rw [if_pos rfl, ht]
  (try dsimp only)
  by_cases h : x = 0
  · rw [if_pos (decide_eq_true h)]
    exact kt h
  · rw [if_neg (fun z => h (of_decide_eq_true z))]
    exact kf h
theorem am_r_icmp_eq {off : Int} {x y : Int32} {t : Nat} (hM : am_ms[mi]? = some M) (hd : decode M.2.2.1 pc = .ok (.if_icmp .eq off, 3)) (hp : pc + 3 = pc') (ht : am_tgt pc off = some t) (kt : x = y → am_wp pr d mi t lv st (S, I, J, P) Q) (kf : ¬ (x = y) → am_wp pr d mi pc' lv st (S, I, J, P) Q) : am_wp pr d mi pc lv (.int y :: .int x :: st) (S, I, J, P) Q := by
  subst hp
  rw [am_wp_st hM hd rfl rfl]
  dsimp only [am_st1, am_br]
  rw [if_pos rfl, ht]
  (try dsimp only)
  by_cases h : x = y
  · rw [if_pos (decide_eq_true h)]
    exact kt h
  · rw [if_neg (fun z => h (of_decide_eq_true z))]
    exact kf h
theorem am_r_if_ne {off : Int} {x : Int32} {t : Nat} (hM : am_ms[mi]? = some M) (hd : decode M.2.2.1 pc = .ok (.ifCond .ne off, 3)) (hp : pc + 3 = pc') (ht : am_tgt pc off = some t) (kt : ¬ x = 0 → am_wp pr d mi t lv st (S, I, J, P) Q) (kf : ¬ (¬ x = 0) → am_wp pr d mi pc' lv st (S, I, J, P) Q) : am_wp pr d mi pc lv (.int x :: st) (S, I, J, P) Q := by
  subst hp
  rw [am_wp_st hM hd rfl rfl]
  dsimp only [am_st1, am_br]
  rw [if_pos rfl, ht]
  (try dsimp only)
  by_cases h : ¬ x = 0
  · rw [if_pos (decide_eq_true h)]
    exact kt h
  · rw [if_neg (fun z => h (of_decide_eq_true z))]
    exact kf h
theorem am_r_icmp_ne {off : Int} {x y : Int32} {t : Nat} (hM : am_ms[mi]? = some M) (hd : decode M.2.2.1 pc = .ok (.if_icmp .ne off, 3)) (hp : pc + 3 = pc') (ht : am_tgt pc off = some t) (kt : ¬ x = y → am_wp pr d mi t lv st (S, I, J, P) Q) (kf : ¬ (¬ x = y) → am_wp pr d mi pc' lv st (S, I, J, P) Q) : am_wp pr d mi pc lv (.int y :: .int x :: st) (S, I, J, P) Q := by
  subst hp
  rw [am_wp_st hM hd rfl rfl]
  dsimp only [am_st1, am_br]
  rw [if_pos rfl, ht]
  (try dsimp only)
  by_cases h : ¬ x = y
  · rw [if_pos (decide_eq_true h)]
    exact kt h
  · rw [if_neg (fun z => h (of_decide_eq_true z))]
    exact kf h
theorem am_r_if_lt {off : Int} {x : Int32} {t : Nat} (hM : am_ms[mi]? = some M) (hd : decode M.2.2.1 pc = .ok (.ifCond .lt off, 3)) (hp : pc + 3 = pc') (ht : am_tgt pc off = some t) (kt : x < 0 → am_wp pr d mi t lv st (S, I, J, P) Q) (kf : ¬ (x < 0) → am_wp pr d mi pc' lv st (S, I, J, P) Q) : am_wp pr d mi pc lv (.int x :: st) (S, I, J, P) Q := by
  subst hp
  rw [am_wp_st hM hd rfl rfl]
  dsimp only [am_st1, am_br]
  rw [if_pos rfl, ht]
  (try dsimp only)
  by_cases h : x < 0
  · rw [if_pos (decide_eq_true h)]
    exact kt h
  · rw [if_neg (fun z => h (of_decide_eq_true z))]
    exact kf h
theorem am_r_icmp_lt {off : Int} {x y : Int32} {t : Nat} (hM : am_ms[mi]? = some M) (hd : decode M.2.2.1 pc = .ok (.if_icmp .lt off, 3)) (hp : pc + 3 = pc') (ht : am_tgt pc off = some t) (kt : x < y → am_wp pr d mi t lv st (S, I, J, P) Q) (kf : ¬ (x < y) → am_wp pr d mi pc' lv st (S, I, J, P) Q) : am_wp pr d mi pc lv (.int y :: .int x :: st) (S, I, J, P) Q := by
  subst hp
  rw [am_wp_st hM hd rfl rfl]
  dsimp only [am_st1, am_br]
  rw [if_pos rfl, ht]
  (try dsimp only)
  by_cases h : x < y
  · rw [if_pos (decide_eq_true h)]
    exact kt h
  · rw [if_neg (fun z => h (of_decide_eq_true z))]
    exact kf h
theorem am_r_if_ge {off : Int} {x : Int32} {t : Nat} (hM : am_ms[mi]? = some M) (hd : decode M.2.2.1 pc = .ok (.ifCond .ge off, 3)) (hp : pc + 3 = pc') (ht : am_tgt pc off = some t) (kt : 0 ≤ x → am_wp pr d mi t lv st (S, I, J, P) Q) (kf : ¬ (0 ≤ x) → am_wp pr d mi pc' lv st (S, I, J, P) Q) : am_wp pr d mi pc lv (.int x :: st) (S, I, J, P) Q := by
  subst hp
  rw [am_wp_st hM hd rfl rfl]
  dsimp only [am_st1, am_br]
  rw [if_pos rfl, ht]
  (try dsimp only)
  by_cases h : 0 ≤ x
  · rw [if_pos (decide_eq_true h)]
    exact kt h
  · rw [if_neg (fun z => h (of_decide_eq_true z))]
    exact kf h
theorem am_r_icmp_ge {off : Int} {x y : Int32} {t : Nat} (hM : am_ms[mi]? = some M) (hd : decode M.2.2.1 pc = .ok (.if_icmp .ge off, 3)) (hp : pc + 3 = pc') (ht : am_tgt pc off = some t) (kt : y ≤ x → am_wp pr d mi t lv st (S, I, J, P) Q) (kf : ¬ (y ≤ x) → am_wp pr d mi pc' lv st (S, I, J, P) Q) : am_wp pr d mi pc lv (.int y :: .int x :: st) (S, I, J, P) Q := by
  subst hp
  rw [am_wp_st hM hd rfl rfl]
  dsimp only [am_st1, am_br]
  rw [if_pos rfl, ht]
  (try dsimp only)
  by_cases h : y ≤ x
  · rw [if_pos (decide_eq_true h)]
    exact kt h
  · rw [if_neg (fun z => h (of_decide_eq_true z))]
    exact kf h
theorem am_r_if_gt {off : Int} {x : Int32} {t : Nat} (hM : am_ms[mi]? = some M) (hd : decode M.2.2.1 pc = .ok (.ifCond .gt off, 3)) (hp : pc + 3 = pc') (ht : am_tgt pc off = some t) (kt : 0 < x → am_wp pr d mi t lv st (S, I, J, P) Q) (kf : ¬ (0 < x) → am_wp pr d mi pc' lv st (S, I, J, P) Q) : am_wp pr d mi pc lv (.int x :: st) (S, I, J, P) Q := by
  subst hp
  rw [am_wp_st hM hd rfl rfl]
  dsimp only [am_st1, am_br]
  rw [if_pos rfl, ht]
  (try dsimp only)
  by_cases h : 0 < x
  · rw [if_pos (decide_eq_true h)]
    exact kt h
  · rw [if_neg (fun z => h (of_decide_eq_true z))]
    exact kf h
theorem am_r_icmp_gt {off : Int} {x y : Int32} {t : Nat} (hM : am_ms[mi]? = some M) (hd : decode M.2.2.1 pc = .ok (.if_icmp .gt off, 3)) (hp : pc + 3 = pc') (ht : am_tgt pc off = some t) (kt : y < x → am_wp pr d mi t lv st (S, I, J, P) Q) (kf : ¬ (y < x) → am_wp pr d mi pc' lv st (S, I, J, P) Q) : am_wp pr d mi pc lv (.int y :: .int x :: st) (S, I, J, P) Q := by
  subst hp
  rw [am_wp_st hM hd rfl rfl]
  dsimp only [am_st1, am_br]
  rw [if_pos rfl, ht]
  (try dsimp only)
  by_cases h : y < x
  · rw [if_pos (decide_eq_true h)]
    exact kt h
  · rw [if_neg (fun z => h (of_decide_eq_true z))]
    exact kf h
theorem am_r_if_le {off : Int} {x : Int32} {t : Nat} (hM : am_ms[mi]? = some M) (hd : decode M.2.2.1 pc = .ok (.ifCond .le off, 3)) (hp : pc + 3 = pc') (ht : am_tgt pc off = some t) (kt : x ≤ 0 → am_wp pr d mi t lv st (S, I, J, P) Q) (kf : ¬ (x ≤ 0) → am_wp pr d mi pc' lv st (S, I, J, P) Q) : am_wp pr d mi pc lv (.int x :: st) (S, I, J, P) Q := by
  subst hp
  rw [am_wp_st hM hd rfl rfl]
  dsimp only [am_st1, am_br]
  rw [if_pos rfl, ht]
  (try dsimp only)
  by_cases h : x ≤ 0
  · rw [if_pos (decide_eq_true h)]
    exact kt h
  · rw [if_neg (fun z => h (of_decide_eq_true z))]
    exact kf h
theorem am_r_icmp_le {off : Int} {x y : Int32} {t : Nat} (hM : am_ms[mi]? = some M) (hd : decode M.2.2.1 pc = .ok (.if_icmp .le off, 3)) (hp : pc + 3 = pc') (ht : am_tgt pc off = some t) (kt : x ≤ y → am_wp pr d mi t lv st (S, I, J, P) Q) (kf : ¬ (x ≤ y) → am_wp pr d mi pc' lv st (S, I, J, P) Q) : am_wp pr d mi pc lv (.int y :: .int x :: st) (S, I, J, P) Q := by
  subst hp
  rw [am_wp_st hM hd rfl rfl]
  dsimp only [am_st1, am_br]
  rw [if_pos rfl, ht]
  (try dsimp only)
  by_cases h : x ≤ y
  · rw [if_pos (decide_eq_true h)]
    exact kt h
  · rw [if_neg (fun z => h (of_decide_eq_true z))]
    exact kf h
theorem am_r_ifnull_r {off : Int} {x : Nat} {t : Nat} (hM : am_ms[mi]? = some M) (hd : decode M.2.2.1 pc = .ok (.ifnull off, 3)) (hp : pc + 3 = pc') (ht : am_tgt pc off = some t) (k : am_wp pr d mi pc' lv st (S, I, J, P) Q) : am_wp pr d mi pc lv (.ref x :: st) (S, I, J, P) Q := by
  subst hp
  rw [am_wp_st hM hd rfl rfl]
  dsimp only [am_st1, am_br]
  rw [if_pos rfl, ht]
  exact k
theorem am_r_ifnull_n {off : Int} {t : Nat} (hM : am_ms[mi]? = some M) (hd : decode M.2.2.1 pc = .ok (.ifnull off, 3)) (hp : pc + 3 = pc') (ht : am_tgt pc off = some t) (k : am_wp pr d mi t lv st (S, I, J, P) Q) : am_wp pr d mi pc lv (.null :: st) (S, I, J, P) Q := by
  subst hp
  rw [am_wp_st hM hd rfl rfl]
  dsimp only [am_st1, am_br]
  rw [if_pos rfl, ht]
  exact k
theorem am_r_ifnonnull_r {off : Int} {x : Nat} {t : Nat} (hM : am_ms[mi]? = some M) (hd : decode M.2.2.1 pc = .ok (.ifnonnull off, 3)) (hp : pc + 3 = pc') (ht : am_tgt pc off = some t) (k : am_wp pr d mi t lv st (S, I, J, P) Q) : am_wp pr d mi pc lv (.ref x :: st) (S, I, J, P) Q := by
  subst hp
  rw [am_wp_st hM hd rfl rfl]
  dsimp only [am_st1, am_br]
  rw [if_pos rfl, ht]
  exact k
theorem am_r_ifnonnull_n {off : Int} {t : Nat} (hM : am_ms[mi]? = some M) (hd : decode M.2.2.1 pc = .ok (.ifnonnull off, 3)) (hp : pc + 3 = pc') (ht : am_tgt pc off = some t) (k : am_wp pr d mi pc' lv st (S, I, J, P) Q) : am_wp pr d mi pc lv (.null :: st) (S, I, J, P) Q := by
  subst hp
  rw [am_wp_st hM hd rfl rfl]
  dsimp only [am_st1, am_br]
  rw [if_pos rfl, ht]
  exact k
theorem am_r_tableIn {dflt lo hi off : Int} {offs : Array Int} {len : Nat} {x : Int32} (hM : am_ms[mi]? = some M) (hd : decode M.2.2.1 pc = .ok (.tableswitch dflt lo hi offs, len)) (h1 : ¬ x.toInt < lo) (h2 : ¬ hi < x.toInt) (ho : offs[(x.toInt - lo).toNat]? = some off) (ht : am_tgt pc off = some pc') (k : am_wp pr d mi pc' lv st (S, I, J, P) Q) : am_wp pr d mi pc lv (.int x :: st) (S, I, J, P) Q := by
  rw [am_wp_st hM hd rfl rfl]
  dsimp only [am_st1]
  rw [if_neg (fun z => z.elim h1 h2), ho, Option.bind_some, ht]
  exact k
theorem am_r_tableOut {dflt lo hi : Int} {offs : Array Int} {len : Nat} {x : Int32} (hM : am_ms[mi]? = some M) (hd : decode M.2.2.1 pc = .ok (.tableswitch dflt lo hi offs, len)) (h : x.toInt < lo ∨ hi < x.toInt) (ht : am_tgt pc dflt = some pc') (k : am_wp pr d mi pc' lv st (S, I, J, P) Q) : am_wp pr d mi pc lv (.int x :: st) (S, I, J, P) Q := by
  rw [am_wp_st hM hd rfl rfl]
  dsimp only [am_st1]
  rw [if_pos h, ht]
  exact k
theorem am_r_ldcI {k0 : Nat} {q : Int32 × Nat} (hM : am_ms[mi]? = some M) (hd : decode M.2.2.1 pc = .ok (.ldc k0, 2)) (hp : pc + 2 = pc') (hq : am_il.lookup (am_key M.1 k0) = some q) (k : am_wp pr d mi pc' lv (.int q.1 :: st) (S, I, J, P) Q) : am_wp pr d mi pc lv (st) (S, I, J, P) Q := by
  subst hp
  rw [am_wp_st hM hd rfl rfl]
  dsimp only [am_st1]
  rw [if_pos rfl, hq]
  exact k
theorem am_r_ldcS {k0 i : Nat} (hM : am_ms[mi]? = some M) (hd : decode M.2.2.1 pc = .ok (.ldc k0, 2)) (hp : pc + 2 = pc') (hq : am_il.lookup (am_key M.1 k0) = none) (hr : am_tl.lookup (am_key M.1 k0) = some i) (k : am_wp pr d mi pc' lv (.ref (4 + i) :: st) (S, I, J, P) Q) : am_wp pr d mi pc lv (st) (S, I, J, P) Q := by
  subst hp
  rw [am_wp_st hM hd rfl rfl]
  dsimp only [am_st1]
  rw [if_pos rfl, hq]
  (try dsimp only)
  rw [hr]
  exact k
theorem am_r_ldc_w {k0 : Nat} {q : Int32 × Nat} (hM : am_ms[mi]? = some M) (hd : decode M.2.2.1 pc = .ok (.ldc_w k0, 3)) (hp : pc + 3 = pc') (hq : am_il.lookup (am_key M.1 k0) = some q) (k : am_wp pr d mi pc' lv (.int q.1 :: st) (S, I, J, P) Q) : am_wp pr d mi pc lv (st) (S, I, J, P) Q := by
  subst hp
  rw [am_wp_st hM hd rfl rfl]
  dsimp only [am_st1]
  rw [if_pos rfl, hq]
  exact k
theorem am_r_ldc2_w {k0 : Nat} {q : Int64 × Nat} (hM : am_ms[mi]? = some M) (hd : decode M.2.2.1 pc = .ok (.ldc2_w k0, 3)) (hp : pc + 3 = pc') (hq : am_jl.lookup (am_key M.1 k0) = some q) (k : am_wp pr d mi pc' lv (.long q.1 :: st) (S, I, J, P) Q) : am_wp pr d mi pc lv (st) (S, I, J, P) Q := by
  subst hp
  rw [am_wp_st hM hd rfl rfl]
  dsimp only [am_st1]
  rw [if_pos rfl, hq]
  exact k
theorem am_r_getstatic {k0 key : Nat} {v : Value} (hM : am_ms[mi]? = some M) (hd : decode M.2.2.1 pc = .ok (.getstatic k0, 3)) (hp : pc + 3 = pc') (hq : am_key M.1 k0 = key) (hv : (key = 21 ∨ key = 80158) ∧ v = .ref 1 ∨ key = 80392 ∧ v = .ref 2 ∨ key = 130038 ∧ v = .int 1 ∨ key = 131053 ∧ v = if pr.2.2 then .null else .ref 3) (k : am_wp pr d mi pc' lv (v :: st) (S, I, J, P) Q) : am_wp pr d mi pc lv (st) (S, I, J, P) Q := by
  subst hp
  rw [am_wp_st hM hd rfl rfl]
  dsimp only [am_st1]
  rw [if_pos rfl, hq]
  rcases hv with ⟨rfl | rfl, rfl⟩ | ⟨rfl, rfl⟩ | ⟨rfl, rfl⟩ | ⟨rfl, rfl⟩ <;> exact k
theorem am_r_getI {k0 a : Nat} {q : Nat × Nat × Nat} (hM : am_ms[mi]? = some M) (hd : decode M.2.2.1 pc = .ok (.getfield k0, 3)) (hp : pc + 3 = pc') (hq : am_fl.lookup (am_key M.1 k0) = some q) (hk : am_kd (am_ty q.1 q.2.1) = 0) (hs : am_sh S a (q.1, am_nf q.1)) (k : am_wp pr d mi pc' lv (.int (I a q.2.1) :: st) (S, I, J, P) Q) : am_wp pr d mi pc lv (.ref a :: st) (S, I, J, P) Q := by
  subst hp
  rw [am_wp_st hM hd rfl rfl]
  dsimp only [am_st1]
  rw [if_pos rfl, hq]
  (try dsimp only)
  rw [if_pos ⟨hs.1, hs.2⟩]
  (try dsimp only)
  rw [hk]
  exact k
theorem am_r_getZ {k0 a : Nat} {q : Nat × Nat × Nat} (hM : am_ms[mi]? = some M) (hd : decode M.2.2.1 pc = .ok (.getfield k0, 3)) (hp : pc + 3 = pc') (hq : am_fl.lookup (am_key M.1 k0) = some q) (hk : am_kd (am_ty q.1 q.2.1) = 3) (hs : am_sh S a (q.1, am_nf q.1)) (k : am_wp pr d mi pc' lv (.int (I a q.2.1) :: st) (S, I, J, P) Q) : am_wp pr d mi pc lv (.ref a :: st) (S, I, J, P) Q := by
  subst hp
  rw [am_wp_st hM hd rfl rfl]
  dsimp only [am_st1]
  rw [if_pos rfl, hq]
  (try dsimp only)
  rw [if_pos ⟨hs.1, hs.2⟩]
  (try dsimp only)
  rw [hk]
  exact k
theorem am_r_getJ {k0 a : Nat} {q : Nat × Nat × Nat} (hM : am_ms[mi]? = some M) (hd : decode M.2.2.1 pc = .ok (.getfield k0, 3)) (hp : pc + 3 = pc') (hq : am_fl.lookup (am_key M.1 k0) = some q) (hk : am_kd (am_ty q.1 q.2.1) = 1) (hs : am_sh S a (q.1, am_nf q.1)) (k : am_wp pr d mi pc' lv (.long (J a q.2.1) :: st) (S, I, J, P) Q) : am_wp pr d mi pc lv (.ref a :: st) (S, I, J, P) Q := by
  subst hp
  rw [am_wp_st hM hd rfl rfl]
  dsimp only [am_st1]
  rw [if_pos rfl, hq]
  (try dsimp only)
  rw [if_pos ⟨hs.1, hs.2⟩]
  (try dsimp only)
  rw [hk]
  exact k
theorem am_r_getQ {k0 a : Nat} {q : Nat × Nat × Nat} (hM : am_ms[mi]? = some M) (hd : decode M.2.2.1 pc = .ok (.getfield k0, 3)) (hp : pc + 3 = pc') (hq : am_fl.lookup (am_key M.1 k0) = some q) (hk : am_kd (am_ty q.1 q.2.1) = 2) (hs : am_sh S a (q.1, am_nf q.1)) (k : am_wp pr d mi pc' lv (va_rf (P a q.2.1) :: st) (S, I, J, P) Q) : am_wp pr d mi pc lv (.ref a :: st) (S, I, J, P) Q := by
  subst hp
  rw [am_wp_st hM hd rfl rfl]
  dsimp only [am_st1]
  rw [if_pos rfl, hq]
  (try dsimp only)
  rw [if_pos ⟨hs.1, hs.2⟩]
  (try dsimp only)
  rw [hk]
  exact k
theorem am_r_getR {k0 a : Nat} {q : Nat × Nat × Nat} {b : Nat} (hM : am_ms[mi]? = some M) (hd : decode M.2.2.1 pc = .ok (.getfield k0, 3)) (hp : pc + 3 = pc') (hq : am_fl.lookup (am_key M.1 k0) = some q) (hk : am_kd (am_ty q.1 q.2.1) = 2) (hs : am_sh S a (q.1, am_nf q.1)) (hb : P a q.2.1 = some b) (k : am_wp pr d mi pc' lv (.ref b :: st) (S, I, J, P) Q) : am_wp pr d mi pc lv (.ref a :: st) (S, I, J, P) Q := by
  subst hp
  rw [am_wp_st hM hd rfl rfl]
  dsimp only [am_st1]
  rw [if_pos rfl, hq]
  (try dsimp only)
  rw [if_pos ⟨hs.1, hs.2⟩]
  (try dsimp only)
  rw [hk]
  simp only [am_fv, hb]
  exact k
theorem am_r_strV {k0 a : Nat} (hM : am_ms[mi]? = some M) (hd : decode M.2.2.1 pc = .ok (.getfield k0, 3)) (hp : pc + 3 = pc') (hk : am_key M.1 k0 = 130009) (ha : 4 ≤ a ∧ a < 32) (k : am_wp pr d mi pc' lv (.ref (a + 32) :: st) (S, I, J, P) Q) : am_wp pr d mi pc lv (.ref a :: st) (S, I, J, P) Q := by
  subst hp
  rw [am_wp_st hM hd rfl rfl]
  dsimp only [am_st1]
  rw [if_pos rfl, hk, show am_fl.lookup 130009 = none by decide +kernel]
  (try dsimp only)
  rw [if_pos ha]
  exact k
theorem am_r_strC {k0 a : Nat} (hM : am_ms[mi]? = some M) (hd : decode M.2.2.1 pc = .ok (.getfield k0, 3)) (hp : pc + 3 = pc') (hk : am_key M.1 k0 = 130015) (ha : 4 ≤ a ∧ a < 32) (k : am_wp pr d mi pc' lv (.int 0 :: st) (S, I, J, P) Q) : am_wp pr d mi pc lv (.ref a :: st) (S, I, J, P) Q := by
  subst hp
  rw [am_wp_st hM hd rfl rfl]
  dsimp only [am_st1]
  rw [if_pos rfl, hk, show am_fl.lookup 130015 = none by decide +kernel]
  show (match (if 4 ≤ a ∧ a < 32 then some (pc + 3, lv, Value.int 0 :: st, (S, I, J, P)) else none : Option am_Cf) with | some c => am_wp pr d mi c.1 c.2.1 c.2.2.1 c.2.2.2 Q | none => False)
  rw [if_pos ha]
  exact k
theorem am_r_putI {k0 a : Nat} {q : Nat × Nat × Nat} {x : Int32} (hM : am_ms[mi]? = some M) (hd : decode M.2.2.1 pc = .ok (.putfield k0, 3)) (hp : pc + 3 = pc') (hq : am_fl.lookup (am_key M.1 k0) = some q) (hk : am_kd (am_ty q.1 q.2.1) = 0) (hs : am_sh S a (q.1, am_nf q.1)) (hf : (am_T q.1 q.2.1).2.2.2 = true → decide (M.2.1.name = "<init>") = true ∧ q.1 = M.1) (k : am_wp pr d mi pc' lv (st) (S, am_u I a q.2.1 x, J, P) Q) : am_wp pr d mi pc lv (.int x :: .ref a :: st) (S, I, J, P) Q := by
  subst hp
  rw [am_wp_st hM hd rfl rfl]
  dsimp only [am_st1]
  rw [if_pos rfl, hq]
  (try dsimp only)
  rw [if_pos ⟨hs.1, hs.2, hf⟩]
  simp only [am_putf, hk]
  exact k
theorem am_r_putZ {k0 a : Nat} {q : Nat × Nat × Nat} {x : Int32} (hM : am_ms[mi]? = some M) (hd : decode M.2.2.1 pc = .ok (.putfield k0, 3)) (hp : pc + 3 = pc') (hq : am_fl.lookup (am_key M.1 k0) = some q) (hk : am_kd (am_ty q.1 q.2.1) = 3) (hs : am_sh S a (q.1, am_nf q.1)) (hf : (am_T q.1 q.2.1).2.2.2 = true → decide (M.2.1.name = "<init>") = true ∧ q.1 = M.1) (h01 : x = 0 ∨ x = 1) (k : am_wp pr d mi pc' lv (st) (S, am_u I a q.2.1 x, J, P) Q) : am_wp pr d mi pc lv (.int x :: .ref a :: st) (S, I, J, P) Q := by
  subst hp
  rw [am_wp_st hM hd rfl rfl]
  dsimp only [am_st1]
  rw [if_pos rfl, hq]
  (try dsimp only)
  rw [if_pos ⟨hs.1, hs.2, hf⟩]
  simp only [am_putf, hk, if_pos h01]
  exact k
theorem am_r_putJ {k0 a : Nat} {q : Nat × Nat × Nat} {x : Int64} (hM : am_ms[mi]? = some M) (hd : decode M.2.2.1 pc = .ok (.putfield k0, 3)) (hp : pc + 3 = pc') (hq : am_fl.lookup (am_key M.1 k0) = some q) (hk : am_kd (am_ty q.1 q.2.1) = 1) (hs : am_sh S a (q.1, am_nf q.1)) (hf : (am_T q.1 q.2.1).2.2.2 = true → decide (M.2.1.name = "<init>") = true ∧ q.1 = M.1) (k : am_wp pr d mi pc' lv (st) (S, I, am_u J a q.2.1 x, P) Q) : am_wp pr d mi pc lv (.long x :: .ref a :: st) (S, I, J, P) Q := by
  subst hp
  rw [am_wp_st hM hd rfl rfl]
  dsimp only [am_st1]
  rw [if_pos rfl, hq]
  (try dsimp only)
  rw [if_pos ⟨hs.1, hs.2, hf⟩]
  simp only [am_putf, hk]
  exact k
theorem am_r_putR {k0 a : Nat} {q : Nat × Nat × Nat} {b : Nat} (hM : am_ms[mi]? = some M) (hd : decode M.2.2.1 pc = .ok (.putfield k0, 3)) (hp : pc + 3 = pc') (hq : am_fl.lookup (am_key M.1 k0) = some q) (hk : am_kd (am_ty q.1 q.2.1) = 2) (hs : am_sh S a (q.1, am_nf q.1)) (hf : (am_T q.1 q.2.1).2.2.2 = true → decide (M.2.1.name = "<init>") = true ∧ q.1 = M.1) (k : am_wp pr d mi pc' lv (st) (S, I, J, am_u P a q.2.1 (some b)) Q) : am_wp pr d mi pc lv (.ref b :: .ref a :: st) (S, I, J, P) Q := by
  subst hp
  rw [am_wp_st hM hd rfl rfl]
  dsimp only [am_st1]
  rw [if_pos rfl, hq]
  (try dsimp only)
  rw [if_pos ⟨hs.1, hs.2, hf⟩]
  simp only [am_putf, hk]
  exact k
theorem am_r_iald {a n : Nat} {i : Int32} (hM : am_ms[mi]? = some M) (hd : decode M.2.2.1 pc = .ok (.iaload, 1)) (hp : pc + 1 = pc') (hs : am_sh S a (20, n)) (hi : am_in i n = true) (k : am_wp pr d mi pc' lv (.int (I a i.toNatClampNeg) :: st) (S, I, J, P) Q) : am_wp pr d mi pc lv (.int i :: .ref a :: st) (S, I, J, P) Q := by
  subst hp
  have e : am_st1 pr M.1 M.2.2.2.1 (decide (M.2.1.name = "<init>")) pc lv (.int i :: .ref a :: st) (S, I, J, P) (.iaload) 1 = some (pc + 1, lv, .int (I a i.toNatClampNeg) :: st, (S, I, J, P)) := by simp [am_st1, am_arr_hi hs.1, hs.1, hs.2, hi, Nat.not_lt.mpr hs.1]
  rw [am_wp_st hM hd rfl rfl, e]
  exact k
theorem am_r_zald {a n : Nat} {i : Int32} (hM : am_ms[mi]? = some M) (hd : decode M.2.2.1 pc = .ok (.baload, 1)) (hp : pc + 1 = pc') (hs : am_sh S a (21, n)) (hi : am_in i n = true) (k : am_wp pr d mi pc' lv (.int (I a i.toNatClampNeg) :: st) (S, I, J, P) Q) : am_wp pr d mi pc lv (.int i :: .ref a :: st) (S, I, J, P) Q := by
  subst hp
  have e : am_st1 pr M.1 M.2.2.2.1 (decide (M.2.1.name = "<init>")) pc lv (.int i :: .ref a :: st) (S, I, J, P) (.baload) 1 = some (pc + 1, lv, .int (I a i.toNatClampNeg) :: st, (S, I, J, P)) := by simp [am_st1, am_arr_hi hs.1, hs.1, hs.2, hi, Nat.not_lt.mpr hs.1]
  rw [am_wp_st hM hd rfl rfl, e]
  exact k
theorem am_r_bald {a n : Nat} {i : Int32} (hM : am_ms[mi]? = some M) (hd : decode M.2.2.1 pc = .ok (.baload, 1)) (hp : pc + 1 = pc') (hs : am_sh S a (22, n)) (hi : am_in i n = true) (k : am_wp pr d mi pc' lv (.int (I a i.toNatClampNeg) :: st) (S, I, J, P) Q) : am_wp pr d mi pc lv (.int i :: .ref a :: st) (S, I, J, P) Q := by
  subst hp
  have e : am_st1 pr M.1 M.2.2.2.1 (decide (M.2.1.name = "<init>")) pc lv (.int i :: .ref a :: st) (S, I, J, P) (.baload) 1 = some (pc + 1, lv, .int (I a i.toNatClampNeg) :: st, (S, I, J, P)) := by simp [am_st1, am_arr_hi hs.1, hs.1, hs.2, hi, Nat.not_lt.mpr hs.1]
  rw [am_wp_st hM hd rfl rfl, e]
  exact k
theorem am_r_lald {a n : Nat} {i : Int32} (hM : am_ms[mi]? = some M) (hd : decode M.2.2.1 pc = .ok (.laload, 1)) (hp : pc + 1 = pc') (hs : am_sh S a (23, n)) (hi : am_in i n = true) (k : am_wp pr d mi pc' lv (.long (J a i.toNatClampNeg) :: st) (S, I, J, P) Q) : am_wp pr d mi pc lv (.int i :: .ref a :: st) (S, I, J, P) Q := by
  subst hp
  have e : am_st1 pr M.1 M.2.2.2.1 (decide (M.2.1.name = "<init>")) pc lv (.int i :: .ref a :: st) (S, I, J, P) (.laload) 1 = some (pc + 1, lv, .long (J a i.toNatClampNeg) :: st, (S, I, J, P)) := by simp [am_st1, am_arr_hi hs.1, hs.1, hs.2, hi, Nat.not_lt.mpr hs.1]
  rw [am_wp_st hM hd rfl rfl, e]
  exact k
theorem am_r_hald {a n : Nat} {i : Int32} (hM : am_ms[mi]? = some M) (hd : decode M.2.2.1 pc = .ok (.aaload, 1)) (hp : pc + 1 = pc') (hs : am_sh S a (24, n)) (hi : am_in i n = true) (k : am_wp pr d mi pc' lv (va_rf (P a i.toNatClampNeg) :: st) (S, I, J, P) Q) : am_wp pr d mi pc lv (.int i :: .ref a :: st) (S, I, J, P) Q := by
  subst hp
  have e : am_st1 pr M.1 M.2.2.2.1 (decide (M.2.1.name = "<init>")) pc lv (.int i :: .ref a :: st) (S, I, J, P) (.aaload) 1 = some (pc + 1, lv, va_rf (P a i.toNatClampNeg) :: st, (S, I, J, P)) := by simp [am_st1, am_arr_hi hs.1, hs.1, hs.2, hi, Nat.not_lt.mpr hs.1]
  rw [am_wp_st hM hd rfl rfl, e]
  exact k
theorem am_r_tald {a n : Nat} {i : Int32} (hM : am_ms[mi]? = some M) (hd : decode M.2.2.1 pc = .ok (.aaload, 1)) (hp : pc + 1 = pc') (hs : am_sh S a (25, n)) (hi : am_in i n = true) (k : am_wp pr d mi pc' lv (va_rf (P a i.toNatClampNeg) :: st) (S, I, J, P) Q) : am_wp pr d mi pc lv (.int i :: .ref a :: st) (S, I, J, P) Q := by
  subst hp
  have e : am_st1 pr M.1 M.2.2.2.1 (decide (M.2.1.name = "<init>")) pc lv (.int i :: .ref a :: st) (S, I, J, P) (.aaload) 1 = some (pc + 1, lv, va_rf (P a i.toNatClampNeg) :: st, (S, I, J, P)) := by simp [am_st1, am_arr_hi hs.1, hs.1, hs.2, hi, Nat.not_lt.mpr hs.1]
  rw [am_wp_st hM hd rfl rfl, e]
  exact k
theorem am_r_siald {a n : Nat} {i : Int32} {f : Nat → Int32} (hM : am_ms[mi]? = some M) (hd : decode M.2.2.1 pc = .ok (.iaload, 1)) (hp : pc + 1 = pc') (ha : a < 64) (hs : am_sar pr a = some (20, n, f)) (hi : am_in i n = true) (k : am_wp pr d mi pc' lv (.int (f i.toNatClampNeg) :: st) (S, I, J, P) Q) : am_wp pr d mi pc lv (.int i :: .ref a :: st) (S, I, J, P) Q := by
  subst hp
  have e : am_st1 pr M.1 M.2.2.2.1 (decide (M.2.1.name = "<init>")) pc lv (.int i :: .ref a :: st) (S, I, J, P) (.iaload) 1 = some (pc + 1, lv, .int (f i.toNatClampNeg) :: st, (S, I, J, P)) := by simp [am_st1, am_arr, ha, hs, hi]
  rw [am_wp_st hM hd rfl rfl, e]
  exact k
theorem am_r_sbald {a n : Nat} {i : Int32} {f : Nat → Int32} (hM : am_ms[mi]? = some M) (hd : decode M.2.2.1 pc = .ok (.baload, 1)) (hp : pc + 1 = pc') (ha : a < 64) (hs : am_sar pr a = some (22, n, f)) (hi : am_in i n = true) (k : am_wp pr d mi pc' lv (.int (f i.toNatClampNeg) :: st) (S, I, J, P) Q) : am_wp pr d mi pc lv (.int i :: .ref a :: st) (S, I, J, P) Q := by
  subst hp
  have e : am_st1 pr M.1 M.2.2.2.1 (decide (M.2.1.name = "<init>")) pc lv (.int i :: .ref a :: st) (S, I, J, P) (.baload) 1 = some (pc + 1, lv, .int (f i.toNatClampNeg) :: st, (S, I, J, P)) := by simp [am_st1, am_arr, ha, hs, hi]
  rw [am_wp_st hM hd rfl rfl, e]
  exact k
theorem am_r_iast {a n : Nat} {i : Int32} {x : Int32} (hM : am_ms[mi]? = some M) (hd : decode M.2.2.1 pc = .ok (.iastore, 1)) (hp : pc + 1 = pc') (hs : am_sh S a (20, n)) (hi : am_in i n = true) (k : am_wp pr d mi pc' lv (st) (S, am_u I a i.toNatClampNeg x, J, P) Q) : am_wp pr d mi pc lv (.int x :: .int i :: .ref a :: st) (S, I, J, P) Q := by
  subst hp
  have e : am_st1 pr M.1 M.2.2.2.1 (decide (M.2.1.name = "<init>")) pc lv (.int x :: .int i :: .ref a :: st) (S, I, J, P) (.iastore) 1 = some (pc + 1, lv, st, (S, am_u I a i.toNatClampNeg x, J, P)) := by simp [am_st1, hs.1, hs.2, hi]
  rw [am_wp_st hM hd rfl rfl, e]
  exact k
theorem am_r_zast {a n : Nat} {i : Int32} {x : Int32} (hM : am_ms[mi]? = some M) (hd : decode M.2.2.1 pc = .ok (.bastore, 1)) (hp : pc + 1 = pc') (hs : am_sh S a (21, n)) (hi : am_in i n = true) (k : am_wp pr d mi pc' lv (st) (S, am_u I a i.toNatClampNeg (vp_nar .boolean x), J, P) Q) : am_wp pr d mi pc lv (.int x :: .int i :: .ref a :: st) (S, I, J, P) Q := by
  subst hp
  have e : am_st1 pr M.1 M.2.2.2.1 (decide (M.2.1.name = "<init>")) pc lv (.int x :: .int i :: .ref a :: st) (S, I, J, P) (.bastore) 1 = some (pc + 1, lv, st, (S, am_u I a i.toNatClampNeg (vp_nar .boolean x), J, P)) := by simp [am_st1, hs.1, hs.2, hi]
  rw [am_wp_st hM hd rfl rfl, e]
  exact k
theorem am_r_bast {a n : Nat} {i : Int32} {x : Int32} (hM : am_ms[mi]? = some M) (hd : decode M.2.2.1 pc = .ok (.bastore, 1)) (hp : pc + 1 = pc') (hs : am_sh S a (22, n)) (hi : am_in i n = true) (k : am_wp pr d mi pc' lv (st) (S, am_u I a i.toNatClampNeg (vp_nar .byte x), J, P) Q) : am_wp pr d mi pc lv (.int x :: .int i :: .ref a :: st) (S, I, J, P) Q := by
  subst hp
  have e : am_st1 pr M.1 M.2.2.2.1 (decide (M.2.1.name = "<init>")) pc lv (.int x :: .int i :: .ref a :: st) (S, I, J, P) (.bastore) 1 = some (pc + 1, lv, st, (S, am_u I a i.toNatClampNeg (vp_nar .byte x), J, P)) := by simp [am_st1, hs.1, hs.2, hi]
  rw [am_wp_st hM hd rfl rfl, e]
  exact k
theorem am_r_last {a n : Nat} {i : Int32} {x : Int64} (hM : am_ms[mi]? = some M) (hd : decode M.2.2.1 pc = .ok (.lastore, 1)) (hp : pc + 1 = pc') (hs : am_sh S a (23, n)) (hi : am_in i n = true) (k : am_wp pr d mi pc' lv (st) (S, I, am_u J a i.toNatClampNeg x, P) Q) : am_wp pr d mi pc lv (.long x :: .int i :: .ref a :: st) (S, I, J, P) Q := by
  subst hp
  have e : am_st1 pr M.1 M.2.2.2.1 (decide (M.2.1.name = "<init>")) pc lv (.long x :: .int i :: .ref a :: st) (S, I, J, P) (.lastore) 1 = some (pc + 1, lv, st, (S, I, am_u J a i.toNatClampNeg x, P)) := by simp [am_st1, hs.1, hs.2, hi]
  rw [am_wp_st hM hd rfl rfl, e]
  exact k
theorem am_r_hast {a b n : Nat} {i : Int32} (hM : am_ms[mi]? = some M) (hd : decode M.2.2.1 pc = .ok (.aastore, 1)) (hp : pc + 1 = pc') (hs : am_sh S a (24, n)) (hi : am_in i n = true) (hb : am_sh S b (0, am_nf 0)) (k : am_wp pr d mi pc' lv (st) (S, I, J, am_u P a i.toNatClampNeg (some b)) Q) : am_wp pr d mi pc lv (.ref b :: .int i :: .ref a :: st) (S, I, J, P) Q := by
  subst hp
  have e : am_st1 pr M.1 M.2.2.2.1 (decide (M.2.1.name = "<init>")) pc lv (.ref b :: .int i :: .ref a :: st) (S, I, J, P) (.aastore) 1 = some (pc + 1, lv, st, (S, I, J, am_u P a i.toNatClampNeg (some b))) := by simp [am_st1, hs.1, hs.2, hi, hb.1, hb.2]
  rw [am_wp_st hM hd rfl rfl, e]
  exact k
theorem am_r_hastN {a n : Nat} {i : Int32} (hM : am_ms[mi]? = some M) (hd : decode M.2.2.1 pc = .ok (.aastore, 1)) (hp : pc + 1 = pc') (hs : am_sh S a (24, n)) (hi : am_in i n = true) (k : am_wp pr d mi pc' lv (st) (S, I, J, am_u P a i.toNatClampNeg none) Q) : am_wp pr d mi pc lv (.null :: .int i :: .ref a :: st) (S, I, J, P) Q := by
  subst hp
  have e : am_st1 pr M.1 M.2.2.2.1 (decide (M.2.1.name = "<init>")) pc lv (.null :: .int i :: .ref a :: st) (S, I, J, P) (.aastore) 1 = some (pc + 1, lv, st, (S, I, J, am_u P a i.toNatClampNeg none)) := by simp [am_st1, hs.1, hs.2, hi]
  rw [am_wp_st hM hd rfl rfl, e]
  exact k
theorem am_r_tast {a b n : Nat} {i : Int32} (hM : am_ms[mi]? = some M) (hd : decode M.2.2.1 pc = .ok (.aastore, 1)) (hp : pc + 1 = pc') (hs : am_sh S a (25, n)) (hi : am_in i n = true) (hb : am_sh S b (6, am_nf 6)) (k : am_wp pr d mi pc' lv (st) (S, I, J, am_u P a i.toNatClampNeg (some b)) Q) : am_wp pr d mi pc lv (.ref b :: .int i :: .ref a :: st) (S, I, J, P) Q := by
  subst hp
  have e : am_st1 pr M.1 M.2.2.2.1 (decide (M.2.1.name = "<init>")) pc lv (.ref b :: .int i :: .ref a :: st) (S, I, J, P) (.aastore) 1 = some (pc + 1, lv, st, (S, I, J, am_u P a i.toNatClampNeg (some b))) := by simp [am_st1, hs.1, hs.2, hi, hb.1, hb.2]
  rw [am_wp_st hM hd rfl rfl, e]
  exact k
theorem am_r_tastN {a n : Nat} {i : Int32} (hM : am_ms[mi]? = some M) (hd : decode M.2.2.1 pc = .ok (.aastore, 1)) (hp : pc + 1 = pc') (hs : am_sh S a (25, n)) (hi : am_in i n = true) (k : am_wp pr d mi pc' lv (st) (S, I, J, am_u P a i.toNatClampNeg none) Q) : am_wp pr d mi pc lv (.null :: .int i :: .ref a :: st) (S, I, J, P) Q := by
  subst hp
  have e : am_st1 pr M.1 M.2.2.2.1 (decide (M.2.1.name = "<init>")) pc lv (.null :: .int i :: .ref a :: st) (S, I, J, P) (.aastore) 1 = some (pc + 1, lv, st, (S, I, J, am_u P a i.toNatClampNeg none)) := by simp [am_st1, hs.1, hs.2, hi]
  rw [am_wp_st hM hd rfl rfl, e]
  exact k
theorem am_r_alen {a kd n : Nat} (hM : am_ms[mi]? = some M) (hd : decode M.2.2.1 pc = .ok (.arraylength, 1)) (hp : pc + 1 = pc') (hs : am_sh S a (kd, n)) (hk : 20 ≤ kd ∧ kd < 26) (k : am_wp pr d mi pc' lv (.int (Int32.ofNat n) :: st) (S, I, J, P) Q) : am_wp pr d mi pc lv (.ref a :: st) (S, I, J, P) Q := by
  subst hp
  have e : am_st1 pr M.1 M.2.2.2.1 (decide (M.2.1.name = "<init>")) pc lv (.ref a :: st) (S, I, J, P) (.arraylength) 1 = some (pc + 1, lv, .int (Int32.ofNat n) :: st, (S, I, J, P)) := by simp [am_st1, am_arr_hi hs.1, hs.2, hk]
  rw [am_wp_st hM hd rfl rfl, e]
  exact k
theorem am_r_salen {a kd n : Nat} {f : Nat → Int32} (hM : am_ms[mi]? = some M) (hd : decode M.2.2.1 pc = .ok (.arraylength, 1)) (hp : pc + 1 = pc') (ha : a < 64) (hs : am_sar pr a = some (kd, n, f)) (hk : 20 ≤ kd ∧ kd < 26) (k : am_wp pr d mi pc' lv (.int (Int32.ofNat n) :: st) (S, I, J, P) Q) : am_wp pr d mi pc lv (.ref a :: st) (S, I, J, P) Q := by
  subst hp
  have e : am_st1 pr M.1 M.2.2.2.1 (decide (M.2.1.name = "<init>")) pc lv (.ref a :: st) (S, I, J, P) (.arraylength) 1 = some (pc + 1, lv, .int (Int32.ofNat n) :: st, (S, I, J, P)) := by simp [am_st1, am_arr, ha, hs, hk]
  rw [am_wp_st hM hd rfl rfl, e]
  exact k
theorem am_r_newa {t : ArrayType} {kd : Nat} {n : Int32} (hM : am_ms[mi]? = some M) (hd : decode M.2.2.1 pc = .ok (.newarray t, 2)) (hp : pc + 2 = pc') (ht : am_at t = some kd) (hn : ¬ n < 0 ∧ n.toNatClampNeg * 8 ≤ 536870912) (k : am_wp pr d mi pc' lv (.ref S.length :: st) (S ++ [(kd, n.toNatClampNeg)], am_row I S.length (fun _ => 0), am_row J S.length (fun _ => 0), am_row P S.length (fun _ => none)) Q) : am_wp pr d mi pc lv (.int n :: st) (S, I, J, P) Q := by
  subst hp
  have e : am_st1 pr M.1 M.2.2.2.1 (decide (M.2.1.name = "<init>")) pc lv (.int n :: st) (S, I, J, P) (.newarray t) 2 = some (pc + 2, lv, .ref S.length :: st, (S ++ [(kd, n.toNatClampNeg)], am_row I S.length (fun _ => 0), am_row J S.length (fun _ => 0), am_row P S.length (fun _ => none))) := by simp [am_st1, ht, hn.2, Int32.not_lt.mp hn.1, am_push]
  rw [am_wp_st hM hd rfl rfl, e]
  exact k
theorem am_r_newh {k0 i0 : Nat} {n : Int32} (hM : am_ms[mi]? = some M) (hd : decode M.2.2.1 pc = .ok (.anewarray k0, 3)) (hp : pc + 3 = pc') (hq : am_kl.lookup (am_key M.1 k0) = some (0, i0)) (hn : ¬ n < 0 ∧ n.toNatClampNeg * 4 ≤ 536870912) (k : am_wp pr d mi pc' lv (.ref S.length :: st) (S ++ [(24, n.toNatClampNeg)], am_row I S.length (fun _ => 0), am_row J S.length (fun _ => 0), am_row P S.length (fun _ => none)) Q) : am_wp pr d mi pc lv (.int n :: st) (S, I, J, P) Q := by
  subst hp
  have e : am_st1 pr M.1 M.2.2.2.1 (decide (M.2.1.name = "<init>")) pc lv (.int n :: st) (S, I, J, P) (.anewarray k0) 3 = some (pc + 3, lv, .ref S.length :: st, (S ++ [(24, n.toNatClampNeg)], am_row I S.length (fun _ => 0), am_row J S.length (fun _ => 0), am_row P S.length (fun _ => none))) := by simp [am_st1, hq, hn.2, Int32.not_lt.mp hn.1, am_push]
  rw [am_wp_st hM hd rfl rfl, e]
  exact k
theorem am_r_newt {k0 i0 : Nat} {n : Int32} (hM : am_ms[mi]? = some M) (hd : decode M.2.2.1 pc = .ok (.anewarray k0, 3)) (hp : pc + 3 = pc') (hq : am_kl.lookup (am_key M.1 k0) = some (6, i0)) (hn : ¬ n < 0 ∧ n.toNatClampNeg * 4 ≤ 536870912) (k : am_wp pr d mi pc' lv (.ref S.length :: st) (S ++ [(25, n.toNatClampNeg)], am_row I S.length (fun _ => 0), am_row J S.length (fun _ => 0), am_row P S.length (fun _ => none)) Q) : am_wp pr d mi pc lv (.int n :: st) (S, I, J, P) Q := by
  subst hp
  have e : am_st1 pr M.1 M.2.2.2.1 (decide (M.2.1.name = "<init>")) pc lv (.int n :: st) (S, I, J, P) (.anewarray k0) 3 = some (pc + 3, lv, .ref S.length :: st, (S ++ [(25, n.toNatClampNeg)], am_row I S.length (fun _ => 0), am_row J S.length (fun _ => 0), am_row P S.length (fun _ => none))) := by simp [am_st1, hq, hn.2, Int32.not_lt.mp hn.1, am_push]
  rw [am_wp_st hM hd rfl rfl, e]
  exact k
theorem am_r_new {k0 : Nat} {q : Nat × Nat} (hM : am_ms[mi]? = some M) (hd : decode M.2.2.1 pc = .ok (.new k0, 3)) (hp : pc + 3 = pc') (hq : am_kl.lookup (am_key M.1 k0) = some q) (k : am_wp pr d mi pc' lv (.ref S.length :: st) (S ++ [(q.1, am_nf q.1)], am_row I S.length (fun _ => 0), am_row J S.length (fun _ => 0), am_row P S.length (fun _ => none)) Q) : am_wp pr d mi pc lv (st) (S, I, J, P) Q := by
  subst hp
  have e : am_st1 pr M.1 M.2.2.2.1 (decide (M.2.1.name = "<init>")) pc lv (st) (S, I, J, P) (.new k0) 3 = some (pc + 3, lv, .ref S.length :: st, (S ++ [(q.1, am_nf q.1)], am_row I S.length (fun _ => 0), am_row J S.length (fun _ => 0), am_row P S.length (fun _ => none))) := by simp [am_st1, hq, am_push]
  rw [am_wp_st hM hd rfl rfl, e]
  exact k
theorem am_r_ret (hM : am_ms[mi]? = some M) (hd : decode M.2.2.1 pc = .ok (.return_, 1)) (hr : M.2.2.2.2.1 = none) (k : Q none (S, I, J, P)) : am_wp pr d mi pc lv [] (S, I, J, P) Q := by
  rw [am_wp_ret hM hd (r := none) (by simp [am_ret, hr])]
  exact k
theorem am_r_iret {x : Int32} (hM : am_ms[mi]? = some M) (hd : decode M.2.2.1 pc = .ok (.ireturn, 1)) (hr : M.2.2.2.2.1 = some .int) (k : Q (some (.int x)) (S, I, J, P)) : am_wp pr d mi pc lv [.int x] (S, I, J, P) Q := by
  rw [am_wp_ret hM hd (r := some (.int x)) (by simp [am_ret, hr, narrow])]
  exact k
theorem am_r_zret {x : Int32} {ty : FieldType} (hM : am_ms[mi]? = some M) (hd : decode M.2.2.1 pc = .ok (.ireturn, 1)) (hr : M.2.2.2.2.1 = some ty) (ht : ty = .boolean ∨ ty = .byte ∨ ty = .char) (hn : narrow ty (.int x) = .int x) (k : Q (some (.int x)) (S, I, J, P)) : am_wp pr d mi pc lv [.int x] (S, I, J, P) Q := by
  rw [am_wp_ret hM hd (r := some (.int x)) (by rcases ht with rfl | rfl | rfl <;> simp [am_ret, hr, hn])]
  exact k
theorem am_r_lret {x : Int64} (hM : am_ms[mi]? = some M) (hd : decode M.2.2.1 pc = .ok (.lreturn, 1)) (hr : M.2.2.2.2.1 = some .long) (k : Q (some (.long x)) (S, I, J, P)) : am_wp pr d mi pc lv [.long x] (S, I, J, P) Q := by
  rw [am_wp_ret hM hd (r := some (.long x)) (by simp [am_ret, hr])]
  exact k
theorem am_r_aret {x : Nat} {C : String} (hM : am_ms[mi]? = some M) (hd : decode M.2.2.1 pc = .ok (.areturn, 1)) (hr : M.2.2.2.2.1 = some (.object C)) (k : Q (some (.ref x)) (S, I, J, P)) : am_wp pr d mi pc lv [.ref x] (S, I, J, P) Q := by
  rw [am_wp_ret hM hd (r := some (.ref x)) (by simp [am_ret, hr])]
  exact k
theorem am_r_aretN {C : String} (hM : am_ms[mi]? = some M) (hd : decode M.2.2.1 pc = .ok (.areturn, 1)) (hr : M.2.2.2.2.1 = some (.object C)) (k : Q (some .null) (S, I, J, P)) : am_wp pr d mi pc lv [.null] (S, I, J, P) Q := by
  rw [am_wp_ret hM hd (r := some .null) (by simp [am_ret, hr])]
  exact k
theorem am_narrow_b (p : Prop) [Decidable p] : narrow .boolean (.int (if p then 1 else 0)) = .int (if p then 1 else 0) := by
  split <;> rfl
/-- a call -/
theorem am_r_call {ins : Instr} {len ck k0 mj kind i0 : Nat} {N : am_Me} {vs rest : List Value} (hM : am_ms[mi]? = some M) (hd : decode M.2.2.1 pc = .ok (ins, len)) (hr : am_ret M.2.2.2.2.1 st ins len = none) (hc : am_cidx ins len = some (ck, k0)) (hm : am_ml.lookup (am_key M.1 k0) = some (mj, kind, i0)) (h4 : ¬ 4 ≤ kind) (hN : am_mt[mj]? = some N) (hp : pc + 3 = pc') (hst : (st.take (am_k ck N)).reverse = vs) (hrs : st.drop (am_k ck N) = rest) (hok : am_cok ck kind N st (S, I, J, P) = true) (k : am_ev pr d mj vs (S, I, J, P) (fun r τ => am_wp pr (d + 1) mi pc' lv (r.toList ++ rest) τ Q)) : am_wp pr (d + 1) mi pc lv st (S, I, J, P) Q := by
  subst hp
  subst hst
  subst hrs
  rw [am_wp_call hM hd hr hc hm h4 hN hok]
  exact k
theorem am_r_objinit {k0 mj i0 a : Nat} (hM : am_ms[mi]? = some M) (hd : decode M.2.2.1 pc = .ok (.invokespecial k0, 3)) (hm : am_ml.lookup (am_key M.1 k0) = some (mj, 4, i0)) (hp : pc + 3 = pc') (hc : am_cat st ≤ 8) (k : am_wp pr (d + 1) mi pc' lv st (S, I, J, P) Q) : am_wp pr (d + 1) mi pc lv (.ref a :: st) (S, I, J, P) Q := by
  subst hp
  rw [am_wp_nat hM hd rfl rfl hm (by decide) (Or.inl ⟨rfl, rfl⟩)]
  have e : am_nat 4 pc lv (.ref a :: st) (S, I, J, P) = some (pc + 3, lv, st, (S, I, J, P)) := by
    unfold am_nat
    exact if_pos hc
  rw [e]
  exact k
theorem am_r_max {k0 mj i0 : Nat} {x y : Int32} (hM : am_ms[mi]? = some M) (hd : decode M.2.2.1 pc = .ok (.invokestatic k0, 3)) (hm : am_ml.lookup (am_key M.1 k0) = some (mj, 6, i0)) (hp : pc + 3 = pc') (hc : am_cat st ≤ 8) (k : am_wp pr (d + 1) mi pc' lv (.int (if x < y then y else x) :: st) (S, I, J, P) Q) : am_wp pr (d + 1) mi pc lv (.int y :: .int x :: st) (S, I, J, P) Q := by
  subst hp
  rw [am_wp_nat hM hd rfl rfl hm (by decide) (Or.inr ⟨by decide, rfl⟩)]
  have e : am_nat 6 pc lv (.int y :: .int x :: st) (S, I, J, P) = some (pc + 3, lv, .int (if x < y then y else x) :: st, (S, I, J, P)) := by
    unfold am_nat
    exact if_pos hc
  rw [e]
  exact k
theorem am_r_min {k0 mj i0 : Nat} {x y : Int32} (hM : am_ms[mi]? = some M) (hd : decode M.2.2.1 pc = .ok (.invokestatic k0, 3)) (hm : am_ml.lookup (am_key M.1 k0) = some (mj, 7, i0)) (hp : pc + 3 = pc') (hc : am_cat st ≤ 8) (k : am_wp pr (d + 1) mi pc' lv (.int (if y < x then y else x) :: st) (S, I, J, P) Q) : am_wp pr (d + 1) mi pc lv (.int y :: .int x :: st) (S, I, J, P) Q := by
  subst hp
  rw [am_wp_nat hM hd rfl rfl hm (by decide) (Or.inr ⟨by decide, rfl⟩)]
  have e : am_nat 7 pc lv (.int y :: .int x :: st) (S, I, J, P) = some (pc + 3, lv, .int (if y < x then y else x) :: st, (S, I, J, P)) := by
    unfold am_nat
    exact if_pos hc
  rw [e]
  exact k
theorem am_r_copy {k0 mj i0 a a0 n0 n1 : Nat} {n dp sp : Int32} (hM : am_ms[mi]? = some M) (hd : decode M.2.2.1 pc = .ok (.invokestatic k0, 3)) (hm : am_ml.lookup (am_key M.1 k0) = some (mj, 5, i0)) (hp : pc + 3 = pc') (hs0 : am_sh S a0 (20, n0)) (hs1 : am_sh S a (20, n1)) (hc : am_cat st ≤ 8) (h1 : ¬ sp < 0) (h2 : ¬ dp < 0) (h3 : ¬ n < 0) (h4 : sp.toNatClampNeg + n.toNatClampNeg ≤ n0) (h5 : dp.toNatClampNeg + n.toNatClampNeg ≤ n1) (k : am_wp pr (d + 1) mi pc' lv st (S, am_row I a (va_cpy (I a0) (I a) sp.toNatClampNeg dp.toNatClampNeg n.toNatClampNeg), J, P) Q) : am_wp pr (d + 1) mi pc lv (.int n :: .int dp :: .ref a :: .int sp :: .ref a0 :: st) (S, I, J, P) Q := by
  subst hp
  rw [am_wp_nat hM hd rfl rfl hm (by decide) (Or.inr ⟨by decide, rfl⟩)]
  have e : am_nat 5 pc lv (.int n :: .int dp :: .ref a :: .int sp :: .ref a0 :: st) (S, I, J, P) = some (pc + 3, lv, st, (S, am_row I a (va_cpy (I a0) (I a) sp.toNatClampNeg dp.toNatClampNeg n.toNatClampNeg), J, P)) := by
    unfold am_nat
    simp only [hs0.2, hs1.2]
    exact if_pos ⟨hs1.1, hs0.1, hc, h1, h2, h3, h4, h5⟩
  rw [e]
  exact k
end AmRows
