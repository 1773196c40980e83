/-! one equation an instruction -/
section DN
variable {i pc : Nat} {ls st : List Value} {σ : Hp}

theorem d_iload_n {k : Fin 4} {x : Int32} (hd : dcd i pc = some (.iload_n k, 1)) (h : ls[(k : Nat)]? = some (.int x)) : den i pc ls st σ = den i (pc + 1) ls (.int x :: st) σ := den_ex hd rfl (by simp only [ex, ldI, h]; rfl) ⟨Nat.le_refl _, Nat.le_refl _⟩
theorem d_iload {k : Nat} {x : Int32} (hd : dcd i pc = some (.iload k, 2)) (h : ls[(k : Nat)]? = some (.int x)) : den i pc ls st σ = den i (pc + 2) ls (.int x :: st) σ := den_ex hd rfl (by simp only [ex, ldI, h]; rfl) ⟨Nat.le_refl _, Nat.le_refl _⟩
theorem d_lload_n {k : Fin 4} {x : Int64} (hd : dcd i pc = some (.lload_n k, 1)) (h : ls[(k : Nat)]? = some (.long x)) (h2 : ls[(k : Nat) + 1]? = some (.retAddr 1)) : den i pc ls st σ = den i (pc + 1) ls (.long x :: st) σ := den_ex hd rfl (by simp only [ex, ldL, h, h2]; rfl) ⟨Nat.le_refl _, Nat.le_refl _⟩
theorem d_lload {k : Nat} {x : Int64} (hd : dcd i pc = some (.lload k, 2)) (h : ls[(k : Nat)]? = some (.long x)) (h2 : ls[(k : Nat) + 1]? = some (.retAddr 1)) : den i pc ls st σ = den i (pc + 2) ls (.long x :: st) σ := den_ex hd rfl (by simp only [ex, ldL, h, h2]; rfl) ⟨Nat.le_refl _, Nat.le_refl _⟩
theorem d_aload_n {k : Fin 4} {x : Nat} (hd : dcd i pc = some (.aload_n k, 1)) (h : ls[(k : Nat)]? = some (.ref x)) : den i pc ls st σ = den i (pc + 1) ls (.ref x :: st) σ := den_ex hd rfl (by simp only [ex, ldA, h]; rfl) ⟨Nat.le_refl _, Nat.le_refl _⟩
theorem d_aload_n0 {k : Fin 4} (hd : dcd i pc = some (.aload_n k, 1)) (h : ls[(k : Nat)]? = some .null) : den i pc ls st σ = den i (pc + 1) ls (.null :: st) σ := den_ex hd rfl (by simp only [ex, ldA, h]; rfl) ⟨Nat.le_refl _, Nat.le_refl _⟩
theorem d_aload {k : Nat} {x : Nat} (hd : dcd i pc = some (.aload k, 2)) (h : ls[(k : Nat)]? = some (.ref x)) : den i pc ls st σ = den i (pc + 2) ls (.ref x :: st) σ := den_ex hd rfl (by simp only [ex, ldA, h]; rfl) ⟨Nat.le_refl _, Nat.le_refl _⟩
theorem d_aload0 {k : Nat} (hd : dcd i pc = some (.aload k, 2)) (h : ls[(k : Nat)]? = some .null) : den i pc ls st σ = den i (pc + 2) ls (.null :: st) σ := den_ex hd rfl (by simp only [ex, ldA, h]; rfl) ⟨Nat.le_refl _, Nat.le_refl _⟩
theorem d_istore_n {k : Fin 4} {x : Int32} (hd : dcd i pc = some (.istore_n k, 1)) (h : (k : Nat) < ls.length) : den i pc ls (.int x :: st) σ = den i (pc + 1) (ls.set k (.int x)) st σ := den_ex hd rfl (by simp only [ex, stI, h]; rfl) ⟨Nat.le_refl _, Nat.le_refl _⟩
theorem d_istore {k : Nat} {x : Int32} (hd : dcd i pc = some (.istore k, 2)) (h : (k : Nat) < ls.length) : den i pc ls (.int x :: st) σ = den i (pc + 2) (ls.set k (.int x)) st σ := den_ex hd rfl (by simp only [ex, stI, h]; rfl) ⟨Nat.le_refl _, Nat.le_refl _⟩
theorem d_lstore_n {k : Fin 4} {x : Int64} (hd : dcd i pc = some (.lstore_n k, 1)) (h : (k : Nat) + 1 < ls.length) : den i pc ls (.long x :: st) σ = den i (pc + 1) ((ls.set k (.long x)).set (k + 1) secd) st σ := den_ex hd rfl (by simp only [ex, stL, h]; rfl) ⟨Nat.le_refl _, Nat.le_refl _⟩
theorem d_lstore {k : Nat} {x : Int64} (hd : dcd i pc = some (.lstore k, 2)) (h : (k : Nat) + 1 < ls.length) : den i pc ls (.long x :: st) σ = den i (pc + 2) ((ls.set k (.long x)).set (k + 1) secd) st σ := den_ex hd rfl (by simp only [ex, stL, h]; rfl) ⟨Nat.le_refl _, Nat.le_refl _⟩
theorem d_astore_n {k : Fin 4} {x : Nat} (hd : dcd i pc = some (.astore_n k, 1)) (h : (k : Nat) < ls.length) : den i pc ls (.ref x :: st) σ = den i (pc + 1) (ls.set k (.ref x)) st σ := den_ex hd rfl (by simp only [ex, stA, h]; rfl) ⟨Nat.le_refl _, Nat.le_refl _⟩
theorem d_astore_n0 {k : Fin 4} (hd : dcd i pc = some (.astore_n k, 1)) (h : (k : Nat) < ls.length) : den i pc ls (.null :: st) σ = den i (pc + 1) (ls.set k .null) st σ := den_ex hd rfl (by simp only [ex, stA, h]; rfl) ⟨Nat.le_refl _, Nat.le_refl _⟩
theorem d_astore {k : Nat} {x : Nat} (hd : dcd i pc = some (.astore k, 2)) (h : (k : Nat) < ls.length) : den i pc ls (.ref x :: st) σ = den i (pc + 2) (ls.set k (.ref x)) st σ := den_ex hd rfl (by simp only [ex, stA, h]; rfl) ⟨Nat.le_refl _, Nat.le_refl _⟩
theorem d_astore0 {k : Nat} (hd : dcd i pc = some (.astore k, 2)) (h : (k : Nat) < ls.length) : den i pc ls (.null :: st) σ = den i (pc + 2) (ls.set k .null) st σ := den_ex hd rfl (by simp only [ex, stA, h]; rfl) ⟨Nat.le_refl _, Nat.le_refl _⟩
theorem d_iinc {k : Nat} {d : Int} {x y : Int32} (hd : dcd i pc = some (.iinc k d, 3)) (h : ls[k]? = some (.int x)) (hy : Int32.ofInt d = y) : den i pc ls st σ = den i (pc + 3) (ls.set k (.int (x + y))) st σ := den_ex hd rfl (by subst hy; simp only [ex, incI, h]; rw [if_pos ⟨trivial, (List.getElem?_eq_some_iff.mp h).1⟩]) ⟨Nat.le_refl _, Nat.le_refl _⟩
theorem d_iconst {n : Int} {x : Int32} (hd : dcd i pc = some (.iconst n, 1)) (h : Int32.ofInt n = x) : den i pc ls st σ = den i (pc + 1) ls (.int x :: st) σ := den_ex hd rfl (by subst h; rfl) ⟨Nat.le_refl _, Nat.le_refl _⟩
theorem d_bipush {n : Int} {x : Int32} (hd : dcd i pc = some (.bipush n, 2)) (h : (Int8.ofInt n).toInt32 = x) : den i pc ls st σ = den i (pc + 2) ls (.int x :: st) σ := den_ex hd rfl (by subst h; rfl) ⟨Nat.le_refl _, Nat.le_refl _⟩
theorem d_sipush {n : Int} {x : Int32} (hd : dcd i pc = some (.sipush n, 3)) (h : (Int16.ofInt n).toInt32 = x) : den i pc ls st σ = den i (pc + 3) ls (.int x :: st) σ := den_ex hd rfl (by subst h; rfl) ⟨Nat.le_refl _, Nat.le_refl _⟩
theorem d_lconst {n : Fin 2} {x : Int64} (hd : dcd i pc = some (.lconst n, 1)) (h : Int64.ofNat (n : Nat) = x) : den i pc ls st σ = den i (pc + 1) ls (.long x :: st) σ := den_ex hd rfl (by subst h; rfl) ⟨Nat.le_refl _, Nat.le_refl _⟩
theorem d_null (hd : dcd i pc = some (.aconst_null, 1)) : den i pc ls st σ = den i (pc + 1) ls (.null :: st) σ := den_ex hd rfl rfl ⟨Nat.le_refl _, Nat.le_refl _⟩
theorem d_ldc {j : Nat} {x : Int32} (hd : dcd i pc = some (.ldc j, 2)) (h : zLI (mO i) j = some x) : den i pc ls st σ = den i (pc + 2) ls (.int x :: st) σ := den_ex hd rfl (by simp only [ex, h]; rfl) ⟨Nat.le_refl _, Nat.le_refl _⟩
theorem d_ldc_w {j : Nat} {x : Int32} (hd : dcd i pc = some (.ldc_w j, 3)) (h : zLI (mO i) j = some x) : den i pc ls st σ = den i (pc + 3) ls (.int x :: st) σ := den_ex hd rfl (by simp only [ex, h]; rfl) ⟨Nat.le_refl _, Nat.le_refl _⟩
theorem d_ldc2 {j : Nat} {x : Int64} (hd : dcd i pc = some (.ldc2_w j, 3)) (h : zLL (mO i) j = some x) : den i pc ls st σ = den i (pc + 3) ls (.long x :: st) σ := den_ex hd rfl (by simp only [ex, h]; rfl) ⟨Nat.le_refl _, Nat.le_refl _⟩
theorem d_ladd {x y : Int64} (hd : dcd i pc = some (.ladd, 1)) : den i pc ls (.long y :: .long x :: st) σ = den i (pc + 1) ls (.long (x + y) :: st) σ := den_ex hd rfl rfl ⟨Nat.le_refl _, Nat.le_refl _⟩
theorem d_lmul {x y : Int64} (hd : dcd i pc = some (.lmul, 1)) : den i pc ls (.long y :: .long x :: st) σ = den i (pc + 1) ls (.long (x * y) :: st) σ := den_ex hd rfl rfl ⟨Nat.le_refl _, Nat.le_refl _⟩
theorem d_lneg {x : Int64} (hd : dcd i pc = some (.lneg, 1)) : den i pc ls (.long x :: st) σ = den i (pc + 1) ls (.long (-x) :: st) σ := den_ex hd rfl rfl ⟨Nat.le_refl _, Nat.le_refl _⟩
theorem d_lcmp {x y : Int64} (hd : dcd i pc = some (.lcmp, 1)) : den i pc ls (.long y :: .long x :: st) σ = den i (pc + 1) ls (.int (lg_cmp x y) :: st) σ := den_ex hd rfl rfl ⟨Nat.le_refl _, Nat.le_refl _⟩
theorem d_i2l {x : Int32} (hd : dcd i pc = some (.i2l, 1)) : den i pc ls (.int x :: st) σ = den i (pc + 1) ls (.long x.toInt64 :: st) σ := den_ex hd rfl rfl ⟨Nat.le_refl _, Nat.le_refl _⟩
theorem d_l2i {x : Int64} (hd : dcd i pc = some (.l2i, 1)) : den i pc ls (.long x :: st) σ = den i (pc + 1) ls (.int x.toInt32 :: st) σ := den_ex hd rfl rfl ⟨Nat.le_refl _, Nat.le_refl _⟩
theorem d_iadd {x y : Int32} (hd : dcd i pc = some (.iadd, 1)) : den i pc ls (.int y :: .int x :: st) σ = den i (pc + 1) ls (.int (x + y) :: st) σ := den_ex hd rfl rfl ⟨Nat.le_refl _, Nat.le_refl _⟩
theorem d_isub {x y : Int32} (hd : dcd i pc = some (.isub, 1)) : den i pc ls (.int y :: .int x :: st) σ = den i (pc + 1) ls (.int (x - y) :: st) σ := den_ex hd rfl rfl ⟨Nat.le_refl _, Nat.le_refl _⟩
theorem d_imul {x y : Int32} (hd : dcd i pc = some (.imul, 1)) : den i pc ls (.int y :: .int x :: st) σ = den i (pc + 1) ls (.int (x * y) :: st) σ := den_ex hd rfl rfl ⟨Nat.le_refl _, Nat.le_refl _⟩
theorem d_iand {x y : Int32} (hd : dcd i pc = some (.iand, 1)) : den i pc ls (.int y :: .int x :: st) σ = den i (pc + 1) ls (.int (x &&& y) :: st) σ := den_ex hd rfl rfl ⟨Nat.le_refl _, Nat.le_refl _⟩
theorem d_ior {x y : Int32} (hd : dcd i pc = some (.ior, 1)) : den i pc ls (.int y :: .int x :: st) σ = den i (pc + 1) ls (.int (x ||| y) :: st) σ := den_ex hd rfl rfl ⟨Nat.le_refl _, Nat.le_refl _⟩
theorem d_ixor {x y : Int32} (hd : dcd i pc = some (.ixor, 1)) : den i pc ls (.int y :: .int x :: st) σ = den i (pc + 1) ls (.int (x ^^^ y) :: st) σ := den_ex hd rfl rfl ⟨Nat.le_refl _, Nat.le_refl _⟩
theorem d_ishl {x y : Int32} (hd : dcd i pc = some (.ishl, 1)) : den i pc ls (.int y :: .int x :: st) σ = den i (pc + 1) ls (.int (x <<< (y &&& 31)) :: st) σ := den_ex hd rfl rfl ⟨Nat.le_refl _, Nat.le_refl _⟩
theorem d_ishr {x y : Int32} (hd : dcd i pc = some (.ishr, 1)) : den i pc ls (.int y :: .int x :: st) σ = den i (pc + 1) ls (.int (x >>> (y &&& 31)) :: st) σ := den_ex hd rfl rfl ⟨Nat.le_refl _, Nat.le_refl _⟩
theorem d_iushr {x y : Int32} (hd : dcd i pc = some (.iushr, 1)) : den i pc ls (.int y :: .int x :: st) σ = den i (pc + 1) ls (.int (x.toUInt32 >>> (y.toUInt32 &&& Int32.toUInt32 31)).toInt32 :: st) σ := den_ex hd rfl rfl ⟨Nat.le_refl _, Nat.le_refl _⟩
theorem d_i2b {x : Int32} (hd : dcd i pc = some (.i2b, 1)) : den i pc ls (.int x :: st) σ = den i (pc + 1) ls (.int x.toInt8.toInt32 :: st) σ := den_ex hd rfl rfl ⟨Nat.le_refl _, Nat.le_refl _⟩
theorem d_i2s {x : Int32} (hd : dcd i pc = some (.i2s, 1)) : den i pc ls (.int x :: st) σ = den i (pc + 1) ls (.int x.toInt16.toInt32 :: st) σ := den_ex hd rfl rfl ⟨Nat.le_refl _, Nat.le_refl _⟩
theorem d_i2c {x : Int32} (hd : dcd i pc = some (.i2c, 1)) : den i pc ls (.int x :: st) σ = den i (pc + 1) ls (.int (x.toUInt32 % 65536).toInt32 :: st) σ := den_ex hd rfl rfl ⟨Nat.le_refl _, Nat.le_refl _⟩
theorem d_idiv {x y : Int32} (hd : dcd i pc = some (.idiv, 1)) : den i pc ls (.int y :: .int x :: st) σ = if y = 0 then none else den i (pc + 1) ls (.int (x / y) :: st) σ := by
  by_cases h : y = 0
  · rw [if_pos h]; exact den_stop hd rfl (by subst h; rfl)
  · rw [if_neg h]; exact den_ex hd rfl (by simp only [ex]; rw [if_pos ⟨trivial, h⟩]) ⟨Nat.le_refl _, Nat.le_refl _⟩
theorem d_irem {x y : Int32} (hd : dcd i pc = some (.irem, 1)) : den i pc ls (.int y :: .int x :: st) σ = if y = 0 then none else den i (pc + 1) ls (.int (x - x / y * y) :: st) σ := by
  by_cases h : y = 0
  · rw [if_pos h]; exact den_stop hd rfl (by subst h; rfl)
  · rw [if_neg h]; exact den_ex hd rfl (by simp only [ex]; rw [if_pos ⟨trivial, h⟩]) ⟨Nat.le_refl _, Nat.le_refl _⟩
theorem d_dup {v : Value} (hd : dcd i pc = some (.dup, 1)) (h : v.category = 1) : den i pc ls (v :: st) σ = den i (pc + 1) ls (v :: v :: st) σ := den_ex hd rfl (by simp only [ex]; rw [if_pos ⟨trivial, h⟩]) ⟨Nat.le_refl _, Nat.le_refl _⟩
theorem d_pop {v : Value} (hd : dcd i pc = some (.pop, 1)) (h : v.category = 1) : den i pc ls (v :: st) σ = den i (pc + 1) ls st σ := den_ex hd rfl (by simp only [ex]; rw [if_pos ⟨trivial, h⟩]) ⟨Nat.le_refl _, Nat.le_refl _⟩
theorem d_dup2 {v u : Value} (hd : dcd i pc = some (.dup2, 1)) (h : v.category = 1) (h2 : u.category = 1) : den i pc ls (v :: u :: st) σ = den i (pc + 1) ls (v :: u :: v :: u :: st) σ := den_ex hd rfl (by simp only [ex]; rw [if_pos ⟨trivial, h, h2⟩]) ⟨Nat.le_refl _, Nat.le_refl _⟩
theorem d_dup_x1 {v u : Value} (hd : dcd i pc = some (.dup_x1, 1)) (h : v.category = 1) (h2 : u.category = 1) : den i pc ls (v :: u :: st) σ = den i (pc + 1) ls (v :: u :: v :: st) σ := den_ex hd rfl (by simp only [ex]; rw [if_pos ⟨trivial, h, h2⟩]) ⟨Nat.le_refl _, Nat.le_refl _⟩
theorem d_if_eq {x : Int32} {off : Int} {tgt : Nat} (hd : dcd i pc = some (.ifCond .eq off, 3)) (ht : (pc : Int) + off = (tgt : Int)) : den i pc ls (.int x :: st) σ = if x = 0 then den i tgt ls st σ else den i (pc + 3) ls st σ := by
  by_cases h : x = 0
  · rw [if_pos h]; exact den_ex hd rfl (by simp only [ex]; rw [if_pos ⟨trivial, by omega⟩, if_pos (show cnd .eq x 0 = true from decide_eq_true h), ht]; rfl) ⟨Nat.le_refl _, Nat.le_refl _⟩
  · rw [if_neg h]; exact den_ex hd rfl (by simp only [ex]; rw [if_pos ⟨trivial, by omega⟩, if_neg (show ¬ cnd .eq x 0 = true from fun q => h (of_decide_eq_true q))]) ⟨Nat.le_refl _, Nat.le_refl _⟩
theorem d_if_ne {x : Int32} {off : Int} {tgt : Nat} (hd : dcd i pc = some (.ifCond .ne off, 3)) (ht : (pc : Int) + off = (tgt : Int)) : den i pc ls (.int x :: st) σ = if x = 0 then den i (pc + 3) ls st σ else den i tgt ls st σ := by
  by_cases h : x = 0
  · rw [if_pos h]; exact den_ex hd rfl (by simp only [ex]; rw [if_pos ⟨trivial, by omega⟩, if_neg (show ¬ cnd .ne x 0 = true from fun q => of_decide_eq_true q h)]) ⟨Nat.le_refl _, Nat.le_refl _⟩
  · rw [if_neg h]; exact den_ex hd rfl (by simp only [ex]; rw [if_pos ⟨trivial, by omega⟩, if_pos (show cnd .ne x 0 = true from decide_eq_true h), ht]; rfl) ⟨Nat.le_refl _, Nat.le_refl _⟩
theorem d_if_lt {x : Int32} {off : Int} {tgt : Nat} (hd : dcd i pc = some (.ifCond .lt off, 3)) (ht : (pc : Int) + off = (tgt : Int)) : den i pc ls (.int x :: st) σ = if x < 0 then den i tgt ls st σ else den i (pc + 3) ls st σ := by
  by_cases h : x < 0
  · rw [if_pos h]; exact den_ex hd rfl (by simp only [ex]; rw [if_pos ⟨trivial, by omega⟩, if_pos (show cnd .lt x 0 = true from decide_eq_true h), ht]; rfl) ⟨Nat.le_refl _, Nat.le_refl _⟩
  · rw [if_neg h]; exact den_ex hd rfl (by simp only [ex]; rw [if_pos ⟨trivial, by omega⟩, if_neg (show ¬ cnd .lt x 0 = true from fun q => h (of_decide_eq_true q))]) ⟨Nat.le_refl _, Nat.le_refl _⟩
theorem d_if_ge {x : Int32} {off : Int} {tgt : Nat} (hd : dcd i pc = some (.ifCond .ge off, 3)) (ht : (pc : Int) + off = (tgt : Int)) : den i pc ls (.int x :: st) σ = if 0 ≤ x then den i tgt ls st σ else den i (pc + 3) ls st σ := by
  by_cases h : 0 ≤ x
  · rw [if_pos h]; exact den_ex hd rfl (by simp only [ex]; rw [if_pos ⟨trivial, by omega⟩, if_pos (show cnd .ge x 0 = true from decide_eq_true h), ht]; rfl) ⟨Nat.le_refl _, Nat.le_refl _⟩
  · rw [if_neg h]; exact den_ex hd rfl (by simp only [ex]; rw [if_pos ⟨trivial, by omega⟩, if_neg (show ¬ cnd .ge x 0 = true from fun q => h (of_decide_eq_true q))]) ⟨Nat.le_refl _, Nat.le_refl _⟩
theorem d_if_gt {x : Int32} {off : Int} {tgt : Nat} (hd : dcd i pc = some (.ifCond .gt off, 3)) (ht : (pc : Int) + off = (tgt : Int)) : den i pc ls (.int x :: st) σ = if 0 < x then den i tgt ls st σ else den i (pc + 3) ls st σ := by
  by_cases h : 0 < x
  · rw [if_pos h]; exact den_ex hd rfl (by simp only [ex]; rw [if_pos ⟨trivial, by omega⟩, if_pos (show cnd .gt x 0 = true from decide_eq_true h), ht]; rfl) ⟨Nat.le_refl _, Nat.le_refl _⟩
  · rw [if_neg h]; exact den_ex hd rfl (by simp only [ex]; rw [if_pos ⟨trivial, by omega⟩, if_neg (show ¬ cnd .gt x 0 = true from fun q => h (of_decide_eq_true q))]) ⟨Nat.le_refl _, Nat.le_refl _⟩
theorem d_if_le {x : Int32} {off : Int} {tgt : Nat} (hd : dcd i pc = some (.ifCond .le off, 3)) (ht : (pc : Int) + off = (tgt : Int)) : den i pc ls (.int x :: st) σ = if x ≤ 0 then den i tgt ls st σ else den i (pc + 3) ls st σ := by
  by_cases h : x ≤ 0
  · rw [if_pos h]; exact den_ex hd rfl (by simp only [ex]; rw [if_pos ⟨trivial, by omega⟩, if_pos (show cnd .le x 0 = true from decide_eq_true h), ht]; rfl) ⟨Nat.le_refl _, Nat.le_refl _⟩
  · rw [if_neg h]; exact den_ex hd rfl (by simp only [ex]; rw [if_pos ⟨trivial, by omega⟩, if_neg (show ¬ cnd .le x 0 = true from fun q => h (of_decide_eq_true q))]) ⟨Nat.le_refl _, Nat.le_refl _⟩
theorem d_icmp_eq {x y : Int32} {off : Int} {tgt : Nat} (hd : dcd i pc = some (.if_icmp .eq off, 3)) (ht : (pc : Int) + off = (tgt : Int)) : den i pc ls (.int y :: .int x :: st) σ = if x = y then den i tgt ls st σ else den i (pc + 3) ls st σ := by
  by_cases h : x = y
  · rw [if_pos h]; exact den_ex hd rfl (by simp only [ex]; rw [if_pos ⟨trivial, by omega⟩, if_pos (show cnd .eq x y = true from decide_eq_true h), ht]; rfl) ⟨Nat.le_refl _, Nat.le_refl _⟩
  · rw [if_neg h]; exact den_ex hd rfl (by simp only [ex]; rw [if_pos ⟨trivial, by omega⟩, if_neg (show ¬ cnd .eq x y = true from fun q => h (of_decide_eq_true q))]) ⟨Nat.le_refl _, Nat.le_refl _⟩
theorem d_icmp_ne {x y : Int32} {off : Int} {tgt : Nat} (hd : dcd i pc = some (.if_icmp .ne off, 3)) (ht : (pc : Int) + off = (tgt : Int)) : den i pc ls (.int y :: .int x :: st) σ = if x = y then den i (pc + 3) ls st σ else den i tgt ls st σ := by
  by_cases h : x = y
  · rw [if_pos h]; exact den_ex hd rfl (by simp only [ex]; rw [if_pos ⟨trivial, by omega⟩, if_neg (show ¬ cnd .ne x y = true from fun q => of_decide_eq_true q h)]) ⟨Nat.le_refl _, Nat.le_refl _⟩
  · rw [if_neg h]; exact den_ex hd rfl (by simp only [ex]; rw [if_pos ⟨trivial, by omega⟩, if_pos (show cnd .ne x y = true from decide_eq_true h), ht]; rfl) ⟨Nat.le_refl _, Nat.le_refl _⟩
theorem d_icmp_lt {x y : Int32} {off : Int} {tgt : Nat} (hd : dcd i pc = some (.if_icmp .lt off, 3)) (ht : (pc : Int) + off = (tgt : Int)) : den i pc ls (.int y :: .int x :: st) σ = if x < y then den i tgt ls st σ else den i (pc + 3) ls st σ := by
  by_cases h : x < y
  · rw [if_pos h]; exact den_ex hd rfl (by simp only [ex]; rw [if_pos ⟨trivial, by omega⟩, if_pos (show cnd .lt x y = true from decide_eq_true h), ht]; rfl) ⟨Nat.le_refl _, Nat.le_refl _⟩
  · rw [if_neg h]; exact den_ex hd rfl (by simp only [ex]; rw [if_pos ⟨trivial, by omega⟩, if_neg (show ¬ cnd .lt x y = true from fun q => h (of_decide_eq_true q))]) ⟨Nat.le_refl _, Nat.le_refl _⟩
theorem d_icmp_ge {x y : Int32} {off : Int} {tgt : Nat} (hd : dcd i pc = some (.if_icmp .ge off, 3)) (ht : (pc : Int) + off = (tgt : Int)) : den i pc ls (.int y :: .int x :: st) σ = if y ≤ x then den i tgt ls st σ else den i (pc + 3) ls st σ := by
  by_cases h : y ≤ x
  · rw [if_pos h]; exact den_ex hd rfl (by simp only [ex]; rw [if_pos ⟨trivial, by omega⟩, if_pos (show cnd .ge x y = true from decide_eq_true h), ht]; rfl) ⟨Nat.le_refl _, Nat.le_refl _⟩
  · rw [if_neg h]; exact den_ex hd rfl (by simp only [ex]; rw [if_pos ⟨trivial, by omega⟩, if_neg (show ¬ cnd .ge x y = true from fun q => h (of_decide_eq_true q))]) ⟨Nat.le_refl _, Nat.le_refl _⟩
theorem d_icmp_gt {x y : Int32} {off : Int} {tgt : Nat} (hd : dcd i pc = some (.if_icmp .gt off, 3)) (ht : (pc : Int) + off = (tgt : Int)) : den i pc ls (.int y :: .int x :: st) σ = if y < x then den i tgt ls st σ else den i (pc + 3) ls st σ := by
  by_cases h : y < x
  · rw [if_pos h]; exact den_ex hd rfl (by simp only [ex]; rw [if_pos ⟨trivial, by omega⟩, if_pos (show cnd .gt x y = true from decide_eq_true h), ht]; rfl) ⟨Nat.le_refl _, Nat.le_refl _⟩
  · rw [if_neg h]; exact den_ex hd rfl (by simp only [ex]; rw [if_pos ⟨trivial, by omega⟩, if_neg (show ¬ cnd .gt x y = true from fun q => h (of_decide_eq_true q))]) ⟨Nat.le_refl _, Nat.le_refl _⟩
theorem d_icmp_le {x y : Int32} {off : Int} {tgt : Nat} (hd : dcd i pc = some (.if_icmp .le off, 3)) (ht : (pc : Int) + off = (tgt : Int)) : den i pc ls (.int y :: .int x :: st) σ = if x ≤ y then den i tgt ls st σ else den i (pc + 3) ls st σ := by
  by_cases h : x ≤ y
  · rw [if_pos h]; exact den_ex hd rfl (by simp only [ex]; rw [if_pos ⟨trivial, by omega⟩, if_pos (show cnd .le x y = true from decide_eq_true h), ht]; rfl) ⟨Nat.le_refl _, Nat.le_refl _⟩
  · rw [if_neg h]; exact den_ex hd rfl (by simp only [ex]; rw [if_pos ⟨trivial, by omega⟩, if_neg (show ¬ cnd .le x y = true from fun q => h (of_decide_eq_true q))]) ⟨Nat.le_refl _, Nat.le_refl _⟩
theorem jmp_at {pc tgt : Nat} {off : Int} (ht : (pc : Int) + off = (tgt : Int)) : jmp pc off ls st σ = some (tgt, ls, st, σ) := by
  unfold jmp
  rw [if_pos (by omega), ht]
  rfl
theorem d_goto {off : Int} {tgt : Nat} (hd : dcd i pc = some (.goto off, 3)) (ht : (pc : Int) + off = (tgt : Int)) : den i pc ls st σ = den i tgt ls st σ := den_ex hd rfl (by simp only [ex]; rw [if_pos trivial, jmp_at ht]) ⟨Nat.le_refl _, Nat.le_refl _⟩
theorem d_ifnull {a : Nat} {off : Int} (hd : dcd i pc = some (.ifnull off, 3)) : den i pc ls (.ref a :: st) σ = den i (pc + 3) ls st σ := den_ex hd rfl (by simp only [ex]; rw [if_pos trivial]) ⟨Nat.le_refl _, Nat.le_refl _⟩
theorem d_ifnull0 {off : Int} {tgt : Nat} (hd : dcd i pc = some (.ifnull off, 3)) (ht : (pc : Int) + off = (tgt : Int)) : den i pc ls (.null :: st) σ = den i tgt ls st σ := den_ex hd rfl (by simp only [ex]; rw [if_pos trivial, jmp_at ht]) ⟨Nat.le_refl _, Nat.le_refl _⟩
theorem d_ifnonnull {a : Nat} {off : Int} {tgt : Nat} (hd : dcd i pc = some (.ifnonnull off, 3)) (ht : (pc : Int) + off = (tgt : Int)) : den i pc ls (.ref a :: st) σ = den i tgt ls st σ := den_ex hd rfl (by simp only [ex]; rw [if_pos trivial, jmp_at ht]) ⟨Nat.le_refl _, Nat.le_refl _⟩
theorem d_ifnonnull0 {off : Int} (hd : dcd i pc = some (.ifnonnull off, 3)) : den i pc ls (.null :: st) σ = den i (pc + 3) ls st σ := den_ex hd rfl (by simp only [ex]; rw [if_pos trivial]) ⟨Nat.le_refl _, Nat.le_refl _⟩
theorem d_tableOut {x : Int32} {d lo hi : Int} {offs : Array Int} {len tgt : Nat} (hd : dcd i pc = some (.tableswitch d lo hi offs, len)) (h : x.toInt < lo ∨ hi < x.toInt) (ht : (pc : Int) + d = (tgt : Int)) : den i pc ls (.int x :: st) σ = den i tgt ls st σ := den_ex hd rfl (by simp only [ex]; rw [if_pos h, jmp_at ht]) ⟨Nat.le_refl _, Nat.le_refl _⟩
theorem d_tableIn {x : Int32} {d lo hi off : Int} {offs : Array Int} {len tgt : Nat} (hd : dcd i pc = some (.tableswitch d lo hi offs, len)) (h : ¬ (x.toInt < lo ∨ hi < x.toInt)) (ho : offs[(x.toInt - lo).toNat]? = some off) (ht : (pc : Int) + off = (tgt : Int)) : den i pc ls (.int x :: st) σ = den i tgt ls st σ := den_ex hd rfl (by simp only [ex]; rw [if_neg h]; simp only [ho]; rw [jmp_at ht]) ⟨Nat.le_refl _, Nat.le_refl _⟩
theorem d_lookup {x : Int32} {d off : Int} {ps : Array (Int × Int)} {len tgt : Nat} (hd : dcd i pc = some (.lookupswitch d ps, len)) (hp : (ps.toList.zip (ps.toList.drop 1)).all (fun (a, next) => a.1 < next.1) = true) (ho : Op.lookupswitch.offset ps.toList d x.toInt = off) (ht : (pc : Int) + off = (tgt : Int)) : den i pc ls (.int x :: st) σ = den i tgt ls st σ := den_ex hd rfl (by simp only [ex]; rw [if_pos hp, ho, jmp_at ht]) ⟨Nat.le_refl _, Nat.le_refl _⟩
theorem d_getfield {a j ci k : Nat} (hd : dcd i pc = some (.getfield j, 3)) (hf : zF (mO i) j = some (ci, k)) : den i pc ls (.ref a :: st) σ = (hGet σ a ci k).bind fun v => den i (pc + 3) ls (v :: st) σ := by
  cases h : hGet σ a ci k with
  | none => exact den_stop hd rfl (by simp only [ex, gfl, hf, h])
  | some v => exact den_ex hd rfl (by simp only [ex, gfl, hf, h]; rfl) ⟨Nat.le_refl _, Nat.le_refl _⟩
theorem hPut_le {σ τ : Hp} {a ci k : Nat} {v : Value} (h : hPut σ a ci k v = some τ) : σ.2.1 ≤ τ.2.1 ∧ σ.2.2 ≤ τ.2.2 := by
  unfold hPut at h
  split at h
  next => split at h
          next => cases h; exact ⟨Nat.le_refl _, Nat.le_refl _⟩
          next => cases h
  next => cases h
theorem d_putfield {a j ci k : Nat} {v : Value} (hd : dcd i pc = some (.putfield j, 3)) (hf : zF (mO i) j = some (ci, k)) (hp : pok (decide (mK i = 2)) (mO i) ci k v = true) : den i pc ls (v :: .ref a :: st) σ = (hPut σ a ci k v).bind fun τ => den i (pc + 3) ls st τ := by
  cases h : hPut σ a ci k v with
  | none => exact den_stop hd rfl (by simp only [ex, pfl, hf, h])
  | some τ => exact den_ex hd rfl (by simp only [ex, pfl, hf, h]; rw [if_pos ⟨trivial, hp⟩]) (hPut_le h)
theorem d_iaload {a : Nat} {k : Int32} (hd : dcd i pc = some (.iaload, 1)) : den i pc ls (.int k :: .ref a :: st) σ = (hI σ a 0).bind fun q => if inb k q.1 = true then den i (pc + 1) ls (.int (q.2 k.toNatClampNeg) :: st) σ else none := by
  cases h : hI σ a 0 with
  | none => exact den_stop hd rfl (by simp only [ex, aldI, h])
  | some q =>
    show _ = if _ then _ else _
    by_cases hk : inb k q.1 = true
    · rw [if_pos hk]; exact den_ex hd rfl (by simp only [ex, aldI, h]; rw [if_pos ⟨trivial, hk⟩]) ⟨Nat.le_refl _, Nat.le_refl _⟩
    · rw [if_neg hk]; exact den_stop hd rfl (by simp only [ex, aldI, h]; rw [if_neg (fun z => hk z.2)])
theorem d_caload {a : Nat} {k : Int32} (hd : dcd i pc = some (.caload, 1)) : den i pc ls (.int k :: .ref a :: st) σ = (hI σ a 3).bind fun q => if inb k q.1 = true then den i (pc + 1) ls (.int (q.2 k.toNatClampNeg) :: st) σ else none := by
  cases h : hI σ a 3 with
  | none => exact den_stop hd rfl (by simp only [ex, aldI, h])
  | some q =>
    show _ = if _ then _ else _
    by_cases hk : inb k q.1 = true
    · rw [if_pos hk]; exact den_ex hd rfl (by simp only [ex, aldI, h]; rw [if_pos ⟨trivial, hk⟩]) ⟨Nat.le_refl _, Nat.le_refl _⟩
    · rw [if_neg hk]; exact den_stop hd rfl (by simp only [ex, aldI, h]; rw [if_neg (fun z => hk z.2)])
/-- an array of bytes or of booleans -/
def hB (σ : Hp) (a : Nat) : Option (Nat × Nat × (Nat → Int32)) := match σ.1 a with
  | some (.inl (t, n, .inl f)) => if t = 2 ∨ t = 4 then some (t, n, f) else none
  | _ => none
theorem hB_2 {σ : Hp} {a n : Nat} {f : Nat → Int32} (h : hB σ a = some (2, n, f)) : hI σ a 2 = some (n, f) := by
  unfold hB at h
  unfold hI
  split at h
  next t n' f' hx => split at h
                     next ht => cases h; rw [hx]; rfl
                     next => cases h
  next => cases h
theorem hB_4 {σ : Hp} {a n : Nat} {f : Nat → Int32} (h : hB σ a = some (4, n, f)) : hI σ a 2 = none ∧ hI σ a 4 = some (n, f) := by
  unfold hB at h
  unfold hI
  split at h
  next t n' f' hx => split at h
                     next ht => cases h; rw [hx]; exact ⟨rfl, rfl⟩
                     next => cases h
  next => cases h
theorem hB_t {σ : Hp} {a t n : Nat} {f : Nat → Int32} (h : hB σ a = some (t, n, f)) : t = 2 ∨ t = 4 := by
  unfold hB at h
  split at h
  next t' n' f' hx => split at h
                      next ht => cases h; exact ht
                      next => cases h
  next => cases h
theorem hB_n {σ : Hp} {a : Nat} (h : hB σ a = none) : hI σ a 2 = none ∧ hI σ a 4 = none := by
  unfold hB at h
  unfold hI
  split at h
  next t n' f' hx =>
    split at h
    next => cases h
    next ht =>
      rw [hx]
      exact ⟨if_neg (fun q => ht (Or.inl q)), if_neg (fun q => ht (Or.inr q))⟩
  next hx =>
    constructor
    · split
      next t n f q => exact absurd q (hx t n f)
      next => rfl
    · split
      next t n f q => exact absurd q (hx t n f)
      next => rfl
theorem d_baload {a : Nat} {k : Int32} (hd : dcd i pc = some (.baload, 1)) : den i pc ls (.int k :: .ref a :: st) σ = (hB σ a).bind fun q => if inb k q.2.1 = true then den i (pc + 1) ls (.int (q.2.2 k.toNatClampNeg) :: st) σ else none := by
  cases h : hB σ a with
  | none =>
    obtain ⟨h1, h2⟩ := hB_n h
    exact den_stop hd rfl (by simp only [ex, aldI, h1, h2])
  | some q =>
    obtain ⟨t, n, f⟩ := q
    show _ = if inb k n = true then den i (pc + 1) ls (.int (f k.toNatClampNeg) :: st) σ else none
    rcases hB_t h with rfl | rfl
    · have h1 := hB_2 h
      have h2 : hI σ a 4 = none := by
        unfold hB at h
        unfold hI
        split at h
        next t n' f' hx => split at h
                           next ht => cases h; rw [hx]; rfl
                           next => cases h
        next => cases h
      by_cases hk : inb k n = true
      · rw [if_pos hk]; exact den_ex hd rfl (by simp only [ex, aldI, h1]; rw [if_pos ⟨trivial, hk⟩]) ⟨Nat.le_refl _, Nat.le_refl _⟩
      · rw [if_neg hk]; exact den_stop hd rfl (by simp only [ex, aldI, h1, h2]; rw [if_neg (fun z => hk z.2)])
    · obtain ⟨h1, h2⟩ := hB_4 h
      by_cases hk : inb k n = true
      · rw [if_pos hk]; exact den_ex hd rfl (by simp only [ex, aldI, h1, h2]; rw [if_pos ⟨trivial, hk⟩]) ⟨Nat.le_refl _, Nat.le_refl _⟩
      · rw [if_neg hk]; exact den_stop hd rfl (by simp only [ex, aldI, h1, h2]; rw [if_neg (fun z => hk z.2)])
theorem d_bastore {a : Nat} {k x : Int32} (hd : dcd i pc = some (.bastore, 1)) : den i pc ls (.int x :: .int k :: .ref a :: st) σ = (hB σ a).bind fun q => if inb k q.2.1 = true then den i (pc + 1) ls st (hup σ a (.inl (q.1, q.2.1, .inl (upd q.2.2 k.toNatClampNeg (vp_nar (zG q.1) x))))) else none := by
  cases h : hB σ a with
  | none =>
    obtain ⟨h1, h2⟩ := hB_n h
    exact den_stop hd rfl (by simp only [ex, astI, h1, h2])
  | some q =>
    obtain ⟨t, n, f⟩ := q
    show _ = if inb k n = true then _ else none
    rcases hB_t h with rfl | rfl
    · have h1 := hB_2 h
      have h2 : hI σ a 4 = none := by
        unfold hB at h
        unfold hI
        split at h
        next t n' f' hx => split at h
                           next ht => cases h; rw [hx]; rfl
                           next => cases h
        next => cases h
      by_cases hk : inb k n = true
      · rw [if_pos hk]; exact den_ex hd rfl (by simp only [ex, astI, h1]; rw [if_pos ⟨trivial, hk⟩]) ⟨Nat.le_refl _, Nat.le_refl _⟩
      · rw [if_neg hk]; exact den_stop hd rfl (by simp only [ex, astI, h1, h2]; rw [if_neg (fun z => hk z.2)])
    · obtain ⟨h1, h2⟩ := hB_4 h
      by_cases hk : inb k n = true
      · rw [if_pos hk]; exact den_ex hd rfl (by simp only [ex, astI, h1, h2]; rw [if_pos ⟨trivial, hk⟩]) ⟨Nat.le_refl _, Nat.le_refl _⟩
      · rw [if_neg hk]; exact den_stop hd rfl (by simp only [ex, astI, h1, h2]; rw [if_neg (fun z => hk z.2)])
theorem d_laload {a : Nat} {k : Int32} (hd : dcd i pc = some (.laload, 1)) : den i pc ls (.int k :: .ref a :: st) σ = (hL σ a 1).bind fun q => if inb k q.1 = true then den i (pc + 1) ls (.long (q.2 k.toNatClampNeg) :: st) σ else none := by
  cases h : hL σ a 1 with
  | none => exact den_stop hd rfl (by simp only [ex, aldL, h])
  | some q =>
    show _ = if _ then _ else _
    by_cases hk : inb k q.1 = true
    · rw [if_pos hk]; exact den_ex hd rfl (by simp only [ex, aldL, h]; rw [if_pos ⟨trivial, hk⟩]) ⟨Nat.le_refl _, Nat.le_refl _⟩
    · rw [if_neg hk]; exact den_stop hd rfl (by simp only [ex, aldL, h]; rw [if_neg (fun z => hk z.2)])
theorem d_aaload {a : Nat} {k : Int32} (hd : dcd i pc = some (.aaload, 1)) : den i pc ls (.int k :: .ref a :: st) σ = (hR σ a).bind fun q => if inb k q.2.1 = true ∧ (q.1 = 5 ∨ q.1 = 6) then den i (pc + 1) ls (va_rf (q.2.2 k.toNatClampNeg) :: st) σ else none := by
  cases h : hR σ a with
  | none => exact den_stop hd rfl (by simp only [ex, aldR, h])
  | some q =>
    show _ = if _ then _ else _
    by_cases hk : inb k q.2.1 = true ∧ (q.1 = 5 ∨ q.1 = 6)
    · rw [if_pos hk]; exact den_ex hd rfl (by simp only [ex, aldR, h]; rw [if_pos ⟨trivial, hk⟩]) ⟨Nat.le_refl _, Nat.le_refl _⟩
    · rw [if_neg hk]; exact den_stop hd rfl (by simp only [ex, aldR, h]; rw [if_neg (fun z => hk z.2)])
theorem d_arraylength {a : Nat} (hd : dcd i pc = some (.arraylength, 1)) : den i pc ls (.ref a :: st) σ = (hLen σ a).bind fun n => den i (pc + 1) ls (.int (Int32.ofNat n) :: st) σ := by
  cases h : hLen σ a with
  | none => exact den_stop hd rfl (by simp only [ex, alen, h])
  | some n => exact den_ex hd rfl (by simp only [ex, alen, h]; rfl) ⟨Nat.le_refl _, Nat.le_refl _⟩
theorem d_iastore {a : Nat} {k x : Int32} (hd : dcd i pc = some (.iastore, 1)) : den i pc ls (.int x :: .int k :: .ref a :: st) σ = (hI σ a 0).bind fun q => if inb k q.1 = true then den i (pc + 1) ls st (hup σ a (.inl (0, q.1, .inl (upd q.2 k.toNatClampNeg x)))) else none := by
  cases h : hI σ a 0 with
  | none => exact den_stop hd rfl (by simp only [ex, astI, h])
  | some q =>
    show _ = if _ then _ else _
    by_cases hk : inb k q.1 = true
    · rw [if_pos hk]; exact den_ex hd rfl (by simp only [ex, astI, h]; rw [if_pos ⟨trivial, hk⟩]; rfl) ⟨Nat.le_refl _, Nat.le_refl _⟩
    · rw [if_neg hk]; exact den_stop hd rfl (by simp only [ex, astI, h]; rw [if_neg (fun z => hk z.2)])
theorem d_castore {a : Nat} {k x : Int32} (hd : dcd i pc = some (.castore, 1)) : den i pc ls (.int x :: .int k :: .ref a :: st) σ = (hI σ a 3).bind fun q => if inb k q.1 = true then den i (pc + 1) ls st (hup σ a (.inl (3, q.1, .inl (upd q.2 k.toNatClampNeg (vp_nar .char x))))) else none := by
  cases h : hI σ a 3 with
  | none => exact den_stop hd rfl (by simp only [ex, astI, h])
  | some q =>
    show _ = if _ then _ else _
    by_cases hk : inb k q.1 = true
    · rw [if_pos hk]; exact den_ex hd rfl (by simp only [ex, astI, h]; rw [if_pos ⟨trivial, hk⟩]; rfl) ⟨Nat.le_refl _, Nat.le_refl _⟩
    · rw [if_neg hk]; exact den_stop hd rfl (by simp only [ex, astI, h]; rw [if_neg (fun z => hk z.2)])
theorem d_lastore {a : Nat} {k : Int32} {x : Int64} (hd : dcd i pc = some (.lastore, 1)) : den i pc ls (.long x :: .int k :: .ref a :: st) σ = (hL σ a 1).bind fun q => if inb k q.1 = true then den i (pc + 1) ls st (hup σ a (.inl (1, q.1, .inr (.inl (vp_updL q.2 k.toNatClampNeg x))))) else none := by
  cases h : hL σ a 1 with
  | none => exact den_stop hd rfl (by simp only [ex, astL, h])
  | some q =>
    show _ = if _ then _ else _
    by_cases hk : inb k q.1 = true
    · rw [if_pos hk]; exact den_ex hd rfl (by simp only [ex, astL, h]; rw [if_pos ⟨trivial, hk⟩]) ⟨Nat.le_refl _, Nat.le_refl _⟩
    · rw [if_neg hk]; exact den_stop hd rfl (by simp only [ex, astL, h]; rw [if_neg (fun z => hk z.2)])
theorem d_aastore {a v : Nat} {k : Int32} (hd : dcd i pc = some (.aastore, 1)) : den i pc ls (.ref v :: .int k :: .ref a :: st) σ = (hR σ a).bind fun q => (hObj σ v).bind fun ci => if inb k q.2.1 = true ∧ ((q.1 = 5 ∧ ci = 5) ∨ (q.1 = 6 ∧ ci = 0)) then den i (pc + 1) ls st (hup σ a (.inl (q.1, q.2.1, .inr (.inr (.inr (.inr (va_up q.2.2 k.toNatClampNeg (some v)))))))) else none := by
  cases h : hR σ a with
  | none => exact den_stop hd rfl (by simp only [ex, astR, h])
  | some q =>
    cases h2 : hObj σ v with
    | none => exact den_stop hd rfl (by simp only [ex, astR, h, h2])
    | some ci =>
      show _ = if _ then _ else _
      by_cases hk : inb k q.2.1 = true ∧ ((q.1 = 5 ∧ ci = 5) ∨ (q.1 = 6 ∧ ci = 0))
      · rw [if_pos hk]; exact den_ex hd rfl (by simp only [ex, astR, h, h2]; rw [if_pos ⟨trivial, hk⟩]) ⟨Nat.le_refl _, Nat.le_refl _⟩
      · rw [if_neg hk]; exact den_stop hd rfl (by simp only [ex, astR, h, h2]; rw [if_neg (fun z => hk z.2)])
theorem d_new {j ci : Nat} (hd : dcd i pc = some (.new j, 3)) (hf : zNe (mO i) j = some ci) : den i pc ls st σ = den i (pc + 3) ls (.ref σ.2.1 :: st) (hnew σ (.inr (ci, zD ci)) (zN ci)) := den_ex hd rfl (by simp only [ex, newO, hf]; rfl) ⟨Nat.le_succ _, Nat.le_add_right _ _⟩
theorem d_newarray {t : ArrayType} {g : Nat} {n : Int32} (hd : dcd i pc = some (.newarray t, 2)) (hg : zTag t = some g) (hn : ¬ n < 0 ∧ n.toNatClampNeg ≤ 100000) : den i pc ls (.int n :: st) σ = den i (pc + 2) ls (.ref σ.2.1 :: st) (hnew σ (zArr g n.toNatClampNeg) n.toNatClampNeg) := den_ex hd rfl (by simp only [ex, newP, hg]; rw [if_pos ⟨trivial, hn⟩]) ⟨Nat.le_succ _, Nat.le_add_right _ _⟩
theorem d_anewarray {j ci : Nat} {n : Int32} (hd : dcd i pc = some (.anewarray j, 3)) (hf : zNe (mO i) j = some ci) (hn : ¬ n < 0 ∧ n.toNatClampNeg ≤ 100000 ∧ (ci = 5 ∨ ci = 0)) : den i pc ls (.int n :: st) σ = den i (pc + 3) ls (.ref σ.2.1 :: st) (hnew σ (.inl (if ci = 5 then 5 else 6, n.toNatClampNeg, .inr (.inr (.inr (.inr (fun _ => none)))))) n.toNatClampNeg) := den_ex hd rfl (by simp only [ex, newA, hf]; rw [if_pos ⟨trivial, hn⟩]) ⟨Nat.le_succ _, Nat.le_add_right _ _⟩
theorem d_copy {j a b : Nat} {n dp sp : Int32} (hd : dcd i pc = some (.invokestatic j, 3)) (hc : isCopy (mO i) j = true) (hr : 1 ≤ mH i ∧ 60 ≤ mW i) (hs : (st.map fun v => v.category).sum ≤ 8) : den i pc ls (.int n :: .int dp :: .ref b :: .int sp :: .ref a :: st) σ = (hI σ a 0).bind fun q => (hI σ b 0).bind fun q' => if ¬ sp < 0 ∧ ¬ dp < 0 ∧ ¬ n < 0 ∧ sp.toNatClampNeg + n.toNatClampNeg ≤ q.1 ∧ dp.toNatClampNeg + n.toNatClampNeg ≤ q'.1 then den i (pc + 3) ls st (hup σ b (.inl (0, q'.1, .inl (va_cpy q.2 q'.2 sp.toNatClampNeg dp.toNatClampNeg n.toNatClampNeg)))) else none := by
  have h0 : ∀ {X : Option Fr}, cpy pc 3 ls (.int n :: .int dp :: .ref b :: .int sp :: .ref a :: st) σ = X → ex dcall (decide (mK i = 2)) (mH i) (mW i) (mO i) (.invokestatic j) 3 pc ls (.int n :: .int dp :: .ref b :: .int sp :: .ref a :: st) σ = X := by
    intro X h
    simp only [ex, inv0]
    rw [if_neg (fun z => absurd z.1 (by decide)), if_pos ⟨trivial, hc⟩, if_pos hr]
    exact h
  cases h : hI σ a 0 with
  | none => exact den_stop hd rfl (h0 (by simp only [cpy, h]))
  | some q =>
    cases h2 : hI σ b 0 with
    | none => exact den_stop hd rfl (h0 (by simp only [cpy, h, h2]))
    | some q' =>
      show _ = if _ then _ else _
      by_cases hk : ¬ sp < 0 ∧ ¬ dp < 0 ∧ ¬ n < 0 ∧ sp.toNatClampNeg + n.toNatClampNeg ≤ q.1 ∧ dp.toNatClampNeg + n.toNatClampNeg ≤ q'.1
      · rw [if_pos hk]; exact den_ex hd rfl (h0 (by simp only [cpy, h, h2]; rw [if_pos ⟨trivial, hk.1, hk.2.1, hk.2.2.1, hk.2.2.2.1, hk.2.2.2.2, hs⟩])) ⟨Nat.le_refl _, Nat.le_refl _⟩
      · rw [if_neg hk]; exact den_stop hd rfl (h0 (by simp only [cpy, h, h2]; rw [if_neg (fun z => hk ⟨z.2.1, z.2.2.1, z.2.2.2.1, z.2.2.2.2.1, z.2.2.2.2.2.1⟩)]))
theorem d_objInit {a : Nat} (hd : dcd i pc = some (.invokespecial 3, 3)) (ho : mO i < 8) (hr : 1 ≤ mH i ∧ 20 ≤ mW i) (hs : (st.map fun v => v.category).sum ≤ 8) : den i pc ls (.ref a :: st) σ = den i (pc + 3) ls st σ := den_ex hd rfl (by simp only [ex, inv0]; rw [if_pos ⟨trivial, trivial, ho⟩, if_pos ⟨trivial, hr.1, hr.2, hs⟩]) ⟨Nat.le_refl _, Nat.le_refl _⟩
theorem d_call {idx j nest k : Nat} {ins : Instr} {as rest : List Value} (hd : dcd i pc = some (ins, 3)) (hk : (k = 0 ∧ ins = .invokestatic idx) ∨ (k = 1 ∧ ins = .invokevirtual idx) ∨ (k = 2 ∧ ins = .invokespecial idx)) (hz : zCa (mO i) idx = some (j, nest)) (hn : ¬ (k = 2 ∧ idx = 3 ∧ mO i < 8)) (hc : ¬ (k = 0 ∧ isCopy (mO i) idx = true)) (hs : mK j = k ∧ mH j + 1 ≤ mH i ∧ 8 + (mL j + 11) + mW j ≤ mW i) (hl : as.length = nar k j) (hst : st = as.reverse ++ rest) (hsum : (rest.map fun v => v.category).sum ≤ 8) :
    den i pc ls st σ = if rcv k j as σ = true then (dcall j as σ).bind fun r => den i (pc + 3) ls (r.1.toList ++ rest) r.2 else none := by
  have hrl : as.reverse.length = nar k j := by rw [List.length_reverse]; exact hl
  have ht : (st.take (nar k j)).reverse = as := by rw [hst, ← hrl, List.take_left', List.reverse_reverse]; rfl
  have hdr : st.drop (nar k j) = rest := by rw [hst, ← hrl, List.drop_left']; rfl
  have hle : nar k j ≤ st.length := by rw [hst, List.length_append, hrl]; exact Nat.le_add_right _ _
  have h0 : ∀ {X : Option Fr}, cal dcall (mH i) (mW i) (mO i) k idx pc 3 ls st σ = X → ex dcall (decide (mK i = 2)) (mH i) (mW i) (mO i) ins 3 pc ls st σ = X := by
    intro X h
    have h1 : inv0 dcall (mH i) (mW i) (mO i) k idx pc 3 ls st σ = X := by
      unfold inv0
      rw [if_neg hn, if_neg hc]
      exact h
    rcases hk with ⟨rfl, rfl⟩ | ⟨rfl, rfl⟩ | ⟨rfl, rfl⟩ <;> exact h1
  have hrt : rtn (mR i) ins 3 st = none := by rcases hk with ⟨rfl, rfl⟩ | ⟨rfl, rfl⟩ | ⟨rfl, rfl⟩ <;> rfl
  by_cases hrc : rcv k j as σ = true
  · rw [if_pos hrc]
    have hcond : 3 = 3 ∧ mK j = k ∧ mH j + 1 ≤ mH i ∧ 8 + (mL j + 11) + mW j ≤ mW i ∧ nar k j ≤ st.length ∧ ((st.drop (nar k j)).map fun v => v.category).sum ≤ 8 ∧ rcv k j (st.take (nar k j)).reverse σ = true := ⟨rfl, hs.1, hs.2.1, hs.2.2, hle, by rw [hdr]; exact hsum, by rw [ht]; exact hrc⟩
    cases h : dcall j as σ with
    | none => exact den_stop hd hrt (h0 (by unfold cal; rw [hz]; dsimp only; rw [if_pos hcond, ht, h]))
    | some r =>
      obtain ⟨v, τ⟩ := r
      exact den_ex hd hrt (h0 (by unfold cal; rw [hz]; dsimp only; rw [if_pos hcond, ht, h, hdr])) (dcall_mono h)
  · rw [if_neg hrc]
    exact den_stop hd hrt (h0 (by unfold cal; rw [hz]; dsimp only; rw [if_neg (fun z => hrc (by have := z.2.2.2.2.2.2; rw [ht] at this; exact this))]))
theorem d_return (hd : dcd i pc = some (.return_, 1)) (hr : mR i = none) : den i pc ls [] σ = some (none, σ) := den_ret hd (by simp only [rtn]; rw [if_pos ⟨trivial, hr, trivial⟩])
theorem d_ireturn {x : Int32} (hd : dcd i pc = some (.ireturn, 1)) (hr : mR i = some .int) : den i pc ls [.int x] σ = some (some (.int x), σ) := den_ret hd (by simp only [rtn]; rw [if_pos ⟨trivial, Or.inl hr⟩])
theorem d_zreturn {x : Int32} (hd : dcd i pc = some (.ireturn, 1)) (hr : mR i = some .boolean) : den i pc ls [.int x] σ = if x &&& 1 = x then some (some (.int x), σ) else none := by
  by_cases h : x &&& 1 = x
  · rw [if_pos h]; exact den_ret hd (by simp only [rtn]; rw [if_pos ⟨trivial, Or.inr ⟨hr, h⟩⟩])
  · rw [if_neg h]; exact den_stop hd (by simp only [rtn]; rw [if_neg (fun z => by rcases z.2 with q | q; rw [hr] at q; cases q; exact h q.2)]) rfl
theorem d_lreturn {x : Int64} (hd : dcd i pc = some (.lreturn, 1)) (hr : mR i = some .long) : den i pc ls [.long x] σ = some (some (.long x), σ) := den_ret hd (by simp only [rtn]; rw [if_pos ⟨trivial, hr⟩])
theorem d_areturn {x : Nat} (hd : dcd i pc = some (.areturn, 1)) (hr : mR i = some (.object "AbsenceTree$Tree")) : den i pc ls [.ref x] σ = some (some (.ref x), σ) := den_ret hd (by simp only [rtn]; rw [if_pos ⟨trivial, hr⟩])
theorem d_areturn0 (hd : dcd i pc = some (.areturn, 1)) (hr : mR i = some (.object "AbsenceTree$Tree")) : den i pc ls [.null] σ = some (some .null, σ) := den_ret hd (by simp only [rtn]; rw [if_pos ⟨trivial, hr⟩])
end DN
/-! forms that the printed equations use -/
section DM
variable {i pc : Nat} {ls st : List Value} {σ : Hp}
theorem d_calls {idx j nest : Nat} {as rest : List Value} (hd : dcd i pc = some (.invokestatic idx, 3)) (hz : zCa (mO i) idx = some (j, nest)) (hc : isCopy (mO i) idx = false) (hs : mK j = 0 ∧ mH j + 1 ≤ mH i ∧ 8 + (mL j + 11) + mW j ≤ mW i) (hl : as.length = nar 0 j) (hst : st = as.reverse ++ rest) (hsum : Nat.ble (rest.map fun v => v.category).sum 8 = true) :
    den i pc ls st σ = (dcall j as σ).bind fun r => den i (pc + 3) ls (r.1.toList ++ rest) r.2 := by
  rw [d_call hd (Or.inl ⟨rfl, rfl⟩) hz (fun z => absurd z.1 (by decide)) (fun z => by rw [hc] at z; exact absurd z.2 (by decide)) hs hl hst (Nat.le_of_ble_eq_true hsum)]
  exact if_pos rfl
theorem d_callv {idx j nest o b : Nat} {as rest : List Value} (hd : dcd i pc = some (.invokevirtual idx, 3)) (hz : zCa (mO i) idx = some (j, nest)) (hs : mK j = 1 ∧ mH j + 1 ≤ mH i ∧ 8 + (mL j + 11) + mW j ≤ mW i) (ho : mO j = o) (hl : (Value.ref b :: as).length = nar 1 j) (hst : st = (Value.ref b :: as).reverse ++ rest) (hsum : Nat.ble (rest.map fun v => v.category).sum 8 = true) :
    den i pc ls st σ = if hObj σ b = some o then (dcall j (.ref b :: as) σ).bind fun r => den i (pc + 3) ls (r.1.toList ++ rest) r.2 else none := by
  rw [d_call hd (Or.inr (Or.inl ⟨rfl, rfl⟩)) hz (fun z => absurd z.1 (by decide)) (fun z => absurd z.1 (by decide)) hs hl hst (Nat.le_of_ble_eq_true hsum)]
  subst ho
  by_cases h : hObj σ b = some (mO j)
  · rw [if_pos h, if_pos (by simp [rcv, h])]
  · rw [if_neg h, if_neg (by simp [rcv, h])]
theorem d_calli {idx j nest b : Nat} {as rest : List Value} (hd : dcd i pc = some (.invokespecial idx, 3)) (hz : zCa (mO i) idx = some (j, nest)) (hn : idx ≠ 3) (hs : mK j = 2 ∧ mH j + 1 ≤ mH i ∧ 8 + (mL j + 11) + mW j ≤ mW i) (hl : (Value.ref b :: as).length = nar 2 j) (hst : st = (Value.ref b :: as).reverse ++ rest) (hsum : Nat.ble (rest.map fun v => v.category).sum 8 = true) :
    den i pc ls st σ = (dcall j (.ref b :: as) σ).bind fun r => den i (pc + 3) ls (r.1.toList ++ rest) r.2 := by
  rw [d_call hd (Or.inr (Or.inr ⟨rfl, rfl⟩)) hz (fun z => hn z.2.1) (fun z => absurd z.1 (by decide)) hs hl hst (Nat.le_of_ble_eq_true hsum)]
  exact if_pos rfl
theorem pok_i {ini : Bool} {o ci k : Nat} {x : Int32} (h : zY ci k = .int) (h2 : (zT ci k).2.2.2 = false) : pok ini o ci k (.int x) = true := by
  unfold pok
  rw [h, h2]
  simp [narrow, fits]
theorem pok_o {ini : Bool} {o ci k a : Nat} {n : String} (h : zY ci k = .object n) (h2 : (!(zT ci k).2.2.2 || (ini && decide (o = ci))) = true) : pok ini o ci k (.ref a) = true := by
  unfold pok
  rw [h, h2]
  simp [narrow, fits]
theorem pok_a {ini : Bool} {o ci k a : Nat} {t : FieldType} (h : zY ci k = .array t) (h2 : (!(zT ci k).2.2.2 || (ini && decide (o = ci))) = true) : pok ini o ci k (.ref a) = true := by
  unfold pok
  rw [h, h2]
  simp [narrow, fits]
theorem dcall_ent {j : Nat} {as ls : List Value} (h1 : Nat.ble (flatA as).length (mL j) = true) (h2 : as.all okV = true) (h3 : entA (mL j) as = ls) : dcall j as σ = den j 0 ls [] σ := by
  unfold dcall
  rw [if_pos ⟨Nat.le_of_ble_eq_true h1, h2⟩, h3]
/-! what goes on behind a read, a write, a call: first-order, so that simp goes into nothing unasked -/
noncomputable def kv (o : Option Value) (i pc : Nat) (ls st : List Value) (σ : Hp) : Option Rs := o.bind fun v => den i pc ls (v :: st) σ
noncomputable def kh (o : Option Hp) (i pc : Nat) (ls st : List Value) : Option Rs := o.bind fun τ => den i pc ls st τ
noncomputable def kr (o : Option Rs) (i pc : Nat) (ls st : List Value) : Option Rs := o.bind fun r => den i pc ls (r.1.toList ++ st) r.2
noncomputable def kI (o : Option (Nat × (Nat → Int32))) (k : Int32) (i pc : Nat) (ls st : List Value) (σ : Hp) : Option Rs := o.bind fun q => if inb k q.1 = true then den i pc ls (.int (q.2 k.toNatClampNeg) :: st) σ else none
noncomputable def kB (o : Option (Nat × Nat × (Nat → Int32))) (k : Int32) (i pc : Nat) (ls st : List Value) (σ : Hp) : Option Rs := o.bind fun q => if inb k q.2.1 = true then den i pc ls (.int (q.2.2 k.toNatClampNeg) :: st) σ else none
noncomputable def kL (o : Option (Nat × (Nat → Int64))) (k : Int32) (i pc : Nat) (ls st : List Value) (σ : Hp) : Option Rs := o.bind fun q => if inb k q.1 = true then den i pc ls (.long (q.2 k.toNatClampNeg) :: st) σ else none
noncomputable def kR (o : Option (Nat × Nat × (Nat → Option Nat))) (k : Int32) (i pc : Nat) (ls st : List Value) (σ : Hp) : Option Rs := o.bind fun q => if inb k q.2.1 = true ∧ (q.1 = 5 ∨ q.1 = 6) then den i pc ls (va_rf (q.2.2 k.toNatClampNeg) :: st) σ else none
noncomputable def kn (o : Option Nat) (i pc : Nat) (ls st : List Value) (σ : Hp) : Option Rs := o.bind fun n => den i pc ls (.int (Int32.ofNat n) :: st) σ
noncomputable def wI (o : Option (Nat × (Nat → Int32))) (t a : Nat) (k x : Int32) (i pc : Nat) (ls st : List Value) (σ : Hp) : Option Rs := o.bind fun q => if inb k q.1 = true then den i pc ls st (hup σ a (.inl (t, q.1, .inl (upd q.2 k.toNatClampNeg x)))) else none
noncomputable def wB (o : Option (Nat × Nat × (Nat → Int32))) (a : Nat) (k x : Int32) (i pc : Nat) (ls st : List Value) (σ : Hp) : Option Rs := o.bind fun q => if inb k q.2.1 = true then den i pc ls st (hup σ a (.inl (q.1, q.2.1, .inl (upd q.2.2 k.toNatClampNeg (vp_nar (zG q.1) x))))) else none
noncomputable def wL (o : Option (Nat × (Nat → Int64))) (a : Nat) (k : Int32) (y : Int64) (i pc : Nat) (ls st : List Value) (σ : Hp) : Option Rs := o.bind fun q => if inb k q.1 = true then den i pc ls st (hup σ a (.inl (1, q.1, .inr (.inl (vp_updL q.2 k.toNatClampNeg y))))) else none
noncomputable def wR (o : Option (Nat × Nat × (Nat → Option Nat))) (o2 : Option Nat) (a b : Nat) (k : Int32) (i pc : Nat) (ls st : List Value) (σ : Hp) : Option Rs := o.bind fun q => o2.bind fun ci => if inb k q.2.1 = true ∧ ((q.1 = 5 ∧ ci = 5) ∨ (q.1 = 6 ∧ ci = 0)) then den i pc ls st (hup σ a (.inl (q.1, q.2.1, .inr (.inr (.inr (.inr (va_up q.2.2 k.toNatClampNeg (some b)))))))) else none
noncomputable def wC (o o2 : Option (Nat × (Nat → Int32))) (b : Nat) (s d n : Int32) (i pc : Nat) (ls st : List Value) (σ : Hp) : Option Rs := o.bind fun q => o2.bind fun q2 => if ¬ s < 0 ∧ ¬ d < 0 ∧ ¬ n < 0 ∧ s.toNatClampNeg + n.toNatClampNeg ≤ q.1 ∧ d.toNatClampNeg + n.toNatClampNeg ≤ q2.1 then den i pc ls st (hup σ b (.inl (0, q2.1, .inl (va_cpy q.2 q2.2 s.toNatClampNeg d.toNatClampNeg n.toNatClampNeg)))) else none
theorem kv_s {v : Value} : kv (some v) i pc ls st σ = den i pc ls (v :: st) σ := rfl
theorem kh_s {τ : Hp} : kh (some τ) i pc ls st = den i pc ls st τ := rfl
theorem kr_s {v : Value} {τ : Hp} : kr (some (some v, τ)) i pc ls st = den i pc ls (v :: st) τ := rfl
theorem kr_v {τ : Hp} : kr (some (none, τ)) i pc ls st = den i pc ls st τ := rfl
theorem kI_s {n : Nat} {f : Nat → Int32} {k : Int32} (h : inb k n = true) : kI (some (n, f)) k i pc ls st σ = den i pc ls (.int (f k.toNatClampNeg) :: st) σ := if_pos h
theorem kB_s {t n : Nat} {f : Nat → Int32} {k : Int32} (h : inb k n = true) : kB (some (t, n, f)) k i pc ls st σ = den i pc ls (.int (f k.toNatClampNeg) :: st) σ := if_pos h
theorem kL_s {n : Nat} {f : Nat → Int64} {k : Int32} (h : inb k n = true) : kL (some (n, f)) k i pc ls st σ = den i pc ls (.long (f k.toNatClampNeg) :: st) σ := if_pos h
theorem kR_s {t n : Nat} {f : Nat → Option Nat} {k : Int32} (h : inb k n = true) (ht : t = 5 ∨ t = 6) : kR (some (t, n, f)) k i pc ls st σ = den i pc ls (va_rf (f k.toNatClampNeg) :: st) σ := if_pos ⟨h, ht⟩
theorem kn_s {n : Nat} : kn (some n) i pc ls st σ = den i pc ls (.int (Int32.ofNat n) :: st) σ := rfl
theorem wI_s {n t a : Nat} {f : Nat → Int32} {k x : Int32} (h : inb k n = true) : wI (some (n, f)) t a k x i pc ls st σ = den i pc ls st (hup σ a (.inl (t, n, .inl (upd f k.toNatClampNeg x)))) := if_pos h
theorem wB_s {n t a : Nat} {f : Nat → Int32} {k x : Int32} (h : inb k n = true) : wB (some (t, n, f)) a k x i pc ls st σ = den i pc ls st (hup σ a (.inl (t, n, .inl (upd f k.toNatClampNeg (vp_nar (zG t) x))))) := if_pos h
theorem wL_s {n a : Nat} {f : Nat → Int64} {k : Int32} {y : Int64} (h : inb k n = true) : wL (some (n, f)) a k y i pc ls st σ = den i pc ls st (hup σ a (.inl (1, n, .inr (.inl (vp_updL f k.toNatClampNeg y))))) := if_pos h
theorem wR_s {n t a b ci : Nat} {f : Nat → Option Nat} {k : Int32} (h : inb k n = true) (ht : (t = 5 ∧ ci = 5) ∨ (t = 6 ∧ ci = 0)) : wR (some (t, n, f)) (some ci) a b k i pc ls st σ = den i pc ls st (hup σ a (.inl (t, n, .inr (.inr (.inr (.inr (va_up f k.toNatClampNeg (some b)))))))) := if_pos ⟨h, ht⟩
theorem wC_s {n n2 b : Nat} {f g : Nat → Int32} {s d k : Int32} (h : ¬ s < 0 ∧ ¬ d < 0 ∧ ¬ k < 0 ∧ s.toNatClampNeg + k.toNatClampNeg ≤ n ∧ d.toNatClampNeg + k.toNatClampNeg ≤ n2) : wC (some (n, f)) (some (n2, g)) b s d k i pc ls st σ = den i pc ls st (hup σ b (.inl (0, n2, .inl (va_cpy f g s.toNatClampNeg d.toNatClampNeg k.toNatClampNeg)))) := if_pos h
end DM
