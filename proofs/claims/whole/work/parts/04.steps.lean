/-! the small machine's instructions over the machine: no calls, no memory -/
def CT (p : Program) (R : Room) (s : State) (m : MethodId) (c : Code) (meth : Method) (D : va_G) (K : Nat → ClassId) (base : Nat) (cc : ByteArray) (nL o : Nat) (ini : Bool) (h w : Nat) : Prop :=
  p.tables.exec = Jvm.exec ∧ c.code = cc ∧ c.maxLocals = nL ∧ s.vm.findClass (zC o) = some m.cls ∧ TK D K s ∧ base ≤ s.heap.size ∧ (ini = true → meth.name = "<init>") ∧ h ≤ R.frames ∧ w ≤ R.locals
def Go (p : Program) (l : Launch) (e : Env) (R : Room) (s : State) (m : MethodId) (args : Array Value) (below : List Frame) (meth : Method) (c : Code) (Q : State → Prop) (D : va_G) (K : Nat → ClassId) (base nL n0 s0 : Nat) (f : Fr) : Prop :=
  ∀ (H : Heap) (locs : List Loc) (arr : Array Slot), Wo D K base f.2.2.2 H → va_S (fun q => base ≤ q) s.heap H locs → LR arr nL f.2.1 → W p l e R s m args below meth c H locs (f.2.2.2.2.1 - n0) (f.2.2.2.2.2 - s0) Q (F0 m f.1 arr f.2.2.1)
section GO
variable {p : Program} {l : Launch} {e : Env} {R : Room} {s : State} {m : MethodId} {args : Array Value} {below : List Frame} {meth : Method} {c : Code} {Q : State → Prop} {D : va_G} {K : Nat → ClassId} {base : Nat} {cc : ByteArray} {nL o n0 s0 h w : Nat} {ini : Bool}
variable {pc len : Nat} {ls st : List Value} {σ : Hp} {f : Fr}
theorem go_pure {pc' : Nat} {st' : List Value} (row : ∀ (H : Heap) (locs : List Loc) (cells slots : Nat) (arr : Array Slot), LR arr nL ls → W p l e R s m args below meth c H locs cells slots Q (F0 m pc' arr st') → W p l e R s m args below meth c H locs cells slots Q (F0 m pc arr st)) (k : Go p l e R s m args below meth c Q D K base nL n0 s0 (pc', ls, st', σ)) : Go p l e R s m args below meth c Q D K base nL n0 s0 (pc, ls, st, σ) :=
  fun H locs arr hW hS hL => row H locs _ _ arr hL (k H locs arr hW hS hL)
theorem go_loc {pc' : Nat} {ls' st' : List Value} (row : ∀ (H : Heap) (locs : List Loc) (cells slots : Nat) (arr : Array Slot), LR arr nL ls → (∀ arr', LR arr' nL ls' → W p l e R s m args below meth c H locs cells slots Q (F0 m pc' arr' st')) → W p l e R s m args below meth c H locs cells slots Q (F0 m pc arr st)) (k : Go p l e R s m args below meth c Q D K base nL n0 s0 (pc', ls', st', σ)) : Go p l e R s m args below meth c Q D K base nL n0 s0 (pc, ls, st, σ) :=
  fun H locs arr hW hS hL => row H locs _ _ arr hL (fun arr' hL' => k H locs arr' hW hS hL')
theorem lg_i {k : Nat} {x : Int32} (hx : ls[k]? = some (.int x)) : lgood ls k (.int x) := ⟨hx, (fun h => by cases h), (fun r h => by cases h)⟩
theorem lg_r {k x : Nat} (hx : ls[k]? = some (.ref x)) : lgood ls k (.ref x) := ⟨hx, (fun h => by cases h), (fun r h => by cases h)⟩
theorem lg_n {k : Nat} (hx : ls[k]? = some .null) : lgood ls k .null := ⟨hx, (fun h => by cases h), (fun r h => by cases h)⟩
theorem lg_l {k : Nat} {x : Int64} (hx : ls[k]? = some (.long x)) (h2 : ls[k + 1]? = some (.retAddr 1)) : lgood ls k (.long x) := ⟨hx, (fun _ => h2), (fun r h => by cases h)⟩

theorem go_iload_n (C : CT p R s m c meth D K base cc nL o ini h w) {k : Fin 4} (hd : decode cc pc = .ok (.iload_n k, len)) (he : ldI k 1 pc len ls st σ = some f) (kk : Go p l e R s m args below meth c Q D K base nL n0 s0 f) : Go p l e R s m args below meth c Q D K base nL n0 s0 (pc, ls, st, σ) := by
  unfold ldI at he
  split at he
  next x hx =>
    split at he
    next hl => subst hl; cases he; exact go_pure (fun _ _ _ _ _ hL hw => lv_iload_n C.1 C.2.1 hd rfl (hL.at (lg_i hx)) hw) kk
    next => cases he
  next => cases he

theorem go_iload (C : CT p R s m c meth D K base cc nL o ini h w) {k : Nat} (hd : decode cc pc = .ok (.iload k, len)) (he : ldI k 2 pc len ls st σ = some f) (kk : Go p l e R s m args below meth c Q D K base nL n0 s0 f) : Go p l e R s m args below meth c Q D K base nL n0 s0 (pc, ls, st, σ) := by
  unfold ldI at he
  split at he
  next x hx =>
    split at he
    next hl => subst hl; cases he; exact go_pure (fun _ _ _ _ _ hL hw => lv_iload C.1 C.2.1 hd (hL.at (lg_i hx)) hw) kk
    next => cases he
  next => cases he

theorem go_lload_n (C : CT p R s m c meth D K base cc nL o ini h w) {k : Fin 4} (hd : decode cc pc = .ok (.lload_n k, len)) (he : ldL k 1 pc len ls st σ = some f) (kk : Go p l e R s m args below meth c Q D K base nL n0 s0 f) : Go p l e R s m args below meth c Q D K base nL n0 s0 (pc, ls, st, σ) := by
  unfold ldL at he
  split at he
  next x hx h2 =>
    split at he
    next hl => subst hl; cases he; exact go_pure (fun _ _ _ _ _ hL hw => lv_lload_n C.1 C.2.1 hd rfl (hL.at (lg_l hx h2)) hw) kk
    next => cases he
  next => cases he

theorem go_lload (C : CT p R s m c meth D K base cc nL o ini h w) {k : Nat} (hd : decode cc pc = .ok (.lload k, len)) (he : ldL k 2 pc len ls st σ = some f) (kk : Go p l e R s m args below meth c Q D K base nL n0 s0 f) : Go p l e R s m args below meth c Q D K base nL n0 s0 (pc, ls, st, σ) := by
  unfold ldL at he
  split at he
  next x hx h2 =>
    split at he
    next hl => subst hl; cases he; exact go_pure (fun _ _ _ _ _ hL hw => lv_lload C.1 C.2.1 hd (hL.at (lg_l hx h2)) hw) kk
    next => cases he
  next => cases he

theorem go_aload_n (C : CT p R s m c meth D K base cc nL o ini h w) {k : Fin 4} (hd : decode cc pc = .ok (.aload_n k, len)) (he : ldA k 1 pc len ls st σ = some f) (kk : Go p l e R s m args below meth c Q D K base nL n0 s0 f) : Go p l e R s m args below meth c Q D K base nL n0 s0 (pc, ls, st, σ) := by
  unfold ldA at he
  split at he
  next x hx =>
    split at he
    next hl => subst hl; cases he; exact go_pure (fun _ _ _ _ _ hL hw => lv_aload_n C.1 C.2.1 hd rfl (hL.at (lg_r hx)) hw) kk
    next => cases he
  next hx =>
    split at he
    next hl => subst hl; cases he; exact go_pure (fun _ _ _ _ _ hL hw => lv_aload_nN C.1 C.2.1 hd rfl (hL.at (lg_n hx)) hw) kk
    next => cases he
  next => cases he

theorem go_aload (C : CT p R s m c meth D K base cc nL o ini h w) {k : Nat} (hd : decode cc pc = .ok (.aload k, len)) (he : ldA k 2 pc len ls st σ = some f) (kk : Go p l e R s m args below meth c Q D K base nL n0 s0 f) : Go p l e R s m args below meth c Q D K base nL n0 s0 (pc, ls, st, σ) := by
  unfold ldA at he
  split at he
  next x hx =>
    split at he
    next hl => subst hl; cases he; exact go_pure (fun _ _ _ _ _ hL hw => lv_aload C.1 C.2.1 hd (hL.at (lg_r hx)) hw) kk
    next => cases he
  next hx =>
    split at he
    next hl => subst hl; cases he; exact go_pure (fun _ _ _ _ _ hL hw => lv_aloadN C.1 C.2.1 hd (hL.at (lg_n hx)) hw) kk
    next => cases he
  next => cases he

theorem go_istore_n (C : CT p R s m c meth D K base cc nL o ini h w) {k : Fin 4} (hd : decode cc pc = .ok (.istore_n k, len)) (he : stI k 1 pc len ls st σ = some f) (kk : Go p l e R s m args below meth c Q D K base nL n0 s0 f) : Go p l e R s m args below meth c Q D K base nL n0 s0 (pc, ls, st, σ) := by
  unfold stI at he
  split at he
  next x st =>
    split at he
    next hl =>
      obtain ⟨hl, hk⟩ := hl
      subst hl; cases he
      exact go_loc (fun _ _ _ _ _ hL hw => by
        obtain ⟨hn, lv, h1, h2⟩ := hL
        exact lv_istore_n C.1 C.2.1 hd rfl h1 (by omega) rfl (fun arr' h3 => hw arr' (LR.set1 hn h2 (fun r h => by cases h) h3))) kk
    next => cases he
  next => cases he

theorem go_istore (C : CT p R s m c meth D K base cc nL o ini h w) {k : Nat} (hd : decode cc pc = .ok (.istore k, len)) (he : stI k 2 pc len ls st σ = some f) (kk : Go p l e R s m args below meth c Q D K base nL n0 s0 f) : Go p l e R s m args below meth c Q D K base nL n0 s0 (pc, ls, st, σ) := by
  unfold stI at he
  split at he
  next x st =>
    split at he
    next hl =>
      obtain ⟨hl, hk⟩ := hl
      subst hl; cases he
      exact go_loc (fun _ _ _ _ _ hL hw => by
        obtain ⟨hn, lv, h1, h2⟩ := hL
        exact lv_istore C.1 C.2.1 hd h1 (by omega) rfl (fun arr' h3 => hw arr' (LR.set1 hn h2 (fun r h => by cases h) h3))) kk
    next => cases he
  next => cases he

theorem go_lstore_n (C : CT p R s m c meth D K base cc nL o ini h w) {k : Fin 4} (hd : decode cc pc = .ok (.lstore_n k, len)) (he : stL k 1 pc len ls st σ = some f) (kk : Go p l e R s m args below meth c Q D K base nL n0 s0 f) : Go p l e R s m args below meth c Q D K base nL n0 s0 (pc, ls, st, σ) := by
  unfold stL at he
  split at he
  next x st =>
    split at he
    next hl =>
      obtain ⟨hl, hk⟩ := hl
      subst hl; cases he
      exact go_loc (fun _ _ _ _ _ hL hw => by
        obtain ⟨hn, lv, h1, h2⟩ := hL
        exact lv_lstore_n C.1 C.2.1 hd rfl h1 (by omega) rfl (fun arr' h3 => hw arr' (LR.set2 hn h2 h3))) kk
    next => cases he
  next => cases he

theorem go_lstore (C : CT p R s m c meth D K base cc nL o ini h w) {k : Nat} (hd : decode cc pc = .ok (.lstore k, len)) (he : stL k 2 pc len ls st σ = some f) (kk : Go p l e R s m args below meth c Q D K base nL n0 s0 f) : Go p l e R s m args below meth c Q D K base nL n0 s0 (pc, ls, st, σ) := by
  unfold stL at he
  split at he
  next x st =>
    split at he
    next hl =>
      obtain ⟨hl, hk⟩ := hl
      subst hl; cases he
      exact go_loc (fun _ _ _ _ _ hL hw => by
        obtain ⟨hn, lv, h1, h2⟩ := hL
        exact lv_lstore C.1 C.2.1 hd h1 (by omega) rfl (fun arr' h3 => hw arr' (LR.set2 hn h2 h3))) kk
    next => cases he
  next => cases he

theorem go_astore_n (C : CT p R s m c meth D K base cc nL o ini h w) {k : Fin 4} (hd : decode cc pc = .ok (.astore_n k, len)) (he : stA k 1 pc len ls st σ = some f) (kk : Go p l e R s m args below meth c Q D K base nL n0 s0 f) : Go p l e R s m args below meth c Q D K base nL n0 s0 (pc, ls, st, σ) := by
  unfold stA at he
  split at he
  next x st =>
    split at he
    next hl =>
      obtain ⟨hl, hk⟩ := hl
      subst hl; cases he
      exact go_loc (fun _ _ _ _ _ hL hw => by
        obtain ⟨hn, lv, h1, h2⟩ := hL
        exact lv_astore_n C.1 C.2.1 hd rfl h1 (by omega) rfl (fun arr' h3 => hw arr' (LR.set1 hn h2 (fun r h => by cases h) h3))) kk
    next => cases he
  next st =>
    split at he
    next hl =>
      obtain ⟨hl, hk⟩ := hl
      subst hl; cases he
      exact go_loc (fun _ _ _ _ _ hL hw => by
        obtain ⟨hn, lv, h1, h2⟩ := hL
        exact lv_astore_nN C.1 C.2.1 hd rfl h1 (by omega) rfl (fun arr' h3 => hw arr' (LR.set1 hn h2 (fun r h => by cases h) h3))) kk
    next => cases he
  next => cases he

theorem go_astore (C : CT p R s m c meth D K base cc nL o ini h w) {k : Nat} (hd : decode cc pc = .ok (.astore k, len)) (he : stA k 2 pc len ls st σ = some f) (kk : Go p l e R s m args below meth c Q D K base nL n0 s0 f) : Go p l e R s m args below meth c Q D K base nL n0 s0 (pc, ls, st, σ) := by
  unfold stA at he
  split at he
  next x st =>
    split at he
    next hl =>
      obtain ⟨hl, hk⟩ := hl
      subst hl; cases he
      exact go_loc (fun _ _ _ _ _ hL hw => by
        obtain ⟨hn, lv, h1, h2⟩ := hL
        exact lv_astore C.1 C.2.1 hd h1 (by omega) rfl (fun arr' h3 => hw arr' (LR.set1 hn h2 (fun r h => by cases h) h3))) kk
    next => cases he
  next st =>
    split at he
    next hl =>
      obtain ⟨hl, hk⟩ := hl
      subst hl; cases he
      exact go_loc (fun _ _ _ _ _ hL hw => by
        obtain ⟨hn, lv, h1, h2⟩ := hL
        exact lv_astoreN C.1 C.2.1 hd h1 (by omega) rfl (fun arr' h3 => hw arr' (LR.set1 hn h2 (fun r h => by cases h) h3))) kk
    next => cases he
  next => cases he

theorem go_iinc (C : CT p R s m c meth D K base cc nL o ini h w) {k : Nat} {d : Int} (hd : decode cc pc = .ok (.iinc k d, len)) (he : incI k d pc len ls st σ = some f) (kk : Go p l e R s m args below meth c Q D K base nL n0 s0 f) : Go p l e R s m args below meth c Q D K base nL n0 s0 (pc, ls, st, σ) := by
  unfold incI at he
  split at he
  next x hx =>
    split at he
    next hl =>
      obtain ⟨hl, hk⟩ := hl
      subst hl; cases he
      exact go_loc (fun _ _ _ _ _ hL hw => by
        obtain ⟨hn, lv, h1, h2⟩ := hL
        obtain ⟨q, hq⟩ := List.getElem?_of_mem (h2 k _ (lg_i hx))
        exact lv_iinc C.1 C.2.1 hd h1 hq rfl (by omega) rfl (fun arr' h3 => hw arr' (LR.set1 hn h2 (fun r h => by cases h) h3))) kk
    next => cases he
  next => cases he

theorem go_jmp (C : CT p R s m c meth D K base cc nL o ini h w) {off : Int} (hd : decode cc pc = .ok (.goto off, len)) (he : (if len = 3 then jmp pc off ls st σ else none) = some f) (kk : Go p l e R s m args below meth c Q D K base nL n0 s0 f) : Go p l e R s m args below meth c Q D K base nL n0 s0 (pc, ls, st, σ) := by
  split at he
  next hl =>
    subst hl
    unfold jmp at he
    split at he
    next hp => cases he; exact go_pure (fun _ _ _ _ _ _ hw => lv_goto C.1 C.2.1 hd (by omega) hw) kk
    next => cases he
  next => cases he

theorem go_iconst (C : CT p R s m c meth D K base cc nL o ini h w) {n : Int} (hd : decode cc pc = .ok (.iconst n, len)) (he : (if len = 1 then some (pc + 1, ls, .int (Int32.ofInt n) :: st, σ) else (none : Option Fr)) = some f) (kk : Go p l e R s m args below meth c Q D K base nL n0 s0 f) : Go p l e R s m args below meth c Q D K base nL n0 s0 (pc, ls, st, σ) := by
  split at he
  next hl => subst hl; cases he; exact go_pure (fun _ _ _ _ _ _ hw => lv_iconst C.1 C.2.1 hd rfl hw) kk
  next => cases he

theorem go_bipush (C : CT p R s m c meth D K base cc nL o ini h w) {n : Int} (hd : decode cc pc = .ok (.bipush n, len)) (he : (if len = 2 then some (pc + 2, ls, .int (Int8.ofInt n).toInt32 :: st, σ) else (none : Option Fr)) = some f) (kk : Go p l e R s m args below meth c Q D K base nL n0 s0 f) : Go p l e R s m args below meth c Q D K base nL n0 s0 (pc, ls, st, σ) := by
  split at he
  next hl => subst hl; cases he; exact go_pure (fun _ _ _ _ _ _ hw => lv_bipush C.1 C.2.1 hd rfl hw) kk
  next => cases he

theorem go_sipush (C : CT p R s m c meth D K base cc nL o ini h w) {n : Int} (hd : decode cc pc = .ok (.sipush n, len)) (he : (if len = 3 then some (pc + 3, ls, .int (Int16.ofInt n).toInt32 :: st, σ) else (none : Option Fr)) = some f) (kk : Go p l e R s m args below meth c Q D K base nL n0 s0 f) : Go p l e R s m args below meth c Q D K base nL n0 s0 (pc, ls, st, σ) := by
  split at he
  next hl => subst hl; cases he; exact go_pure (fun _ _ _ _ _ _ hw => lv_sipush C.1 C.2.1 hd rfl hw) kk
  next => cases he

theorem go_lconst (C : CT p R s m c meth D K base cc nL o ini h w) {n : Fin 2} (hd : decode cc pc = .ok (.lconst n, len)) (he : (if len = 1 then some (pc + 1, ls, .long (Int64.ofNat (n : Nat)) :: st, σ) else (none : Option Fr)) = some f) (kk : Go p l e R s m args below meth c Q D K base nL n0 s0 f) : Go p l e R s m args below meth c Q D K base nL n0 s0 (pc, ls, st, σ) := by
  split at he
  next hl => subst hl; cases he; exact go_pure (fun _ _ _ _ _ _ hw => lv_lconst C.1 C.2.1 hd rfl hw) kk
  next => cases he

theorem go_null (C : CT p R s m c meth D K base cc nL o ini h w) (hd : decode cc pc = .ok (.aconst_null, len)) (he : (if len = 1 then some (pc + 1, ls, .null :: st, σ) else (none : Option Fr)) = some f) (kk : Go p l e R s m args below meth c Q D K base nL n0 s0 f) : Go p l e R s m args below meth c Q D K base nL n0 s0 (pc, ls, st, σ) := by
  split at he
  next hl => subst hl; cases he; exact go_pure (fun _ _ _ _ _ _ hw => lv_null C.1 C.2.1 hd hw) kk
  next => cases he

theorem go_ldc (C : CT p R s m c meth D K base cc nL o ini h w) {j : Nat} (hd : decode cc pc = .ok (.ldc j, len)) (he : (match zLI o j with | some v => if len = 2 then some (pc + 2, ls, .int v :: st, σ) else none | none => (none : Option Fr)) = some f) (kk : Go p l e R s m args below meth c Q D K base nL n0 s0 f) : Go p l e R s m args below meth c Q D K base nL n0 s0 (pc, ls, st, σ) := by
  split at he
  next v hv =>
    split at he
    next hl =>
      subst hl; cases he
      have hw0 := C.2.2.2.2.1.2.2.2.2.1 _ (lookup_in hv)
      exact go_pure (fun _ _ _ _ _ _ hw => lv_ldc C.1 C.2.1 C.2.2.2.1 (hw0 _) hd hw) kk
    next => cases he
  next => cases he

theorem go_ldcw (C : CT p R s m c meth D K base cc nL o ini h w) {j : Nat} (hd : decode cc pc = .ok (.ldc_w j, len)) (he : (match zLI o j with | some v => if len = 3 then some (pc + 3, ls, .int v :: st, σ) else none | none => (none : Option Fr)) = some f) (kk : Go p l e R s m args below meth c Q D K base nL n0 s0 f) : Go p l e R s m args below meth c Q D K base nL n0 s0 (pc, ls, st, σ) := by
  split at he
  next v hv =>
    split at he
    next hl =>
      subst hl; cases he
      have hw0 := C.2.2.2.2.1.2.2.2.2.1 _ (lookup_in hv)
      exact go_pure (fun _ _ _ _ _ _ hw => lv_ldcw C.1 C.2.1 C.2.2.2.1 (hw0 _) hd hw) kk
    next => cases he
  next => cases he

theorem go_ldc2 (C : CT p R s m c meth D K base cc nL o ini h w) {j : Nat} (hd : decode cc pc = .ok (.ldc2_w j, len)) (he : (match zLL o j with | some v => if len = 3 then some (pc + 3, ls, .long v :: st, σ) else none | none => (none : Option Fr)) = some f) (kk : Go p l e R s m args below meth c Q D K base nL n0 s0 f) : Go p l e R s m args below meth c Q D K base nL n0 s0 (pc, ls, st, σ) := by
  split at he
  next v hv =>
    split at he
    next hl =>
      subst hl; cases he
      have hw0 := C.2.2.2.2.1.2.2.2.2.2.1 _ (lookup_in hv)
      exact go_pure (fun _ _ _ _ _ _ hw => lv_ldc2 C.1 C.2.1 C.2.2.2.1 (hw0 _) hd hw) kk
    next => cases he
  next => cases he

theorem go_ladd (C : CT p R s m c meth D K base cc nL o ini h w) (hd : decode cc pc = .ok (.ladd, len)) (he : (match st with | .long y :: .long x :: st => if len = 1 then some (pc + 1, ls, .long (x + y) :: st, σ) else none | _ => (none : Option Fr)) = some f) (kk : Go p l e R s m args below meth c Q D K base nL n0 s0 f) : Go p l e R s m args below meth c Q D K base nL n0 s0 (pc, ls, st, σ) := by
  split at he
  next y x st =>
    split at he
    next hl => subst hl; cases he; exact go_pure (fun _ _ _ _ _ _ hw => lv_ladd C.1 C.2.1 hd hw) kk
    next => cases he
  next => cases he

theorem go_lmul (C : CT p R s m c meth D K base cc nL o ini h w) (hd : decode cc pc = .ok (.lmul, len)) (he : (match st with | .long y :: .long x :: st => if len = 1 then some (pc + 1, ls, .long (x * y) :: st, σ) else none | _ => (none : Option Fr)) = some f) (kk : Go p l e R s m args below meth c Q D K base nL n0 s0 f) : Go p l e R s m args below meth c Q D K base nL n0 s0 (pc, ls, st, σ) := by
  split at he
  next y x st =>
    split at he
    next hl => subst hl; cases he; exact go_pure (fun _ _ _ _ _ _ hw => lv_lmul C.1 C.2.1 hd hw) kk
    next => cases he
  next => cases he

theorem go_lneg (C : CT p R s m c meth D K base cc nL o ini h w) (hd : decode cc pc = .ok (.lneg, len)) (he : (match st with | .long x :: st => if len = 1 then some (pc + 1, ls, .long (-x) :: st, σ) else none | _ => (none : Option Fr)) = some f) (kk : Go p l e R s m args below meth c Q D K base nL n0 s0 f) : Go p l e R s m args below meth c Q D K base nL n0 s0 (pc, ls, st, σ) := by
  split at he
  next x st =>
    split at he
    next hl => subst hl; cases he; exact go_pure (fun _ _ _ _ _ _ hw => lv_lneg C.1 C.2.1 hd hw) kk
    next => cases he
  next => cases he

theorem go_lcmp (C : CT p R s m c meth D K base cc nL o ini h w) (hd : decode cc pc = .ok (.lcmp, len)) (he : (match st with | .long y :: .long x :: st => if len = 1 then some (pc + 1, ls, .int (lg_cmp x y) :: st, σ) else none | _ => (none : Option Fr)) = some f) (kk : Go p l e R s m args below meth c Q D K base nL n0 s0 f) : Go p l e R s m args below meth c Q D K base nL n0 s0 (pc, ls, st, σ) := by
  split at he
  next y x st =>
    split at he
    next hl => subst hl; cases he; exact go_pure (fun _ _ _ _ _ _ hw => W.lcmp C.1 C.2.1 hd hw) kk
    next => cases he
  next => cases he

theorem go_i2l (C : CT p R s m c meth D K base cc nL o ini h w) (hd : decode cc pc = .ok (.i2l, len)) (he : (match st with | .int x :: st => if len = 1 then some (pc + 1, ls, .long x.toInt64 :: st, σ) else none | _ => (none : Option Fr)) = some f) (kk : Go p l e R s m args below meth c Q D K base nL n0 s0 f) : Go p l e R s m args below meth c Q D K base nL n0 s0 (pc, ls, st, σ) := by
  split at he
  next x st =>
    split at he
    next hl => subst hl; cases he; exact go_pure (fun _ _ _ _ _ _ hw => lv_i2l C.1 C.2.1 hd rfl hw) kk
    next => cases he
  next => cases he

theorem go_l2i (C : CT p R s m c meth D K base cc nL o ini h w) (hd : decode cc pc = .ok (.l2i, len)) (he : (match st with | .long x :: st => if len = 1 then some (pc + 1, ls, .int x.toInt32 :: st, σ) else none | _ => (none : Option Fr)) = some f) (kk : Go p l e R s m args below meth c Q D K base nL n0 s0 f) : Go p l e R s m args below meth c Q D K base nL n0 s0 (pc, ls, st, σ) := by
  split at he
  next x st =>
    split at he
    next hl => subst hl; cases he; exact go_pure (fun _ _ _ _ _ _ hw => lv_l2i C.1 C.2.1 hd rfl hw) kk
    next => cases he
  next => cases he

theorem go_idiv (C : CT p R s m c meth D K base cc nL o ini h w) (hd : decode cc pc = .ok (.idiv, len)) (he : (match st with | .int y :: .int x :: st => if len = 1 ∧ ¬ y = 0 then some (pc + 1, ls, .int (x / y) :: st, σ) else none | _ => (none : Option Fr)) = some f) (kk : Go p l e R s m args below meth c Q D K base nL n0 s0 f) : Go p l e R s m args below meth c Q D K base nL n0 s0 (pc, ls, st, σ) := by
  split at he
  next y x st =>
    split at he
    next hl => obtain ⟨h1, h2⟩ := hl; subst h1; cases he; exact go_pure (fun _ _ _ _ _ _ hw => lv_idiv C.1 C.2.1 hd h2 hw) kk
    next => cases he
  next => cases he

theorem go_irem (C : CT p R s m c meth D K base cc nL o ini h w) (hd : decode cc pc = .ok (.irem, len)) (he : (match st with | .int y :: .int x :: st => if len = 1 ∧ ¬ y = 0 then some (pc + 1, ls, .int (x - x / y * y) :: st, σ) else none | _ => (none : Option Fr)) = some f) (kk : Go p l e R s m args below meth c Q D K base nL n0 s0 f) : Go p l e R s m args below meth c Q D K base nL n0 s0 (pc, ls, st, σ) := by
  split at he
  next y x st =>
    split at he
    next hl => obtain ⟨h1, h2⟩ := hl; subst h1; cases he; exact go_pure (fun _ _ _ _ _ _ hw => lv_irem C.1 C.2.1 hd h2 hw) kk
    next => cases he
  next => cases he

theorem go_dup (C : CT p R s m c meth D K base cc nL o ini h w) (hd : decode cc pc = .ok (.dup, len)) (he : (match st with | v :: st => if len = 1 ∧ v.category = 1 then some (pc + 1, ls, v :: v :: st, σ) else none | _ => (none : Option Fr)) = some f) (kk : Go p l e R s m args below meth c Q D K base nL n0 s0 f) : Go p l e R s m args below meth c Q D K base nL n0 s0 (pc, ls, st, σ) := by
  split at he
  next v st =>
    split at he
    next hl => obtain ⟨h0, h1⟩ := hl; subst h0; cases he; exact go_pure (fun _ _ _ _ _ _ hw => lv_dup C.1 C.2.1 hd h1 hw) kk
    next => cases he
  next => cases he

theorem go_dup2 (C : CT p R s m c meth D K base cc nL o ini h w) (hd : decode cc pc = .ok (.dup2, len)) (he : (match st with | v :: u :: st => if len = 1 ∧ v.category = 1 ∧ u.category = 1 then some (pc + 1, ls, v :: u :: v :: u :: st, σ) else none | _ => (none : Option Fr)) = some f) (kk : Go p l e R s m args below meth c Q D K base nL n0 s0 f) : Go p l e R s m args below meth c Q D K base nL n0 s0 (pc, ls, st, σ) := by
  split at he
  next v u st =>
    split at he
    next hl => obtain ⟨h0, h1⟩ := hl; subst h0; cases he; exact go_pure (fun _ _ _ _ _ _ hw => lv_dup2_11 C.1 C.2.1 hd h1.1 h1.2 hw) kk
    next => cases he
  next => cases he

theorem go_dup_x1 (C : CT p R s m c meth D K base cc nL o ini h w) (hd : decode cc pc = .ok (.dup_x1, len)) (he : (match st with | v :: u :: st => if len = 1 ∧ v.category = 1 ∧ u.category = 1 then some (pc + 1, ls, v :: u :: v :: st, σ) else none | _ => (none : Option Fr)) = some f) (kk : Go p l e R s m args below meth c Q D K base nL n0 s0 f) : Go p l e R s m args below meth c Q D K base nL n0 s0 (pc, ls, st, σ) := by
  split at he
  next v u st =>
    split at he
    next hl => obtain ⟨h0, h1⟩ := hl; subst h0; cases he; exact go_pure (fun _ _ _ _ _ _ hw => lv_dup_x1 C.1 C.2.1 hd h1.1 h1.2 hw) kk
    next => cases he
  next => cases he

theorem go_pop (C : CT p R s m c meth D K base cc nL o ini h w) (hd : decode cc pc = .ok (.pop, len)) (he : (match st with | v :: st => if len = 1 ∧ v.category = 1 then some (pc + 1, ls, st, σ) else none | _ => (none : Option Fr)) = some f) (kk : Go p l e R s m args below meth c Q D K base nL n0 s0 f) : Go p l e R s m args below meth c Q D K base nL n0 s0 (pc, ls, st, σ) := by
  split at he
  next v st =>
    split at he
    next hl => obtain ⟨h0, h1⟩ := hl; subst h0; cases he; exact go_pure (fun _ _ _ _ _ _ hw => lv_pop C.1 C.2.1 hd h1 hw) kk
    next => cases he
  next => cases he

theorem go_ifCond (C : CT p R s m c meth D K base cc nL o ini h w) {cn : ClassFile.Cond} {off : Int} (hd : decode cc pc = .ok (.ifCond cn off, len)) (he : (match st with | .int x :: st => if len = 3 ∧ 0 ≤ (pc : Int) + off then some (if cnd cn x 0 = true then ((pc : Int) + off).toNat else pc + 3, ls, st, σ) else none | _ => (none : Option Fr)) = some f) (kk : Go p l e R s m args below meth c Q D K base nL n0 s0 f) : Go p l e R s m args below meth c Q D K base nL n0 s0 (pc, ls, st, σ) := by
  split at he
  next x st =>
    split at he
    next hl =>
      obtain ⟨hl, hp⟩ := hl
      subst hl; cases he
      refine go_pure (fun _ _ _ _ _ _ hw => ?_) kk
      cases cn
      · exact lv_if_eq (tgt := ((pc : Int) + off).toNat) C.1 C.2.1 hd (by omega) (fun hn => by rw [if_pos (show cnd ClassFile.Cond.eq x 0 = true from decide_eq_true hn)] at hw; exact hw) (fun hn => by rw [if_neg (show ¬ cnd ClassFile.Cond.eq x 0 = true from fun q => hn (of_decide_eq_true q))] at hw; exact hw)
      · exact lv_if_ne (tgt := ((pc : Int) + off).toNat) C.1 C.2.1 hd (by omega) (fun hn => by rw [if_pos (show cnd ClassFile.Cond.ne x 0 = true from decide_eq_true hn)] at hw; exact hw) (fun hn => by rw [if_neg (show ¬ cnd ClassFile.Cond.ne x 0 = true from fun q => of_decide_eq_true q hn)] at hw; exact hw)
      · exact lv_if_lt (tgt := ((pc : Int) + off).toNat) C.1 C.2.1 hd (by omega) (fun hn => by rw [if_pos (show cnd ClassFile.Cond.lt x 0 = true from decide_eq_true hn)] at hw; exact hw) (fun hn => by rw [if_neg (show ¬ cnd ClassFile.Cond.lt x 0 = true from fun q => hn (of_decide_eq_true q))] at hw; exact hw)
      · exact lv_if_ge (tgt := ((pc : Int) + off).toNat) C.1 C.2.1 hd (by omega) (fun hn => by rw [if_pos (show cnd ClassFile.Cond.ge x 0 = true from decide_eq_true hn)] at hw; exact hw) (fun hn => by rw [if_neg (show ¬ cnd ClassFile.Cond.ge x 0 = true from fun q => hn (of_decide_eq_true q))] at hw; exact hw)
      · exact lv_if_gt (tgt := ((pc : Int) + off).toNat) C.1 C.2.1 hd (by omega) (fun hn => by rw [if_pos (show cnd ClassFile.Cond.gt x 0 = true from decide_eq_true hn)] at hw; exact hw) (fun hn => by rw [if_neg (show ¬ cnd ClassFile.Cond.gt x 0 = true from fun q => hn (of_decide_eq_true q))] at hw; exact hw)
      · exact lv_if_le (tgt := ((pc : Int) + off).toNat) C.1 C.2.1 hd (by omega) (fun hn => by rw [if_pos (show cnd ClassFile.Cond.le x 0 = true from decide_eq_true hn)] at hw; exact hw) (fun hn => by rw [if_neg (show ¬ cnd ClassFile.Cond.le x 0 = true from fun q => hn (of_decide_eq_true q))] at hw; exact hw)
    next => cases he
  next => cases he

theorem go_if_icmp (C : CT p R s m c meth D K base cc nL o ini h w) {cn : ClassFile.Cond} {off : Int} (hd : decode cc pc = .ok (.if_icmp cn off, len)) (he : (match st with | .int y :: .int x :: st => if len = 3 ∧ 0 ≤ (pc : Int) + off then some (if cnd cn x y = true then ((pc : Int) + off).toNat else pc + 3, ls, st, σ) else none | _ => (none : Option Fr)) = some f) (kk : Go p l e R s m args below meth c Q D K base nL n0 s0 f) : Go p l e R s m args below meth c Q D K base nL n0 s0 (pc, ls, st, σ) := by
  split at he
  next y x st =>
    split at he
    next hl =>
      obtain ⟨hl, hp⟩ := hl
      subst hl; cases he
      refine go_pure (fun _ _ _ _ _ _ hw => ?_) kk
      cases cn
      · exact lv_icmp_eq (tgt := ((pc : Int) + off).toNat) C.1 C.2.1 hd (by omega) (fun hn => by rw [if_pos (show cnd ClassFile.Cond.eq x y = true from decide_eq_true hn)] at hw; exact hw) (fun hn => by rw [if_neg (show ¬ cnd ClassFile.Cond.eq x y = true from fun q => hn (of_decide_eq_true q))] at hw; exact hw)
      · exact lv_icmp_ne (tgt := ((pc : Int) + off).toNat) C.1 C.2.1 hd (by omega) (fun hn => by rw [if_pos (show cnd ClassFile.Cond.ne x y = true from decide_eq_true hn)] at hw; exact hw) (fun hn => by rw [if_neg (show ¬ cnd ClassFile.Cond.ne x y = true from fun q => of_decide_eq_true q hn)] at hw; exact hw)
      · exact lv_icmp_lt (tgt := ((pc : Int) + off).toNat) C.1 C.2.1 hd (by omega) (fun hn => by rw [if_pos (show cnd ClassFile.Cond.lt x y = true from decide_eq_true hn)] at hw; exact hw) (fun hn => by rw [if_neg (show ¬ cnd ClassFile.Cond.lt x y = true from fun q => hn (of_decide_eq_true q))] at hw; exact hw)
      · exact lv_icmp_ge (tgt := ((pc : Int) + off).toNat) C.1 C.2.1 hd (by omega) (fun hn => by rw [if_pos (show cnd ClassFile.Cond.ge x y = true from decide_eq_true hn)] at hw; exact hw) (fun hn => by rw [if_neg (show ¬ cnd ClassFile.Cond.ge x y = true from fun q => hn (of_decide_eq_true q))] at hw; exact hw)
      · exact lv_icmp_gt (tgt := ((pc : Int) + off).toNat) C.1 C.2.1 hd (by omega) (fun hn => by rw [if_pos (show cnd ClassFile.Cond.gt x y = true from decide_eq_true hn)] at hw; exact hw) (fun hn => by rw [if_neg (show ¬ cnd ClassFile.Cond.gt x y = true from fun q => hn (of_decide_eq_true q))] at hw; exact hw)
      · exact lv_icmp_le (tgt := ((pc : Int) + off).toNat) C.1 C.2.1 hd (by omega) (fun hn => by rw [if_pos (show cnd ClassFile.Cond.le x y = true from decide_eq_true hn)] at hw; exact hw) (fun hn => by rw [if_neg (show ¬ cnd ClassFile.Cond.le x y = true from fun q => hn (of_decide_eq_true q))] at hw; exact hw)
    next => cases he
  next => cases he

end GO
