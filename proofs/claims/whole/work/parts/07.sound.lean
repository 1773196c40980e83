/-! every instruction; a run of the small machine is one of the machine's -/
section GS
variable {p : Program} {l : Launch} {e : Env} {R : Room} {s : State} {m : MethodId} {args : Array Value} {below : List Frame} {meth : Method} {c : Code} {Q : State → Prop} {D : va_G} {K : Nat → ClassId} {base : Nat} {cc : ByteArray} {nL o n0 s0 h w : Nat} {ini : Bool}
variable {pc len : Nat} {ls st : List Value} {σ : Hp} {f : Fr}
theorem go_ifnull (C : CT p R s m c meth D K base cc nL o ini h w) {off : Int} (hd : decode cc pc = .ok (.ifnull off, len)) (he : (match st with | .ref _ :: st => if len = 3 then some (pc + 3, ls, st, σ) else none | .null :: st => if len = 3 then jmp pc off ls st σ else none | _ => (none : Option Fr)) = some f) (kk : Go p l e R s m args below meth c Q D K base nL n0 s0 f) : Go p l e R s m args below meth c Q D K base nL n0 s0 (pc, ls, st, σ) := by
  split at he
  next a st' =>
    split at he
    next hl => subst hl; cases he; exact go_pure (fun _ _ _ _ _ _ hw => lv_ifnull C.1 C.2.1 hd hw) kk
    next => cases he
  next st' =>
    split at he
    next hl =>
      subst hl
      unfold jmp at he
      split at he
      next hp => cases he; exact go_pure (fun _ _ _ _ _ _ hw => lv_ifnullN C.1 C.2.1 hd (by omega) hw) kk
      next => cases he
    next => cases he
  next => cases he
theorem go_ifnonnull (C : CT p R s m c meth D K base cc nL o ini h w) {off : Int} (hd : decode cc pc = .ok (.ifnonnull off, len)) (he : (match st with | .ref _ :: st => if len = 3 then jmp pc off ls st σ else none | .null :: st => if len = 3 then some (pc + 3, ls, st, σ) else none | _ => (none : Option Fr)) = some f) (kk : Go p l e R s m args below meth c Q D K base nL n0 s0 f) : Go p l e R s m args below meth c Q D K base nL n0 s0 (pc, ls, st, σ) := by
  split at he
  next a st' =>
    split at he
    next hl =>
      subst hl
      unfold jmp at he
      split at he
      next hp => cases he; exact go_pure (fun _ _ _ _ _ _ hw => lv_ifnonnull C.1 C.2.1 hd (by omega) hw) kk
      next => cases he
    next => cases he
  next st' =>
    split at he
    next hl => subst hl; cases he; exact go_pure (fun _ _ _ _ _ _ hw => lv_ifnonnullN C.1 C.2.1 hd hw) kk
    next => cases he
  next => cases he
theorem go_table (C : CT p R s m c meth D K base cc nL o ini h w) {d lo hi : Int} {offs : Array Int} (hd : decode cc pc = .ok (.tableswitch d lo hi offs, len)) (he : (match st with | .int x :: st => if x.toInt < lo ∨ hi < x.toInt then jmp pc d ls st σ else (match offs[(x.toInt - lo).toNat]? with | some off => jmp pc off ls st σ | none => none) | _ => (none : Option Fr)) = some f) (kk : Go p l e R s m args below meth c Q D K base nL n0 s0 f) : Go p l e R s m args below meth c Q D K base nL n0 s0 (pc, ls, st, σ) := by
  split at he
  next x st' =>
    split at he
    next hx =>
      unfold jmp at he
      split at he
      next hp => cases he; exact go_pure (fun _ _ _ _ _ _ hw => lv_tableOut C.1 C.2.1 hd hx (by omega) hw) kk
      next => cases he
    next hx =>
      split at he
      next off ho =>
        unfold jmp at he
        split at he
        next hp => cases he; exact go_pure (fun _ _ _ _ _ _ hw => lv_tableIn C.1 C.2.1 hd (fun q => hx (Or.inl q)) (fun q => hx (Or.inr q)) ho (by omega) hw) kk
        next => cases he
      next => cases he
  next => cases he
theorem go_lookup (C : CT p R s m c meth D K base cc nL o ini h w) {d : Int} {ps : Array (Int × Int)} (hd : decode cc pc = .ok (.lookupswitch d ps, len)) (he : (match st with | .int x :: st => if (ps.toList.zip (ps.toList.drop 1)).all (fun (a, next) => a.1 < next.1) = true then jmp pc (Op.lookupswitch.offset ps.toList d x.toInt) ls st σ else none | _ => (none : Option Fr)) = some f) (kk : Go p l e R s m args below meth c Q D K base nL n0 s0 f) : Go p l e R s m args below meth c Q D K base nL n0 s0 (pc, ls, st, σ) := by
  split at he
  next x st' =>
    split at he
    next hx =>
      unfold jmp at he
      split at he
      next hp => cases he; exact go_pure (fun _ _ _ _ _ _ hw => lv_lookup C.1 C.2.1 hd hx rfl (by omega) hw) kk
      next => cases he
    next => cases he
  next => cases he
theorem go_objInit (C : CT p R s m c meth D K base cc nL o ini h w) (ho : o < 8) (hd : decode cc pc = .ok (.invokespecial 3, len)) (he : (match st with | .ref _ :: st => if len = 3 ∧ 1 ≤ h ∧ 20 ≤ w ∧ (st.map fun v => v.category).sum ≤ 8 then some (pc + 3, ls, st, σ) else none | _ => (none : Option Fr)) = some f) (kk : Go p l e R s m args below meth c Q D K base nL n0 s0 f) : Go p l e R s m args below meth c Q D K base nL n0 s0 (pc, ls, st, σ) := by
  split at he
  next a st' =>
    split at he
    next hl =>
      obtain ⟨hl, hh, hw', hsum⟩ := hl
      subst hl; cases he
      refine go_pure (fun _ _ _ _ _ hL hw => ?_) kk
      have hlink := (C.2.2.2.2.1.2.2.2.2.2.2.2.2.1 o ho).1
      have hR := C.2.2.2.2.2.2.2.2
      exact W.objInit C.1 C.2.1 C.2.2.2.1 (hlink _) (C.xw (List.mem_of_getElem? (i := 6) rfl)) (C.xw (List.mem_of_getElem? (i := 7) rfl)) rfl (by rw [C.2.2.1]; exact hL.size) rfl hd (Nat.le_trans hh C.2.2.2.2.2.2.2.1) (by show 2 * 0 + _ + _ ≤ _; omega) hw
    next => cases he
  next => cases he
theorem go_bin (C : CT p R s m c meth D K base cc nL o ini h w) {i : Instr} {g : Int32 → Int32 → Int32} (hg : bin i = some g) (hd : decode cc pc = .ok (i, len)) (he : (match st with | .int y :: .int x :: st => if len = 1 then some (pc + 1, ls, .int (g x y) :: st, σ) else none | _ => (none : Option Fr)) = some f) (kk : Go p l e R s m args below meth c Q D K base nL n0 s0 f) : Go p l e R s m args below meth c Q D K base nL n0 s0 (pc, ls, st, σ) := by
  split at he
  next y x st' =>
    split at he
    next hl =>
      subst hl; cases he
      refine go_pure (fun _ _ _ _ _ _ hw => ?_) kk
      cases i <;> simp only [bin, Option.some.injEq, reduceCtorEq] at hg <;> subst hg
      · exact lv_iadd C.1 C.2.1 hd hw
      · exact lv_iand C.1 C.2.1 hd hw
      · exact lv_imul C.1 C.2.1 hd hw
      · exact lv_ior C.1 C.2.1 hd hw
      · exact lv_ishl C.1 C.2.1 hd hw
      · exact lv_ishr C.1 C.2.1 hd hw
      · exact lv_isub C.1 C.2.1 hd hw
      · exact lv_iushr C.1 C.2.1 hd rfl hw
      · exact lv_ixor C.1 C.2.1 hd hw
    next => cases he
  next => cases he
theorem go_una (C : CT p R s m c meth D K base cc nL o ini h w) {i : Instr} {g : Int32 → Int32} (hg : una i = some g) (hd : decode cc pc = .ok (i, len)) (he : (match st with | .int x :: st => if len = 1 then some (pc + 1, ls, .int (g x) :: st, σ) else none | _ => (none : Option Fr)) = some f) (kk : Go p l e R s m args below meth c Q D K base nL n0 s0 f) : Go p l e R s m args below meth c Q D K base nL n0 s0 (pc, ls, st, σ) := by
  split at he
  next x st' =>
    split at he
    next hl =>
      subst hl; cases he
      refine go_pure (fun _ _ _ _ _ _ hw => ?_) kk
      cases i <;> simp only [una, Option.some.injEq, reduceCtorEq] at hg <;> subst hg
      · exact lv_i2b C.1 C.2.1 hd rfl hw
      · exact lv_i2c C.1 C.2.1 hd rfl hw
      · exact lv_i2s C.1 C.2.1 hd rfl hw
    next => cases he
  next => cases he
theorem go_inv {call : Nat → List Value → Hp → Option Rs} (hOS : OS l D K base call) (C : CT p R s m c meth D K base cc nL o ini h w) {k idx : Nat} {ins : Instr} (hk : (k = 0 ∧ ins = .invokestatic idx) ∨ (k = 1 ∧ ins = .invokevirtual idx) ∨ (k = 2 ∧ ins = .invokespecial idx)) (hd : decode cc pc = .ok (ins, len)) (he : inv0 call h w o k idx pc len ls st σ = some f)
    (h1 : n0 ≤ σ.2.1) (h2 : s0 ≤ σ.2.2) (h3 : f.2.2.2.2.1 - n0 ≤ R.cells) (h4 : f.2.2.2.2.2 - s0 ≤ R.slots) (kk : Go p l e R s m args below meth c Q D K base nL n0 s0 f) : Go p l e R s m args below meth c Q D K base nL n0 s0 (pc, ls, st, σ) := by
  unfold inv0 at he
  split at he
  next hki =>
    obtain ⟨hk2, hi3, ho⟩ := hki
    subst hk2; subst hi3
    rcases hk with ⟨q, -⟩ | ⟨q, -⟩ | ⟨-, rfl⟩
    · exact absurd q (by decide)
    · exact absurd q (by decide)
    exact go_objInit C ho hd he kk
  next =>
    split at he
    next hki =>
      obtain ⟨hk0, hic⟩ := hki
      subst hk0
      rcases hk with ⟨-, rfl⟩ | ⟨q, -⟩ | ⟨q, -⟩
      · split at he
        next hr => exact go_copy C hic hr.1 hr.2 hd he kk
        next => cases he
      · exact absurd q (by decide)
      · exact absurd q (by decide)
    next => exact go_call C hOS hk hd he h1 h2 h3 h4 kk
theorem go_step {call : Nat → List Value → Hp → Option Rs} (hOS : OS l D K base call) (C : CT p R s m c meth D K base cc nL o ini h w) {i : Instr} (hd : decode cc pc = .ok (i, len)) (he : ex call ini h w o i len pc ls st σ = some f)
    (h1 : n0 ≤ σ.2.1) (h2 : s0 ≤ σ.2.2) (h3 : f.2.2.2.2.1 - n0 ≤ R.cells) (h4 : f.2.2.2.2.2 - s0 ≤ R.slots) (kk : Go p l e R s m args below meth c Q D K base nL n0 s0 f) : Go p l e R s m args below meth c Q D K base nL n0 s0 (pc, ls, st, σ) := by
  cases i
  case iload_n => exact go_iload_n C hd he kk
  case iload => exact go_iload C hd he kk
  case lload_n => exact go_lload_n C hd he kk
  case lload => exact go_lload C hd he kk
  case aload_n => exact go_aload_n C hd he kk
  case aload => exact go_aload C hd he kk
  case istore_n => exact go_istore_n C hd he kk
  case istore => exact go_istore C hd he kk
  case lstore_n => exact go_lstore_n C hd he kk
  case lstore => exact go_lstore C hd he kk
  case astore_n => exact go_astore_n C hd he kk
  case astore => exact go_astore C hd he kk
  case iinc => exact go_iinc C hd he kk
  case iconst => exact go_iconst C hd he kk
  case bipush => exact go_bipush C hd he kk
  case sipush => exact go_sipush C hd he kk
  case lconst => exact go_lconst C hd he kk
  case aconst_null => exact go_null C hd he kk
  case ldc => exact go_ldc C hd he kk
  case ldc_w => exact go_ldcw C hd he kk
  case ldc2_w => exact go_ldc2 C hd he kk
  case ladd => exact go_ladd C hd he kk
  case lmul => exact go_lmul C hd he kk
  case lneg => exact go_lneg C hd he kk
  case lcmp => exact go_lcmp C hd he kk
  case i2l => exact go_i2l C hd he kk
  case l2i => exact go_l2i C hd he kk
  case idiv => exact go_idiv C hd he kk
  case irem => exact go_irem C hd he kk
  case dup => exact go_dup C hd he kk
  case dup2 => exact go_dup2 C hd he kk
  case dup_x1 => exact go_dup_x1 C hd he kk
  case pop => exact go_pop C hd he kk
  case ifCond => exact go_ifCond C hd he kk
  case if_icmp => exact go_if_icmp C hd he kk
  case goto => exact go_jmp C hd he kk
  case ifnull => exact go_ifnull C hd he kk
  case ifnonnull => exact go_ifnonnull C hd he kk
  case tableswitch => exact go_table C hd he kk
  case lookupswitch => exact go_lookup C hd he kk
  case getfield => exact go_getfield C hd he kk
  case putfield => exact go_putfield C hd he kk
  case iaload => exact go_iaload C hd he kk
  case caload => exact go_caload C hd he kk
  case laload => exact go_laload C hd he kk
  case aaload => exact go_aaload C hd he kk
  case iastore => exact go_iastore C hd he kk
  case castore => exact go_castore C hd he kk
  case lastore => exact go_lastore C hd he kk
  case aastore => exact go_aastore C hd he kk
  case arraylength => exact go_alen C hd he kk
  case baload =>
    simp only [ex] at he
    split at he
    next r hr => cases he; exact go_baloadB C hd hr kk
    next => exact go_baloadZ C hd he kk
  case bastore =>
    simp only [ex] at he
    split at he
    next r hr => cases he; exact go_bastoreB C hd hr kk
    next => exact go_bastoreZ C hd he kk
  case new => exact go_new C hd he h1 h2 h3 h4 kk
  case newarray => exact go_newarray C hd he h1 h2 h3 h4 kk
  case anewarray => exact go_anewarray C hd he h1 h2 h3 h4 kk
  case invokevirtual j => exact go_inv hOS C (k := 1) (Or.inr (Or.inl ⟨rfl, rfl⟩)) hd he h1 h2 h3 h4 kk
  case invokestatic j => exact go_inv hOS C (k := 0) (Or.inl ⟨rfl, rfl⟩) hd he h1 h2 h3 h4 kk
  case invokespecial j => exact go_inv hOS C (k := 2) (Or.inr (Or.inr ⟨rfl, rfl⟩)) hd he h1 h2 h3 h4 kk
  all_goals
    simp only [ex] at he
    split at he
    next g hg => exact go_bin C hg hd he kk
    next hg =>
      split at he
      next g hg => exact go_una C hg hd he kk
      next => cases he
end GS
