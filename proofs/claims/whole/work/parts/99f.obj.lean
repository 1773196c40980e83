/-! a run keeps every object's class; an int method answers an int -/
def kO (σ τ : Hp) : Prop := ∀ a k, a < σ.2.1 → hObj σ a = some k → hObj τ a = some k
section OB
variable {σ τ : Hp} {ls st : List Value} {pc len : Nat} {f : Fr}
theorem kO.rf : kO σ σ := fun _ _ _ h => h
theorem kO.put {a ci k : Nat} {v : Value} (h : hPut σ a ci k v = some τ) : kO σ τ := by
  unfold hPut at h
  split at h
  next o ho =>
    split at h
    next hc =>
      cases h
      intro b j _ hb
      by_cases hba : b = a
      · subst hba
        unfold hObj at hb ⊢
        rw [ho] at hb
        rw [show (hup σ b (.inr (o.1, o.2.set k v))).1 b = some (.inr (o.1, o.2.set k v)) from hup_at]
        exact hb
      · unfold hObj at hb ⊢
        rw [show (hup σ a (.inr (o.1, o.2.set k v))).1 b = σ.1 b from hup_ne hba]
        exact hb
    next => cases h
  next => cases h
theorem kO.arr {a : Nat} {E : va_E} (h : hObj σ a = none) : kO σ (hup σ a E) := fun b j _ hb => by
  by_cases hba : b = a
  · subst hba; rw [h] at hb; cases hb
  · unfold hObj at hb ⊢
    rw [hup_ne hba]
    exact hb
theorem kO.new {E : va_E} {k : Nat} : kO σ (hnew σ E k) := fun b j h1 hb => by
  unfold hObj at hb ⊢
  rw [hnew_ne (by omega)]
  exact hb
theorem hI_no {a t : Nat} {q : Nat × (Nat → Int32)} (h : hI σ a t = some q) : hObj σ a = none := by
  unfold hI at h
  split at h
  next hs => unfold hObj; rw [hs]
  next => cases h
theorem hL_no {a t : Nat} {q : Nat × (Nat → Int64)} (h : hL σ a t = some q) : hObj σ a = none := by
  unfold hL at h
  split at h
  next hs => unfold hObj; rw [hs]
  next => cases h
theorem hR_no {a : Nat} {q : Nat × Nat × (Nat → Option Nat)} (h : hR σ a = some q) : hObj σ a = none := by
  unfold hR at h
  split at h
  next hs => unfold hObj; rw [hs]
  next => cases h
theorem kO_ldI {k n : Nat} (h : ldI k n pc len ls st σ = some f) : kO σ f.2.2.2 := by
  unfold ldI at h
  repeat' split at h
  all_goals first | (cases h; exact kO.rf) | cases h
theorem kO_ldL {k n : Nat} (h : ldL k n pc len ls st σ = some f) : kO σ f.2.2.2 := by
  unfold ldL at h
  repeat' split at h
  all_goals first | (cases h; exact kO.rf) | cases h
theorem kO_ldA {k n : Nat} (h : ldA k n pc len ls st σ = some f) : kO σ f.2.2.2 := by
  unfold ldA at h
  repeat' split at h
  all_goals first | (cases h; exact kO.rf) | cases h
theorem kO_stI {k n : Nat} (h : stI k n pc len ls st σ = some f) : kO σ f.2.2.2 := by
  unfold stI at h
  repeat' split at h
  all_goals first | (cases h; exact kO.rf) | cases h
theorem kO_stL {k n : Nat} (h : stL k n pc len ls st σ = some f) : kO σ f.2.2.2 := by
  unfold stL at h
  repeat' split at h
  all_goals first | (cases h; exact kO.rf) | cases h
theorem kO_stA {k n : Nat} (h : stA k n pc len ls st σ = some f) : kO σ f.2.2.2 := by
  unfold stA at h
  repeat' split at h
  all_goals first | (cases h; exact kO.rf) | cases h
theorem kO_incI {k : Nat} {d : Int} (h : incI k d pc len ls st σ = some f) : kO σ f.2.2.2 := by
  unfold incI at h
  repeat' split at h
  all_goals first | (cases h; exact kO.rf) | cases h
theorem kO_gfl {o j : Nat} (h : gfl o j pc len ls st σ = some f) : kO σ f.2.2.2 := by
  unfold gfl at h
  repeat' split at h
  all_goals first | (cases h; exact kO.rf) | cases h
theorem kO_jmp {d : Int} (h : jmp pc d ls st σ = some f) : kO σ f.2.2.2 := by
  unfold jmp at h
  repeat' split at h
  all_goals first | (cases h; exact kO.rf) | cases h
theorem kO_aldI {t : Nat} (h : aldI t pc len ls st σ = some f) : kO σ f.2.2.2 := by
  unfold aldI at h
  repeat' split at h
  all_goals first | (cases h; exact kO.rf) | cases h
theorem kO_aldL (h : aldL pc len ls st σ = some f) : kO σ f.2.2.2 := by
  unfold aldL at h
  repeat' split at h
  all_goals first | (cases h; exact kO.rf) | cases h
theorem kO_aldR (h : aldR pc len ls st σ = some f) : kO σ f.2.2.2 := by
  unfold aldR at h
  repeat' split at h
  all_goals first | (cases h; exact kO.rf) | cases h
theorem kO_alen (h : alen pc len ls st σ = some f) : kO σ f.2.2.2 := by
  unfold alen at h
  repeat' split at h
  all_goals first | (cases h; exact kO.rf) | cases h
theorem kO_pfl {ini : Bool} {o j : Nat} (h : pfl ini o j pc len ls st σ = some f) : kO σ f.2.2.2 := by
  unfold pfl at h
  split at h
  next =>
    split at h
    next hp =>
      split at h
      next => cases h; exact kO.put hp
      next => cases h
    next => cases h
  next => cases h
theorem kO_astI {t : Nat} (h : astI t pc len ls st σ = some f) : kO σ f.2.2.2 := by
  unfold astI at h
  split at h
  next =>
    split at h
    next hp =>
      split at h
      next => cases h; exact kO.arr (hI_no hp)
      next => cases h
    next => cases h
  next => cases h
theorem kO_astL (h : astL pc len ls st σ = some f) : kO σ f.2.2.2 := by
  unfold astL at h
  split at h
  next =>
    split at h
    next hp =>
      split at h
      next => cases h; exact kO.arr (hL_no hp)
      next => cases h
    next => cases h
  next => cases h
theorem kO_astR (h : astR pc len ls st σ = some f) : kO σ f.2.2.2 := by
  unfold astR at h
  split at h
  next =>
    split at h
    next hp _ =>
      split at h
      next => cases h; exact kO.arr (hR_no hp)
      next => cases h
    next => cases h
  next => cases h
theorem kO_newO {o j : Nat} (h : newO o j pc len ls st σ = some f) : kO σ f.2.2.2 := by
  unfold newO at h
  repeat' split at h
  all_goals first | (cases h; exact kO.new) | cases h
theorem kO_newP {t : ArrayType} (h : newP t pc len ls st σ = some f) : kO σ f.2.2.2 := by
  unfold newP at h
  repeat' split at h
  all_goals first | (cases h; exact kO.new) | cases h
theorem kO_newA {o j : Nat} (h : newA o j pc len ls st σ = some f) : kO σ f.2.2.2 := by
  unfold newA at h
  repeat' split at h
  all_goals first | (cases h; exact kO.new) | cases h
theorem kO_cpy (h : cpy pc len ls st σ = some f) : kO σ f.2.2.2 := by
  unfold cpy at h
  split at h
  next =>
    split at h
    next _ hp =>
      split at h
      next => cases h; exact kO.arr (hI_no hp)
      next => cases h
    next => cases h
  next => cases h
theorem kO_inv0 {call : Nat → List Value → Hp → Option Rs} (hc : ∀ j as v τ, call j as σ = some (v, τ) → kO σ τ) {h w o k idx : Nat} (he : inv0 call h w o k idx pc len ls st σ = some f) : kO σ f.2.2.2 := by
  unfold inv0 at he
  split at he
  next =>
    repeat' split at he
    all_goals first | (cases he; exact kO.rf) | cases he
  next =>
    split at he
    next =>
      split at he
      next => exact kO_cpy he
      next => cases he
    next =>
      unfold cal at he
      split at he
      next =>
        split at he
        next =>
          split at he
          next hcall => cases he; exact hc _ _ _ _ hcall
          next => cases he
        next => cases he
      next => cases he
theorem kO_ex {call : Nat → List Value → Hp → Option Rs} (hc : ∀ j as v τ, call j as σ = some (v, τ) → kO σ τ) {ini : Bool} {h w o : Nat} {i : Instr} (he : ex call ini h w o i len pc ls st σ = some f) : kO σ f.2.2.2 := by
  cases i
  case iload_n => exact kO_ldI he
  case iload => exact kO_ldI he
  case lload_n => exact kO_ldL he
  case lload => exact kO_ldL he
  case aload_n => exact kO_ldA he
  case aload => exact kO_ldA he
  case istore_n => exact kO_stI he
  case istore => exact kO_stI he
  case lstore_n => exact kO_stL he
  case lstore => exact kO_stL he
  case astore_n => exact kO_stA he
  case astore => exact kO_stA he
  case iinc => exact kO_incI he
  case getfield => exact kO_gfl he
  case putfield => exact kO_pfl he
  case iaload => exact kO_aldI he
  case caload => exact kO_aldI he
  case laload => exact kO_aldL he
  case aaload => exact kO_aldR he
  case iastore => exact kO_astI he
  case castore => exact kO_astI he
  case lastore => exact kO_astL he
  case aastore => exact kO_astR he
  case arraylength => exact kO_alen he
  case new => exact kO_newO he
  case newarray => exact kO_newP he
  case anewarray => exact kO_newA he
  case invokevirtual => exact kO_inv0 hc he
  case invokestatic => exact kO_inv0 hc he
  case invokespecial => exact kO_inv0 hc he
  case baload =>
    simp only [ex] at he
    split at he
    next r hr => cases he; exact kO_aldI hr
    next => exact kO_aldI he
  case bastore =>
    simp only [ex] at he
    split at he
    next r hr => cases he; exact kO_astI hr
    next => exact kO_astI he
  case goto =>
    simp only [ex] at he
    split at he
    next => exact kO_jmp he
    next => cases he
  case ifnull =>
    simp only [ex] at he
    repeat' split at he
    all_goals first | exact kO_jmp he | (cases he; exact kO.rf) | cases he
  case ifnonnull =>
    simp only [ex] at he
    repeat' split at he
    all_goals first | exact kO_jmp he | (cases he; exact kO.rf) | cases he
  case tableswitch =>
    simp only [ex] at he
    repeat' split at he
    all_goals first | exact kO_jmp he | (cases he; exact kO.rf) | cases he
  case lookupswitch =>
    simp only [ex] at he
    repeat' split at he
    all_goals first | exact kO_jmp he | (cases he; exact kO.rf) | cases he
  all_goals
    simp only [ex] at he
    repeat' split at he
    all_goals first | (cases he; exact kO.rf) | cases he
theorem kO_run : ∀ (n : Nat) {i pc : Nat} {ls st : List Value} {σ τ : Hp} {v : Option Value}, run n i pc ls st σ = some (v, τ) → kO σ τ := by
  intro n
  induction n with
  | zero => intro i pc ls st σ τ v h; cases h
  | succ n ih =>
    intro i pc ls st σ τ v h
    unfold run at h
    split at h
    next => cases h
    next ins len hd =>
      split at h
      next v' hv => cases h; exact kO.rf
      next hv =>
        split at h
        next pc' ls' st' σ' he =>
          split at h
          next hm =>
            have h1 : kO σ σ' := kO_ex (f := (pc', ls', st', σ')) (fun j as v τ hq => by
              split at hq
              next => exact ih hq
              next => cases hq) he
            have h2 := ih h
            exact fun a k q1 q2 => h2 a k (Nat.lt_of_lt_of_le q1 hm.1) (h1 a k q1 q2)
          next => cases h
        next => cases h
theorem kO_dcall {j : Nat} {as : List Value} {v : Option Value} (h : dcall j as σ = some (v, τ)) : kO σ τ := by
  obtain ⟨n, hn⟩ := dcall_N h
  unfold callN at hn
  split at hn
  next => exact kO_run n hn
  next => cases hn
theorem run_int : ∀ (n : Nat) {i pc : Nat} {ls st : List Value} {σ τ : Hp} {v : Value}, (mR i = some .int ∨ mR i = some .boolean) → run n i pc ls st σ = some (some v, τ) → ∃ x, v = .int x := by
  intro n
  induction n with
  | zero => intro i pc ls st σ τ v _ h; cases h
  | succ n ih =>
    intro i pc ls st σ τ v hr h
    unfold run at h
    split at h
    next => cases h
    next ins len hd =>
      split at h
      next v' hv =>
        cases h
        unfold rtn at hv
        split at hv
        · split at hv
          next => cases hv
          next => cases hv
        · split at hv
          next x =>
            split at hv
            next => cases hv; exact ⟨_, rfl⟩
            next => cases hv
          next => cases hv
        · split at hv
          next x =>
            split at hv
            next hc => rcases hr with hr | hr <;> rw [hr] at hc <;> exact absurd hc.2 (by decide)
            next => cases hv
          next => cases hv
        · split at hv
          next x =>
            split at hv
            next hc => rcases hr with hr | hr <;> rw [hr] at hc <;> exact absurd hc.2 (by decide)
            next => cases hv
          next =>
            split at hv
            next hc => rcases hr with hr | hr <;> rw [hr] at hc <;> exact absurd hc.2 (by decide)
            next => cases hv
          next => cases hv
        · cases hv
      next hv =>
        split at h
        next pc' ls' st' σ' he =>
          split at h
          next hm => exact ih hr h
          next => cases h
        next => cases h
theorem dcall_int {j : Nat} {as : List Value} {v : Value} (hr : mR j = some .int ∨ mR j = some .boolean) (h : dcall j as σ = some (some v, τ)) : ∃ x, v = .int x := by
  obtain ⟨n, hn⟩ := dcall_N h
  unfold callN at hn
  split at hn
  next => exact run_int n hr hn
  next => cases hn
end OB
