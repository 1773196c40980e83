/-! what a method does, without counting steps: den; one equation an instruction -/
theorem ex_more {c1 c2 : Nat → List Value → Hp → Option Rs} {ini : Bool} {h w o : Nat} {i : Instr} {len pc : Nat} {ls st : List Value} {σ : Hp} {f : Fr} (hc : ∀ j as, c1 j as σ = none ∨ c1 j as σ = c2 j as σ) (he : ex c1 ini h w o i len pc ls st σ = some f) : ex c2 ini h w o i len pc ls st σ = some f := by
  have inv : ∀ k idx, inv0 c1 h w o k idx pc len ls st σ = some f → inv0 c2 h w o k idx pc len ls st σ = some f := by
    intro k idx h1
    unfold inv0 at h1 ⊢
    split at h1
    next hk => rw [if_pos hk]; exact h1
    next hk =>
      rw [if_neg hk]
      split at h1
      next hk2 => rw [if_pos hk2]; exact h1
      next hk2 =>
        rw [if_neg hk2]
        unfold cal at h1 ⊢
        split at h1
        next j nest hz =>
          split at h1
          next hcs =>
            rw [if_pos hcs]
            split at h1
            next v τ hcall =>
              rcases hc j (st.take (nar k j)).reverse with h2 | h2
              · rw [h2] at hcall; cases hcall
              · rw [← h2, hcall]; exact h1
            next => cases h1
          next => cases h1
        next => cases h1
  cases i
  case invokevirtual j => exact inv _ _ he
  case invokestatic j => exact inv _ _ he
  case invokespecial j => exact inv _ _ he
  all_goals exact he
theorem run_more : ∀ (n : Nat) {i pc : Nat} {ls st : List Value} {σ : Hp} {r : Rs}, run n i pc ls st σ = some r → run (n + 1) i pc ls st σ = some r := by
  intro n
  induction n with
  | zero => intro i pc ls st σ r h; cases h
  | succ n ih =>
    intro i pc ls st σ r h
    unfold run at h
    rw [run]
    split at h
    next => cases h
    next ins len hd =>
      split at h
      next v hv => exact h
      next hv =>
        split at h
        next pc' ls' st' σ' he =>
          rw [ex_more (c2 := fun j as τ => if (flatA as).length ≤ mL j ∧ as.all okV = true then run (n + 1) j 0 (entA (mL j) as) [] τ else none) (fun j as => ?_) he]
          · dsimp only
            split at h
            next hm => rw [if_pos hm]; exact ih h
            next => cases h
          · split
            next hcs =>
              cases hr : run n j 0 (entA (mL j) as) [] σ with
              | none => exact Or.inl rfl
              | some r1 => right; rw [ih hr]
            next => exact Or.inl rfl
        next => cases h
theorem run_le {n k i pc : Nat} {ls st : List Value} {σ : Hp} {r : Rs} (hnk : n ≤ k) (h : run n i pc ls st σ = some r) : run k i pc ls st σ = some r := by
  induction hnk with
  | refl => exact h
  | step _ ih => exact run_more _ ih
theorem run_one {n k i pc : Nat} {ls st : List Value} {σ : Hp} {r r' : Rs} (h : run n i pc ls st σ = some r) (h' : run k i pc ls st σ = some r') : r = r' := by
  have h1 := run_le (Nat.le_max_left n k) h
  have h2 := run_le (Nat.le_max_right n k) h'
  exact Option.some.inj (h1.symm.trans h2)
theorem den_is (i pc : Nat) (ls st : List Value) (σ : Hp) : ∃ o : Option Rs, ∀ r, o = some r ↔ ∃ n, run n i pc ls st σ = some r := by
  by_cases h : ∃ r, ∃ n, run n i pc ls st σ = some r
  · obtain ⟨r, n, hr⟩ := h
    refine ⟨some r, fun r' => ⟨fun h => ⟨n, by cases h; exact hr⟩, fun ⟨k, hk⟩ => by rw [run_one hr hk]⟩⟩
  · exact ⟨none, fun r => ⟨(fun h => by cases h), fun ⟨n, hn⟩ => absurd ⟨r, n, hn⟩ h⟩⟩
noncomputable def den (i pc : Nat) (ls st : List Value) (σ : Hp) : Option Rs := Classical.choose (den_is i pc ls st σ)
theorem den_iff {i pc : Nat} {ls st : List Value} {σ : Hp} {r : Rs} : den i pc ls st σ = some r ↔ ∃ n, run n i pc ls st σ = some r := Classical.choose_spec (den_is i pc ls st σ) r
noncomputable def dcall (j : Nat) (as : List Value) (τ : Hp) : Option Rs := if (flatA as).length ≤ mL j ∧ as.all okV = true then den j 0 (entA (mL j) as) [] τ else none
theorem den_mono {i pc : Nat} {ls st : List Value} {σ τ : Hp} {v : Option Value} (h : den i pc ls st σ = some (v, τ)) : σ.2.1 ≤ τ.2.1 ∧ σ.2.2 ≤ τ.2.2 := by
  obtain ⟨n, hn⟩ := den_iff.mp h
  exact run_mono n hn
theorem dcall_mono {j : Nat} {as : List Value} {σ τ : Hp} {v : Option Value} (h : dcall j as σ = some (v, τ)) : σ.2.1 ≤ τ.2.1 ∧ σ.2.2 ≤ τ.2.2 := by
  unfold dcall at h
  split at h
  next => exact den_mono h
  next => cases h
theorem dcall_N {j : Nat} {as : List Value} {σ : Hp} {r : Rs} (h : dcall j as σ = some r) : ∃ n, callN n j as σ = some r := by
  unfold dcall at h
  split at h
  next hc =>
    obtain ⟨n, hn⟩ := den_iff.mp h
    exact ⟨n, by unfold callN; rw [if_pos hc]; exact hn⟩
  next => cases h
theorem callN_dcall (n j : Nat) (as : List Value) (σ : Hp) : callN n j as σ = none ∨ callN n j as σ = dcall j as σ := by
  unfold callN dcall
  split
  next hc =>
    cases hr : run n j 0 (entA (mL j) as) [] σ with
    | none => exact Or.inl rfl
    | some r => right; exact (den_iff.mpr ⟨n, hr⟩).symm
  next => exact Or.inl rfl
/-- a step of den -/
theorem den_ex {i pc len pc' : Nat} {ls st ls' st' : List Value} {σ σ' : Hp} {ins : Instr} (hd : dcd i pc = some (ins, len)) (hr : rtn (mR i) ins len st = none) (he : ex dcall (decide (mK i = 2)) (mH i) (mW i) (mO i) ins len pc ls st σ = some (pc', ls', st', σ')) (hm : σ.2.1 ≤ σ'.2.1 ∧ σ.2.2 ≤ σ'.2.2) : den i pc ls st σ = den i pc' ls' st' σ' := by
  have fwd : ∀ n r, run n i pc' ls' st' σ' = some r → ∃ k, run k i pc ls st σ = some r := by
    intro n r h
    -- the call, if it is one, has ended within some number of steps
    have hk : ∃ k, n ≤ k ∧ ex (callN k) (decide (mK i = 2)) (mH i) (mW i) (mO i) ins len pc ls st σ = some (pc', ls', st', σ') := by
      have inv : ∀ k idx, inv0 dcall (mH i) (mW i) (mO i) k idx pc len ls st σ = some (pc', ls', st', σ') → ∃ q, n ≤ q ∧ inv0 (callN q) (mH i) (mW i) (mO i) k idx pc len ls st σ = some (pc', ls', st', σ') := by
        intro k idx h1
        unfold inv0 at h1 ⊢
        split at h1
        next hk => exact ⟨n, Nat.le_refl _, by rw [if_pos hk]; exact h1⟩
        next hk =>
          split at h1
          next hk2 => exact ⟨n, Nat.le_refl _, by rw [if_neg hk, if_pos hk2]; exact h1⟩
          next hk2 =>
            unfold cal at h1
            split at h1
            next j nest hz =>
              split at h1
              next hcs =>
                split at h1
                next v τ hcall =>
                  obtain ⟨q, hq⟩ := dcall_N hcall
                  refine ⟨max n q, Nat.le_max_left _ _, ?_⟩
                  rw [if_neg hk, if_neg hk2]
                  have h5 : callN (max n q) j (st.take (nar k j)).reverse σ = some (v, τ) := by
                    unfold callN at hq ⊢
                    split at hq
                    next hc => rw [if_pos hc]; exact run_le (Nat.le_max_right _ _) hq
                    next => cases hq
                  unfold cal
                  rw [hz]
                  dsimp only
                  rw [if_pos hcs, h5]
                  exact h1
                next => cases h1
              next => cases h1
            next => cases h1
      cases ins
      case invokevirtual j => exact inv _ _ he
      case invokestatic j => exact inv _ _ he
      case invokespecial j => exact inv _ _ he
      all_goals exact ⟨n, Nat.le_refl _, he⟩
    obtain ⟨k, hnk, hk⟩ := hk
    refine ⟨k + 1, ?_⟩
    rw [run, hd]
    dsimp only
    rw [hr]
    dsimp only
    show (match ex (callN k) _ _ _ _ _ _ _ _ _ _ with | some (pc', ls', st', σ') => if σ.2.1 ≤ σ'.2.1 ∧ σ.2.2 ≤ σ'.2.2 then run k i pc' ls' st' σ' else none | none => none) = some r
    rw [hk]
    dsimp only
    rw [if_pos hm]
    exact run_le hnk h
  have bwd : ∀ n r, run n i pc ls st σ = some r → ∃ k, run k i pc' ls' st' σ' = some r := by
    intro n r h
    cases n with
    | zero => cases h
    | succ n =>
      rw [run, hd] at h
      dsimp only at h
      rw [hr] at h
      dsimp only at h
      split at h
      next p1 l1 s1 τ1 h1 =>
        have h2 := ex_more (c2 := dcall) (fun j as => callN_dcall n j as σ) h1
        rw [he] at h2
        cases h2
        rw [if_pos hm] at h
        exact ⟨n, h⟩
      next => cases h
  cases h1 : den i pc' ls' st' σ' with
  | some r =>
    obtain ⟨n, hn⟩ := den_iff.mp h1
    exact den_iff.mpr (fwd n r hn)
  | none =>
    cases h2 : den i pc ls st σ with
    | none => rfl
    | some r =>
      obtain ⟨n, hn⟩ := den_iff.mp h2
      have := den_iff.mpr (bwd n r hn)
      rw [h1] at this
      cases this
theorem den_stop {i pc len : Nat} {ls st : List Value} {σ : Hp} {ins : Instr} (hd : dcd i pc = some (ins, len)) (hr : rtn (mR i) ins len st = none) (he : ex dcall (decide (mK i = 2)) (mH i) (mW i) (mO i) ins len pc ls st σ = none) : den i pc ls st σ = none := by
  cases h2 : den i pc ls st σ with
  | none => rfl
  | some r =>
    obtain ⟨n, hn⟩ := den_iff.mp h2
    cases n with
    | zero => cases hn
    | succ n =>
      rw [run, hd] at hn
      dsimp only at hn
      rw [hr] at hn
      dsimp only at hn
      split at hn
      next p1 l1 s1 τ1 h1 =>
        have h3 := ex_more (c2 := dcall) (fun j as => callN_dcall n j as σ) h1
        rw [he] at h3
        cases h3
      next => cases hn
theorem den_ret {i pc len : Nat} {ls st : List Value} {σ : Hp} {ins : Instr} {v : Option Value} (hd : dcd i pc = some (ins, len)) (hr : rtn (mR i) ins len st = some v) : den i pc ls st σ = some (v, σ) := by
  refine den_iff.mpr ⟨1, ?_⟩
  rw [run, hd]
  dsimp only
  rw [hr]
