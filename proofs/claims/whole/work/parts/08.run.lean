/-! a run of the small machine is a contract of the machine's method -/
theorem Met.ofWF {l : Launch} {y : MethodName} {ws ws' : List Cond} {rm : Room} {Pc : Array Value → State → Prop} {Qc : Array Value → State → Outcome → State → Prop} {mc ms : Nat} {free : Addr → Prop} {cc : ByteArray} {maxL : Nat} {ret : Option FieldType}
    (hy : plainFor y = true) (hw : ws = Cond.code y cc maxL ret :: ws')
    (body : ∀ p e s m args below meth c s₁, BodyLoose p l y (headSpec ws rm) cc maxL ret e s m args below meth c s₁ → c.maxLocals = maxL → Pc args s →
      W p l e (headSpec ws rm).room s m args below meth c s.heap [] 0 0 (MQ below Qc args s mc ms free) (entryFrame m args maxL)) : Met l y ws rm Pc Qc mc ms free := by
  refine MetFree.of_bodySF (code := cc) (maxLocals := maxL) (ret := ret) hy ?_ ?_
  · intro args s m h hn
    obtain ⟨meth, c, h1, h2, h3, h4, h5, h6, -, -⟩ := Cond.code_spec hn (atoms_spec (ws := ws) h _ (by rw [hw]; exact List.mem_cons_self))
    exact ⟨meth, c, h1, h2, h3, h4, h5, h6⟩
  · intro p e s m args below meth c s₁ B hml hP _
    have hh0 : s₁.heap = s.heap := by rw [B.state]; rfl
    obtain ⟨t, a1, o, b1, b2, b3⟩ := body p e s m args below meth c s₁ B hml hP s₁ hh0 (Stand.of_body B)
    exact ⟨t, o, a1, b1, b2, ⟨b3.1, b3.2⟩⟩
def callN (n : Nat) (j : Nat) (as : List Value) (τ : Hp) : Option Rs := if (flatA as).length ≤ mL j ∧ as.all okV = true then run n j 0 (entA (mL j) as) [] τ else none
theorem run_mono : ∀ (n : Nat) {i pc : Nat} {ls st : List Value} {σ : Hp} {v : Option Value} {τ : Hp}, run n i pc ls st σ = some (v, τ) → σ.2.1 ≤ τ.2.1 ∧ σ.2.2 ≤ τ.2.2 := by
  intro n
  induction n with
  | zero => intro i pc ls st σ v τ h; cases h
  | succ n ih =>
    intro i pc ls st σ v τ h
    unfold run at h
    split at h
    next => cases h
    next ins len hd =>
      split at h
      next v' hv => cases h; exact ⟨Nat.le_refl _, Nat.le_refl _⟩
      next hv =>
        split at h
        next pc' ls' st' σ' he =>
          split at h
          next hm =>
            have := ih h
            exact ⟨Nat.le_trans hm.1 this.1, Nat.le_trans hm.2 this.2⟩
          next => cases h
        next => cases h
section GR
variable {p : Program} {l : Launch} {e : Env} {R : Room} {s : State} {m : MethodId} {args : Array Value} {below : List Frame} {meth : Method} {c : Code} {D : va_G} {K : Nat → ClassId} {base n0 s0 : Nat}
theorem go_run {j : Nat} {v : Option Value} {τ : Hp} (C : CT p R s m c meth D K base (mB j) (mL j) (mO j) (decide (mK j = 2)) (mH j) (mW j)) (hr : meth.sig.returnType = mR j) (hlocks : meth.locks = false) (h3 : τ.2.1 - n0 ≤ R.cells) (h4 : τ.2.2 - s0 ≤ R.slots) :
    ∀ (n : Nat), (∀ k, k < n → OS l D K base (callN k)) → ∀ {pc : Nat} {ls st : List Value} {σ : Hp}, run n j pc ls st σ = some (v, τ) → n0 ≤ σ.2.1 → s0 ≤ σ.2.2 →
      Go p l e R s m args below meth c (MQ below (fun _ st oc t => oc = .returned v ∧ Wo D K base τ t.heap ∧ va_F (fun q => base ≤ q) st t) args s (τ.2.1 - n0) (τ.2.2 - s0) (fun q => base ≤ q)) D K base (mL j) n0 s0 (pc, ls, st, σ) := by
  intro n
  induction n with
  | zero => intro _ pc ls st σ h; cases h
  | succ n ih =>
    intro hOS pc ls st σ h h1 h2
    unfold run at h
    split at h
    next => cases h
    next ins len hd0 =>
      have hd : decode (mB j) pc = .ok (ins, len) := by
        unfold dcd at hd0
        split at hd0
        next r hr => cases hd0; exact hr
        next => cases hd0
      split at h
      next v' hv =>
        cases h
        intro H locs arr hW hS hL
        have hq : ∀ t : State, t.heap = H → s.WarmedH t.vm → (Outcome.returned v = .returned v ∧ Wo D K base τ t.heap ∧ va_F (fun q => base ≤ q) s t) := fun t ht _ => ⟨rfl, by rw [ht]; exact hW, hS.F ht⟩
        unfold rtn at hv
        split at hv
        · split at hv
          next hc =>
            obtain ⟨h5, h6, h7⟩ := hc
            subst h5; subst h7; cases hv
            exact W.vret C.1 C.2.1 (hr.trans h6) hq hS.2.2 hd
          next => cases hv
        · split at hv
          next x =>
            split at hv
            next hc =>
              obtain ⟨h5, h6⟩ := hc
              subst h5; cases hv
              rcases h6 with h6 | ⟨h6, h7⟩
              · exact W.iret C.1 C.2.1 (hr.trans h6) hq hS.2.2 hd
              · exact W.zret C.1 C.2.1 (hr.trans h6) (by show Value.int (x &&& 1) = _; rw [h7]) hq hS.2.2 hd
            next => cases hv
          next => cases hv
        · split at hv
          next x =>
            split at hv
            next hc =>
              obtain ⟨h5, h6⟩ := hc
              subst h5; cases hv
              exact W.lret C.1 C.2.1 (hr.trans h6) hq hS.2.2 hd
            next => cases hv
          next => cases hv
        · split at hv
          next x =>
            split at hv
            next hc =>
              obtain ⟨h5, h6⟩ := hc
              subst h5; cases hv
              exact W.aret C.1 C.2.1 (hr.trans h6) (Or.inl ⟨_, rfl⟩) (Or.inr ⟨_, rfl⟩) hq hS.2.2 hd
            next => cases hv
          next =>
            split at hv
            next hc =>
              obtain ⟨h5, h6⟩ := hc
              subst h5; cases hv
              exact W.aret C.1 C.2.1 (hr.trans h6) (Or.inl ⟨_, rfl⟩) (Or.inl rfl) hq hS.2.2 hd
            next => cases hv
          next => cases hv
        · cases hv
      next hv =>
        split at h
        next pc' ls' st' σ' he =>
          split at h
          next hm =>
            have hm2 := run_mono n h
            have kk := ih (fun k hk => hOS k (Nat.lt_succ_of_lt hk)) h (Nat.le_trans h1 hm.1) (Nat.le_trans h2 hm.2)
            exact go_step (f := (pc', ls', st', σ')) (hOS n (Nat.lt_succ_self n)) C hd he h1 h2 (by show σ'.2.1 - n0 ≤ _; omega) (by show σ'.2.2 - s0 ≤ _; omega) kk
          next => cases h
        next => cases h
end GR
theorem run_sound (l : Launch) (D : va_G) (K : Nat → ClassId) (base : Nat) : ∀ n, OS l D K base (callN n) := by
  have key : ∀ n, ∀ k, k < n → OS l D K base (callN k) := by
    intro n
    induction n with
    | zero => intro k hk; exact absurd hk (Nat.not_lt_zero k)
    | succ n ih =>
      intro k hk
      by_cases hkn : k < n
      · exact ih k hkn
      have : k = n := by omega
      subst this
      intro j as σ v τ hj h
      unfold callN at h
      split at h
      next hc =>
        have hm := run_mono _ h
        refine ⟨hm.1, hm.2, ?_⟩
        unfold Ct
        refine Met.ofWF (cc := mB j) (maxL := mL j) (ret := mR j) (zM_pf hj) rfl ?_
        intro p e s m args below meth c s₁ B hml hv
        obtain ⟨rfl, hWo, hTK, hb⟩ := hv
        have C : CT p ({ frames := mH j, cells := τ.2.1 - σ.2.1, slots := τ.2.2 - σ.2.2, locals := mW j } : Room) s m c meth D K base (mB j) (mL j) (mO j) (decide (mK j = 2)) (mH j) (mW j) :=
          ⟨B.exec, B.bytes, hml, findClass_of_methodNamed B.named, hTK, hb, fun hi => (name_of_methodNamed B.named B.method).1.trans ((zM_od hj).2.2.2 (of_decide_eq_true hi)).1, Nat.le_refl _, Nat.le_refl _⟩
        rw [lg_entry_eq]
        have hok : ∀ v ∈ as, ∀ r, v ≠ .retAddr r := by
          intro v hv r hr
          have := List.all_eq_true.mp hc.2 v hv
          rw [hr] at this
          cases this
        refine W.cs (Nat.sub_self σ.2.1).symm (Nat.sub_self σ.2.2).symm (go_run (n0 := σ.2.1) (s0 := σ.2.2) C B.returns B.notSynchronized (Nat.le_refl _) (Nat.le_refl _) k ih h (Nat.le_refl _) (Nat.le_refl _) s.heap [] _ hWo va_S.rf (LR.ent hok hc.1))
      next => cases h
  exact fun n => key (n + 1) n (Nat.lt_succ_self n)
