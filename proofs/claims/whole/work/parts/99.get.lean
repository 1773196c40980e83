/-! the class's get and row where they throw; the law's two helpers -/
section XG
variable {l : Launch} {D : va_G} {K : Nat → ClassId} {base c : Nat} {σ τ : Hp} {x y : Int32}
theorem cal_is {call : Nat → List Value → Hp → Option Rs} {h w o k idx pc j nest q : Nat} {ls st : List Value} {v : Option Value} (hz : zCa o idx = some (j, nest)) (hs1 : ¬ (k = 2 ∧ idx = 3 ∧ o < 8)) (hs2 : ¬ (k = 0 ∧ isCopy o idx = true)) (hc : (decide (mK j = k) && decide (mH j + 1 ≤ h) && decide (8 + (mL j + 11) + mW j ≤ w) && decide (nar k j = q)) = true) (hn : q ≤ st.length) (hsum : ((st.drop q).map fun v => v.category).sum ≤ 8) (hr : rcv k j (st.take q).reverse σ = true) (hcall : call j (st.take q).reverse σ = some (v, τ)) : inv0 call h w o k idx pc 3 ls st σ = some (pc + 3, ls, v.toList ++ st.drop q, τ) := by
  simp only [Bool.and_eq_true, decide_eq_true_eq] at hc
  unfold inv0
  rw [if_neg hs1, if_neg hs2]
  unfold cal
  rw [hz]
  dsimp only
  rw [hc.2, if_pos ⟨rfl, hc.1.1.1, hc.1.1.2, hc.1.2, hn, hsum, hr⟩, hcall]
theorem rcv_v {j a : Nat} {as : List Value} (h : hObj σ a = some (mO j)) : rcv 1 j (.ref a :: as) σ = true := by
  unfold rcv
  simp [h]
theorem dcall_up {n k j : Nat} {as : List Value} {r : Rs} (h : callN n j as σ = some r) (hk : n ≤ k) : callN k j as σ = some r := by
  unfold callN at h ⊢
  split at h
  next hc => rw [if_pos hc]; exact run_le hk h
  next => cases h
/-- the history's words fail -/
def noG (c : Nat) (σ : Hp) (x y : Int32) : Prop := dcall 59 [.ref (c + 9), .int x] σ = some (some .null, σ) ∨ ∃ t, dcall 59 [.ref (c + 9), .int x] σ = some (some (.ref t), σ) ∧ dcall 54 [.ref (c + 9), .int y] σ = some (some (.int (nI 0)), σ)
def rmG : Room := { frames := 6, cells := 1, slots := 6, locals := 120 }
theorem X_get (hl : l.stackTraces = false) (hp : hGet σ c 6 4 = some (.ref (c + 9))) (ho9 : hObj σ (c + 9) = some 0) (hf : noG c σ x y) : vx_Met l (mY 135) [.code (mY 135) (mB 135) (mL 135) (mR 135)] rmG (va_Pc [.ref c, .int x, .int y] (GS D K base σ)) (fun _ _ _ _ => False) (XT D K base σ) 1 6 (fun q => base ≤ q) := by
  refine vx_ofW (cc := mB 135) (maxL := mL 135) (ret := mR 135) (by decide +kernel) rfl ?_
  intro p e s m args below meth c' s₁ B hml hex hv
  obtain ⟨rfl, hWo, hTK, hb, hX⟩ := hv
  have C : CT p rmG s m c' meth D K base (mB 135) (mL 135) 6 false 6 120 := ⟨B.exec, B.bytes, hml, findClass_of_methodNamed B.named, hTK, hb, (fun hi => by cases hi), Nat.le_refl _, Nat.le_refl _⟩
  rw [lg_entry_eq]
  refine W.cs (Nat.sub_self σ.2.1).symm (Nat.sub_self σ.2.2).symm ?_
  have z36 : zF 6 36 = some (6, 4) := by decide +kernel
  suffices G : Go p l e rmG s m [.ref c, .int x, .int y].toArray below meth c' (vx_MQ below (fun _ _ _ _ => False) (XT D K base σ) [.ref c, .int x, .int y].toArray s 1 6 (fun q => base ≤ q)) D K base (mL 135) σ.2.1 σ.2.2 (0, [.ref c, .int x, .int y, junk], [], σ) from G s.heap [] _ hWo va_S.rf (LR.ent (as := [.ref c, .int x, .int y]) (fun v hv r hr => by subst hr; simp at hv) (Nat.le_of_ble_eq_true rfl))
  have T24 : ∀ ls, Go p l e rmG s m [.ref c, .int x, .int y].toArray below meth c' (vx_MQ below (fun _ _ _ _ => False) (XT D K base σ) [.ref c, .int x, .int y].toArray s 1 6 (fun q => base ≤ q)) D K base (mL 135) σ.2.1 σ.2.2 (24, ls, [], σ) := fun ls => go_thr C B.notSynchronized hl hX hex (by decide +kernel) (by decide +kernel) (by decide +kernel) (by decide +kernel) (Nat.le_refl _) (Nat.le_of_ble_eq_true rfl) (Nat.le_refl _) (Nat.le_refl _)
  obtain ⟨n, hfn⟩ : ∃ n, callN n 59 [.ref (c + 9), .int x] σ = some (some .null, σ) ∨ ∃ t, callN n 59 [.ref (c + 9), .int x] σ = some (some (.ref t), σ) ∧ callN n 54 [.ref (c + 9), .int y] σ = some (some (.int (nI 0)), σ) := by
    rcases hf with h | ⟨t, h1, h2⟩
    · obtain ⟨n, hn⟩ := dcall_N h
      exact ⟨n, Or.inl hn⟩
    · obtain ⟨n, hn⟩ := dcall_N h1
      obtain ⟨k, hk⟩ := dcall_N h2
      exact ⟨max n k, Or.inr ⟨t, dcall_up hn (Nat.le_max_left _ _), dcall_up hk (Nat.le_max_right _ _)⟩⟩
  have hOS := run_sound l D K base n
  refine go_step hOS C (i := .aload_n 0) (len := 1) (by decide +kernel) (f := (1, [.ref c, .int x, .int y, junk], [.ref c], σ)) (rfl) (by first | exact Nat.le_refl _ | omega) (by first | exact Nat.le_refl _ | omega) (by first | exact Nat.le_trans (Nat.le_of_eq (Nat.sub_self _)) (Nat.zero_le _) | (dsimp only; omega)) (by first | exact Nat.le_trans (Nat.le_of_eq (Nat.sub_self _)) (Nat.zero_le _) | (dsimp only; omega)) ?_
  refine go_step hOS C (i := .getfield 36) (len := 3) (by decide +kernel) (f := (4, [.ref c, .int x, .int y, junk], [.ref (c + 9)], σ)) (by simp [ex, gfl, z36, hp]) (by first | exact Nat.le_refl _ | omega) (by first | exact Nat.le_refl _ | omega) (by first | exact Nat.le_trans (Nat.le_of_eq (Nat.sub_self _)) (Nat.zero_le _) | (dsimp only; omega)) (by first | exact Nat.le_trans (Nat.le_of_eq (Nat.sub_self _)) (Nat.zero_le _) | (dsimp only; omega)) ?_
  refine go_step hOS C (i := .iload_n 1) (len := 1) (by decide +kernel) (f := (5, [.ref c, .int x, .int y, junk], [.int x, .ref (c + 9)], σ)) (rfl) (by first | exact Nat.le_refl _ | omega) (by first | exact Nat.le_refl _ | omega) (by first | exact Nat.le_trans (Nat.le_of_eq (Nat.sub_self _)) (Nat.zero_le _) | (dsimp only; omega)) (by first | exact Nat.le_trans (Nat.le_of_eq (Nat.sub_self _)) (Nat.zero_le _) | (dsimp only; omega)) ?_
  rcases hfn with hfn | ⟨t, hfn, hkn⟩
  · refine go_step hOS C (i := .invokevirtual 128) (len := 3) (by decide +kernel) (f := (8, [.ref c, .int x, .int y, junk], [.null], σ)) (by have := cal_is (call := callN n) (h := 6) (w := 120) (o := 6) (k := 1) (idx := 128) (j := 59) (nest := 1) (pc := 5) (q := 2) (ls := [.ref c, .int x, .int y, junk]) (st := [.int x, .ref (c + 9)]) (v := some .null) (σ := σ) (τ := σ) (by decide +kernel) (by decide) (by decide) (by decide +kernel) (Nat.le_of_ble_eq_true rfl) (Nat.le_of_ble_eq_true rfl) (rcv_v (ho9.trans (by decide +kernel))) hfn; exact this) (by first | exact Nat.le_refl _ | omega) (by first | exact Nat.le_refl _ | omega) (by first | exact Nat.le_trans (Nat.le_of_eq (Nat.sub_self _)) (Nat.zero_le _) | (dsimp only; omega)) (by first | exact Nat.le_trans (Nat.le_of_eq (Nat.sub_self _)) (Nat.zero_le _) | (dsimp only; omega)) ?_
    refine go_step hOS C (i := .astore_n 3) (len := 1) (by decide +kernel) (f := (9, [.ref c, .int x, .int y, .null], [], σ)) (rfl) (by first | exact Nat.le_refl _ | omega) (by first | exact Nat.le_refl _ | omega) (by first | exact Nat.le_trans (Nat.le_of_eq (Nat.sub_self _)) (Nat.zero_le _) | (dsimp only; omega)) (by first | exact Nat.le_trans (Nat.le_of_eq (Nat.sub_self _)) (Nat.zero_le _) | (dsimp only; omega)) ?_
    refine go_step hOS C (i := .aload_n 3) (len := 1) (by decide +kernel) (f := (10, [.ref c, .int x, .int y, .null], [.null], σ)) (rfl) (by first | exact Nat.le_refl _ | omega) (by first | exact Nat.le_refl _ | omega) (by first | exact Nat.le_trans (Nat.le_of_eq (Nat.sub_self _)) (Nat.zero_le _) | (dsimp only; omega)) (by first | exact Nat.le_trans (Nat.le_of_eq (Nat.sub_self _)) (Nat.zero_le _) | (dsimp only; omega)) ?_
    refine go_step hOS C (i := .ifnull 14) (len := 3) (by decide +kernel) (f := (24, [.ref c, .int x, .int y, .null], [], σ)) (rfl) (by first | exact Nat.le_refl _ | omega) (by first | exact Nat.le_refl _ | omega) (by first | exact Nat.le_trans (Nat.le_of_eq (Nat.sub_self _)) (Nat.zero_le _) | (dsimp only; omega)) (by first | exact Nat.le_trans (Nat.le_of_eq (Nat.sub_self _)) (Nat.zero_le _) | (dsimp only; omega)) ?_
    exact T24 _
  · refine go_step hOS C (i := .invokevirtual 128) (len := 3) (by decide +kernel) (f := (8, [.ref c, .int x, .int y, junk], [.ref t], σ)) (by have := cal_is (call := callN n) (h := 6) (w := 120) (o := 6) (k := 1) (idx := 128) (j := 59) (nest := 1) (pc := 5) (q := 2) (ls := [.ref c, .int x, .int y, junk]) (st := [.int x, .ref (c + 9)]) (v := some (.ref t)) (σ := σ) (τ := σ) (by decide +kernel) (by decide) (by decide) (by decide +kernel) (Nat.le_of_ble_eq_true rfl) (Nat.le_of_ble_eq_true rfl) (rcv_v (ho9.trans (by decide +kernel))) hfn; exact this) (by first | exact Nat.le_refl _ | omega) (by first | exact Nat.le_refl _ | omega) (by first | exact Nat.le_trans (Nat.le_of_eq (Nat.sub_self _)) (Nat.zero_le _) | (dsimp only; omega)) (by first | exact Nat.le_trans (Nat.le_of_eq (Nat.sub_self _)) (Nat.zero_le _) | (dsimp only; omega)) ?_
    refine go_step hOS C (i := .astore_n 3) (len := 1) (by decide +kernel) (f := (9, [.ref c, .int x, .int y, .ref t], [], σ)) (rfl) (by first | exact Nat.le_refl _ | omega) (by first | exact Nat.le_refl _ | omega) (by first | exact Nat.le_trans (Nat.le_of_eq (Nat.sub_self _)) (Nat.zero_le _) | (dsimp only; omega)) (by first | exact Nat.le_trans (Nat.le_of_eq (Nat.sub_self _)) (Nat.zero_le _) | (dsimp only; omega)) ?_
    refine go_step hOS C (i := .aload_n 3) (len := 1) (by decide +kernel) (f := (10, [.ref c, .int x, .int y, .ref t], [.ref t], σ)) (rfl) (by first | exact Nat.le_refl _ | omega) (by first | exact Nat.le_refl _ | omega) (by first | exact Nat.le_trans (Nat.le_of_eq (Nat.sub_self _)) (Nat.zero_le _) | (dsimp only; omega)) (by first | exact Nat.le_trans (Nat.le_of_eq (Nat.sub_self _)) (Nat.zero_le _) | (dsimp only; omega)) ?_
    refine go_step hOS C (i := .ifnull 14) (len := 3) (by decide +kernel) (f := (13, [.ref c, .int x, .int y, .ref t], [], σ)) (rfl) (by first | exact Nat.le_refl _ | omega) (by first | exact Nat.le_refl _ | omega) (by first | exact Nat.le_trans (Nat.le_of_eq (Nat.sub_self _)) (Nat.zero_le _) | (dsimp only; omega)) (by first | exact Nat.le_trans (Nat.le_of_eq (Nat.sub_self _)) (Nat.zero_le _) | (dsimp only; omega)) ?_
    refine go_step hOS C (i := .aload_n 0) (len := 1) (by decide +kernel) (f := (14, [.ref c, .int x, .int y, .ref t], [.ref c], σ)) (rfl) (by first | exact Nat.le_refl _ | omega) (by first | exact Nat.le_refl _ | omega) (by first | exact Nat.le_trans (Nat.le_of_eq (Nat.sub_self _)) (Nat.zero_le _) | (dsimp only; omega)) (by first | exact Nat.le_trans (Nat.le_of_eq (Nat.sub_self _)) (Nat.zero_le _) | (dsimp only; omega)) ?_
    refine go_step hOS C (i := .getfield 36) (len := 3) (by decide +kernel) (f := (17, [.ref c, .int x, .int y, .ref t], [.ref (c + 9)], σ)) (by simp [ex, gfl, z36, hp]) (by first | exact Nat.le_refl _ | omega) (by first | exact Nat.le_refl _ | omega) (by first | exact Nat.le_trans (Nat.le_of_eq (Nat.sub_self _)) (Nat.zero_le _) | (dsimp only; omega)) (by first | exact Nat.le_trans (Nat.le_of_eq (Nat.sub_self _)) (Nat.zero_le _) | (dsimp only; omega)) ?_
    refine go_step hOS C (i := .iload_n 2) (len := 1) (by decide +kernel) (f := (18, [.ref c, .int x, .int y, .ref t], [.int y, .ref (c + 9)], σ)) (rfl) (by first | exact Nat.le_refl _ | omega) (by first | exact Nat.le_refl _ | omega) (by first | exact Nat.le_trans (Nat.le_of_eq (Nat.sub_self _)) (Nat.zero_le _) | (dsimp only; omega)) (by first | exact Nat.le_trans (Nat.le_of_eq (Nat.sub_self _)) (Nat.zero_le _) | (dsimp only; omega)) ?_
    refine go_step hOS C (i := .invokevirtual 107) (len := 3) (by decide +kernel) (f := (21, [.ref c, .int x, .int y, .ref t], [.int (nI 0)], σ)) (by have := cal_is (call := callN n) (h := 6) (w := 120) (o := 6) (k := 1) (idx := 107) (j := 54) (nest := 1) (pc := 18) (q := 2) (ls := [.ref c, .int x, .int y, .ref t]) (st := [.int y, .ref (c + 9)]) (v := some (.int (nI 0))) (σ := σ) (τ := σ) (by decide +kernel) (by decide) (by decide) (by decide +kernel) (Nat.le_of_ble_eq_true rfl) (Nat.le_of_ble_eq_true rfl) (rcv_v (ho9.trans (by decide +kernel))) hkn; exact this) (by first | exact Nat.le_refl _ | omega) (by first | exact Nat.le_refl _ | omega) (by first | exact Nat.le_trans (Nat.le_of_eq (Nat.sub_self _)) (Nat.zero_le _) | (dsimp only; omega)) (by first | exact Nat.le_trans (Nat.le_of_eq (Nat.sub_self _)) (Nat.zero_le _) | (dsimp only; omega)) ?_
    refine go_step hOS C (i := .ifCond .ne 11) (len := 3) (by decide +kernel) (f := (24, [.ref c, .int x, .int y, .ref t], [], σ)) (by simp [ex, cnd]; decide) (by first | exact Nat.le_refl _ | omega) (by first | exact Nat.le_refl _ | omega) (by first | exact Nat.le_trans (Nat.le_of_eq (Nat.sub_self _)) (Nat.zero_le _) | (dsimp only; omega)) (by first | exact Nat.le_trans (Nat.le_of_eq (Nat.sub_self _)) (Nat.zero_le _) | (dsimp only; omega)) ?_
    exact T24 _
/-- the row's words fail -/
theorem X_row {k : Nat} (hl : l.stackTraces = false) (hp : hGet σ c 6 1 = some (.ref (c + 3))) (hs : hGet σ (c + 3) 3 1 = some (.int (nI k))) (hf : x < nI 0 ∨ nI k ≤ x) : vx_Met l (mY 136) [.code (mY 136) (mB 136) (mL 136) (mR 136)] rmG (va_Pc [.ref c, .int x] (GS D K base σ)) (fun _ _ _ _ => False) (XT D K base σ) 1 6 (fun q => base ≤ q) := by
  refine vx_ofW (cc := mB 136) (maxL := mL 136) (ret := mR 136) (by decide +kernel) rfl ?_
  intro p e s m args below meth c' s₁ B hml hex hv
  obtain ⟨rfl, hWo, hTK, hb, hX⟩ := hv
  have C : CT p rmG s m c' meth D K base (mB 136) (mL 136) 6 false 6 120 := ⟨B.exec, B.bytes, hml, findClass_of_methodNamed B.named, hTK, hb, (fun hi => by cases hi), Nat.le_refl _, Nat.le_refl _⟩
  rw [lg_entry_eq]
  refine W.cs (Nat.sub_self σ.2.1).symm (Nat.sub_self σ.2.2).symm ?_
  have z19 : zF 6 19 = some (6, 1) := by decide +kernel
  have z135 : zF 6 135 = some (3, 1) := by decide +kernel
  suffices G : Go p l e rmG s m [.ref c, .int x].toArray below meth c' (vx_MQ below (fun _ _ _ _ => False) (XT D K base σ) [.ref c, .int x].toArray s 1 6 (fun q => base ≤ q)) D K base (mL 136) σ.2.1 σ.2.2 (0, [.ref c, .int x], [], σ) from G s.heap [] _ hWo va_S.rf (LR.ent (as := [.ref c, .int x]) (fun v hv r hr => by subst hr; simp at hv) (Nat.le_of_ble_eq_true rfl))
  have T22 : ∀ ls, Go p l e rmG s m [.ref c, .int x].toArray below meth c' (vx_MQ below (fun _ _ _ _ => False) (XT D K base σ) [.ref c, .int x].toArray s 1 6 (fun q => base ≤ q)) D K base (mL 136) σ.2.1 σ.2.2 (22, ls, [], σ) := fun ls => go_thr C B.notSynchronized hl hX hex (by decide +kernel) (by decide +kernel) (by decide +kernel) (by decide +kernel) (Nat.le_refl _) (Nat.le_of_ble_eq_true rfl) (Nat.le_refl _) (Nat.le_refl _)
  have hOS := run_sound l D K base 0
  refine go_step hOS C (i := .iload_n 1) (len := 1) (by decide +kernel) (f := (1, [.ref c, .int x], [.int x], σ)) (rfl) (by first | exact Nat.le_refl _ | omega) (by first | exact Nat.le_refl _ | omega) (by first | exact Nat.le_trans (Nat.le_of_eq (Nat.sub_self _)) (Nat.zero_le _) | (dsimp only; omega)) (by first | exact Nat.le_trans (Nat.le_of_eq (Nat.sub_self _)) (Nat.zero_le _) | (dsimp only; omega)) ?_
  have e0 : (nI 0 : Int32) = 0 := rfl
  by_cases h0 : x < 0
  · refine go_step hOS C (i := .ifCond .lt 21) (len := 3) (by decide +kernel) (f := (22, [.ref c, .int x], [], σ)) (by simp [ex, cnd, h0]) (by first | exact Nat.le_refl _ | omega) (by first | exact Nat.le_refl _ | omega) (by first | exact Nat.le_trans (Nat.le_of_eq (Nat.sub_self _)) (Nat.zero_le _) | (dsimp only; omega)) (by first | exact Nat.le_trans (Nat.le_of_eq (Nat.sub_self _)) (Nat.zero_le _) | (dsimp only; omega)) ?_
    exact T22 _
  · have hk : nI k ≤ x := hf.resolve_left (by rw [e0]; exact h0)
    refine go_step hOS C (i := .ifCond .lt 21) (len := 3) (by decide +kernel) (f := (4, [.ref c, .int x], [], σ)) (by simp [ex, cnd, h0]) (by first | exact Nat.le_refl _ | omega) (by first | exact Nat.le_refl _ | omega) (by first | exact Nat.le_trans (Nat.le_of_eq (Nat.sub_self _)) (Nat.zero_le _) | (dsimp only; omega)) (by first | exact Nat.le_trans (Nat.le_of_eq (Nat.sub_self _)) (Nat.zero_le _) | (dsimp only; omega)) ?_
    refine go_step hOS C (i := .iload_n 1) (len := 1) (by decide +kernel) (f := (5, [.ref c, .int x], [.int x], σ)) (rfl) (by first | exact Nat.le_refl _ | omega) (by first | exact Nat.le_refl _ | omega) (by first | exact Nat.le_trans (Nat.le_of_eq (Nat.sub_self _)) (Nat.zero_le _) | (dsimp only; omega)) (by first | exact Nat.le_trans (Nat.le_of_eq (Nat.sub_self _)) (Nat.zero_le _) | (dsimp only; omega)) ?_
    refine go_step hOS C (i := .aload_n 0) (len := 1) (by decide +kernel) (f := (6, [.ref c, .int x], [.ref c, .int x], σ)) (rfl) (by first | exact Nat.le_refl _ | omega) (by first | exact Nat.le_refl _ | omega) (by first | exact Nat.le_trans (Nat.le_of_eq (Nat.sub_self _)) (Nat.zero_le _) | (dsimp only; omega)) (by first | exact Nat.le_trans (Nat.le_of_eq (Nat.sub_self _)) (Nat.zero_le _) | (dsimp only; omega)) ?_
    refine go_step hOS C (i := .getfield 19) (len := 3) (by decide +kernel) (f := (9, [.ref c, .int x], [.ref (c + 3), .int x], σ)) (by simp [ex, gfl, z19, hp]) (by first | exact Nat.le_refl _ | omega) (by first | exact Nat.le_refl _ | omega) (by first | exact Nat.le_trans (Nat.le_of_eq (Nat.sub_self _)) (Nat.zero_le _) | (dsimp only; omega)) (by first | exact Nat.le_trans (Nat.le_of_eq (Nat.sub_self _)) (Nat.zero_le _) | (dsimp only; omega)) ?_
    refine go_step hOS C (i := .getfield 135) (len := 3) (by decide +kernel) (f := (12, [.ref c, .int x], [.int (nI k), .int x], σ)) (by simp [ex, gfl, z135, hs]) (by first | exact Nat.le_refl _ | omega) (by first | exact Nat.le_refl _ | omega) (by first | exact Nat.le_trans (Nat.le_of_eq (Nat.sub_self _)) (Nat.zero_le _) | (dsimp only; omega)) (by first | exact Nat.le_trans (Nat.le_of_eq (Nat.sub_self _)) (Nat.zero_le _) | (dsimp only; omega)) ?_
    refine go_step hOS C (i := .if_icmp .ge 10) (len := 3) (by decide +kernel) (f := (22, [.ref c, .int x], [], σ)) (by simp [ex, cnd, hk]) (by first | exact Nat.le_refl _ | omega) (by first | exact Nat.le_refl _ | omega) (by first | exact Nat.le_trans (Nat.le_of_eq (Nat.sub_self _)) (Nat.zero_le _) | (dsimp only; omega)) (by first | exact Nat.le_trans (Nat.le_of_eq (Nat.sub_self _)) (Nat.zero_le _) | (dsimp only; omega)) ?_
    exact T22 _
theorem Met.ofWFH {y : MethodName} {ws ws' : List Cond} {rm : Room} {Pc : Array Value → State → Prop} {Qc : Array Value → State → Outcome → State → Prop} {mc ms : Nat} {free : Addr → Prop} {cc : ByteArray} {maxL : Nat} {ret : Option FieldType} {hh : List (Nat × Nat × Nat × Nat)}
    (hy : plainFor y = true) (hw : ws = Cond.codeWith y cc maxL ret hh :: ws')
    (body : ∀ p e s m args below meth c s₁, BodyLoose p l y (headSpec ws rm) cc maxL ret e s m args below meth c s₁ → c.maxLocals = maxL → c.exceptionTable.toList = tableOf hh → Pc args s →
      W p l e (headSpec ws rm).room s m args below meth c s.heap [] 0 0 (MQ below Qc args s mc ms free) (entryFrame m args maxL)) : Met l y ws rm Pc Qc mc ms free := by
  refine MetFree.of_bodySF (code := cc) (maxLocals := maxL) (ret := ret) hy ?_ ?_
  · intro args s m h hn
    obtain ⟨m9, meth, c, hn9, h1, h2, h3, h4, -, h5, h6, -⟩ := Cond.codeWith_spec (atoms_spec (ws := ws) h _ (by rw [hw]; exact List.mem_cons_self))
    cases hn.symm.trans hn9
    exact ⟨meth, c, h1, h2, h3, h4, h5, h6⟩
  · intro p e s m args below meth c s₁ B hml hP _
    have hh0 : s₁.heap = s.heap := by rw [B.state]; rfl
    have ht : c.exceptionTable.toList = tableOf hh := vx_table (x := y) B (atoms_spec (ws := ws) B.pre _ (by rw [hw]; exact List.mem_cons_self))
    obtain ⟨t, a1, o, b1, b2, b3⟩ := body p e s m args below meth c s₁ B hml ht hP s₁ hh0 (Stand.of_body B)
    exact ⟨t, o, a1, b1, b2, ⟨b3.1, b3.2⟩⟩
end XG
section LH
variable {p : Program} {l : Launch} {e : Env} {R : Room} {s : State} {m : MethodId} {args : Array Value} {below : List Frame} {meth : Method} {c : Code} {Q : State → Prop} {D : va_G} {K : Nat → ClassId} {base : Nat} {cc : ByteArray} {nL o n0 s0 h w pc : Nat} {ini : Bool} {σ : Hp} {x : Int32} {ls : List Value} {H : Heap} {locs : List Loc} {cells slots mc ms : Nat} {g : JFrame} {rest : List Value}
/-- what a helper answers -/
def LQ (D : va_G) (K : Nat → ClassId) (base : Nat) (k : Int32) (σ : Hp) : Array Value → State → Outcome → State → Prop := fun _ st oc t => oc = .returned (some (.int k)) ∧ Wo D K base σ t.heap ∧ va_F (fun q => base ≤ q) st t
theorem go_iret (C : CT p R s m c meth D K base cc nL o ini h w) (hlocks : meth.locks = false) (hr : meth.sig.returnType = some .int) (hd : decode cc pc = .ok (.ireturn, 1)) : Go p l e R s m args below meth c (MQ below (LQ D K base x σ) args s (σ.2.1 - n0) (σ.2.2 - s0) (fun q => base ≤ q)) D K base nL n0 s0 (pc, ls, [.int x], σ) := by
  intro H locs arr hW hS hL
  exact W.iret C.1 C.2.1 hr (fun t ht _ => ⟨rfl, by rw [ht]; exact hW, hS.F ht⟩) hS.2.2 hd
theorem xcall (hr : vx_Run p l e R s m args below meth c H locs cells slots mc ms g rest (fun _ _ _ => False) (XT D K base σ) (fun q => base ≤ q)) (hS : va_S (fun q => base ≤ q) s.heap H locs) (kx : ∀ (q9 : Addr) (ce : Cell) (H1 : Heap) (locs1 : List Loc), Wo D K base (thr σ) H1 → va_S (fun q => base ≤ q) s.heap H1 locs1 → H1[q9]? = some ce → ce.vm = .none → s.vm.findClass nE = some ce.cls → vx_W p l e R s m args below meth c H1 locs1 (cells + mc) (slots + ms) Q { g with stack := rest } q9) : W p l e R s m args below meth c H locs cells slots Q g := by
  intro T hT X
  rcases hr T hT X with ⟨v, st₀, t, T', L, h0, X', hL, e1, e2, hF, st⟩ | ⟨q, st₀, t, T', L, E, ce, h0, X', hL, e1, e2, ⟨rfl, hWo, hz, hk⟩, hce, hcv, hcl, st⟩
  · exact hF.elim
  · rw [h0] at hz hk
    obtain ⟨t2, a1, b1⟩ := kx q ce T'.heap (locs ++ L) (by rw [e1]; exact hWo) ⟨Nat.le_trans hS.1 (by rw [e1]; exact hz), fun q h1 h2 => by rw [e1, hk q (Nat.lt_of_lt_of_le h1 hS.1) h2]; exact hS.2.1 q h1 h2, fun q hq => by
      rcases List.mem_append.mp hq with h | h
      · exact hS.2.2 q h
      · exact hL q h⟩ (by rw [e1]; exact hce) hcv hcl T' rfl X'
    exact ⟨t2, st.trans a1, b1⟩
end LH
section LG
variable {l : Launch} {D : va_G} {K : Nat → ClassId} {base c : Nat} {σ : Hp} {x y : Int32}
def rmL (k n : Nat) : Room := { frames := 7, cells := k, slots := n, locals := 150 }
def ous (σ : Hp) (a : Nat) (g : Nat → Int64) (v : Int64) : Hp := hup σ a (.inl (1, 1, .inr (.inl (vp_updL g 0 v))))
theorem L_get {v : Int32} (ho : hObj σ c = some 6) (h : dcall 135 [.ref c, .int x, .int y] σ = some (some (.int v), σ)) {g : Nat → Int64} (hg : σ.1 (c + 41) = some (.inl (1, 1, .inr (.inl g)))) : Met l method_3 [.codeWith method_3 method_3_code 5 (some .int) hh3] (rmL 0 0) (va_Pc [.ref c, .int x, .int y, .ref (c + 41)] (GS D K base σ)) (LQ D K base (nI 0) (ous σ (c + 41) g v.toInt64)) 0 0 (fun q => base ≤ q) := by
  refine Met.ofWFH (cc := method_3_code) (maxL := 5) (ret := some .int) (hh := hh3) (by decide +kernel) rfl ?_
  intro p e s m args below meth c' s₁ B hml hex hv
  obtain ⟨rfl, hWo, hTK, hb, hX⟩ := hv
  have C : CT p (rmL 0 0) s m c' meth D K base method_3_code 5 10 false 7 150 := ⟨B.exec, B.bytes, hml, findClass_of_methodNamed B.named, hTK, hb, (fun hi => by cases hi), Nat.le_refl _, Nat.le_refl _⟩
  rw [lg_entry_eq]
  refine W.cs (Nat.sub_self σ.2.1).symm (Nat.sub_self σ.2.2).symm ?_
  suffices G : Go p l e (rmL 0 0) s m [.ref c, .int x, .int y, .ref (c + 41)].toArray below meth c' (MQ below (LQ D K base (nI 0) (ous σ (c + 41) g v.toInt64)) [.ref c, .int x, .int y, .ref (c + 41)].toArray s 0 0 (fun q => base ≤ q)) D K base 5 σ.2.1 σ.2.2 (0, [.ref c, .int x, .int y, .ref (c + 41), junk], [], σ) from G s.heap [] _ hWo va_S.rf (LR.ent (as := [.ref c, .int x, .int y, .ref (c + 41)]) (fun v hv r hr => by subst hr; simp at hv) (Nat.le_of_ble_eq_true rfl))
  obtain ⟨n, hn⟩ := dcall_N h
  have hOS := run_sound l D K base n
  refine go_step hOS C (i := .aload_n 3) (len := 1) (by decide +kernel) (f := (1, [.ref c, .int x, .int y, .ref (c + 41), junk], [.ref (c + 41)], σ)) (rfl) (by first | exact Nat.le_refl _ | omega) (by first | exact Nat.le_refl _ | omega) (by first | exact Nat.le_trans (Nat.le_of_eq (Nat.sub_self _)) (Nat.zero_le _) | (dsimp only; omega)) (by first | exact Nat.le_trans (Nat.le_of_eq (Nat.sub_self _)) (Nat.zero_le _) | (dsimp only; omega)) ?_
  refine go_step hOS C (i := .iconst 0) (len := 1) (by decide +kernel) (f := (2, [.ref c, .int x, .int y, .ref (c + 41), junk], [.int 0, .ref (c + 41)], σ)) (rfl) (by first | exact Nat.le_refl _ | omega) (by first | exact Nat.le_refl _ | omega) (by first | exact Nat.le_trans (Nat.le_of_eq (Nat.sub_self _)) (Nat.zero_le _) | (dsimp only; omega)) (by first | exact Nat.le_trans (Nat.le_of_eq (Nat.sub_self _)) (Nat.zero_le _) | (dsimp only; omega)) ?_
  refine go_step hOS C (i := .aload_n 0) (len := 1) (by decide +kernel) (f := (3, [.ref c, .int x, .int y, .ref (c + 41), junk], [.ref c, .int 0, .ref (c + 41)], σ)) (rfl) (by first | exact Nat.le_refl _ | omega) (by first | exact Nat.le_refl _ | omega) (by first | exact Nat.le_trans (Nat.le_of_eq (Nat.sub_self _)) (Nat.zero_le _) | (dsimp only; omega)) (by first | exact Nat.le_trans (Nat.le_of_eq (Nat.sub_self _)) (Nat.zero_le _) | (dsimp only; omega)) ?_
  refine go_step hOS C (i := .iload_n 1) (len := 1) (by decide +kernel) (f := (4, [.ref c, .int x, .int y, .ref (c + 41), junk], [.int x, .ref c, .int 0, .ref (c + 41)], σ)) (rfl) (by first | exact Nat.le_refl _ | omega) (by first | exact Nat.le_refl _ | omega) (by first | exact Nat.le_trans (Nat.le_of_eq (Nat.sub_self _)) (Nat.zero_le _) | (dsimp only; omega)) (by first | exact Nat.le_trans (Nat.le_of_eq (Nat.sub_self _)) (Nat.zero_le _) | (dsimp only; omega)) ?_
  refine go_step hOS C (i := .iload_n 2) (len := 1) (by decide +kernel) (f := (5, [.ref c, .int x, .int y, .ref (c + 41), junk], [.int y, .int x, .ref c, .int 0, .ref (c + 41)], σ)) (rfl) (by first | exact Nat.le_refl _ | omega) (by first | exact Nat.le_refl _ | omega) (by first | exact Nat.le_trans (Nat.le_of_eq (Nat.sub_self _)) (Nat.zero_le _) | (dsimp only; omega)) (by first | exact Nat.le_trans (Nat.le_of_eq (Nat.sub_self _)) (Nat.zero_le _) | (dsimp only; omega)) ?_
  refine go_step hOS C (i := .invokevirtual 7) (len := 3) (by decide +kernel) (f := (8, [.ref c, .int x, .int y, .ref (c + 41), junk], [.int v, .int 0, .ref (c + 41)], σ)) (by have := cal_is (call := callN n) (h := 7) (w := 150) (o := 10) (k := 1) (idx := 7) (j := 135) (nest := 0) (pc := 5) (q := 3) (ls := [.ref c, .int x, .int y, .ref (c + 41), junk]) (st := [.int y, .int x, .ref c, .int 0, .ref (c + 41)]) (v := some (.int v)) (σ := σ) (τ := σ) (by decide +kernel) (by decide) (by decide) (by decide +kernel) (Nat.le_of_ble_eq_true rfl) (Nat.le_of_ble_eq_true rfl) (rcv_v (ho.trans (by decide +kernel))) hn; exact this) (by first | exact Nat.le_refl _ | omega) (by first | exact Nat.le_refl _ | omega) (by first | exact Nat.le_trans (Nat.le_of_eq (Nat.sub_self _)) (Nat.zero_le _) | (dsimp only; omega)) (by first | exact Nat.le_trans (Nat.le_of_eq (Nat.sub_self _)) (Nat.zero_le _) | (dsimp only; omega)) ?_
  refine go_step hOS C (i := .i2l) (len := 1) (by decide +kernel) (f := (9, [.ref c, .int x, .int y, .ref (c + 41), junk], [.long v.toInt64, .int 0, .ref (c + 41)], σ)) (rfl) (by first | exact Nat.le_refl _ | omega) (by first | exact Nat.le_refl _ | omega) (by first | exact Nat.le_trans (Nat.le_of_eq (Nat.sub_self _)) (Nat.zero_le _) | (dsimp only; omega)) (by first | exact Nat.le_trans (Nat.le_of_eq (Nat.sub_self _)) (Nat.zero_le _) | (dsimp only; omega)) ?_
  have hL0 : hL σ (c + 41) 1 = some (1, g) := hL_of hg
  refine go_step hOS C (i := .lastore) (len := 1) (by decide +kernel) (f := (10, [.ref c, .int x, .int y, .ref (c + 41), junk], [], ous σ (c + 41) g v.toInt64)) (by simp [ex, astL, hL0, inb, ous]) (by first | exact Nat.le_refl _ | omega) (by first | exact Nat.le_refl _ | omega) (by first | exact Nat.le_trans (Nat.le_of_eq (Nat.sub_self _)) (Nat.zero_le _) | (dsimp only; omega)) (by first | exact Nat.le_trans (Nat.le_of_eq (Nat.sub_self _)) (Nat.zero_le _) | (dsimp only; omega)) ?_
  refine go_step hOS C (i := .goto 7) (len := 3) (by decide +kernel) (f := (17, [.ref c, .int x, .int y, .ref (c + 41), junk], [], ous σ (c + 41) g v.toInt64)) (rfl) (by first | exact Nat.le_refl _ | omega) (by first | exact Nat.le_refl _ | omega) (by first | exact Nat.le_trans (Nat.le_of_eq (Nat.sub_self _)) (Nat.zero_le _) | (dsimp only; omega)) (by first | exact Nat.le_trans (Nat.le_of_eq (Nat.sub_self _)) (Nat.zero_le _) | (dsimp only; omega)) ?_
  refine go_step hOS C (i := .iconst 0) (len := 1) (by decide +kernel) (f := (18, [.ref c, .int x, .int y, .ref (c + 41), junk], [.int (nI 0)], ous σ (c + 41) g v.toInt64)) (rfl) (by first | exact Nat.le_refl _ | omega) (by first | exact Nat.le_refl _ | omega) (by first | exact Nat.le_trans (Nat.le_of_eq (Nat.sub_self _)) (Nat.zero_le _) | (dsimp only; omega)) (by first | exact Nat.le_trans (Nat.le_of_eq (Nat.sub_self _)) (Nat.zero_le _) | (dsimp only; omega)) ?_
  have z := go_iret (l := l) (e := e) (R := rmL 0 0) (args := [.ref c, .int x, .int y, .ref (c + 41)].toArray) (below := below) (pc := 18) (ls := [.ref c, .int x, .int y, .ref (c + 41), junk]) (x := nI 0) (σ := ous σ (c + 41) g v.toInt64) (n0 := σ.2.1) (s0 := σ.2.2) C B.notSynchronized B.returns (by decide +kernel)
  have z1 : (ous σ (c + 41) g v.toInt64).2.1 - σ.2.1 = 0 := Nat.sub_self _
  have z2 : (ous σ (c + 41) g v.toInt64).2.2 - σ.2.2 = 0 := Nat.sub_self _
  rw [z1, z2] at z
  exact z
theorem L_getX (hl : l.stackTraces = false) (ho : hObj σ c = some 6) (hp : hGet σ c 6 4 = some (.ref (c + 9))) (ho9 : hObj σ (c + 9) = some 0) (hf : noG c σ x y) : Met l method_3 [.codeWith method_3 method_3_code 5 (some .int) hh3] (rmL 1 6) (va_Pc [.ref c, .int x, .int y, .ref (c + 41)] (GS D K base σ)) (LQ D K base (nI 1) (thr σ)) 1 6 (fun q => base ≤ q) := by
  refine Met.ofWFH (cc := method_3_code) (maxL := 5) (ret := some .int) (hh := hh3) (by decide +kernel) rfl ?_
  intro p e s m args below meth c' s₁ B hml hex hv
  obtain ⟨rfl, hWo, hTK, hb, hX⟩ := hv
  have C : CT p (rmL 1 6) s m c' meth D K base method_3_code 5 10 false 7 150 := ⟨B.exec, B.bytes, hml, findClass_of_methodNamed B.named, hTK, hb, (fun hi => by cases hi), Nat.le_refl _, Nat.le_refl _⟩
  rw [lg_entry_eq]
  refine W.cs (Nat.sub_self σ.2.1).symm (Nat.sub_self σ.2.2).symm ?_
  suffices G : Go p l e (rmL 1 6) s m [.ref c, .int x, .int y, .ref (c + 41)].toArray below meth c' (MQ below (LQ D K base (nI 1) (thr σ)) [.ref c, .int x, .int y, .ref (c + 41)].toArray s 1 6 (fun q => base ≤ q)) D K base 5 σ.2.1 σ.2.2 (0, [.ref c, .int x, .int y, .ref (c + 41), junk], [], σ) from G s.heap [] _ hWo va_S.rf (LR.ent (as := [.ref c, .int x, .int y, .ref (c + 41)]) (fun v hv r hr => by subst hr; simp at hv) (Nat.le_of_ble_eq_true rfl))
  have hOS := run_sound l D K base 0
  refine go_step hOS C (i := .aload_n 3) (len := 1) (by decide +kernel) (f := (1, [.ref c, .int x, .int y, .ref (c + 41), junk], [.ref (c + 41)], σ)) (rfl) (by first | exact Nat.le_refl _ | omega) (by first | exact Nat.le_refl _ | omega) (by first | exact Nat.le_trans (Nat.le_of_eq (Nat.sub_self _)) (Nat.zero_le _) | (dsimp only; omega)) (by first | exact Nat.le_trans (Nat.le_of_eq (Nat.sub_self _)) (Nat.zero_le _) | (dsimp only; omega)) ?_
  refine go_step hOS C (i := .iconst 0) (len := 1) (by decide +kernel) (f := (2, [.ref c, .int x, .int y, .ref (c + 41), junk], [.int 0, .ref (c + 41)], σ)) (rfl) (by first | exact Nat.le_refl _ | omega) (by first | exact Nat.le_refl _ | omega) (by first | exact Nat.le_trans (Nat.le_of_eq (Nat.sub_self _)) (Nat.zero_le _) | (dsimp only; omega)) (by first | exact Nat.le_trans (Nat.le_of_eq (Nat.sub_self _)) (Nat.zero_le _) | (dsimp only; omega)) ?_
  refine go_step hOS C (i := .aload_n 0) (len := 1) (by decide +kernel) (f := (3, [.ref c, .int x, .int y, .ref (c + 41), junk], [.ref c, .int 0, .ref (c + 41)], σ)) (rfl) (by first | exact Nat.le_refl _ | omega) (by first | exact Nat.le_refl _ | omega) (by first | exact Nat.le_trans (Nat.le_of_eq (Nat.sub_self _)) (Nat.zero_le _) | (dsimp only; omega)) (by first | exact Nat.le_trans (Nat.le_of_eq (Nat.sub_self _)) (Nat.zero_le _) | (dsimp only; omega)) ?_
  refine go_step hOS C (i := .iload_n 1) (len := 1) (by decide +kernel) (f := (4, [.ref c, .int x, .int y, .ref (c + 41), junk], [.int x, .ref c, .int 0, .ref (c + 41)], σ)) (rfl) (by first | exact Nat.le_refl _ | omega) (by first | exact Nat.le_refl _ | omega) (by first | exact Nat.le_trans (Nat.le_of_eq (Nat.sub_self _)) (Nat.zero_le _) | (dsimp only; omega)) (by first | exact Nat.le_trans (Nat.le_of_eq (Nat.sub_self _)) (Nat.zero_le _) | (dsimp only; omega)) ?_
  refine go_step hOS C (i := .iload_n 2) (len := 1) (by decide +kernel) (f := (5, [.ref c, .int x, .int y, .ref (c + 41), junk], [.int y, .int x, .ref c, .int 0, .ref (c + 41)], σ)) (rfl) (by first | exact Nat.le_refl _ | omega) (by first | exact Nat.le_refl _ | omega) (by first | exact Nat.le_trans (Nat.le_of_eq (Nat.sub_self _)) (Nat.zero_le _) | (dsimp only; omega)) (by first | exact Nat.le_trans (Nat.le_of_eq (Nat.sub_self _)) (Nat.zero_le _) | (dsimp only; omega)) ?_
  intro H locs arr hW hS hLR
  have hw : ∀ w ∈ zE, w.before [.ref c, .int x, .int y, .ref (c + 41)].toArray s = true := fun w hw => hX.1 w hw _
  have hTW := hTK.2
  have hj : 135 < 252 := Nat.le_of_ble_eq_true rfl
  obtain ⟨hcode, hkw, hsw⟩ := hTW.2.2.2.2.2.1 135 hj
  have hlink := hTW.2.1 ((10, 7), (135, 0)) (lookup_in (by decide +kernel))
  obtain ⟨hy1, hy2, hpar, -⟩ := zM_od hj
  have hcls : mO 135 = 6 := by decide +kernel
  have hK1 : mK 135 = 1 := by decide +kernel
  unfold zKw at hkw
  unfold zSw at hsw
  unfold zCw at hlink
  rw [if_neg (by rw [hK1]; decide)] at hkw
  rw [if_pos hK1] at hsw
  rw [if_pos rfl] at hlink
  have hws : ∀ x ∈ [Jvm.Cond.code (mY 135) (mB 135) (mL 135) (mR 135)], ∀ (a' : Array Value) (U : State), s.WarmedH U.vm → x.before a' U = true := by
    intro x hx a' U hU
    rw [List.mem_singleton.mp hx]
    exact Hd.moved rfl hU hcode a'
  have hini : (Jvm.Cond.initialized (mY 135).cls).before [.ref c, .int x, .int y, .ref (c + 41)].toArray s = true := by
    have := hTW.2.2.2.2.2.2.1 6 (by decide) [.ref c, .int x, .int y, .ref (c + 41)].toArray
    rw [← hcls] at this
    exact this
  have hlen : ∀ sig, parseMethodDescriptor (mY 135).desc = some sig → 2 = sig.parameters.length := fun sig hsig => by
    rw [hsig] at hpar
    exact (show 2 = mP 135 by decide +kernel).trans (Option.some.inj hpar).symm
  have hS9 : CallFix p m c' method_3_code 5 s [.ref c, .int x, .int y, .ref (c + 41)].toArray [] (zC 10) := ⟨C.1, C.2.1, C.2.2.1, C.2.2.2.1, fun x hx => absurd hx List.not_mem_nil⟩
  have hrv : ∃ cellB : Cell, H[c]? = some cellB ∧ cellB.vm.isStatics = false ∧ s.vm.findClass (zC (mO 135)) = some cellB.cls := by
    obtain ⟨fs, hfs⟩ := hObj_eq ho
    obtain ⟨r, g0, cell, g1, g2, g3, -⟩ := (hW.2.2 _ _ hfs).2
    exact ⟨cell, g1, by rw [g3]; rfl, by rw [g2, hcls]; exact (C.2.2.2.2.1.1.1 6 _ (zC8 (by decide))).2.1⟩
  have hrun := vx_runV (n := 2) (C := zC (mO 135)) (R := rmL 1 6) (rm := rmG) (ws := [.code (mY 135) (mB 135) (mL 135) (mR 135)]) (mc := 1) (ms := 6) (b := c) (As := [.int x, .int y]) (rest := [.int 0, .ref (c + 41)]) (cells := σ.2.1 - σ.2.1) (slots := σ.2.2 - σ.2.2) (g := F0 m 5 arr [.int y, .int x, .ref c, .int 0, .ref (c + 41)]) (e := e) (below := below) (meth := meth) (locs := locs) hS9 (X_get (D := D) (K := K) (base := base) (x := x) hl hp ho9 hf) ⟨⟨rfl, rfl, Nat.le_refl _, (by decide +kernel), hws, List.mem_singleton.mpr rfl, hcode _, hini, ⟨hy1, hy2⟩, hlen, hlink _⟩, hkw _, hsw _⟩ ⟨GS_blind, hrv, fun U hU hWm => ⟨rfl, by rw [hU]; exact hW, hTK.moved hWm, by rw [hU]; exact Nat.le_trans hb hS.1, hX.go hWm fun a h1 h2 => by rw [hU]; exact hS.2.1 a h1 h2⟩⟩ rfl rfl hLR.size rfl (Nat.le_of_ble_eq_true rfl) (show decode method_3_code 5 = .ok (.invokevirtual 7, 3) by decide +kernel) ⟨by show σ.2.1 - σ.2.1 + 1 ≤ 1; omega, by show σ.2.2 - σ.2.2 + 6 ≤ 6; omega⟩
  refine xcall hrun hS fun q9 ce H1 locs1 hW1 hS1 hce hcv hcl => ?_
  refine vx_catch (own := "AbsenceTreeLaw") (name := nE) (E := nE) C.2.2.2.1 [] ⟨0, 10, 13, 13⟩ [] hex (fun z hz => nomatch hz) (show covers ⟨0, 10, 13, 13⟩ 5 = true by decide +kernel) (by decide) (hw _ (List.mem_append_left _ (List.mem_of_getElem? (i := 2) rfl))) (hw _ (List.mem_append_left _ (List.mem_of_getElem? (i := 3) rfl))) hce hcv hcl ?_
  have key : Go p l e (rmL 1 6) s m [.ref c, .int x, .int y, .ref (c + 41)].toArray below meth c' (MQ below (LQ D K base (nI 1) (thr σ)) [.ref c, .int x, .int y, .ref (c + 41)].toArray s 1 6 (fun q => base ≤ q)) D K base 5 σ.2.1 σ.2.2 (13, [.ref c, .int x, .int y, .ref (c + 41), junk], [.ref q9], thr σ) := by
    refine go_step hOS C (i := .astore 4) (len := 2) (by decide +kernel) (f := (15, [.ref c, .int x, .int y, .ref (c + 41), .ref q9], [], thr σ)) (rfl) (by first | exact Nat.le_succ _ | exact Nat.le_refl _ | omega) (by first | exact Nat.le_add_right _ _ | omega) (by show σ.2.1 + 1 - σ.2.1 ≤ 1; omega) (by show σ.2.2 + 6 - σ.2.2 ≤ 6; omega) ?_
    refine go_step hOS C (i := .iconst 1) (len := 1) (by decide +kernel) (f := (16, [.ref c, .int x, .int y, .ref (c + 41), .ref q9], [.int (nI 1)], thr σ)) (rfl) (by first | exact Nat.le_succ _ | exact Nat.le_refl _ | omega) (by first | exact Nat.le_add_right _ _ | omega) (by show σ.2.1 + 1 - σ.2.1 ≤ 1; omega) (by show σ.2.2 + 6 - σ.2.2 ≤ 6; omega) ?_
    have z := go_iret (l := l) (e := e) (R := rmL 1 6) (args := [.ref c, .int x, .int y, .ref (c + 41)].toArray) (below := below) (pc := 16) (ls := [.ref c, .int x, .int y, .ref (c + 41), .ref q9]) (x := nI 1) (σ := thr σ) (n0 := σ.2.1) (s0 := σ.2.2) C B.notSynchronized B.returns (by decide +kernel)
    have z1 : (thr σ).2.1 - σ.2.1 = 1 := Nat.add_sub_cancel_left _ _
    have z2 : (thr σ).2.2 - σ.2.2 = 6 := Nat.add_sub_cancel_left _ _
    rw [z1, z2] at z
    exact z
  exact W.cs (by show σ.2.1 - σ.2.1 + 1 = σ.2.1 + 1 - σ.2.1; omega) (by show σ.2.2 - σ.2.2 + 6 = σ.2.2 + 6 - σ.2.2; omega) (key H1 locs1 arr hW1 hS1 hLR)
theorem L_row {v : Int64} (ho : hObj σ c = some 6) (h : dcall 136 [.ref c, .int x] σ = some (some (.long v), σ)) {g : Nat → Int64} (hg : σ.1 (c + 41) = some (.inl (1, 1, .inr (.inl g)))) : Met l method_4 [.codeWith method_4 method_4_code 4 (some .int) hh4] (rmL 0 0) (va_Pc [.ref c, .int x, .ref (c + 41)] (GS D K base σ)) (LQ D K base (nI 0) (ous σ (c + 41) g v)) 0 0 (fun q => base ≤ q) := by
  refine Met.ofWFH (cc := method_4_code) (maxL := 4) (ret := some .int) (hh := hh4) (by decide +kernel) rfl ?_
  intro p e s m args below meth c' s₁ B hml hex hv
  obtain ⟨rfl, hWo, hTK, hb, hX⟩ := hv
  have C : CT p (rmL 0 0) s m c' meth D K base method_4_code 4 10 false 7 150 := ⟨B.exec, B.bytes, hml, findClass_of_methodNamed B.named, hTK, hb, (fun hi => by cases hi), Nat.le_refl _, Nat.le_refl _⟩
  rw [lg_entry_eq]
  refine W.cs (Nat.sub_self σ.2.1).symm (Nat.sub_self σ.2.2).symm ?_
  suffices G : Go p l e (rmL 0 0) s m [.ref c, .int x, .ref (c + 41)].toArray below meth c' (MQ below (LQ D K base (nI 0) (ous σ (c + 41) g v)) [.ref c, .int x, .ref (c + 41)].toArray s 0 0 (fun q => base ≤ q)) D K base 4 σ.2.1 σ.2.2 (0, [.ref c, .int x, .ref (c + 41), junk], [], σ) from G s.heap [] _ hWo va_S.rf (LR.ent (as := [.ref c, .int x, .ref (c + 41)]) (fun v hv r hr => by subst hr; simp at hv) (Nat.le_of_ble_eq_true rfl))
  obtain ⟨n, hn⟩ := dcall_N h
  have hOS := run_sound l D K base n
  refine go_step hOS C (i := .aload_n 2) (len := 1) (by decide +kernel) (f := (1, [.ref c, .int x, .ref (c + 41), junk], [.ref (c + 41)], σ)) (rfl) (by first | exact Nat.le_refl _ | omega) (by first | exact Nat.le_refl _ | omega) (by first | exact Nat.le_trans (Nat.le_of_eq (Nat.sub_self _)) (Nat.zero_le _) | (dsimp only; omega)) (by first | exact Nat.le_trans (Nat.le_of_eq (Nat.sub_self _)) (Nat.zero_le _) | (dsimp only; omega)) ?_
  refine go_step hOS C (i := .iconst 0) (len := 1) (by decide +kernel) (f := (2, [.ref c, .int x, .ref (c + 41), junk], [.int 0, .ref (c + 41)], σ)) (rfl) (by first | exact Nat.le_refl _ | omega) (by first | exact Nat.le_refl _ | omega) (by first | exact Nat.le_trans (Nat.le_of_eq (Nat.sub_self _)) (Nat.zero_le _) | (dsimp only; omega)) (by first | exact Nat.le_trans (Nat.le_of_eq (Nat.sub_self _)) (Nat.zero_le _) | (dsimp only; omega)) ?_
  refine go_step hOS C (i := .aload_n 0) (len := 1) (by decide +kernel) (f := (3, [.ref c, .int x, .ref (c + 41), junk], [.ref c, .int 0, .ref (c + 41)], σ)) (rfl) (by first | exact Nat.le_refl _ | omega) (by first | exact Nat.le_refl _ | omega) (by first | exact Nat.le_trans (Nat.le_of_eq (Nat.sub_self _)) (Nat.zero_le _) | (dsimp only; omega)) (by first | exact Nat.le_trans (Nat.le_of_eq (Nat.sub_self _)) (Nat.zero_le _) | (dsimp only; omega)) ?_
  refine go_step hOS C (i := .iload_n 1) (len := 1) (by decide +kernel) (f := (4, [.ref c, .int x, .ref (c + 41), junk], [.int x, .ref c, .int 0, .ref (c + 41)], σ)) (rfl) (by first | exact Nat.le_refl _ | omega) (by first | exact Nat.le_refl _ | omega) (by first | exact Nat.le_trans (Nat.le_of_eq (Nat.sub_self _)) (Nat.zero_le _) | (dsimp only; omega)) (by first | exact Nat.le_trans (Nat.le_of_eq (Nat.sub_self _)) (Nat.zero_le _) | (dsimp only; omega)) ?_
  refine go_step hOS C (i := .invokevirtual 15) (len := 3) (by decide +kernel) (f := (7, [.ref c, .int x, .ref (c + 41), junk], [.long v, .int 0, .ref (c + 41)], σ)) (by have := cal_is (call := callN n) (h := 7) (w := 150) (o := 10) (k := 1) (idx := 15) (j := 136) (nest := 0) (pc := 4) (q := 2) (ls := [.ref c, .int x, .ref (c + 41), junk]) (st := [.int x, .ref c, .int 0, .ref (c + 41)]) (v := some (.long v)) (σ := σ) (τ := σ) (by decide +kernel) (by decide) (by decide) (by decide +kernel) (Nat.le_of_ble_eq_true rfl) (Nat.le_of_ble_eq_true rfl) (rcv_v (ho.trans (by decide +kernel))) hn; exact this) (by first | exact Nat.le_refl _ | omega) (by first | exact Nat.le_refl _ | omega) (by first | exact Nat.le_trans (Nat.le_of_eq (Nat.sub_self _)) (Nat.zero_le _) | (dsimp only; omega)) (by first | exact Nat.le_trans (Nat.le_of_eq (Nat.sub_self _)) (Nat.zero_le _) | (dsimp only; omega)) ?_
  have hL0 : hL σ (c + 41) 1 = some (1, g) := hL_of hg
  refine go_step hOS C (i := .lastore) (len := 1) (by decide +kernel) (f := (8, [.ref c, .int x, .ref (c + 41), junk], [], ous σ (c + 41) g v)) (by simp [ex, astL, hL0, inb, ous]) (by first | exact Nat.le_refl _ | omega) (by first | exact Nat.le_refl _ | omega) (by first | exact Nat.le_trans (Nat.le_of_eq (Nat.sub_self _)) (Nat.zero_le _) | (dsimp only; omega)) (by first | exact Nat.le_trans (Nat.le_of_eq (Nat.sub_self _)) (Nat.zero_le _) | (dsimp only; omega)) ?_
  refine go_step hOS C (i := .goto 6) (len := 3) (by decide +kernel) (f := (14, [.ref c, .int x, .ref (c + 41), junk], [], ous σ (c + 41) g v)) (rfl) (by first | exact Nat.le_refl _ | omega) (by first | exact Nat.le_refl _ | omega) (by first | exact Nat.le_trans (Nat.le_of_eq (Nat.sub_self _)) (Nat.zero_le _) | (dsimp only; omega)) (by first | exact Nat.le_trans (Nat.le_of_eq (Nat.sub_self _)) (Nat.zero_le _) | (dsimp only; omega)) ?_
  refine go_step hOS C (i := .iconst 0) (len := 1) (by decide +kernel) (f := (15, [.ref c, .int x, .ref (c + 41), junk], [.int (nI 0)], ous σ (c + 41) g v)) (rfl) (by first | exact Nat.le_refl _ | omega) (by first | exact Nat.le_refl _ | omega) (by first | exact Nat.le_trans (Nat.le_of_eq (Nat.sub_self _)) (Nat.zero_le _) | (dsimp only; omega)) (by first | exact Nat.le_trans (Nat.le_of_eq (Nat.sub_self _)) (Nat.zero_le _) | (dsimp only; omega)) ?_
  have z := go_iret (l := l) (e := e) (R := rmL 0 0) (args := [.ref c, .int x, .ref (c + 41)].toArray) (below := below) (pc := 15) (ls := [.ref c, .int x, .ref (c + 41), junk]) (x := nI 0) (σ := ous σ (c + 41) g v) (n0 := σ.2.1) (s0 := σ.2.2) C B.notSynchronized B.returns (by decide +kernel)
  have z1 : (ous σ (c + 41) g v).2.1 - σ.2.1 = 0 := Nat.sub_self _
  have z2 : (ous σ (c + 41) g v).2.2 - σ.2.2 = 0 := Nat.sub_self _
  rw [z1, z2] at z
  exact z
theorem L_rowX (hl : l.stackTraces = false) (ho : hObj σ c = some 6) {k : Nat} (hp : hGet σ c 6 1 = some (.ref (c + 3))) (hs : hGet σ (c + 3) 3 1 = some (.int (nI k))) (hf : x < nI 0 ∨ nI k ≤ x) : Met l method_4 [.codeWith method_4 method_4_code 4 (some .int) hh4] (rmL 1 6) (va_Pc [.ref c, .int x, .ref (c + 41)] (GS D K base σ)) (LQ D K base (nI 1) (thr σ)) 1 6 (fun q => base ≤ q) := by
  refine Met.ofWFH (cc := method_4_code) (maxL := 4) (ret := some .int) (hh := hh4) (by decide +kernel) rfl ?_
  intro p e s m args below meth c' s₁ B hml hex hv
  obtain ⟨rfl, hWo, hTK, hb, hX⟩ := hv
  have C : CT p (rmL 1 6) s m c' meth D K base method_4_code 4 10 false 7 150 := ⟨B.exec, B.bytes, hml, findClass_of_methodNamed B.named, hTK, hb, (fun hi => by cases hi), Nat.le_refl _, Nat.le_refl _⟩
  rw [lg_entry_eq]
  refine W.cs (Nat.sub_self σ.2.1).symm (Nat.sub_self σ.2.2).symm ?_
  suffices G : Go p l e (rmL 1 6) s m [.ref c, .int x, .ref (c + 41)].toArray below meth c' (MQ below (LQ D K base (nI 1) (thr σ)) [.ref c, .int x, .ref (c + 41)].toArray s 1 6 (fun q => base ≤ q)) D K base 4 σ.2.1 σ.2.2 (0, [.ref c, .int x, .ref (c + 41), junk], [], σ) from G s.heap [] _ hWo va_S.rf (LR.ent (as := [.ref c, .int x, .ref (c + 41)]) (fun v hv r hr => by subst hr; simp at hv) (Nat.le_of_ble_eq_true rfl))
  have hOS := run_sound l D K base 0
  refine go_step hOS C (i := .aload_n 2) (len := 1) (by decide +kernel) (f := (1, [.ref c, .int x, .ref (c + 41), junk], [.ref (c + 41)], σ)) (rfl) (by first | exact Nat.le_refl _ | omega) (by first | exact Nat.le_refl _ | omega) (by first | exact Nat.le_trans (Nat.le_of_eq (Nat.sub_self _)) (Nat.zero_le _) | (dsimp only; omega)) (by first | exact Nat.le_trans (Nat.le_of_eq (Nat.sub_self _)) (Nat.zero_le _) | (dsimp only; omega)) ?_
  refine go_step hOS C (i := .iconst 0) (len := 1) (by decide +kernel) (f := (2, [.ref c, .int x, .ref (c + 41), junk], [.int 0, .ref (c + 41)], σ)) (rfl) (by first | exact Nat.le_refl _ | omega) (by first | exact Nat.le_refl _ | omega) (by first | exact Nat.le_trans (Nat.le_of_eq (Nat.sub_self _)) (Nat.zero_le _) | (dsimp only; omega)) (by first | exact Nat.le_trans (Nat.le_of_eq (Nat.sub_self _)) (Nat.zero_le _) | (dsimp only; omega)) ?_
  refine go_step hOS C (i := .aload_n 0) (len := 1) (by decide +kernel) (f := (3, [.ref c, .int x, .ref (c + 41), junk], [.ref c, .int 0, .ref (c + 41)], σ)) (rfl) (by first | exact Nat.le_refl _ | omega) (by first | exact Nat.le_refl _ | omega) (by first | exact Nat.le_trans (Nat.le_of_eq (Nat.sub_self _)) (Nat.zero_le _) | (dsimp only; omega)) (by first | exact Nat.le_trans (Nat.le_of_eq (Nat.sub_self _)) (Nat.zero_le _) | (dsimp only; omega)) ?_
  refine go_step hOS C (i := .iload_n 1) (len := 1) (by decide +kernel) (f := (4, [.ref c, .int x, .ref (c + 41), junk], [.int x, .ref c, .int 0, .ref (c + 41)], σ)) (rfl) (by first | exact Nat.le_refl _ | omega) (by first | exact Nat.le_refl _ | omega) (by first | exact Nat.le_trans (Nat.le_of_eq (Nat.sub_self _)) (Nat.zero_le _) | (dsimp only; omega)) (by first | exact Nat.le_trans (Nat.le_of_eq (Nat.sub_self _)) (Nat.zero_le _) | (dsimp only; omega)) ?_
  intro H locs arr hW hS hLR
  have hw : ∀ w ∈ zE, w.before [.ref c, .int x, .ref (c + 41)].toArray s = true := fun w hw => hX.1 w hw _
  have hTW := hTK.2
  have hj : 136 < 252 := Nat.le_of_ble_eq_true rfl
  obtain ⟨hcode, hkw, hsw⟩ := hTW.2.2.2.2.2.1 136 hj
  have hlink := hTW.2.1 ((10, 15), (136, 0)) (lookup_in (by decide +kernel))
  obtain ⟨hy1, hy2, hpar, -⟩ := zM_od hj
  have hcls : mO 136 = 6 := by decide +kernel
  have hK1 : mK 136 = 1 := by decide +kernel
  unfold zKw at hkw
  unfold zSw at hsw
  unfold zCw at hlink
  rw [if_neg (by rw [hK1]; decide)] at hkw
  rw [if_pos hK1] at hsw
  rw [if_pos rfl] at hlink
  have hws : ∀ x ∈ [Jvm.Cond.code (mY 136) (mB 136) (mL 136) (mR 136)], ∀ (a' : Array Value) (U : State), s.WarmedH U.vm → x.before a' U = true := by
    intro x hx a' U hU
    rw [List.mem_singleton.mp hx]
    exact Hd.moved rfl hU hcode a'
  have hini : (Jvm.Cond.initialized (mY 136).cls).before [.ref c, .int x, .ref (c + 41)].toArray s = true := by
    have := hTW.2.2.2.2.2.2.1 6 (by decide) [.ref c, .int x, .ref (c + 41)].toArray
    rw [← hcls] at this
    exact this
  have hlen : ∀ sig, parseMethodDescriptor (mY 136).desc = some sig → 1 = sig.parameters.length := fun sig hsig => by
    rw [hsig] at hpar
    exact (show 1 = mP 136 by decide +kernel).trans (Option.some.inj hpar).symm
  have hS9 : CallFix p m c' method_4_code 4 s [.ref c, .int x, .ref (c + 41)].toArray [] (zC 10) := ⟨C.1, C.2.1, C.2.2.1, C.2.2.2.1, fun x hx => absurd hx List.not_mem_nil⟩
  have hrv : ∃ cellB : Cell, H[c]? = some cellB ∧ cellB.vm.isStatics = false ∧ s.vm.findClass (zC (mO 136)) = some cellB.cls := by
    obtain ⟨fs, hfs⟩ := hObj_eq ho
    obtain ⟨r, g0, cell, g1, g2, g3, -⟩ := (hW.2.2 _ _ hfs).2
    exact ⟨cell, g1, by rw [g3]; rfl, by rw [g2, hcls]; exact (C.2.2.2.2.1.1.1 6 _ (zC8 (by decide))).2.1⟩
  have hrun := vx_runV (n := 1) (C := zC (mO 136)) (R := rmL 1 6) (rm := rmG) (ws := [.code (mY 136) (mB 136) (mL 136) (mR 136)]) (mc := 1) (ms := 6) (b := c) (As := [.int x]) (rest := [.int 0, .ref (c + 41)]) (cells := σ.2.1 - σ.2.1) (slots := σ.2.2 - σ.2.2) (g := F0 m 4 arr [.int x, .ref c, .int 0, .ref (c + 41)]) (e := e) (below := below) (meth := meth) (locs := locs) hS9 (X_row (D := D) (K := K) (base := base) (x := x) hl hp hs hf) ⟨⟨rfl, rfl, Nat.le_refl _, (by decide +kernel), hws, List.mem_singleton.mpr rfl, hcode _, hini, ⟨hy1, hy2⟩, hlen, hlink _⟩, hkw _, hsw _⟩ ⟨GS_blind, hrv, fun U hU hWm => ⟨rfl, by rw [hU]; exact hW, hTK.moved hWm, by rw [hU]; exact Nat.le_trans hb hS.1, hX.go hWm fun a h1 h2 => by rw [hU]; exact hS.2.1 a h1 h2⟩⟩ rfl rfl hLR.size rfl (Nat.le_of_ble_eq_true rfl) (show decode method_4_code 4 = .ok (.invokevirtual 15, 3) by decide +kernel) ⟨by show σ.2.1 - σ.2.1 + 1 ≤ 1; omega, by show σ.2.2 - σ.2.2 + 6 ≤ 6; omega⟩
  refine xcall hrun hS fun q9 ce H1 locs1 hW1 hS1 hce hcv hcl => ?_
  refine vx_catch (own := "AbsenceTreeLaw") (name := nE) (E := nE) C.2.2.2.1 [] ⟨0, 8, 11, 13⟩ [] hex (fun z hz => nomatch hz) (show covers ⟨0, 8, 11, 13⟩ 4 = true by decide +kernel) (by decide) (hw _ (List.mem_append_left _ (List.mem_of_getElem? (i := 2) rfl))) (hw _ (List.mem_append_left _ (List.mem_of_getElem? (i := 3) rfl))) hce hcv hcl ?_
  have key : Go p l e (rmL 1 6) s m [.ref c, .int x, .ref (c + 41)].toArray below meth c' (MQ below (LQ D K base (nI 1) (thr σ)) [.ref c, .int x, .ref (c + 41)].toArray s 1 6 (fun q => base ≤ q)) D K base 4 σ.2.1 σ.2.2 (11, [.ref c, .int x, .ref (c + 41), junk], [.ref q9], thr σ) := by
    refine go_step hOS C (i := .astore_n 3) (len := 1) (by decide +kernel) (f := (12, [.ref c, .int x, .ref (c + 41), .ref q9], [], thr σ)) (rfl) (by first | exact Nat.le_succ _ | exact Nat.le_refl _ | omega) (by first | exact Nat.le_add_right _ _ | omega) (by show σ.2.1 + 1 - σ.2.1 ≤ 1; omega) (by show σ.2.2 + 6 - σ.2.2 ≤ 6; omega) ?_
    refine go_step hOS C (i := .iconst 1) (len := 1) (by decide +kernel) (f := (13, [.ref c, .int x, .ref (c + 41), .ref q9], [.int (nI 1)], thr σ)) (rfl) (by first | exact Nat.le_succ _ | exact Nat.le_refl _ | omega) (by first | exact Nat.le_add_right _ _ | omega) (by show σ.2.1 + 1 - σ.2.1 ≤ 1; omega) (by show σ.2.2 + 6 - σ.2.2 ≤ 6; omega) ?_
    have z := go_iret (l := l) (e := e) (R := rmL 1 6) (args := [.ref c, .int x, .ref (c + 41)].toArray) (below := below) (pc := 13) (ls := [.ref c, .int x, .ref (c + 41), .ref q9]) (x := nI 1) (σ := thr σ) (n0 := σ.2.1) (s0 := σ.2.2) C B.notSynchronized B.returns (by decide +kernel)
    have z1 : (thr σ).2.1 - σ.2.1 = 1 := Nat.add_sub_cancel_left _ _
    have z2 : (thr σ).2.2 - σ.2.2 = 6 := Nat.add_sub_cancel_left _ _
    rw [z1, z2] at z
    exact z
  exact W.cs (by show σ.2.1 - σ.2.1 + 1 = σ.2.1 + 1 - σ.2.1; omega) (by show σ.2.2 - σ.2.2 + 6 = σ.2.2 + 6 - σ.2.2; omega) (key H1 locs1 arr hW1 hS1 hLR)
end LG
