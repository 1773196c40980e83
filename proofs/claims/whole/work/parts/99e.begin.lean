/-! the law's entry: the tables' words, the classes -/
theorem Hd.of {args : Array Value} {s : State} {w : Jvm.Cond} (hw : okE w = true) (h : w.before args s = true) : Hd s w := by
  unfold okE at hw
  split at hw
  next => exact fun a => va_tabs rfl (rfl : s.vm = s.vm) h
  next => exact fun a => va_tabs rfl (rfl : s.vm = s.vm) h
  next =>
    unfold okW at hw
    split at hw
    next => exact fun a => va_tabs rfl (rfl : s.vm = s.vm) h
    next => exact fun a => va_tabs rfl (rfl : s.vm = s.vm) h
    next => exact fun a => va_AO.use (va_AO.of h)
    next => exact fun a => word_at (State.WarmedH.refl s) (good_of_word hw) h
theorem okE_of {w : Jvm.Cond} (h : okW w = true) : okE w = true := by
  unfold okE
  split
  · rfl
  · rfl
  · exact h
section BG
variable {args : Array Value} {s : State}
theorem tw_V {i : Nat} (hi : i < 252) : zVw i ∈ lw_tbl := by
  have key : ∀ a n, (∀ e, e < n → zVw (a + e) ∈ lw_tbl) → a ≤ i → i < a + n → zVw i ∈ lw_tbl := fun a n h q1 q2 => by
    have := h (i - a) (by omega)
    rwa [show a + (i - a) = i by omega] at this
  by_cases q1 : i < 36
  · exact key 0 36 tw_V0 (by omega) (by omega)
  by_cases q2 : i < 72
  · exact key 36 36 tw_V1 (by omega) (by omega)
  by_cases q3 : i < 108
  · exact key 72 36 tw_V2 (by omega) (by omega)
  by_cases q4 : i < 144
  · exact key 108 36 tw_V3 (by omega) (by omega)
  by_cases q5 : i < 180
  · exact key 144 36 tw_V4 (by omega) (by omega)
  by_cases q6 : i < 216
  · exact key 180 36 tw_V5 (by omega) (by omega)
  · exact key 216 36 tw_V6 (by omega) (by omega)
theorem tw_U {k : Nat} (hk : k < 8) : ∀ w ∈ u_ws (zC k) (zT k) (zN k), w ∈ lw_tbl := by
  rcases (show k = 0 ∨ k = 1 ∨ k = 2 ∨ k = 3 ∨ k = 4 ∨ k = 5 ∨ k = 6 ∨ k = 7 by omega) with rfl | rfl | rfl | rfl | rfl | rfl | rfl | rfl
  · exact tw_U0
  · exact tw_U1
  · exact tw_U2
  · exact tw_U3
  · exact tw_U4
  · exact tw_U5
  · exact tw_U6
  · exact tw_U7
theorem tws_of (hts : ∀ w ∈ lw_tbl, w.before args s = true) : TWs s := by
  have g : ∀ {w : Jvm.Cond}, okW w = true → w ∈ lw_tbl → Hd s w := fun h1 h2 => Hd.of (okE_of h1) (hts _ h2)
  refine ⟨fun e he => g (zFw_ok e) (tw_F e he), fun e he => g (zCw_ok e) (tw_C e he), fun e he => ⟨g rfl (tw_N e he), g rfl (tw_N2 e he)⟩, fun e he => g rfl (tw_I e he), fun e he => g rfl (tw_L e he), fun i hi => ⟨g rfl (tw_V hi), g (zKw_ok i) (tw_K i (List.mem_range.mpr hi)), g (zSw_ok i) (tw_S i (List.mem_range.mpr hi))⟩, fun k hk => g rfl (tw_D k (List.mem_range.mpr hk)), fun k hk => ⟨g rfl (tw_O k (List.mem_range.mpr hk)), fun w hw => g (zUw_ok w hw) (tw_U hk w hw)⟩, fun w hw => g ?_ (tw_X w hw)⟩
  exact (by decide : ∀ w ∈ zX.map okW, w = true) _ (List.mem_map.mpr ⟨w, hw, rfl⟩)
theorem kn_of (hts : ∀ w ∈ lw_tbl, w.before args s = true) {k : Nat} (hk : k < 8) : ∃ (cC : ClassId) (iS : Nat → Nat), u_Kn s (zC k) (zT k) (zN k) cC iS := by
  have hi : ∃ e ∈ zNt, e.2 = k := by
    rcases (show k = 0 ∨ k = 1 ∨ k = 2 ∨ k = 3 ∨ k = 4 ∨ k = 5 ∨ k = 6 ∨ k = 7 by omega) with rfl | rfl | rfl | rfl | rfl | rfl | rfl | rfl <;> decide +kernel
  obtain ⟨e, he, rfl⟩ := hi
  exact u_known (n := zN e.2) hts (tw_U hk) (hts _ (tw_N2 e he))
theorem arr_of (hts : ∀ w ∈ lw_tbl, w.before args s = true) {k : Nat} (hk : k < 7) : ∃ cA : ClassId, ArrOfT s cA (zG k) ∧ va_RA s cA (zG k) := by
  have pl : ∀ {t : FieldType}, (∀ C, t ≠ .object C) → Jvm.Cond.arrayClass t ∈ zX → ∃ cA : ClassId, ArrOfT s cA t ∧ va_RA s cA t := fun {t} ht hm => by
    obtain ⟨cA, kA, comp, h1, h2, h3⟩ := Cond.arrayClass_spec (hts _ (tw_X _ hm))
    refine ⟨cA, fun n z => ⟨fun k h => (by cases h), kA, h2, comp, h3⟩, ?_⟩
    cases t with
    | object C => exact absurd rfl (ht C)
    | _ => exact h1
  have ob : ∀ {C : String}, Jvm.Cond.arrayOver (.object C) ∈ zX → ∃ cA : ClassId, ArrOfT s cA (.object C) ∧ va_RA s cA (.object C) := fun {C} hm => by
    obtain ⟨comp, cA, kA, h0, -, h2, h3, h1⟩ := Cond.arrayOver_spec (hts _ (tw_X _ hm))
    exact ⟨cA, fun n z => ⟨fun k h => (by cases h), kA, h2, comp, h3⟩, kA, comp, h2, h3, h0, h1⟩
  rcases (show k = 0 ∨ k = 1 ∨ k = 2 ∨ k = 3 ∨ k = 4 ∨ k = 5 ∨ k = 6 by omega) with rfl | rfl | rfl | rfl | rfl | rfl | rfl
  · exact pl (fun C h => by cases h) (List.mem_of_getElem? (i := 8) rfl)
  · exact pl (fun C h => by cases h) (List.mem_of_getElem? (i := 9) rfl)
  · exact pl (fun C h => by cases h) (List.mem_of_getElem? (i := 10) rfl)
  · exact pl (fun C h => by cases h) (List.mem_of_getElem? (i := 11) rfl)
  · exact pl (fun C h => by cases h) (List.mem_of_getElem? (i := 12) rfl)
  · exact ob (List.mem_of_getElem? (i := 13) rfl)
  · exact ob (List.mem_of_getElem? (i := 14) rfl)
theorem tk_of (hts : ∀ w ∈ lw_tbl, w.before args s = true) : ∃ (D : va_G) (K : Nat → ClassId), TK D K s := by
  have h1 : ∀ k, ∃ (cC : ClassId) (iS : Nat → Nat), k < 8 → u_Kn s (zC k) (zT k) (zN k) cC iS := fun k => by
    by_cases hk : k < 8
    · obtain ⟨a, b, h⟩ := kn_of hts hk
      exact ⟨a, b, fun _ => h⟩
    · exact ⟨0, fun _ => 0, fun h => absurd h hk⟩
  have h2 : ∀ k, ∃ cA : ClassId, k < 7 → ArrOfT s cA (zG k) ∧ va_RA s cA (zG k) := fun k => by
    by_cases hk : k < 7
    · obtain ⟨a, h⟩ := arr_of hts hk
      exact ⟨a, fun _ => h⟩
    · exact ⟨0, fun h => absurd h hk⟩
  obtain ⟨f1, h1⟩ := Classical.axiomOfChoice h1
  obtain ⟨f2, h1⟩ := Classical.axiomOfChoice h1
  obtain ⟨f3, h2⟩ := Classical.axiomOfChoice h2
  refine ⟨(f1, f2), f3, ⟨fun k q hq => ?_, fun k q hq => ?_⟩, tws_of hts⟩
  · have hk : k < 8 := (List.getElem?_eq_some_iff.mp hq).1
    rw [zC8 hk] at hq
    cases hq
    exact h1 k hk
  · have hk : k < 7 := (List.getElem?_eq_some_iff.mp hq).1
    rw [tgs_at f3 hk] at hq
    cases hq
    exact h2 k hk
set_option maxRecDepth 100000 in
theorem tw_St : ∀ w ∈ [Jvm.Cond.laysStatic Bundle.tN "UNASSIGNED_STACK" Bundle.steD, Jvm.Cond.laysStatic Bundle.tN "SUPPRESSED_SENTINEL" Bundle.listD, Jvm.Cond.initialized Bundle.tN], w ∈ lw_tbl := by decide +kernel
theorem xs_of (hts : ∀ w ∈ lw_tbl, w.before args s = true) (h1 : (Jvm.Cond.isRef (.static Bundle.tN "UNASSIGNED_STACK" Bundle.steD)).before args s = true) (h2 : (Jvm.Cond.isRef (.static Bundle.tN "SUPPRESSED_SENTINEL" Bundle.listD)).before args s = true) : XS s.heap.size s :=
  ⟨fun w hw => Hd.of (zE_ok w hw) (hts _ (tw_E w hw)), vx_Zqof (hts _ (tw_St _ (List.mem_of_getElem? (i := 0) rfl))) (hts _ (tw_St _ (List.mem_of_getElem? (i := 2) rfl))) h1 (fun a h => Nat.not_le.mpr h), vx_Zqof (hts _ (tw_St _ (List.mem_of_getElem? (i := 1) rfl))) (hts _ (tw_St _ (List.mem_of_getElem? (i := 2) rfl))) h2 (fun a h => Nat.not_le.mpr h)⟩
end BG
