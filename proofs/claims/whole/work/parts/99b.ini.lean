/-! what the constructors make: the law's start -/
section IN
variable {c t n n' j k kf : Nat} {σ ρ τ : Hp} {E : va_E} {fs : List Value} {g : Nat → Option va_E}
/-- a stage of a constructor: a thing is made, and put into a field -/
theorem stg {ci : Nat} (hc : ρ.1 c = some (.inr (ci, fs))) (hj : j < fs.length) (hn : ρ.2.1 = c + n) (hn0 : 1 ≤ n) (hp : ∀ i, 1 ≤ i → i < n → ρ.1 (c + i) = g i) (ht : ∀ a, a < c + n → τ.1 a = (hnew ρ E k).1 a) (hx : ∀ i, n ≤ i → i < n' → τ.1 (c + i) = g i) : hPut τ c ci j (.ref (c + n)) = some (hup τ c (.inr (ci, fs.set j (.ref (c + n))))) ∧ (∀ i, 1 ≤ i → i < n' → (hup τ c (.inr (ci, fs.set j (.ref (c + n))))).1 (c + i) = g i) := by
  have e : τ.1 c = some (.inr (ci, fs)) := by rw [ht c (by omega), hnew_ne (by omega)]; exact hc
  refine ⟨hPut_of e hj, fun i h1 h2 => ?_⟩
  rw [hup_ne (by omega)]
  by_cases hi : i < n
  · rw [ht _ (by omega), hnew_ne (by omega)]
    exact hp i h1 hi
  · exact hx i (by omega) h2

theorem Tx_ini (h : σ.1 t = some (.inr (4, zD 4))) (hn : σ.2.1 = t + 1) : ∃ τ, dcall 1 [.ref t] σ = some (none, τ) ∧ τ.1 t = some (.inr (4, [.ref (t + 1), .int 0, .int 0, .int 0])) ∧ τ.1 (t + 1) = some (.inl (3, 80, .inl (fun _ => 0))) ∧ (∀ a, a < t → τ.1 a = σ.1 a) ∧ τ.2 = (t + 2, σ.2.2 + 80) := by
  have e : hPut (hnew σ (.inl (3, 80, .inl (fun _ => 0))) 80) t 4 0 (.ref σ.2.1) = some (hup (hnew σ (.inl (3, 80, .inl (fun _ => 0))) 80) t (.inr (4, [.ref (t + 1), .int 0, .int 0, .int 0]))) := by
    rw [hn]
    exact hPut_of (fs := zD 4) ((hnew_ne (by omega)).trans h) (Nat.le_of_ble_eq_true rfl)
  have ez : hnew σ (.inl (3, 80, .inl (fun _ => 0))) 80 = hnew σ (zArr 3 80) 80 := rfl
  refine ⟨hup (hnew σ (.inl (3, 80, .inl (fun _ => 0))) 80) t (.inr (4, [.ref (t + 1), .int 0, .int 0, .int 0])), ?_, hup_at, ?_, fun a ha => ?_, ?_⟩
  · rw [q1]
    rw [ez] at e ⊢
    simp only [e1_0, e1_1, e1_4, e1_5, e1_7, e1_9, e1_12, kv_s, kh_s, kr_s, kr_v, kn_s, e]
  · rw [hup_ne (by omega), ← hn]; exact hnew_at
  · rw [hup_ne (by omega)]; exact hnew_ne (by omega)
  · show (σ.2.1 + 1, σ.2.2 + 80) = _
    rw [hn]
theorem Rw_ini (h : σ.1 t = some (.inr (3, zD 3))) (hn : σ.2.1 = t + 1) : ∃ τ, dcall 2 [.ref t] σ = some (none, τ) ∧ τ.1 t = some (.inr (3, [.ref (t + 1), .int 0])) ∧ τ.1 (t + 1) = some (.inl (1, 128, .inr (.inl (fun _ => 0)))) ∧ (∀ a, a < t → τ.1 a = σ.1 a) ∧ τ.2 = (t + 2, σ.2.2 + 128) := by
  have e : hPut (hnew σ (.inl (1, 128, .inr (.inl (fun _ => 0)))) 128) t 3 0 (.ref σ.2.1) = some (hup (hnew σ (.inl (1, 128, .inr (.inl (fun _ => 0)))) 128) t (.inr (3, [.ref (t + 1), .int 0]))) := by
    rw [hn]
    exact hPut_of (fs := zD 3) ((hnew_ne (by omega)).trans h) (Nat.le_of_ble_eq_true rfl)
  have ez : hnew σ (.inl (1, 128, .inr (.inl (fun _ => 0)))) 128 = hnew σ (zArr 1 128) 128 := rfl
  refine ⟨hup (hnew σ (.inl (1, 128, .inr (.inl (fun _ => 0)))) 128) t (.inr (3, [.ref (t + 1), .int 0])), ?_, hup_at, ?_, fun a ha => ?_, ?_⟩
  · rw [q2]
    rw [ez] at e ⊢
    simp only [e2_0, e2_1, e2_4, e2_5, e2_8, e2_10, e2_13, kv_s, kh_s, kr_s, kr_v, kn_s, e]
  · rw [hup_ne (by omega), ← hn]; exact hnew_at
  · rw [hup_ne (by omega)]; exact hnew_ne (by omega)
  · show (σ.2.1 + 1, σ.2.2 + 128) = _
    rw [hn]
theorem Pr_ini (h : σ.1 t = some (.inr (2, zD 2))) (hn : σ.2.1 = t + 1) : ∃ τ, dcall 3 [.ref t] σ = some (none, τ) ∧ τ.1 t = some (.inr (2, [.ref (t + 1), .int 0, .int 0, .int 0, .int 0, .int 0])) ∧ τ.1 (t + 1) = some (.inl (0, 8, .inl (fun _ => 0))) ∧ (∀ a, a < t → τ.1 a = σ.1 a) ∧ τ.2 = (t + 2, σ.2.2 + 8) := by
  have e : hPut (hnew σ (.inl (0, 8, .inl (fun _ => 0))) 8) t 2 0 (.ref σ.2.1) = some (hup (hnew σ (.inl (0, 8, .inl (fun _ => 0))) 8) t (.inr (2, [.ref (t + 1), .int 0, .int 0, .int 0, .int 0, .int 0]))) := by
    rw [hn]
    exact hPut_of (fs := zD 2) ((hnew_ne (by omega)).trans h) (Nat.le_of_ble_eq_true rfl)
  have ez : hnew σ (.inl (0, 8, .inl (fun _ => 0))) 8 = hnew σ (zArr 0 8) 8 := rfl
  refine ⟨hup (hnew σ (.inl (0, 8, .inl (fun _ => 0))) 8) t (.inr (2, [.ref (t + 1), .int 0, .int 0, .int 0, .int 0, .int 0])), ?_, hup_at, ?_, fun a ha => ?_, ?_⟩
  · rw [q3]
    rw [ez] at e ⊢
    simp only [e3_0, e3_1, e3_4, e3_5, e3_7, e3_9, e3_12, kv_s, kh_s, kr_s, kr_v, kn_s, e]
  · rw [hup_ne (by omega), ← hn]; exact hnew_at
  · rw [hup_ne (by omega)]; exact hnew_ne (by omega)
  · show (σ.2.1 + 1, σ.2.2 + 8) = _
    rw [hn]
theorem Ks_ini (h : σ.1 t = some (.inr (1, zD 1))) (hn : σ.2.1 = t + 1) : ∃ τ, dcall 6 [.ref t] σ = some (none, τ) ∧ τ.1 t = some (.inr (1, [.ref (t + 1), .int 0])) ∧ τ.1 (t + 1) = some (.inl (0, 512, .inl (fun _ => 0))) ∧ (∀ a, a < t → τ.1 a = σ.1 a) ∧ τ.2 = (t + 2, σ.2.2 + 512) := by
  have e : hPut (hnew σ (.inl (0, 512, .inl (fun _ => 0))) 512) t 1 0 (.ref σ.2.1) = some (hup (hnew σ (.inl (0, 512, .inl (fun _ => 0))) 512) t (.inr (1, [.ref (t + 1), .int 0]))) := by
    rw [hn]
    exact hPut_of (fs := zD 1) ((hnew_ne (by omega)).trans h) (Nat.le_of_ble_eq_true rfl)
  have ez : hnew σ (.inl (0, 512, .inl (fun _ => 0))) 512 = hnew σ (zArr 0 512) 512 := rfl
  refine ⟨hup (hnew σ (.inl (0, 512, .inl (fun _ => 0))) 512) t (.inr (1, [.ref (t + 1), .int 0])), ?_, hup_at, ?_, fun a ha => ?_, ?_⟩
  · rw [q6]
    rw [ez] at e ⊢
    simp only [e6_0, e6_1, e6_4, e6_5, e6_8, e6_10, e6_13, kv_s, kh_s, kr_s, kr_v, kn_s, e]
  · rw [hup_ne (by omega), ← hn]; exact hnew_at
  · rw [hup_ne (by omega)]; exact hnew_ne (by omega)
  · show (σ.2.1 + 1, σ.2.2 + 512) = _
    rw [hn]
/-- the class's cells, as made; its draft aside -/
def iG (c : Nat) : Nat → Option va_E := fun j => match j with
  | 9 => some (.inr (0, [.ref (c + 10), .int (nI 0), .int (nI 0), .int (nI 0)]))
  | 10 => some (rng (fun _ => none))
  | 11 => some (.inl (6, 2, .inr (.inr (.inr (.inr (fun _ => none))))))
  | j => cel c (fun _ _ => 0) (fun _ => 0) (fun _ => 0) j
def pic (ρ : Hp) (c n : Nat) (fs : List Value) (k : Nat) : Prop := ρ.1 c = some (.inr (6, fs)) ∧ (∀ i, 1 ≤ i → i < n → ρ.1 (c + i) = iG c i) ∧ ρ.2 = (c + n, k)
theorem Hi_ini (h : σ.1 t = some (.inr (0, zD 0))) (hn : σ.2.1 = t + 1) : ∃ τ, dcall 4 [.ref t] σ = some (none, τ) ∧ τ.1 t = some (.inr (0, [.ref (t + 1), .int (nI 0), .int (nI 0), .int (nI 0)])) ∧ τ.1 (t + 1) = some (rng (fun _ => none)) ∧ (∀ a, a < t → τ.1 a = σ.1 a) ∧ τ.2 = (t + 2, σ.2.2 + 12) := by
  obtain ⟨τ, e1, e2, e3, e4⟩ := Hi_init h hn
  exact ⟨τ, e1, e2.1, e2.2, e3, e4⟩
theorem A_i0 (h : pic ρ c 1 [.null, .null, .null, .null, .null, .null, .null, .null] k) : ∃ ω, den 0 4 [.ref c] [] ρ = den 0 15 [.ref c] [] ω ∧ pic ω c 3 [.ref (c + 1), .null, .null, .null, .null, .null, .null, .null] (k + 4 + 80) := by
  obtain ⟨h1, h2, h3⟩ := h
  have hn : ρ.2.1 = c + 1 := by rw [h3]
  have hs : ρ.2.2 = k := by rw [h3]
  obtain ⟨τ, t1, t2, t3, t4, t5⟩ := Tx_ini (σ := hnew ρ (.inr (4, zD 4)) 4) (t := c + 1) (by rw [← hn]; exact hnew_at) (by show ρ.2.1 + 1 = _; rw [hn])
  obtain ⟨w1, w2⟩ := stg (g := iG c) (j := 0) (n' := 3) (fs := [.null, .null, .null, .null, .null, .null, .null, .null]) h1 (Nat.le_of_ble_eq_true rfl) hn (by omega) h2 t4 (fun i q1 q2 => by
    rcases (show i = 1 ∨ i = 2 by omega) with rfl | rfl
    · exact t2
    · exact t3)
  refine ⟨_, ?_, hup_at, w2, ?_⟩
  · simp only [e0_4, e0_5, e0_8, e0_9, e0_12, kv_s, kh_s, kr_s, kr_v, kn_s, hn, t1, w1]
    rfl
  · show τ.2 = _
    rw [t5]
    show (c + 1 + 2, ρ.2.2 + 4 + 80) = _
    rw [hs]
theorem A_i1 (h : pic ρ c 3 [.ref (c + 1), .null, .null, .null, .null, .null, .null, .null] k) : ∃ ω, den 0 15 [.ref c] [] ρ = den 0 26 [.ref c] [] ω ∧ pic ω c 5 [.ref (c + 1), .ref (c + 3), .null, .null, .null, .null, .null, .null] (k + 2 + 128) := by
  obtain ⟨h1, h2, h3⟩ := h
  have hn : ρ.2.1 = c + 3 := by rw [h3]
  have hs : ρ.2.2 = k := by rw [h3]
  obtain ⟨τ, t1, t2, t3, t4, t5⟩ := Rw_ini (σ := hnew ρ (.inr (3, zD 3)) 2) (t := c + 3) (by rw [← hn]; exact hnew_at) (by show ρ.2.1 + 1 = _; rw [hn])
  obtain ⟨w1, w2⟩ := stg (g := iG c) (j := 1) (n' := 5) (fs := [.ref (c + 1), .null, .null, .null, .null, .null, .null, .null]) h1 (Nat.le_of_ble_eq_true rfl) hn (by omega) h2 t4 (fun i q1 q2 => by
    rcases (show i = 3 ∨ i = 4 by omega) with rfl | rfl
    · exact t2
    · exact t3)
  refine ⟨_, ?_, hup_at, w2, ?_⟩
  · simp only [e0_15, e0_16, e0_19, e0_20, e0_23, kv_s, kh_s, kr_s, kr_v, kn_s, hn, t1, w1]
    rfl
  · show τ.2 = _
    rw [t5]
    show (c + 3 + 2, ρ.2.2 + 2 + 128) = _
    rw [hs]
theorem A_i2 (h : pic ρ c 5 [.ref (c + 1), .ref (c + 3), .null, .null, .null, .null, .null, .null] k) : ∃ ω, den 0 26 [.ref c] [] ρ = den 0 37 [.ref c] [] ω ∧ pic ω c 7 [.ref (c + 1), .ref (c + 3), .ref (c + 5), .null, .null, .null, .null, .null] (k + 6 + 8) := by
  obtain ⟨h1, h2, h3⟩ := h
  have hn : ρ.2.1 = c + 5 := by rw [h3]
  have hs : ρ.2.2 = k := by rw [h3]
  obtain ⟨τ, t1, t2, t3, t4, t5⟩ := Pr_ini (σ := hnew ρ (.inr (2, zD 2)) 6) (t := c + 5) (by rw [← hn]; exact hnew_at) (by show ρ.2.1 + 1 = _; rw [hn])
  obtain ⟨w1, w2⟩ := stg (g := iG c) (j := 2) (n' := 7) (fs := [.ref (c + 1), .ref (c + 3), .null, .null, .null, .null, .null, .null]) h1 (Nat.le_of_ble_eq_true rfl) hn (by omega) h2 t4 (fun i q1 q2 => by
    rcases (show i = 5 ∨ i = 6 by omega) with rfl | rfl
    · exact t2
    · exact t3)
  refine ⟨_, ?_, hup_at, w2, ?_⟩
  · simp only [e0_26, e0_27, e0_30, e0_31, e0_34, kv_s, kh_s, kr_s, kr_v, kn_s, hn, t1, w1]
    rfl
  · show τ.2 = _
    rw [t5]
    show (c + 5 + 2, ρ.2.2 + 6 + 8) = _
    rw [hs]
theorem A_i3 (h : pic ρ c 7 [.ref (c + 1), .ref (c + 3), .ref (c + 5), .null, .null, .null, .null, .null] k) : ∃ ω, den 0 37 [.ref c] [] ρ = den 0 48 [.ref c] [] ω ∧ pic ω c 9 [.ref (c + 1), .ref (c + 3), .ref (c + 5), .ref (c + 7), .null, .null, .null, .null] (k + 6 + 8) := by
  obtain ⟨h1, h2, h3⟩ := h
  have hn : ρ.2.1 = c + 7 := by rw [h3]
  have hs : ρ.2.2 = k := by rw [h3]
  obtain ⟨τ, t1, t2, t3, t4, t5⟩ := Pr_ini (σ := hnew ρ (.inr (2, zD 2)) 6) (t := c + 7) (by rw [← hn]; exact hnew_at) (by show ρ.2.1 + 1 = _; rw [hn])
  obtain ⟨w1, w2⟩ := stg (g := iG c) (j := 3) (n' := 9) (fs := [.ref (c + 1), .ref (c + 3), .ref (c + 5), .null, .null, .null, .null, .null]) h1 (Nat.le_of_ble_eq_true rfl) hn (by omega) h2 t4 (fun i q1 q2 => by
    rcases (show i = 7 ∨ i = 8 by omega) with rfl | rfl
    · exact t2
    · exact t3)
  refine ⟨_, ?_, hup_at, w2, ?_⟩
  · simp only [e0_37, e0_38, e0_41, e0_42, e0_45, kv_s, kh_s, kr_s, kr_v, kn_s, hn, t1, w1]
    rfl
  · show τ.2 = _
    rw [t5]
    show (c + 7 + 2, ρ.2.2 + 6 + 8) = _
    rw [hs]
theorem A_i4 (h : pic ρ c 9 [.ref (c + 1), .ref (c + 3), .ref (c + 5), .ref (c + 7), .null, .null, .null, .null] k) : ∃ ω, den 0 48 [.ref c] [] ρ = den 0 59 [.ref c] [] ω ∧ pic ω c 11 [.ref (c + 1), .ref (c + 3), .ref (c + 5), .ref (c + 7), .ref (c + 9), .null, .null, .null] (k + 4 + 12) := by
  obtain ⟨h1, h2, h3⟩ := h
  have hn : ρ.2.1 = c + 9 := by rw [h3]
  have hs : ρ.2.2 = k := by rw [h3]
  obtain ⟨τ, t1, t2, t3, t4, t5⟩ := Hi_ini (σ := hnew ρ (.inr (0, zD 0)) 4) (t := c + 9) (by rw [← hn]; exact hnew_at) (by show ρ.2.1 + 1 = _; rw [hn])
  obtain ⟨w1, w2⟩ := stg (g := iG c) (j := 4) (n' := 11) (fs := [.ref (c + 1), .ref (c + 3), .ref (c + 5), .ref (c + 7), .null, .null, .null, .null]) h1 (Nat.le_of_ble_eq_true rfl) hn (by omega) h2 t4 (fun i q1 q2 => by
    rcases (show i = 9 ∨ i = 10 by omega) with rfl | rfl
    · exact t2
    · exact t3)
  refine ⟨_, ?_, hup_at, w2, ?_⟩
  · simp only [e0_48, e0_49, e0_52, e0_53, e0_56, kv_s, kh_s, kr_s, kr_v, kn_s, hn, t1, w1]
    rfl
  · show τ.2 = _
    rw [t5]
    show (c + 9 + 2, ρ.2.2 + 4 + 12) = _
    rw [hs]
theorem A_i5 (h : pic ρ c 11 [.ref (c + 1), .ref (c + 3), .ref (c + 5), .ref (c + 7), .ref (c + 9), .null, .null, .null] k) : ∃ ω, den 0 59 [.ref c] [] ρ = den 0 67 [.ref c] [] ω ∧ pic ω c 12 [.ref (c + 1), .ref (c + 3), .ref (c + 5), .ref (c + 7), .ref (c + 9), .ref (c + 11), .null, .null] (k + 2) := by
  obtain ⟨h1, h2, h3⟩ := h
  have hn : ρ.2.1 = c + 11 := by rw [h3]
  have hs : ρ.2.2 = k := by rw [h3]
  obtain ⟨w1, w2⟩ := stg (g := iG c) (j := 5) (n' := 12) (fs := [.ref (c + 1), .ref (c + 3), .ref (c + 5), .ref (c + 7), .ref (c + 9), .null, .null, .null]) (τ := hnew ρ (.inl (6, 2, .inr (.inr (.inr (.inr (fun _ => none)))))) 2) h1 (Nat.le_of_ble_eq_true rfl) hn (by omega) h2 (fun a ha => rfl) (fun i q1 q2 => by
    have : i = 11 := by omega
    subst this
    rw [← hn]; exact hnew_at)
  refine ⟨_, ?_, hup_at, w2, ?_⟩
  · simp only [e0_59, e0_60, e0_61, e0_64, kv_s, kh_s, kr_s, kr_v, kn_s, hn, w1]
    rfl
  · show (ρ.2.1 + 1, ρ.2.2 + 2) = _
    rw [hn, hs]
theorem A_i6 (h : pic ρ c 12 [.ref (c + 1), .ref (c + 3), .ref (c + 5), .ref (c + 7), .ref (c + 9), .ref (c + 11), .null, .null] k) : ∃ ω, den 0 67 [.ref c] [] ρ = den 0 89 [.ref c] [] ω ∧ isX ω c ∧ (∀ i, 1 ≤ i → i < 12 → ω.1 (c + i) = iG c i) ∧ ω.1 (c + 17) = iG c 17 ∧ ω.1 (c + 18) = iG c 18 ∧ isT ω (c + 12) 0 (fun _ => nI 0) ∧ ω.2 = (c + 19, k + 3 + 1282 + 2 + 512) := by
  obtain ⟨h1, h2, h3⟩ := h
  have hn : ρ.2.1 = c + 12 := by rw [h3]
  have hs : ρ.2.2 = k := by rw [h3]
  obtain ⟨τ, t1, t2, t4, t5⟩ := T_init (σ := hnew ρ (.inr (5, zD 5)) 3) (t := c + 12) (by rw [← hn]; exact hnew_at) (by show ρ.2.1 + 1 = _; rw [hn])
  obtain ⟨w1, w2⟩ := stg (g := iG c) (j := 6) (n' := 12) (fs := [.ref (c + 1), .ref (c + 3), .ref (c + 5), .ref (c + 7), .ref (c + 9), .ref (c + 11), .null, .null]) h1 (Nat.le_of_ble_eq_true rfl) hn (by omega) h2 t4 (fun i q1 q2 => by omega)
  have t2' : isT (hup τ c (.inr (6, [.ref (c + 1), .ref (c + 3), .ref (c + 5), .ref (c + 7), .ref (c + 9), .ref (c + 11), .ref (c + 12), .null]))) (c + 12) 0 (fun _ => nI 0) := t2.kept fun a q1 q2 => hup_ne (by omega)
  have w1 : hPut τ c 6 6 (.ref (c + 12)) = some (hup τ c (.inr (6, [.ref (c + 1), .ref (c + 3), .ref (c + 5), .ref (c + 7), .ref (c + 9), .ref (c + 11), .ref (c + 12), .null]))) := w1
  have w2 : ∀ i, 1 ≤ i → i < 12 → (hup τ c (.inr (6, [.ref (c + 1), .ref (c + 3), .ref (c + 5), .ref (c + 7), .ref (c + 9), .ref (c + 11), .ref (c + 12), .null]))).1 (c + i) = iG c i := w2
  have o1 : (hup τ c (.inr (6, [.ref (c + 1), .ref (c + 3), .ref (c + 5), .ref (c + 7), .ref (c + 9), .ref (c + 11), .ref (c + 12), .null]))).1 c = some (.inr (6, [.ref (c + 1), .ref (c + 3), .ref (c + 5), .ref (c + 7), .ref (c + 9), .ref (c + 11), .ref (c + 12), .null])) := hup_at
  have o2 : (hup τ c (.inr (6, [.ref (c + 1), .ref (c + 3), .ref (c + 5), .ref (c + 7), .ref (c + 9), .ref (c + 11), .ref (c + 12), .null]))).2 = (c + 12 + 5, k + 3 + 1282) := by
    show τ.2 = _
    rw [t5]
    show (_, ρ.2.2 + 3 + 1282) = _
    rw [hs]
  generalize hup τ c (.inr (6, [.ref (c + 1), .ref (c + 3), .ref (c + 5), .ref (c + 7), .ref (c + 9), .ref (c + 11), .ref (c + 12), .null])) = ω at w1 w2 t2' o1 o2
  have on : ω.2.1 = c + 17 := by rw [o2]
  have os : ω.2.2 = k + 3 + 1282 := by rw [o2]
  obtain ⟨υ, u1, u2, u3, u4, u5⟩ := Ks_ini (σ := hnew ω (.inr (1, zD 1)) 2) (t := c + 17) (by rw [← on]; exact hnew_at) (by show ω.2.1 + 1 = _; rw [on])
  have lo : ∀ a, a < c + 17 → υ.1 a = ω.1 a := fun a ha => (u4 a ha).trans (hnew_ne (by omega))
  have p1 : hPut υ c 6 7 (.ref (c + 17)) = some (hup υ c (.inr (6, [.ref (c + 1), .ref (c + 3), .ref (c + 5), .ref (c + 7), .ref (c + 9), .ref (c + 11), .ref (c + 12), .ref (c + 17)]))) := hPut_of (fs := [.ref (c + 1), .ref (c + 3), .ref (c + 5), .ref (c + 7), .ref (c + 9), .ref (c + 11), .ref (c + 12), .null]) ((lo c (by omega)).trans o1) (Nat.le_of_ble_eq_true rfl)
  refine ⟨hup υ c (.inr (6, [.ref (c + 1), .ref (c + 3), .ref (c + 5), .ref (c + 7), .ref (c + 9), .ref (c + 11), .ref (c + 12), .ref (c + 17)])), ?_, hup_at, fun i q1 q2 => ?_, ?_, ?_, ?_, ?_⟩
  · simp only [e0_67, e0_68, e0_71, e0_72, e0_75, e0_78, e0_79, e0_82, e0_83, e0_86, kv_s, kh_s, kr_s, kr_v, kn_s, hn, on, t1, w1, u1, p1]
  · rw [hup_ne (by omega), lo _ (by omega)]; exact w2 i q1 q2
  · rw [hup_ne (by omega)]; exact u2
  · rw [hup_ne (by omega)]; exact u3
  · exact t2'.kept fun a q1 q2 => (hup_ne (by omega)).trans (lo a (by omega))
  · show υ.2 = _
    rw [u5]
    show (_, ω.2.2 + 2 + 512) = _
    rw [os]
theorem Hi_begin0 {h x d f l dx : Nat} {W : Nat → Int32} (H : isHi σ h (fun _ => none) d f l) (hb : h + 2 ≤ σ.2.1) (hx : isT σ x dx W) (hx1 : h + 2 ≤ x) (hx2 : x + 5 ≤ σ.2.1) : ∃ ρ, dcall 14 [.ref h, .ref x] σ = some (none, ρ) ∧ isHi ρ h (va_up (fun _ => none) 0 (some σ.2.1)) dx 0 0 ∧ isT ρ σ.2.1 dx W ∧ (∀ a, a < σ.2.1 → a ≠ h → a ≠ h + 1 → ρ.1 a = σ.1 a) ∧ ρ.2 = (σ.2.1 + 5, σ.2.2 + 1285) := by
  have H1 := hh_is H (d' := dx) (f' := 0) (l' := 0)
  obtain ⟨τ, a1, a2, a3, a4, a5⟩ := Hi_hold_new (v := 0) H1 (by omega) (by show h + 2 ≤ σ.2.1; exact hb) rfl
  have hx' : isT τ x dx W := hx.kept fun a q1 q2 => (a4 a (by show a < σ.2.1; omega) (by omega)).trans (hh_ne (by omega))
  obtain ⟨ρ, b1, b2, b3⟩ := T_take a3 hx' (Or.inl (by show x + 5 ≤ σ.2.1; exact hx2))
  have a1 : dcall 15 [.ref h, .int (nI 0)] (hh σ h dx 0 0) = some (some (.ref σ.2.1), τ) := a1
  have b1 : dcall 17 [.ref σ.2.1, .ref x] τ = some (none, ρ) := b1
  have b3 : fr5 σ.2.1 τ ρ := b3
  have o3 : hObj τ σ.2.1 = some 5 := a3.o
  refine ⟨ρ, ?_, ⟨(b3.1 h (by omega)).trans a2.1, (b3.1 (h + 1) (by omega)).trans a2.2⟩, b2, fun a q1 q2 q3 => (b3.1 a (Or.inl q1)).trans ((a4 a q1 q3).trans (hh_ne q2)), b3.2.trans a5⟩
  rw [q14]
  simp only [e14_0, e14_1, e14_2, e14_5, e14_8, e14_11, e14_12, e14_13, e14_16, e14_17, e14_18, e14_21, e14_22, e14_23, e14_26, e14_27, e14_30, kv_s, kh_s, kr_s, kr_v, kn_s, z0, z1, z2, nI_ltI, nI_leI, nI_eq, nI_add, oN, bz0, bz1, bw0, bw1, ltT, ltF, leT, leF, eqT, eqF, if_true, if_false, kI_n, wI_n, and_true, true_and, and_false, false_and, not_true, not_false_eq_true, hx.f, hx.fd, put_d H, put_f (hh_is H), put_l (hh_is (hh_is H)), hh_hh, H1.o, a1, o3, b1, put_f (hh_is H (d' := dx) (f' := f) (l' := l)), put_l (hh_is H (d' := dx) (f' := 0) (l' := l))]
/-- what the class's constructor makes -/
theorem A_ini (hc : σ.1 c = some (.inr (6, zD 6))) (hn : σ.2 = (c + 1, k)) : ∃ ρ, dcall 0 [.ref c] σ = some (none, ρ) ∧ isX ρ c ∧ (∀ j, j < 19 → cel c (fun _ _ => 0) (fun _ => 0) (fun _ => 0) j ≠ none → ρ.1 (c + j) = cel c (fun _ _ => 0) (fun _ => 0) (fun _ => 0) j) ∧ isHi ρ (c + 9) (va_up (fun _ => none) 0 (some (c + 19))) 4 0 0 ∧ isT ρ (c + 19) 4 (fun _ => nI 0) ∧ isT ρ (c + 12) 4 (fun _ => nI 0) ∧ ρ.1 (c + 11) = some (.inl (6, 2, .inr (.inr (.inr (.inr (fun _ => none)))))) ∧ ρ.2 = (c + 24, k + 3344) := by
  have h0 : pic σ c 1 [.null, .null, .null, .null, .null, .null, .null, .null] k := ⟨hc, fun i q1 q2 => by omega, hn⟩
  obtain ⟨ω0, x0, h0⟩ := A_i0 h0
  obtain ⟨ω1, x1, h1⟩ := A_i1 h0
  obtain ⟨ω2, x2, h2⟩ := A_i2 h1
  obtain ⟨ω3, x3, h3⟩ := A_i3 h2
  obtain ⟨ω4, x4, h4⟩ := A_i4 h3
  obtain ⟨ω5, x5, h5⟩ := A_i5 h4
  obtain ⟨ω, x6, g1, g2, g3, g4, g5, g6⟩ := A_i6 h5
  have gn : ω.2.1 = c + 19 := by rw [g6]
  obtain ⟨τ, t1, t2, t3⟩ := T_clear g5 (d' := 4) (by omega)
  have gx : isX τ c := (t3.1 c (by omega)).trans g1
  have gh : isHi τ (c + 9) (fun _ => none) 0 0 0 := ⟨(t3.1 _ (by omega)).trans (g2 9 (by omega) (by omega)), (t3.1 _ (by omega)).trans (g2 10 (by omega) (by omega))⟩
  have tn : τ.2.1 = c + 19 := by rw [t3.2]; exact gn
  obtain ⟨ρ, r1, r2, r3, r4, r5⟩ := Hi_begin0 gh (by rw [tn]; omega) t2 (by omega) (by rw [tn]; omega)
  rw [tn] at r2 r3 r4
  have z4 : (4 : Int32) = nI 4 := rfl
  refine ⟨ρ, ?_, (r4 c (by omega) (by omega) (by omega)).trans gx, fun j q1 q2 => ?_, r2, r3, t2.kept fun a q1 q2 => r4 a (by omega) (by omega) (by omega), (r4 _ (by omega) (by omega) (by omega)).trans ((t3.1 _ (by omega)).trans (g2 11 (by omega) (by omega))), ?_⟩
  · rw [q0]
    simp only [e0_0, e0_1]
    rw [x0, x1, x2, x3, x4, x5, x6]
    simp only [e0_89, e0_90, e0_93, e0_94, e0_97, e0_98, e0_101, e0_102, e0_105, e0_108, kv_s, kh_s, kr_s, kr_v, kn_s, z4, g1.f6, g5.o, if_true, t1, gx.f4, gx.f6, gh.o, r1]
  · have hj : ¬ (j = 0 ∨ (9 ≤ j ∧ j < 17) ∨ 19 ≤ j) := fun z => q2 (cel_no z)
    rw [r4 _ (by omega) (by omega) (by omega), t3.1 _ (by omega)]
    by_cases h9 : j < 9
    · rw [g2 j (by omega) (by omega)]
      unfold iG
      split <;> first | omega | rfl
    · rcases (show j = 17 ∨ j = 18 by omega) with rfl | rfl
      · exact g3
      · exact g4
  · rw [r5, tn, t3.2, g6]

def mG (c : Nat) : Nat → Option va_E := mel c (fun _ _ => 0) (fun _ => 0) (fun _ => 0)
def pim (u : Nat → Option va_E) (ρ : Hp) (c n : Nat) (fs : List Value) (k : Nat) : Prop := ρ.1 c = some (.inr (7, fs)) ∧ (∀ i, 1 ≤ i → i < n → ρ.1 (c + i) = mG c i) ∧ ρ.2 = (c + n, k) ∧ ∀ a, a < c → ρ.1 a = u a
theorem M_i0 {u : Nat → Option va_E} (h : pim u ρ c 1 [.null, .null, .null, .int 0, .null, .int 0, .int 0, .null, .null, .int 0, .int 0, .int 0, .null, .int 0, .null, .null, .null, .null, .null, .null, .int 0, .null, .null, .null] k) : ∃ ω, den 137 4 [.ref c] [] ρ = den 137 13 [.ref c] [] ω ∧ pim u ω c 2 [.ref (c + 1), .null, .null, .int 0, .null, .int 0, .int 0, .null, .null, .int 0, .int 0, .int 0, .null, .int 0, .null, .null, .null, .null, .null, .null, .int 0, .null, .null, .null] (k + 3075) := by
  obtain ⟨h1, h2, h3, h4⟩ := h
  have hn : ρ.2.1 = c + 1 := by rw [h3]
  have hs : ρ.2.2 = k := by rw [h3]
  obtain ⟨w1, w2⟩ := stg (g := mG c) (j := 0) (n' := 2) (fs := [.null, .null, .null, .int 0, .null, .int 0, .int 0, .null, .null, .int 0, .int 0, .int 0, .null, .int 0, .null, .null, .null, .null, .null, .null, .int 0, .null, .null, .null]) (τ := hnew ρ (zArr 0 3075) 3075) h1 (Nat.le_of_ble_eq_true rfl) hn (by omega) h2 (fun a ha => rfl) (fun i q1 q2 => by
    have : i = 1 := by omega
    subst this
    rw [← hn]; exact hnew_at)
  refine ⟨_, ?_, hup_at, w2, ?_, fun a ha => ?_⟩
  · simp only [e137_4, e137_5, e137_8, e137_10, kv_s, kh_s, kr_s, kr_v, kn_s, hn, w1]
    rfl
  · show (ρ.2.1 + 1, ρ.2.2 + 3075) = _
    rw [hn, hs]
  · rw [hup_ne (by omega), hnew_ne (by omega)]; exact h4 a ha
theorem M_i1 {u : Nat → Option va_E} (h : pim u ρ c 2 [.ref (c + 1), .null, .null, .int 0, .null, .int 0, .int 0, .null, .null, .int 0, .int 0, .int 0, .null, .int 0, .null, .null, .null, .null, .null, .null, .int 0, .null, .null, .null] k) : ∃ ω, den 137 13 [.ref c] [] ρ = den 137 21 [.ref c] [] ω ∧ pim u ω c 3 [.ref (c + 1), .ref (c + 2), .null, .int 0, .null, .int 0, .int 0, .null, .null, .int 0, .int 0, .int 0, .null, .int 0, .null, .null, .null, .null, .null, .null, .int 0, .null, .null, .null] (k + 12) := by
  obtain ⟨h1, h2, h3, h4⟩ := h
  have hn : ρ.2.1 = c + 2 := by rw [h3]
  have hs : ρ.2.2 = k := by rw [h3]
  obtain ⟨w1, w2⟩ := stg (g := mG c) (j := 1) (n' := 3) (fs := [.ref (c + 1), .null, .null, .int 0, .null, .int 0, .int 0, .null, .null, .int 0, .int 0, .int 0, .null, .int 0, .null, .null, .null, .null, .null, .null, .int 0, .null, .null, .null]) (τ := hnew ρ (zArr 0 12) 12) h1 (Nat.le_of_ble_eq_true rfl) hn (by omega) h2 (fun a ha => rfl) (fun i q1 q2 => by
    have : i = 2 := by omega
    subst this
    rw [← hn]; exact hnew_at)
  refine ⟨_, ?_, hup_at, w2, ?_, fun a ha => ?_⟩
  · simp only [e137_13, e137_14, e137_16, e137_18, kv_s, kh_s, kr_s, kr_v, kn_s, hn, w1]
    rfl
  · show (ρ.2.1 + 1, ρ.2.2 + 12) = _
    rw [hn, hs]
  · rw [hup_ne (by omega), hnew_ne (by omega)]; exact h4 a ha
theorem M_i2 {u : Nat → Option va_E} (h : pim u ρ c 3 [.ref (c + 1), .ref (c + 2), .null, .int 0, .null, .int 0, .int 0, .null, .null, .int 0, .int 0, .int 0, .null, .int 0, .null, .null, .null, .null, .null, .null, .int 0, .null, .null, .null] k) : ∃ ω, den 137 21 [.ref c] [] ρ = den 137 29 [.ref c] [] ω ∧ pim u ω c 4 [.ref (c + 1), .ref (c + 2), .ref (c + 3), .int 0, .null, .int 0, .int 0, .null, .null, .int 0, .int 0, .int 0, .null, .int 0, .null, .null, .null, .null, .null, .null, .int 0, .null, .null, .null] (k + 80) := by
  obtain ⟨h1, h2, h3, h4⟩ := h
  have hn : ρ.2.1 = c + 3 := by rw [h3]
  have hs : ρ.2.2 = k := by rw [h3]
  obtain ⟨w1, w2⟩ := stg (g := mG c) (j := 2) (n' := 4) (fs := [.ref (c + 1), .ref (c + 2), .null, .int 0, .null, .int 0, .int 0, .null, .null, .int 0, .int 0, .int 0, .null, .int 0, .null, .null, .null, .null, .null, .null, .int 0, .null, .null, .null]) (τ := hnew ρ (zArr 2 80) 80) h1 (Nat.le_of_ble_eq_true rfl) hn (by omega) h2 (fun a ha => rfl) (fun i q1 q2 => by
    have : i = 3 := by omega
    subst this
    rw [← hn]; exact hnew_at)
  refine ⟨_, ?_, hup_at, w2, ?_, fun a ha => ?_⟩
  · simp only [e137_21, e137_22, e137_24, e137_26, kv_s, kh_s, kr_s, kr_v, kn_s, hn, w1]
    rfl
  · show (ρ.2.1 + 1, ρ.2.2 + 80) = _
    rw [hn, hs]
  · rw [hup_ne (by omega), hnew_ne (by omega)]; exact h4 a ha
theorem M_i3 {u : Nat → Option va_E} (h : pim u ρ c 4 [.ref (c + 1), .ref (c + 2), .ref (c + 3), .int 0, .null, .int 0, .int 0, .null, .null, .int 0, .int 0, .int 0, .null, .int 0, .null, .null, .null, .null, .null, .null, .int 0, .null, .null, .null] k) : ∃ ω, den 137 29 [.ref c] [] ρ = den 137 38 [.ref c] [] ω ∧ pim u ω c 5 [.ref (c + 1), .ref (c + 2), .ref (c + 3), .int 0, .ref (c + 4), .int 0, .int 0, .null, .null, .int 0, .int 0, .int 0, .null, .int 0, .null, .null, .null, .null, .null, .null, .int 0, .null, .null, .null] (k + 600) := by
  obtain ⟨h1, h2, h3, h4⟩ := h
  have hn : ρ.2.1 = c + 4 := by rw [h3]
  have hs : ρ.2.2 = k := by rw [h3]
  obtain ⟨w1, w2⟩ := stg (g := mG c) (j := 4) (n' := 5) (fs := [.ref (c + 1), .ref (c + 2), .ref (c + 3), .int 0, .null, .int 0, .int 0, .null, .null, .int 0, .int 0, .int 0, .null, .int 0, .null, .null, .null, .null, .null, .null, .int 0, .null, .null, .null]) (τ := hnew ρ (zArr 1 600) 600) h1 (Nat.le_of_ble_eq_true rfl) hn (by omega) h2 (fun a ha => rfl) (fun i q1 q2 => by
    have : i = 4 := by omega
    subst this
    rw [← hn]; exact hnew_at)
  refine ⟨_, ?_, hup_at, w2, ?_, fun a ha => ?_⟩
  · simp only [e137_29, e137_30, e137_33, e137_35, kv_s, kh_s, kr_s, kr_v, kn_s, hn, w1]
    rfl
  · show (ρ.2.1 + 1, ρ.2.2 + 600) = _
    rw [hn, hs]
  · rw [hup_ne (by omega), hnew_ne (by omega)]; exact h4 a ha
theorem M_i4 {u : Nat → Option va_E} (h : pim u ρ c 5 [.ref (c + 1), .ref (c + 2), .ref (c + 3), .int 0, .ref (c + 4), .int 0, .int 0, .null, .null, .int 0, .int 0, .int 0, .null, .int 0, .null, .null, .null, .null, .null, .null, .int 0, .null, .null, .null] k) : ∃ ω, den 137 38 [.ref c] [] ρ = den 137 47 [.ref c] [] ω ∧ pim u ω c 6 [.ref (c + 1), .ref (c + 2), .ref (c + 3), .int 0, .ref (c + 4), .int 0, .int 0, .ref (c + 5), .null, .int 0, .int 0, .int 0, .null, .int 0, .null, .null, .null, .null, .null, .null, .int 0, .null, .null, .null] (k + 512) := by
  obtain ⟨h1, h2, h3, h4⟩ := h
  have hn : ρ.2.1 = c + 5 := by rw [h3]
  have hs : ρ.2.2 = k := by rw [h3]
  obtain ⟨w1, w2⟩ := stg (g := mG c) (j := 7) (n' := 6) (fs := [.ref (c + 1), .ref (c + 2), .ref (c + 3), .int 0, .ref (c + 4), .int 0, .int 0, .null, .null, .int 0, .int 0, .int 0, .null, .int 0, .null, .null, .null, .null, .null, .null, .int 0, .null, .null, .null]) (τ := hnew ρ (zArr 0 512) 512) h1 (Nat.le_of_ble_eq_true rfl) hn (by omega) h2 (fun a ha => rfl) (fun i q1 q2 => by
    have : i = 5 := by omega
    subst this
    rw [← hn]; exact hnew_at)
  refine ⟨_, ?_, hup_at, w2, ?_, fun a ha => ?_⟩
  · simp only [e137_38, e137_39, e137_42, e137_44, kv_s, kh_s, kr_s, kr_v, kn_s, hn, w1]
    rfl
  · show (ρ.2.1 + 1, ρ.2.2 + 512) = _
    rw [hn, hs]
  · rw [hup_ne (by omega), hnew_ne (by omega)]; exact h4 a ha
theorem M_i5 {u : Nat → Option va_E} (h : pim u ρ c 6 [.ref (c + 1), .ref (c + 2), .ref (c + 3), .int 0, .ref (c + 4), .int 0, .int 0, .ref (c + 5), .null, .int 0, .int 0, .int 0, .null, .int 0, .null, .null, .null, .null, .null, .null, .int 0, .null, .null, .null] k) : ∃ ω, den 137 47 [.ref c] [] ρ = den 137 56 [.ref c] [] ω ∧ pim u ω c 7 [.ref (c + 1), .ref (c + 2), .ref (c + 3), .int 0, .ref (c + 4), .int 0, .int 0, .ref (c + 5), .ref (c + 6), .int 0, .int 0, .int 0, .null, .int 0, .null, .null, .null, .null, .null, .null, .int 0, .null, .null, .null] (k + 512) := by
  obtain ⟨h1, h2, h3, h4⟩ := h
  have hn : ρ.2.1 = c + 6 := by rw [h3]
  have hs : ρ.2.2 = k := by rw [h3]
  obtain ⟨w1, w2⟩ := stg (g := mG c) (j := 8) (n' := 7) (fs := [.ref (c + 1), .ref (c + 2), .ref (c + 3), .int 0, .ref (c + 4), .int 0, .int 0, .ref (c + 5), .null, .int 0, .int 0, .int 0, .null, .int 0, .null, .null, .null, .null, .null, .null, .int 0, .null, .null, .null]) (τ := hnew ρ (zArr 4 512) 512) h1 (Nat.le_of_ble_eq_true rfl) hn (by omega) h2 (fun a ha => rfl) (fun i q1 q2 => by
    have : i = 6 := by omega
    subst this
    rw [← hn]; exact hnew_at)
  refine ⟨_, ?_, hup_at, w2, ?_, fun a ha => ?_⟩
  · simp only [e137_47, e137_48, e137_51, e137_53, kv_s, kh_s, kr_s, kr_v, kn_s, hn, w1]
    rfl
  · show (ρ.2.1 + 1, ρ.2.2 + 512) = _
    rw [hn, hs]
  · rw [hup_ne (by omega), hnew_ne (by omega)]; exact h4 a ha
theorem M_i6 {u : Nat → Option va_E} (h : pim u ρ c 7 [.ref (c + 1), .ref (c + 2), .ref (c + 3), .int 0, .ref (c + 4), .int 0, .int 0, .ref (c + 5), .ref (c + 6), .int 0, .int 0, .int 0, .null, .int 0, .null, .null, .null, .null, .null, .null, .int 0, .null, .null, .null] k) : ∃ ω, den 137 56 [.ref c] [] ρ = den 137 65 [.ref c] [] ω ∧ pim u ω c 8 [.ref (c + 1), .ref (c + 2), .ref (c + 3), .int 0, .ref (c + 4), .int 0, .int 0, .ref (c + 5), .ref (c + 6), .int 0, .int 0, .int 0, .ref (c + 7), .int 0, .null, .null, .null, .null, .null, .null, .int 0, .null, .null, .null] (k + 320) := by
  obtain ⟨h1, h2, h3, h4⟩ := h
  have hn : ρ.2.1 = c + 7 := by rw [h3]
  have hs : ρ.2.2 = k := by rw [h3]
  obtain ⟨w1, w2⟩ := stg (g := mG c) (j := 12) (n' := 8) (fs := [.ref (c + 1), .ref (c + 2), .ref (c + 3), .int 0, .ref (c + 4), .int 0, .int 0, .ref (c + 5), .ref (c + 6), .int 0, .int 0, .int 0, .null, .int 0, .null, .null, .null, .null, .null, .null, .int 0, .null, .null, .null]) (τ := hnew ρ (zArr 0 320) 320) h1 (Nat.le_of_ble_eq_true rfl) hn (by omega) h2 (fun a ha => rfl) (fun i q1 q2 => by
    have : i = 7 := by omega
    subst this
    rw [← hn]; exact hnew_at)
  refine ⟨_, ?_, hup_at, w2, ?_, fun a ha => ?_⟩
  · simp only [e137_56, e137_57, e137_60, e137_62, kv_s, kh_s, kr_s, kr_v, kn_s, hn, w1]
    rfl
  · show (ρ.2.1 + 1, ρ.2.2 + 320) = _
    rw [hn, hs]
  · rw [hup_ne (by omega), hnew_ne (by omega)]; exact h4 a ha
theorem M_i7 {u : Nat → Option va_E} (h : pim u ρ c 8 [.ref (c + 1), .ref (c + 2), .ref (c + 3), .int 0, .ref (c + 4), .int 0, .int 0, .ref (c + 5), .ref (c + 6), .int 0, .int 0, .int 0, .ref (c + 7), .int 0, .null, .null, .null, .null, .null, .null, .int 0, .null, .null, .null] k) : ∃ ω, den 137 65 [.ref c] [] ρ = den 137 74 [.ref c] [] ω ∧ pim u ω c 9 [.ref (c + 1), .ref (c + 2), .ref (c + 3), .int 0, .ref (c + 4), .int 0, .int 0, .ref (c + 5), .ref (c + 6), .int 0, .int 0, .int 0, .ref (c + 7), .int 0, .ref (c + 8), .null, .null, .null, .null, .null, .int 0, .null, .null, .null] (k + 256) := by
  obtain ⟨h1, h2, h3, h4⟩ := h
  have hn : ρ.2.1 = c + 8 := by rw [h3]
  have hs : ρ.2.2 = k := by rw [h3]
  obtain ⟨w1, w2⟩ := stg (g := mG c) (j := 14) (n' := 9) (fs := [.ref (c + 1), .ref (c + 2), .ref (c + 3), .int 0, .ref (c + 4), .int 0, .int 0, .ref (c + 5), .ref (c + 6), .int 0, .int 0, .int 0, .ref (c + 7), .int 0, .null, .null, .null, .null, .null, .null, .int 0, .null, .null, .null]) (τ := hnew ρ (zArr 0 256) 256) h1 (Nat.le_of_ble_eq_true rfl) hn (by omega) h2 (fun a ha => rfl) (fun i q1 q2 => by
    have : i = 8 := by omega
    subst this
    rw [← hn]; exact hnew_at)
  refine ⟨_, ?_, hup_at, w2, ?_, fun a ha => ?_⟩
  · simp only [e137_65, e137_66, e137_69, e137_71, kv_s, kh_s, kr_s, kr_v, kn_s, hn, w1]
    rfl
  · show (ρ.2.1 + 1, ρ.2.2 + 256) = _
    rw [hn, hs]
  · rw [hup_ne (by omega), hnew_ne (by omega)]; exact h4 a ha
theorem M_i8 {u : Nat → Option va_E} (h : pim u ρ c 9 [.ref (c + 1), .ref (c + 2), .ref (c + 3), .int 0, .ref (c + 4), .int 0, .int 0, .ref (c + 5), .ref (c + 6), .int 0, .int 0, .int 0, .ref (c + 7), .int 0, .ref (c + 8), .null, .null, .null, .null, .null, .int 0, .null, .null, .null] k) : ∃ ω, den 137 74 [.ref c] [] ρ = den 137 83 [.ref c] [] ω ∧ pim u ω c 10 [.ref (c + 1), .ref (c + 2), .ref (c + 3), .int 0, .ref (c + 4), .int 0, .int 0, .ref (c + 5), .ref (c + 6), .int 0, .int 0, .int 0, .ref (c + 7), .int 0, .ref (c + 8), .ref (c + 9), .null, .null, .null, .null, .int 0, .null, .null, .null] (k + 512) := by
  obtain ⟨h1, h2, h3, h4⟩ := h
  have hn : ρ.2.1 = c + 9 := by rw [h3]
  have hs : ρ.2.2 = k := by rw [h3]
  obtain ⟨w1, w2⟩ := stg (g := mG c) (j := 15) (n' := 10) (fs := [.ref (c + 1), .ref (c + 2), .ref (c + 3), .int 0, .ref (c + 4), .int 0, .int 0, .ref (c + 5), .ref (c + 6), .int 0, .int 0, .int 0, .ref (c + 7), .int 0, .ref (c + 8), .null, .null, .null, .null, .null, .int 0, .null, .null, .null]) (τ := hnew ρ (zArr 4 512) 512) h1 (Nat.le_of_ble_eq_true rfl) hn (by omega) h2 (fun a ha => rfl) (fun i q1 q2 => by
    have : i = 9 := by omega
    subst this
    rw [← hn]; exact hnew_at)
  refine ⟨_, ?_, hup_at, w2, ?_, fun a ha => ?_⟩
  · simp only [e137_74, e137_75, e137_78, e137_80, kv_s, kh_s, kr_s, kr_v, kn_s, hn, w1]
    rfl
  · show (ρ.2.1 + 1, ρ.2.2 + 512) = _
    rw [hn, hs]
  · rw [hup_ne (by omega), hnew_ne (by omega)]; exact h4 a ha
theorem M_i9 {u : Nat → Option va_E} (h : pim u ρ c 10 [.ref (c + 1), .ref (c + 2), .ref (c + 3), .int 0, .ref (c + 4), .int 0, .int 0, .ref (c + 5), .ref (c + 6), .int 0, .int 0, .int 0, .ref (c + 7), .int 0, .ref (c + 8), .ref (c + 9), .null, .null, .null, .null, .int 0, .null, .null, .null] k) : ∃ ω, den 137 83 [.ref c] [] ρ = den 137 92 [.ref c] [] ω ∧ pim u ω c 11 [.ref (c + 1), .ref (c + 2), .ref (c + 3), .int 0, .ref (c + 4), .int 0, .int 0, .ref (c + 5), .ref (c + 6), .int 0, .int 0, .int 0, .ref (c + 7), .int 0, .ref (c + 8), .ref (c + 9), .ref (c + 10), .null, .null, .null, .int 0, .null, .null, .null] (k + 512) := by
  obtain ⟨h1, h2, h3, h4⟩ := h
  have hn : ρ.2.1 = c + 10 := by rw [h3]
  have hs : ρ.2.2 = k := by rw [h3]
  obtain ⟨w1, w2⟩ := stg (g := mG c) (j := 16) (n' := 11) (fs := [.ref (c + 1), .ref (c + 2), .ref (c + 3), .int 0, .ref (c + 4), .int 0, .int 0, .ref (c + 5), .ref (c + 6), .int 0, .int 0, .int 0, .ref (c + 7), .int 0, .ref (c + 8), .ref (c + 9), .null, .null, .null, .null, .int 0, .null, .null, .null]) (τ := hnew ρ (zArr 4 512) 512) h1 (Nat.le_of_ble_eq_true rfl) hn (by omega) h2 (fun a ha => rfl) (fun i q1 q2 => by
    have : i = 10 := by omega
    subst this
    rw [← hn]; exact hnew_at)
  refine ⟨_, ?_, hup_at, w2, ?_, fun a ha => ?_⟩
  · simp only [e137_83, e137_84, e137_87, e137_89, kv_s, kh_s, kr_s, kr_v, kn_s, hn, w1]
    rfl
  · show (ρ.2.1 + 1, ρ.2.2 + 512) = _
    rw [hn, hs]
  · rw [hup_ne (by omega), hnew_ne (by omega)]; exact h4 a ha
theorem M_i10 {u : Nat → Option va_E} (h : pim u ρ c 11 [.ref (c + 1), .ref (c + 2), .ref (c + 3), .int 0, .ref (c + 4), .int 0, .int 0, .ref (c + 5), .ref (c + 6), .int 0, .int 0, .int 0, .ref (c + 7), .int 0, .ref (c + 8), .ref (c + 9), .ref (c + 10), .null, .null, .null, .int 0, .null, .null, .null] k) : ∃ ω, den 137 92 [.ref c] [] ρ = den 137 101 [.ref c] [] ω ∧ pim u ω c 12 [.ref (c + 1), .ref (c + 2), .ref (c + 3), .int 0, .ref (c + 4), .int 0, .int 0, .ref (c + 5), .ref (c + 6), .int 0, .int 0, .int 0, .ref (c + 7), .int 0, .ref (c + 8), .ref (c + 9), .ref (c + 10), .ref (c + 11), .null, .null, .int 0, .null, .null, .null] (k + 512) := by
  obtain ⟨h1, h2, h3, h4⟩ := h
  have hn : ρ.2.1 = c + 11 := by rw [h3]
  have hs : ρ.2.2 = k := by rw [h3]
  obtain ⟨w1, w2⟩ := stg (g := mG c) (j := 17) (n' := 12) (fs := [.ref (c + 1), .ref (c + 2), .ref (c + 3), .int 0, .ref (c + 4), .int 0, .int 0, .ref (c + 5), .ref (c + 6), .int 0, .int 0, .int 0, .ref (c + 7), .int 0, .ref (c + 8), .ref (c + 9), .ref (c + 10), .null, .null, .null, .int 0, .null, .null, .null]) (τ := hnew ρ (zArr 4 512) 512) h1 (Nat.le_of_ble_eq_true rfl) hn (by omega) h2 (fun a ha => rfl) (fun i q1 q2 => by
    have : i = 11 := by omega
    subst this
    rw [← hn]; exact hnew_at)
  refine ⟨_, ?_, hup_at, w2, ?_, fun a ha => ?_⟩
  · simp only [e137_92, e137_93, e137_96, e137_98, kv_s, kh_s, kr_s, kr_v, kn_s, hn, w1]
    rfl
  · show (ρ.2.1 + 1, ρ.2.2 + 512) = _
    rw [hn, hs]
  · rw [hup_ne (by omega), hnew_ne (by omega)]; exact h4 a ha
theorem M_i11 {u : Nat → Option va_E} (h : pim u ρ c 12 [.ref (c + 1), .ref (c + 2), .ref (c + 3), .int 0, .ref (c + 4), .int 0, .int 0, .ref (c + 5), .ref (c + 6), .int 0, .int 0, .int 0, .ref (c + 7), .int 0, .ref (c + 8), .ref (c + 9), .ref (c + 10), .ref (c + 11), .null, .null, .int 0, .null, .null, .null] k) : ∃ ω, den 137 101 [.ref c] [] ρ = den 137 110 [.ref c] [] ω ∧ pim u ω c 13 [.ref (c + 1), .ref (c + 2), .ref (c + 3), .int 0, .ref (c + 4), .int 0, .int 0, .ref (c + 5), .ref (c + 6), .int 0, .int 0, .int 0, .ref (c + 7), .int 0, .ref (c + 8), .ref (c + 9), .ref (c + 10), .ref (c + 11), .ref (c + 12), .null, .int 0, .null, .null, .null] (k + 512) := by
  obtain ⟨h1, h2, h3, h4⟩ := h
  have hn : ρ.2.1 = c + 12 := by rw [h3]
  have hs : ρ.2.2 = k := by rw [h3]
  obtain ⟨w1, w2⟩ := stg (g := mG c) (j := 18) (n' := 13) (fs := [.ref (c + 1), .ref (c + 2), .ref (c + 3), .int 0, .ref (c + 4), .int 0, .int 0, .ref (c + 5), .ref (c + 6), .int 0, .int 0, .int 0, .ref (c + 7), .int 0, .ref (c + 8), .ref (c + 9), .ref (c + 10), .ref (c + 11), .null, .null, .int 0, .null, .null, .null]) (τ := hnew ρ (zArr 4 512) 512) h1 (Nat.le_of_ble_eq_true rfl) hn (by omega) h2 (fun a ha => rfl) (fun i q1 q2 => by
    have : i = 12 := by omega
    subst this
    rw [← hn]; exact hnew_at)
  refine ⟨_, ?_, hup_at, w2, ?_, fun a ha => ?_⟩
  · simp only [e137_101, e137_102, e137_105, e137_107, kv_s, kh_s, kr_s, kr_v, kn_s, hn, w1]
    rfl
  · show (ρ.2.1 + 1, ρ.2.2 + 512) = _
    rw [hn, hs]
  · rw [hup_ne (by omega), hnew_ne (by omega)]; exact h4 a ha
theorem M_i12 {u : Nat → Option va_E} (h : pim u ρ c 13 [.ref (c + 1), .ref (c + 2), .ref (c + 3), .int 0, .ref (c + 4), .int 0, .int 0, .ref (c + 5), .ref (c + 6), .int 0, .int 0, .int 0, .ref (c + 7), .int 0, .ref (c + 8), .ref (c + 9), .ref (c + 10), .ref (c + 11), .ref (c + 12), .null, .int 0, .null, .null, .null] k) : ∃ ω, den 137 110 [.ref c] [] ρ = den 137 118 [.ref c] [] ω ∧ pim u ω c 14 [.ref (c + 1), .ref (c + 2), .ref (c + 3), .int 0, .ref (c + 4), .int 0, .int 0, .ref (c + 5), .ref (c + 6), .int 0, .int 0, .int 0, .ref (c + 7), .int 0, .ref (c + 8), .ref (c + 9), .ref (c + 10), .ref (c + 11), .ref (c + 12), .ref (c + 13), .int 0, .null, .null, .null] (k + 9) := by
  obtain ⟨h1, h2, h3, h4⟩ := h
  have hn : ρ.2.1 = c + 13 := by rw [h3]
  have hs : ρ.2.2 = k := by rw [h3]
  obtain ⟨w1, w2⟩ := stg (g := mG c) (j := 19) (n' := 14) (fs := [.ref (c + 1), .ref (c + 2), .ref (c + 3), .int 0, .ref (c + 4), .int 0, .int 0, .ref (c + 5), .ref (c + 6), .int 0, .int 0, .int 0, .ref (c + 7), .int 0, .ref (c + 8), .ref (c + 9), .ref (c + 10), .ref (c + 11), .ref (c + 12), .null, .int 0, .null, .null, .null]) (τ := hnew ρ (zArr 0 9) 9) h1 (Nat.le_of_ble_eq_true rfl) hn (by omega) h2 (fun a ha => rfl) (fun i q1 q2 => by
    have : i = 13 := by omega
    subst this
    rw [← hn]; exact hnew_at)
  refine ⟨_, ?_, hup_at, w2, ?_, fun a ha => ?_⟩
  · simp only [e137_110, e137_111, e137_113, e137_115, kv_s, kh_s, kr_s, kr_v, kn_s, hn, w1]
    rfl
  · show (ρ.2.1 + 1, ρ.2.2 + 9) = _
    rw [hn, hs]
  · rw [hup_ne (by omega), hnew_ne (by omega)]; exact h4 a ha
theorem M_i13 {u : Nat → Option va_E} (h : pim u ρ c 14 [.ref (c + 1), .ref (c + 2), .ref (c + 3), .int 0, .ref (c + 4), .int 0, .int 0, .ref (c + 5), .ref (c + 6), .int 0, .int 0, .int 0, .ref (c + 7), .int 0, .ref (c + 8), .ref (c + 9), .ref (c + 10), .ref (c + 11), .ref (c + 12), .ref (c + 13), .int 0, .null, .null, .null] k) : ∃ ω, den 137 118 [.ref c] [] ρ = den 137 127 [.ref c] [] ω ∧ pim u ω c 15 [.ref (c + 1), .ref (c + 2), .ref (c + 3), .int 0, .ref (c + 4), .int 0, .int 0, .ref (c + 5), .ref (c + 6), .int 0, .int 0, .int 0, .ref (c + 7), .int 0, .ref (c + 8), .ref (c + 9), .ref (c + 10), .ref (c + 11), .ref (c + 12), .ref (c + 13), .int 0, .ref (c + 14), .null, .null] (k + 3075) := by
  obtain ⟨h1, h2, h3, h4⟩ := h
  have hn : ρ.2.1 = c + 14 := by rw [h3]
  have hs : ρ.2.2 = k := by rw [h3]
  obtain ⟨w1, w2⟩ := stg (g := mG c) (j := 21) (n' := 15) (fs := [.ref (c + 1), .ref (c + 2), .ref (c + 3), .int 0, .ref (c + 4), .int 0, .int 0, .ref (c + 5), .ref (c + 6), .int 0, .int 0, .int 0, .ref (c + 7), .int 0, .ref (c + 8), .ref (c + 9), .ref (c + 10), .ref (c + 11), .ref (c + 12), .ref (c + 13), .int 0, .null, .null, .null]) (τ := hnew ρ (zArr 0 3075) 3075) h1 (Nat.le_of_ble_eq_true rfl) hn (by omega) h2 (fun a ha => rfl) (fun i q1 q2 => by
    have : i = 14 := by omega
    subst this
    rw [← hn]; exact hnew_at)
  refine ⟨_, ?_, hup_at, w2, ?_, fun a ha => ?_⟩
  · simp only [e137_118, e137_119, e137_122, e137_124, kv_s, kh_s, kr_s, kr_v, kn_s, hn, w1]
    rfl
  · show (ρ.2.1 + 1, ρ.2.2 + 3075) = _
    rw [hn, hs]
  · rw [hup_ne (by omega), hnew_ne (by omega)]; exact h4 a ha
theorem M_i14 {u : Nat → Option va_E} (h : pim u ρ c 15 [.ref (c + 1), .ref (c + 2), .ref (c + 3), .int 0, .ref (c + 4), .int 0, .int 0, .ref (c + 5), .ref (c + 6), .int 0, .int 0, .int 0, .ref (c + 7), .int 0, .ref (c + 8), .ref (c + 9), .ref (c + 10), .ref (c + 11), .ref (c + 12), .ref (c + 13), .int 0, .ref (c + 14), .null, .null] k) : ∃ ω, den 137 127 [.ref c] [] ρ = den 137 136 [.ref c] [] ω ∧ pim u ω c 16 [.ref (c + 1), .ref (c + 2), .ref (c + 3), .int 0, .ref (c + 4), .int 0, .int 0, .ref (c + 5), .ref (c + 6), .int 0, .int 0, .int 0, .ref (c + 7), .int 0, .ref (c + 8), .ref (c + 9), .ref (c + 10), .ref (c + 11), .ref (c + 12), .ref (c + 13), .int 0, .ref (c + 14), .ref (c + 15), .null] (k + 6150) := by
  obtain ⟨h1, h2, h3, h4⟩ := h
  have hn : ρ.2.1 = c + 15 := by rw [h3]
  have hs : ρ.2.2 = k := by rw [h3]
  obtain ⟨w1, w2⟩ := stg (g := mG c) (j := 22) (n' := 16) (fs := [.ref (c + 1), .ref (c + 2), .ref (c + 3), .int 0, .ref (c + 4), .int 0, .int 0, .ref (c + 5), .ref (c + 6), .int 0, .int 0, .int 0, .ref (c + 7), .int 0, .ref (c + 8), .ref (c + 9), .ref (c + 10), .ref (c + 11), .ref (c + 12), .ref (c + 13), .int 0, .ref (c + 14), .null, .null]) (τ := hnew ρ (zArr 0 6150) 6150) h1 (Nat.le_of_ble_eq_true rfl) hn (by omega) h2 (fun a ha => rfl) (fun i q1 q2 => by
    have : i = 15 := by omega
    subst this
    rw [← hn]; exact hnew_at)
  refine ⟨_, ?_, hup_at, w2, ?_, fun a ha => ?_⟩
  · simp only [e137_127, e137_128, e137_131, e137_133, kv_s, kh_s, kr_s, kr_v, kn_s, hn, w1]
    rfl
  · show (ρ.2.1 + 1, ρ.2.2 + 6150) = _
    rw [hn, hs]
  · rw [hup_ne (by omega), hnew_ne (by omega)]; exact h4 a ha
theorem M_i15 {u : Nat → Option va_E} (h : pim u ρ c 16 [.ref (c + 1), .ref (c + 2), .ref (c + 3), .int 0, .ref (c + 4), .int 0, .int 0, .ref (c + 5), .ref (c + 6), .int 0, .int 0, .int 0, .ref (c + 7), .int 0, .ref (c + 8), .ref (c + 9), .ref (c + 10), .ref (c + 11), .ref (c + 12), .ref (c + 13), .int 0, .ref (c + 14), .ref (c + 15), .null] k) : ∃ ω, den 137 136 [.ref c] [] ρ = den 137 143 [.ref c] [] ω ∧ pim u ω c 17 [.ref (c + 1), .ref (c + 2), .ref (c + 3), .int 0, .ref (c + 4), .int 0, .int 0, .ref (c + 5), .ref (c + 6), .int 0, .int 0, .int 0, .ref (c + 7), .int 0, .ref (c + 8), .ref (c + 9), .ref (c + 10), .ref (c + 11), .ref (c + 12), .ref (c + 13), .int 0, .ref (c + 14), .ref (c + 15), .ref (c + 16)] (k + 2) := by
  obtain ⟨h1, h2, h3, h4⟩ := h
  have hn : ρ.2.1 = c + 16 := by rw [h3]
  have hs : ρ.2.2 = k := by rw [h3]
  obtain ⟨w1, w2⟩ := stg (g := mG c) (j := 23) (n' := 17) (fs := [.ref (c + 1), .ref (c + 2), .ref (c + 3), .int 0, .ref (c + 4), .int 0, .int 0, .ref (c + 5), .ref (c + 6), .int 0, .int 0, .int 0, .ref (c + 7), .int 0, .ref (c + 8), .ref (c + 9), .ref (c + 10), .ref (c + 11), .ref (c + 12), .ref (c + 13), .int 0, .ref (c + 14), .ref (c + 15), .null]) (τ := hnew ρ (zArr 4 2) 2) h1 (Nat.le_of_ble_eq_true rfl) hn (by omega) h2 (fun a ha => rfl) (fun i q1 q2 => by
    have : i = 16 := by omega
    subst this
    rw [← hn]; exact hnew_at)
  refine ⟨_, ?_, hup_at, w2, ?_, fun a ha => ?_⟩
  · simp only [e137_136, e137_137, e137_138, e137_140, kv_s, kh_s, kr_s, kr_v, kn_s, hn, w1]
    rfl
  · show (ρ.2.1 + 1, ρ.2.2 + 2) = _
    rw [hn, hs]
  · rw [hup_ne (by omega), hnew_ne (by omega)]; exact h4 a ha
/-- what the reference's constructor makes -/
theorem M_ini (hc : σ.1 c = some (.inr (7, zD 7))) (hn : σ.2 = (c + 1, k)) : ∃ ρ, dcall 137 [.ref c] σ = some (none, mw ρ c (va_up (va_up (fun _ _ => 0) 1 (upd (upd (fun _ => 0) 0 (nI 4)) 2 (nI 1))) 2 (upd (fun _ => 0) 0 (-nI 1))) (fun _ => 0) (fun _ => 0)) ∧ ρ.2 = (c + 17, k + 16651) ∧ ∀ a, a < c → ρ.1 a = σ.1 a := by
  have h : pim σ.1 σ c 1 [.null, .null, .null, .int 0, .null, .int 0, .int 0, .null, .null, .int 0, .int 0, .int 0, .null, .int 0, .null, .null, .null, .null, .null, .null, .int 0, .null, .null, .null] k := ⟨hc, fun i q1 q2 => by omega, hn, fun _ _ => rfl⟩
  obtain ⟨ω0, x0, h0⟩ := M_i0 h
  obtain ⟨ω1, x1, h1⟩ := M_i1 h0
  obtain ⟨ω2, x2, h2⟩ := M_i2 h1
  obtain ⟨ω3, x3, h3⟩ := M_i3 h2
  obtain ⟨ω4, x4, h4⟩ := M_i4 h3
  obtain ⟨ω5, x5, h5⟩ := M_i5 h4
  obtain ⟨ω6, x6, h6⟩ := M_i6 h5
  obtain ⟨ω7, x7, h7⟩ := M_i7 h6
  obtain ⟨ω8, x8, h8⟩ := M_i8 h7
  obtain ⟨ω9, x9, h9⟩ := M_i9 h8
  obtain ⟨ω10, x10, h10⟩ := M_i10 h9
  obtain ⟨ω11, x11, h11⟩ := M_i11 h10
  obtain ⟨ω12, x12, h12⟩ := M_i12 h11
  obtain ⟨ω13, x13, h13⟩ := M_i13 h12
  obtain ⟨ω14, x14, h14⟩ := M_i14 h13
  obtain ⟨ω15, x15, h15⟩ := M_i15 h14
  obtain ⟨g1, g2, g3, g4⟩ := h15
  have gm : mw ω15 c (fun _ _ => 0) (fun _ => 0) (fun _ => 0) = ω15 := mw_self fun j hj => by
    by_cases h0 : j = 0
    · subst h0; exact g1
    · exact g2 j (by omega) (by omega)
  have z4 : (4 : Int32) = nI 4 := rfl
  have zn : (-1 : Int32) = -nI 1 := rfl
  have z0' : (0 : Int32) = nI 0 := rfl
  have gk : k + 3075 + 12 + 80 + 600 + 512 + 512 + 320 + 256 + 512 + 512 + 512 + 512 + 9 + 3075 + 6150 + 2 = k + 16651 := by omega
  have e : den 137 143 [.ref c] [] (mw ω15 c (fun _ _ => 0) (fun _ => 0) (fun _ => 0)) = some (none, mw ω15 c (va_up (va_up (fun _ _ => 0) 1 (upd (upd (fun _ => 0) 0 (nI 4)) 2 (nI 1))) 2 (upd (fun _ => 0) 0 (-nI 1))) (fun _ => 0) (fun _ => 0)) := by
    simp (disch := first | omega | exact tl_l | exact tT_len | (simp only [List.length_cons, List.length_nil])) only [e137_143, e137_144, e137_147, e137_148, e137_149, e137_150, e137_151, e137_154, e137_155, e137_156, e137_157, e137_158, e137_161, e137_162, e137_163, e137_164, kv_s, kh_s, kr_s, kr_v, kn_s, z0, z1, z2, nI_ltI, nI_leI, nI_eq, nI_add, oN, bz0, bz1, bw0, bw1, ltT, ltF, leT, leF, eqT, eqF, if_true, if_false, kI_n, wI_n, and_true, true_and, and_false, false_and, not_true, not_false_eq_true, mwo, mwr_0, mwr_1, mwr_2, mwg_3, mwp_3, mwr_4, mwg_5, mwp_5, mwg_6, mwp_6, mwr_7, mwr_8, mwg_9, mwp_9, mwg_10, mwp_10, mwg_11, mwp_11, mwr_12, mwg_13, mwp_13, mwr_14, mwr_15, mwr_16, mwr_17, mwr_18, mwr_19, mwg_20, mwp_20, mwr_21, mwr_22, mwr_23, mwa_1, mwu_1, mwa_2, mwu_2, mwa_3, mwu_3, mwa_4, mwu_4, mwa_5, mwu_5, mwa_6, mwu_6, mwa_7, mwu_7, mwa_8, mwu_8, mwa_9, mwu_9, mwa_10, mwu_10, mwa_11, mwu_11, mwa_12, mwu_12, mwa_13, mwu_13, mwa_14, mwu_14, mwa_15, mwu_15, mwa_16, mwu_16, vu_at, vu_ne, pk_us, pk_un, kB_n, wB_n, kL_n, wL_n, z4, zn, vu_vu]
  rw [gm] at e
  refine ⟨ω15, ?_, g3.trans (congrArg (Prod.mk (c + 17)) gk), g4⟩
  rw [q137]
  simp only [e137_0, e137_1]
  rw [x0, x1, x2, x3, x4, x5, x6, x7, x8, x9, x10, x11, x12, x13, x14, x15]
  exact e
end IN
