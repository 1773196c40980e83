/-! History: a ring of trees -/
def rng (T : Nat → Option Nat) : va_E := .inl (5, 12, .inr (.inr (.inr (.inr T))))
def isHi (σ : Hp) (h : Nat) (T : Nat → Option Nat) (d f l : Nat) : Prop := σ.1 h = some (.inr (0, [.ref (h + 1), .int (nI d), .int (nI f), .int (nI l)])) ∧ σ.1 (h + 1) = some (rng T)
/-- spots of the ring without a tree -/
def nul (T : Nat → Option Nat) : Nat := cnt (fun s => (T s).isNone) 0 12
theorem vu_at {α : Type} {f : Nat → α} {k : Nat} {x : α} : va_up f k x k = x := if_pos rfl
theorem vu_ne {α : Type} {f : Nat → α} {k j : Nat} {x : α} (h : j ≠ k) : va_up f k x j = f j := if_neg h
theorem cnt_off {P Q : Nat → Bool} {k : Nat} (hp : P k = true) (hq : Q k = false) (h : ∀ j, j ≠ k → P j = Q j) : ∀ (n a : Nat), cnt P a n = cnt Q a n + if a ≤ k ∧ k < a + n then 1 else 0 := by
  intro n
  induction n with
  | zero => intro a; rw [if_neg (by omega)]; rfl
  | succ n ih =>
    intro a
    have e1 : cnt P a (n + 1) = cnt P a n + if P (a + n) = true then 1 else 0 := rfl
    have e2 : cnt Q a (n + 1) = cnt Q a n + if Q (a + n) = true then 1 else 0 := rfl
    rw [e1, e2, ih a]
    by_cases hk : a + n = k
    · have c1 : ¬ (a ≤ k ∧ k < a + n) := by omega
      have c2 : a ≤ k ∧ k < a + (n + 1) := by omega
      rw [if_neg c1, if_pos c2, hk, hp, hq]
      rfl
    · rw [h _ hk]
      by_cases h1 : a ≤ k ∧ k < a + n
      · have c2 : a ≤ k ∧ k < a + (n + 1) := by omega
        rw [if_pos h1, if_pos c2]; omega
      · have c2 : ¬ (a ≤ k ∧ k < a + (n + 1)) := by omega
        rw [if_neg h1, if_neg c2]; omega
theorem nul_up {T : Nat → Option Nat} {s t : Nat} (hs : s < 12) (h : T s = none) : nul T = nul (va_up T s (some t)) + 1 := by
  have := cnt_off (P := fun s => (T s).isNone) (Q := fun j => (va_up T s (some t) j).isNone) (k := s) (by simp [h]) (by simp [vu_at]) (fun j hj => by simp only [vu_ne hj]) 12 0
  have c : 0 ≤ s ∧ s < 0 + 12 := by omega
  rw [if_pos c] at this
  exact this
theorem nul_le {T : Nat → Option Nat} : nul T ≤ 12 := cnt_le _ _ _
/-- the cells of the trees in a ring -/
def ot (T : Nat → Option Nat) (a : Nat) : Prop := ∃ s t, s < 12 ∧ T s = some t ∧ t ≤ a ∧ a < t + 5
/-- a history changes: its own cells, and new ones -/
def ef (h : Nat) (T : Nat → Option Nat) (σ τ : Hp) (T' : Nat → Option Nat) : Prop := (∀ a, a < σ.2.1 → a ≠ h → a ≠ h + 1 → ¬ ot T a → τ.1 a = σ.1 a) ∧ (∀ s t, s < 12 → T' s = some t → T s = some t ∨ T s = none ∧ σ.2.1 ≤ t) ∧ (∀ s t, s < 12 → T s = some t → T' s = some t) ∧ σ.2.1 ≤ τ.2.1 ∧ τ.2.1 + 5 * nul T' = σ.2.1 + 5 * nul T ∧ τ.2.2 + 1285 * nul T' = σ.2.2 + 1285 * nul T
theorem ef.rf {h : Nat} {T : Nat → Option Nat} {σ : Hp} : ef h T σ σ T := ⟨fun _ _ _ _ _ => rfl, fun _ _ _ h => Or.inl h, fun _ _ _ h => h, Nat.le_refl _, rfl, rfl⟩
theorem ef.ot {h : Nat} {T T' : Nat → Option Nat} {σ τ : Hp} (e : ef h T σ τ T') {a : Nat} (ha : ot T' a) : ot T a ∨ σ.2.1 ≤ a := by
  obtain ⟨s, t, h1, h2, h3, h4⟩ := ha
  rcases e.2.1 s t h1 h2 with h5 | h5
  · exact Or.inl ⟨s, t, h1, h5, h3, h4⟩
  · exact Or.inr (by omega)
theorem ef.tr {h : Nat} {T T' T'' : Nat → Option Nat} {σ τ ρ : Hp} (e1 : ef h T σ τ T') (e2 : ef h T' τ ρ T'') : ef h T σ ρ T'' := by
  have z1 := e1.2.2.2.1
  have z2 := e2.2.2.2.1
  refine ⟨fun a h1 h2 h3 h4 => (e2.1 a (by omega) h2 h3 (fun z => ?_)).trans (e1.1 a h1 h2 h3 h4), fun s t hs h1 => ?_, fun s t hs h1 => e2.2.2.1 s t hs (e1.2.2.1 s t hs h1), by omega, e2.2.2.2.2.1.trans e1.2.2.2.2.1, e2.2.2.2.2.2.trans e1.2.2.2.2.2⟩
  · rcases e1.ot z with z | z
    · exact h4 z
    · omega
  · rcases e2.2.1 s t hs h1 with h2 | ⟨h2, h3⟩
    · exact e1.2.1 s t hs h2
    · cases hT : T s with
      | none => exact Or.inr ⟨rfl, by omega⟩
      | some t0 =>
        rw [e1.2.2.1 s t0 hs hT] at h2
        cases h2
section HI
variable {σ : Hp} {h : Nat} {T : Nat → Option Nat} {d f l : Nat}
theorem isHi.o (H : isHi σ h T d f l) : hObj σ h = some 0 := hObj_of H.1
theorem isHi.r (H : isHi σ h T d f l) : hGet σ h 0 0 = some (.ref (h + 1)) := by rw [hGet_of H.1]; rfl
theorem isHi.gd (H : isHi σ h T d f l) : hGet σ h 0 1 = some (.int (nI d)) := by rw [hGet_of H.1]; rfl
theorem isHi.gf (H : isHi σ h T d f l) : hGet σ h 0 2 = some (.int (nI f)) := by rw [hGet_of H.1]; rfl
theorem isHi.gl (H : isHi σ h T d f l) : hGet σ h 0 3 = some (.int (nI l)) := by rw [hGet_of H.1]; rfl
theorem isHi.a (H : isHi σ h T d f l) : hR σ (h + 1) = some (5, 12, T) := hR_of H.2
theorem Hi_hold_is (H : isHi σ h T d f l) {v t : Nat} (hv : v < 2 ^ 31) (ht : T (v % 12) = some t) : dcall 15 [.ref h, .int (nI v)] σ = some (some (.ref t), σ) := by
  rw [q15]
  simp (disch := omega) only [e15_0, e15_1, e15_3, e15_6, e15_7, e15_8, e15_11, e15_12, e15_13, e15_13n, e15_16, e15_17, e15_20, e15_21, e15_24, e15_25, e15_28, e15_29, e15_30, e15_33, e15_34, e15_35, e15_35n, kv_s, kh_s, kr_s, kr_v, kn_s, z0, z1, z2, nI_ltI, nI_leI, nI_eq, nI_add, oN, bz0, bz1, bw0, bw1, ltT, ltF, leT, leF, eqT, eqF, if_true, if_false, kI_n, wI_n, and_true, true_and, and_false, false_and, not_true, not_false_eq_true, z12, Jm_floorMod, H.r, H.a, kR_n, ht, va_rf, true_or]
theorem Hi_hold_new (H : isHi σ h T d f l) {v : Nat} (hv : v < 2 ^ 31) (hb : h + 2 ≤ σ.2.1) (ht : T (v % 12) = none) : ∃ τ, dcall 15 [.ref h, .int (nI v)] σ = some (some (.ref σ.2.1), τ) ∧ isHi τ h (va_up T (v % 12) (some σ.2.1)) d f l ∧ isT τ σ.2.1 0 (fun _ => nI 0) ∧ (∀ a, a < σ.2.1 → a ≠ h + 1 → τ.1 a = σ.1 a) ∧ τ.2 = (σ.2.1 + 5, σ.2.2 + 1285) := by
  obtain ⟨τ, h1, h2, h3, h4⟩ := T_init (σ := hnew σ (.inr (5, zD 5)) 3) (t := σ.2.1) hnew_at hnew_n
  have g1 : isHi τ h T d f l := ⟨by rw [h3 _ (by omega), hnew_ne (by omega)]; exact H.1, by rw [h3 _ (by omega), hnew_ne (by omega)]; exact H.2⟩
  have g2 : isHi (hup τ (h + 1) (.inl (5, 12, .inr (.inr (.inr (.inr (va_up T (v % 12) (some σ.2.1)))))))) h (va_up T (v % 12) (some σ.2.1)) d f l := ⟨by rw [hup_ne (by omega)]; exact g1.1, hup_at⟩
  refine ⟨_, ?_, g2, h2.kept (fun a h5 h6 => hup_ne (by omega)), fun a h5 h6 => by rw [hup_ne h6, h3 a h5, hnew_ne (by omega)], ?_⟩
  · rw [q15]
    simp (disch := omega) only [e15_0, e15_1, e15_3, e15_6, e15_7, e15_8, e15_11, e15_12, e15_13, e15_13n, e15_16, e15_17, e15_20, e15_21, e15_24, e15_25, e15_28, e15_29, e15_30, e15_33, e15_34, e15_35, e15_35n, kv_s, kh_s, kr_s, kr_v, kn_s, z0, z1, z2, nI_ltI, nI_leI, nI_eq, nI_add, oN, bz0, bz1, bw0, bw1, ltT, ltF, leT, leF, eqT, eqF, if_true, if_false, kI_n, wI_n, and_true, true_and, and_false, false_and, not_true, not_false_eq_true, z12, Jm_floorMod, H.r, H.a, kR_n, ht, va_rf, true_or, h1, g1.a, h2.o]
    rw [wR_s (inb_nI (by omega) (by omega)) (by decide), nI_clamp (by omega)]
    simp (disch := omega) only [e15_0, e15_1, e15_3, e15_6, e15_7, e15_8, e15_11, e15_12, e15_13, e15_13n, e15_16, e15_17, e15_20, e15_21, e15_24, e15_25, e15_28, e15_29, e15_30, e15_33, e15_34, e15_35, e15_35n, kv_s, kh_s, kr_s, kr_v, kn_s, z0, z1, z2, nI_ltI, nI_leI, nI_eq, nI_add, oN, bz0, bz1, bw0, bw1, ltT, ltF, leT, leF, eqT, eqF, if_true, if_false, kI_n, wI_n, and_true, true_and, and_false, false_and, not_true, not_false_eq_true, true_or, g2.r, g2.a, kR_n, vu_at, va_rf]
  · rw [hup_2, h4]
    rfl
theorem Hi_keys (H : isHi σ h T d f l) (hd : d ≤ 8) : dcall 55 [.ref h] σ = some (some (.int (nI (2 ^ d))), σ) := by
  rw [q55]
  simp only [e55_0, e55_1, e55_2, e55_5, e55_6, kv_s, kh_s, kr_s, kr_v, kn_s, H.gd, z1]
  rw [shl_nI (by omega)]
/-- is it a key? -/
def isK (d : Nat) (x : Int32) : Bool := decide (nI 0 ≤ x) && decide (x < nI (2 ^ d))
theorem isK_of {d : Nat} {x : Int32} (hd : d ≤ 8) (h : isK d x = true) : ∃ k, k < 2 ^ d ∧ x = nI k := by
  have hK : 2 ^ d ≤ 256 := Nat.pow_le_pow_right (by omega) hd
  simp only [isK, Bool.and_eq_true, decide_eq_true_eq] at h
  obtain ⟨j, hj, rfl⟩ := nI_of (x := x) (Int32.not_lt.mpr h.1)
  exact ⟨j, (nI_ltI hj (by omega)).mp h.2, rfl⟩
theorem isK_k {d k : Nat} (hd : d ≤ 8) (h : k < 2 ^ d) : isK d (nI k) = true := by
  have hK : 2 ^ d ≤ 256 := Nat.pow_le_pow_right (by omega) hd
  simp only [isK, Bool.and_eq_true, decide_eq_true_eq]
  exact ⟨nI_le (Nat.zero_le _) (by omega), nI_lt h (by omega)⟩
theorem n01 : (nI 1 = nI 0) = False := eq_false (by decide)
theorem Hi_hasKey (H : isHi σ h T d f l) (hd : d ≤ 8) {x : Int32} : dcall 54 [.ref h, .int x] σ = some (some (.int (if isK d x = true then nI 1 else nI 0)), σ) := by
  rw [q54]
  by_cases h1 : x < nI 0
  · have h2 : isK d x = false := by
      unfold isK
      rw [decide_eq_false (Int32.not_le.mpr h1)]
      rfl
    simp only [e54_0, e54_1, e54_4, e54_5, e54_6, e54_9, e54_12, e54_13, e54_16, e54_17, kv_s, kh_s, kr_s, kr_v, kn_s, z0, z1, z2, nI_ltI, nI_leI, nI_eq, nI_add, oN, bz0, bz1, bw0, bw1, ltT, ltF, leT, leF, eqT, eqF, if_true, if_false, kI_n, wI_n, and_true, true_and, and_false, false_and, not_true, not_false_eq_true, h1, h2, Bool.false_eq_true]
  · by_cases h3 : nI (2 ^ d) ≤ x
    · have h2 : isK d x = false := by simp [isK, h3]
      simp only [e54_0, e54_1, e54_4, e54_5, e54_6, e54_9, e54_12, e54_13, e54_16, e54_17, kv_s, kh_s, kr_s, kr_v, kn_s, z0, z1, z2, nI_ltI, nI_leI, nI_eq, nI_add, oN, bz0, bz1, bw0, bw1, ltT, ltF, leT, leF, eqT, eqF, if_true, if_false, kI_n, wI_n, and_true, true_and, and_false, false_and, not_true, not_false_eq_true, h1, h2, H.o, Hi_keys H hd, h3, Bool.false_eq_true]
    · have h2 : isK d x = true := by simp only [isK, Bool.and_eq_true, decide_eq_true_eq]; exact ⟨Int32.not_lt.mp h1, Int32.not_le.mp h3⟩
      simp only [e54_0, e54_1, e54_4, e54_5, e54_6, e54_9, e54_12, e54_13, e54_16, e54_17, kv_s, kh_s, kr_s, kr_v, kn_s, z0, z1, z2, nI_ltI, nI_leI, nI_eq, nI_add, oN, bz0, bz1, bw0, bw1, ltT, ltF, leT, leF, eqT, eqF, if_true, if_false, kI_n, wI_n, and_true, true_and, and_false, false_and, not_true, not_false_eq_true, h1, h2, H.o, Hi_keys H hd, h3]
/-- is it a stretch? -/
def isS (d : Nat) (x y : Int32) : Bool := isK d x && isK d y && decide (x ≤ y)
theorem Hi_hasStretch (H : isHi σ h T d f l) (hd : d ≤ 8) {x y : Int32} : dcall 70 [.ref h, .int x, .int y] σ = some (some (.int (if isS d x y = true then nI 1 else nI 0)), σ) := by
  rw [q70, isS]
  cases h1 : isK d x with
  | false => simp only [e70_0, e70_1, e70_2, e70_5, e70_8, e70_9, e70_10, e70_13, e70_16, e70_17, e70_18, e70_21, e70_22, e70_25, e70_26, kv_s, kh_s, kr_s, kr_v, kn_s, z0, z1, z2, nI_ltI, nI_leI, nI_eq, nI_add, oN, bz0, bz1, bw0, bw1, ltT, ltF, leT, leF, eqT, eqF, if_true, if_false, kI_n, wI_n, and_true, true_and, and_false, false_and, not_true, not_false_eq_true, h1, H.o, Hi_hasKey H hd, n01, Bool.false_eq_true, Bool.false_and]
  | true =>
    cases h2 : isK d y with
    | false => simp only [e70_0, e70_1, e70_2, e70_5, e70_8, e70_9, e70_10, e70_13, e70_16, e70_17, e70_18, e70_21, e70_22, e70_25, e70_26, kv_s, kh_s, kr_s, kr_v, kn_s, z0, z1, z2, nI_ltI, nI_leI, nI_eq, nI_add, oN, bz0, bz1, bw0, bw1, ltT, ltF, leT, leF, eqT, eqF, if_true, if_false, kI_n, wI_n, and_true, true_and, and_false, false_and, not_true, not_false_eq_true, h1, h2, H.o, Hi_hasKey H hd, n01, Bool.false_eq_true, Bool.false_and, Bool.true_and]
    | true =>
      by_cases h3 : y < x
      · have h4 : ¬ x ≤ y := Int32.not_le.mpr h3
        simp only [e70_0, e70_1, e70_2, e70_5, e70_8, e70_9, e70_10, e70_13, e70_16, e70_17, e70_18, e70_21, e70_22, e70_25, e70_26, kv_s, kh_s, kr_s, kr_v, kn_s, z0, z1, z2, nI_ltI, nI_leI, nI_eq, nI_add, oN, bz0, bz1, bw0, bw1, ltT, ltF, leT, leF, eqT, eqF, if_true, if_false, kI_n, wI_n, and_true, true_and, and_false, false_and, not_true, not_false_eq_true, h1, h2, h3, h4, H.o, Hi_hasKey H hd, n01, decide_false, Bool.false_eq_true, Bool.and_false]
      · have h4 : x ≤ y := Int32.not_lt.mp h3
        simp only [e70_0, e70_1, e70_2, e70_5, e70_8, e70_9, e70_10, e70_13, e70_16, e70_17, e70_18, e70_21, e70_22, e70_25, e70_26, kv_s, kh_s, kr_s, kr_v, kn_s, z0, z1, z2, nI_ltI, nI_leI, nI_eq, nI_add, oN, bz0, bz1, bw0, bw1, ltT, ltF, leT, leF, eqT, eqF, if_true, if_false, kI_n, wI_n, and_true, true_and, and_false, false_and, not_true, not_false_eq_true, h1, h2, h3, h4, H.o, Hi_hasKey H hd, n01, decide_true, Bool.and_true]
theorem Hi_kept (H : isHi σ h T d f l) (hl : f ≤ l) : dcall 113 [.ref h] σ = some (some (.int (nI (l - f + 1))), σ) := by
  rw [q113]
  simp only [e113_0, e113_1, e113_4, e113_5, e113_8, e113_9, e113_10, e113_11, kv_s, kh_s, kr_s, kr_v, kn_s, z0, z1, z2, nI_ltI, nI_leI, nI_eq, nI_add, oN, bz0, bz1, bw0, bw1, ltT, ltF, leT, leF, eqT, eqF, if_true, if_false, kI_n, wI_n, and_true, true_and, and_false, false_and, not_true, not_false_eq_true, H.gl, H.gf, pk_sub hl]
theorem Hi_newest_is (H : isHi σ h T d f l) {t : Nat} (hv : l < 2 ^ 31) (ht : T (l % 12) = some t) : dcall 43 [.ref h] σ = some (some (.ref t), σ) := by
  rw [q43]
  simp only [e43_0, e43_1, e43_2, e43_5, e43_8, e43_8n, kv_s, kh_s, kr_s, kr_v, kn_s, z0, z1, z2, nI_ltI, nI_leI, nI_eq, nI_add, oN, bz0, bz1, bw0, bw1, ltT, ltF, leT, leF, eqT, eqF, if_true, if_false, kI_n, wI_n, and_true, true_and, and_false, false_and, not_true, not_false_eq_true, H.o, H.gl, Hi_hold_is H hv ht]
theorem Hi_find_is (H : isHi σ h T d f l) {v t : Nat} (hl : l < 2 ^ 31) (h1 : f ≤ v) (h2 : v ≤ l) (ht : T (v % 12) = some t) : dcall 59 [.ref h, .int (nI v)] σ = some (some (.ref t), σ) := by
  rw [q59]
  have e1 : ¬ v < f := by omega
  have e2 : ¬ l < v := by omega
  simp (disch := omega) only [e59_0, e59_1, e59_2, e59_5, e59_8, e59_9, e59_10, e59_13, e59_16, e59_17, e59_18, e59_21, e59_24, e59_25, e59_25n, kv_s, kh_s, kr_s, kr_v, kn_s, z0, z1, z2, nI_ltI, nI_leI, nI_eq, nI_add, oN, bz0, bz1, bw0, bw1, ltT, ltF, leT, leF, eqT, eqF, if_true, if_false, kI_n, wI_n, and_true, true_and, and_false, false_and, not_true, not_false_eq_true, H.o, H.gf, H.gl, e1, e2, Hi_hold_is H (show v < 2 ^ 31 by omega) ht]
theorem Hi_find_no (H : isHi σ h T d f l) {x : Int32} (hx : x < nI f ∨ nI l < x) : dcall 59 [.ref h, .int x] σ = some (some .null, σ) := by
  rw [q59]
  by_cases h1 : x < nI f
  · simp only [e59_0, e59_1, e59_2, e59_5, e59_8, e59_9, e59_10, e59_13, e59_16, e59_17, e59_18, e59_21, e59_24, e59_25, e59_25n, kv_s, kh_s, kr_s, kr_v, kn_s, z0, z1, z2, nI_ltI, nI_leI, nI_eq, nI_add, oN, bz0, bz1, bw0, bw1, ltT, ltF, leT, leF, eqT, eqF, if_true, if_false, kI_n, wI_n, and_true, true_and, and_false, false_and, not_true, not_false_eq_true, H.o, H.gf, H.gl, h1]
  · simp only [e59_0, e59_1, e59_2, e59_5, e59_8, e59_9, e59_10, e59_13, e59_16, e59_17, e59_18, e59_21, e59_24, e59_25, e59_25n, kv_s, kh_s, kr_s, kr_v, kn_s, z0, z1, z2, nI_ltI, nI_leI, nI_eq, nI_add, oN, bz0, bz1, bw0, bw1, ltT, ltF, leT, leF, eqT, eqF, if_true, if_false, kI_n, wI_n, and_true, true_and, and_false, false_and, not_true, not_false_eq_true, H.o, H.gf, H.gl, h1, hx.resolve_left h1]
theorem ver_in {x : Int32} (hl : l < 2 ^ 31) (hf : f ≤ l) : (∃ v, f ≤ v ∧ v ≤ l ∧ x = nI v) ∨ (x < nI f ∨ nI l < x) := by
  by_cases h1 : x < nI f
  · exact Or.inr (Or.inl h1)
  · by_cases h2 : nI l < x
    · exact Or.inr (Or.inr h2)
    · have h3 := Int32.not_lt.mp h1
      have h4 := Int32.not_lt.mp h2
      obtain ⟨j, hj, rfl⟩ := nI_of (x := x) (fun z => (Int32.lt_irrefl (Int32.lt_of_lt_of_le z (Int32.le_trans (nI_le (Nat.zero_le f) (by omega)) h3))).elim)
      exact Or.inl ⟨j, (nI_leI (by omega) hj).mp h3, (nI_leI hj (by omega)).mp h4, rfl⟩
end HI
