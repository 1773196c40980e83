/-! plain facts: numbers, worlds, counts -/
theorem inb_nI {k n : Nat} (h : k < n) (hn : n < 2 ^ 31) : inb (nI k) n = true := by
  unfold inb
  rw [nI_clamp (by omega)]
  simp only [Bool.and_eq_true, decide_eq_true_eq]
  exact ⟨nI_pos (by omega), h⟩
theorem shl_nI {d : Nat} (h : d < 31) : (nI 1) <<< (nI d &&& 31) = nI (2 ^ d) := by
  have key : ∀ d, d < 31 → (nI 1) <<< (nI d &&& 31) = nI (2 ^ d) := by decide +kernel
  exact key d h
theorem hup_hup {σ : Hp} {a : Nat} {E E' : va_E} : hup (hup σ a E) a E' = hup σ a E' := by
  unfold hup
  congr 1
  funext q
  by_cases h : q = a <;> simp [h]
theorem hup_at {σ : Hp} {a : Nat} {E : va_E} : (hup σ a E).1 a = some E := by simp [hup]
theorem hup_ne {σ : Hp} {a b : Nat} {E : va_E} (h : b ≠ a) : (hup σ a E).1 b = σ.1 b := by simp [hup, h]
theorem hup_2 {σ : Hp} {a : Nat} {E : va_E} : (hup σ a E).2 = σ.2 := rfl
theorem hup_id {σ : Hp} {a : Nat} {E : va_E} (h : σ.1 a = some E) : hup σ a E = σ := by
  unfold hup
  refine Prod.ext ?_ rfl
  funext q
  by_cases hq : q = a
  · subst hq; simp [h]
  · simp [hq]
theorem hI_of {σ : Hp} {a t n : Nat} {f : Nat → Int32} (h : σ.1 a = some (.inl (t, n, .inl f))) : hI σ a t = some (n, f) := by
  unfold hI
  rw [h]
  exact if_pos rfl
theorem hB_of {σ : Hp} {a t n : Nat} {f : Nat → Int32} (h : σ.1 a = some (.inl (t, n, .inl f))) (ht : t = 2 ∨ t = 4) : hB σ a = some (t, n, f) := by
  unfold hB
  rw [h]
  exact if_pos ht
theorem hL_of {σ : Hp} {a n : Nat} {f : Nat → Int64} (h : σ.1 a = some (.inl (1, n, .inr (.inl f)))) : hL σ a 1 = some (n, f) := by
  unfold hL
  rw [h]
  rfl
theorem hR_of {σ : Hp} {a t n : Nat} {f : Nat → Option Nat} (h : σ.1 a = some (.inl (t, n, .inr (.inr (.inr (.inr f)))))) : hR σ a = some (t, n, f) := by
  unfold hR
  rw [h]
theorem hLen_of {σ : Hp} {a t n : Nat} {x} (h : σ.1 a = some (.inl (t, n, x))) : hLen σ a = some n := by
  unfold hLen
  rw [h]
theorem hObj_of {σ : Hp} {a ci : Nat} {fs : List Value} (h : σ.1 a = some (.inr (ci, fs))) : hObj σ a = some ci := by
  unfold hObj
  rw [h]
theorem hGet_of {σ : Hp} {a ci k : Nat} {fs : List Value} (h : σ.1 a = some (.inr (ci, fs))) : hGet σ a ci k = fs[k]? := by
  unfold hGet
  rw [h]
  exact if_pos rfl
theorem hPut_of {σ : Hp} {a ci k : Nat} {fs : List Value} {v : Value} (h : σ.1 a = some (.inr (ci, fs))) (hk : k < fs.length) : hPut σ a ci k v = some (hup σ a (.inr (ci, fs.set k v))) := by
  unfold hPut
  rw [h]
  exact if_pos ⟨rfl, hk⟩
/-- literals -/
theorem z0 : (0 : Int32) = nI 0 := rfl
theorem z1 : (1 : Int32) = nI 1 := rfl
theorem z2 : (2 : Int32) = nI 2 := rfl
theorem z3 : (3 : Int32) = nI 3 := rfl
theorem z4 : (4 : Int32) = nI 4 := rfl
theorem z5 : (5 : Int32) = nI 5 := rfl
theorem z6 : (6 : Int32) = nI 6 := rfl
theorem z7 : (7 : Int32) = nI 7 := rfl
theorem z8 : (8 : Int32) = nI 8 := rfl
theorem z9 : (9 : Int32) = nI 9 := rfl
theorem z10 : (10 : Int32) = nI 10 := rfl
theorem z11 : (11 : Int32) = nI 11 := rfl
theorem z12 : (12 : Int32) = nI 12 := rfl
theorem z24 : (24 : Int32) = nI 24 := rfl
theorem z31 : (31 : Int32) = nI 31 := rfl
theorem z40 : (40 : Int32) = nI 40 := rfl
theorem z44 : (44 : Int32) = nI 44 := rfl
theorem z45 : (45 : Int32) = nI 45 := rfl
theorem z48 : (48 : Int32) = nI 48 := rfl
theorem z49 : (49 : Int32) = nI 49 := rfl
theorem z57 : (57 : Int32) = nI 57 := rfl
theorem z58 : (58 : Int32) = nI 58 := rfl
theorem z60 : (60 : Int32) = nI 60 := rfl
theorem z61 : (61 : Int32) = nI 61 := rfl
theorem z80 : (80 : Int32) = nI 80 := rfl
theorem z98 : (98 : Int32) = nI 98 := rfl
theorem z99 : (99 : Int32) = nI 99 := rfl
theorem z109 : (109 : Int32) = nI 109 := rfl
theorem z112 : (112 : Int32) = nI 112 := rfl
theorem z115 : (115 : Int32) = nI 115 := rfl
theorem z128 : (128 : Int32) = nI 128 := rfl
theorem z255 : (255 : Int32) = nI 255 := rfl
theorem z256 : (256 : Int32) = nI 256 := rfl
theorem z260 : (260 : Int32) = nI 260 := rfl
theorem z262 : (262 : Int32) = nI 262 := rfl
theorem z264 : (264 : Int32) = nI 264 := rfl
theorem z300 : (300 : Int32) = nI 300 := rfl
theorem z320 : (320 : Int32) = nI 320 := rfl
theorem z512 : (512 : Int32) = nI 512 := rfl
theorem z600 : (600 : Int32) = nI 600 := rfl
theorem z999 : (999 : Int32) = nI 999 := rfl
theorem z1000 : (1000 : Int32) = nI 1000 := rfl
theorem z3072 : (3072 : Int32) = nI 3072 := rfl
theorem z3075 : (3075 : Int32) = nI 3075 := rfl
/-- how many of a stretch of n places from a on hold P -/
def cnt (P : Nat → Bool) (a : Nat) : Nat → Nat
  | 0 => 0
  | n + 1 => cnt P a n + if P (a + n) = true then 1 else 0
theorem cnt_le (P : Nat → Bool) (a n : Nat) : cnt P a n ≤ n := by
  induction n with
  | zero => exact Nat.le_refl _
  | succ n ih =>
    show cnt P a n + _ ≤ n + 1
    split <;> omega
theorem cnt_congr {P Q : Nat → Bool} {a n : Nat} (h : ∀ i, i < n → P (a + i) = Q (a + i)) : cnt P a n = cnt Q a n := by
  induction n with
  | zero => rfl
  | succ n ih =>
    show cnt P a n + _ = cnt Q a n + _
    rw [ih (fun i hi => h i (by omega)), h n (by omega)]
theorem cnt_add (P : Nat → Bool) (a n m : Nat) : cnt P a (n + m) = cnt P a n + cnt P (a + n) m := by
  induction m with
  | zero => rfl
  | succ m ih =>
    show cnt P a (n + m) + (if P (a + (n + m)) = true then 1 else 0) = cnt P a n + (cnt P (a + n) m + if P (a + n + m) = true then 1 else 0)
    rw [ih, Nat.add_assoc a n m]
    omega
theorem cnt_one (P : Nat → Bool) (a : Nat) : cnt P a 1 = if P a = true then 1 else 0 := by
  show 0 + _ = _
  rw [Nat.zero_add, Nat.add_zero]
theorem cnt_first (P : Nat → Bool) (a n : Nat) : cnt P a (n + 1) = (if P a = true then 1 else 0) + cnt P (a + 1) n := by
  rw [Nat.add_comm n 1, cnt_add, cnt_one]
theorem cnt_shift (P : Nat → Bool) (a n : Nat) : cnt (fun i => P (a + i)) 0 n = cnt P a n := by
  induction n with
  | zero => rfl
  | succ n ih =>
    show cnt _ 0 n + _ = cnt P a n + _
    rw [ih, Nat.zero_add]
theorem cnt_none {P : Nat → Bool} {a n : Nat} (h : ∀ i, i < n → P (a + i) = false) : cnt P a n = 0 := by
  induction n with
  | zero => rfl
  | succ n ih =>
    show cnt P a n + _ = 0
    rw [ih (fun i hi => h i (by omega)), h n (by omega)]
    rfl
