/-! the reference object as registers over a world -/
def mel (m : Nat) (A : Nat → Nat → Int32) (R : Nat → Int64) (I : Nat → Int32) : Nat → Option va_E := fun j => match j with
  | 0 => some (.inr (7, [.ref (m + 1), .ref (m + 2), .ref (m + 3), .int (I 3), .ref (m + 4), .int (I 5), .int (I 6), .ref (m + 5), .ref (m + 6), .int (I 9), .int (I 10), .int (I 11), .ref (m + 7), .int (I 13), .ref (m + 8), .ref (m + 9), .ref (m + 10), .ref (m + 11), .ref (m + 12), .ref (m + 13), .int (I 20), .ref (m + 14), .ref (m + 15), .ref (m + 16)]))
  | 1 => some (.inl (0, 3075, .inl (A 1)))
  | 2 => some (.inl (0, 12, .inl (A 2)))
  | 3 => some (.inl (2, 80, .inl (A 3)))
  | 4 => some (.inl (1, 600, .inr (.inl R)))
  | 5 => some (.inl (0, 512, .inl (A 5)))
  | 6 => some (.inl (4, 512, .inl (A 6)))
  | 7 => some (.inl (0, 320, .inl (A 7)))
  | 8 => some (.inl (0, 256, .inl (A 8)))
  | 9 => some (.inl (4, 512, .inl (A 9)))
  | 10 => some (.inl (4, 512, .inl (A 10)))
  | 11 => some (.inl (4, 512, .inl (A 11)))
  | 12 => some (.inl (4, 512, .inl (A 12)))
  | 13 => some (.inl (0, 9, .inl (A 13)))
  | 14 => some (.inl (0, 3075, .inl (A 14)))
  | 15 => some (.inl (0, 6150, .inl (A 15)))
  | 16 => some (.inl (4, 2, .inl (A 16)))
  | _ => none
def mw (σ : Hp) (m : Nat) (A : Nat → Nat → Int32) (R : Nat → Int64) (I : Nat → Int32) : Hp := (fun q => if m ≤ q then (mel m A R I (q - m)).or (σ.1 q) else σ.1 q, σ.2)
section MW
variable {σ : Hp} {m : Nat} {A : Nat → Nat → Int32} {R : Nat → Int64} {I : Nat → Int32}
theorem mw_at {j : Nat} {e : va_E} (h : mel m A R I j = some e) : (mw σ m A R I).1 (m + j) = some e := by
  show (if m ≤ m + j then (mel m A R I (m + j - m)).or (σ.1 (m + j)) else σ.1 (m + j)) = _
  rw [if_pos (Nat.le_add_right _ _), Nat.add_sub_cancel_left, h]
  rfl
theorem mel_no {j : Nat} (h : 17 ≤ j) : mel m A R I j = none := by
  unfold mel
  split <;> first | rfl | omega
theorem mw_out {a : Nat} (h : a < m ∨ m + 17 ≤ a) : (mw σ m A R I).1 a = σ.1 a := by
  by_cases h1 : m ≤ a
  · show (if m ≤ a then (mel m A R I (a - m)).or (σ.1 a) else σ.1 a) = σ.1 a
    rw [if_pos h1, mel_no (by omega)]
    rfl
  · exact if_neg h1
theorem mw_2 : (mw σ m A R I).2 = σ.2 := rfl
theorem mw_hup {j : Nat} {e : va_E} {A' : Nat → Nat → Int32} {R' : Nat → Int64} {I' : Nat → Int32} (h : ∀ i, mel m A' R' I' i = if i = j then some e else mel m A R I i) : hup (mw σ m A R I) (m + j) e = mw σ m A' R' I' := by
  refine Prod.ext (funext fun q => ?_) rfl
  show (if q = m + j then some e else if m ≤ q then (mel m A R I (q - m)).or (σ.1 q) else σ.1 q) = if m ≤ q then (mel m A' R' I' (q - m)).or (σ.1 q) else σ.1 q
  rw [h]
  by_cases h1 : m ≤ q
  · rw [if_pos h1, if_pos h1]
    by_cases h2 : q = m + j
    · rw [if_pos h2, if_pos (by omega)]; rfl
    · rw [if_neg h2, if_neg (by omega)]
  · rw [if_neg h1, if_neg h1, if_neg (by omega)]
/-- a world with these registers in it is its own overlay -/
theorem mw_self {τ : Hp} (h : ∀ j, j < 17 → τ.1 (m + j) = mel m A R I j) : mw τ m A R I = τ := by
  refine Prod.ext (funext fun q => ?_) rfl
  show (if m ≤ q then (mel m A R I (q - m)).or (τ.1 q) else τ.1 q) = τ.1 q
  by_cases h1 : m ≤ q
  · rw [if_pos h1]
    by_cases h3 : q - m < 17
    · have := h (q - m) h3
      rw [show m + (q - m) = q by omega] at this
      rw [← this]
      cases τ.1 q <;> rfl
    · rw [mel_no (by omega)]
      rfl
  · rw [if_neg h1]
theorem mel_some {j : Nat} (h : j < 17) : ∃ e, mel m A R I j = some e := match j, h with
  | 0, _ => ⟨_, rfl⟩
  | 1, _ => ⟨_, rfl⟩
  | 2, _ => ⟨_, rfl⟩
  | 3, _ => ⟨_, rfl⟩
  | 4, _ => ⟨_, rfl⟩
  | 5, _ => ⟨_, rfl⟩
  | 6, _ => ⟨_, rfl⟩
  | 7, _ => ⟨_, rfl⟩
  | 8, _ => ⟨_, rfl⟩
  | 9, _ => ⟨_, rfl⟩
  | 10, _ => ⟨_, rfl⟩
  | 11, _ => ⟨_, rfl⟩
  | 12, _ => ⟨_, rfl⟩
  | 13, _ => ⟨_, rfl⟩
  | 14, _ => ⟨_, rfl⟩
  | 15, _ => ⟨_, rfl⟩
  | 16, _ => ⟨_, rfl⟩
  | k + 17, h => absurd h (by omega)
theorem mw_keep {τ : Hp} (h : ∀ a, m ≤ a → a < m + 17 → τ.1 a = (mw σ m A R I).1 a) : mw τ m A R I = τ := mw_self fun j h1 => by
  obtain ⟨e, he⟩ := mel_some (m := m) (A := A) (R := R) (I := I) h1
  rw [h (m + j) (by omega) (by omega), mw_at he, he]
theorem mwz : (mw σ m A R I).1 m = some (.inr (7, [.ref (m + 1), .ref (m + 2), .ref (m + 3), .int (I 3), .ref (m + 4), .int (I 5), .int (I 6), .ref (m + 5), .ref (m + 6), .int (I 9), .int (I 10), .int (I 11), .ref (m + 7), .int (I 13), .ref (m + 8), .ref (m + 9), .ref (m + 10), .ref (m + 11), .ref (m + 12), .ref (m + 13), .int (I 20), .ref (m + 14), .ref (m + 15), .ref (m + 16)])) := mw_at (j := 0) rfl
theorem mwo : hObj (mw σ m A R I) m = some 7 := hObj_of mwz
theorem mwr_0 : hGet (mw σ m A R I) m 7 0 = some (.ref (m + 1)) := by rw [hGet_of mwz]; rfl
theorem mwr_1 : hGet (mw σ m A R I) m 7 1 = some (.ref (m + 2)) := by rw [hGet_of mwz]; rfl
theorem mwr_2 : hGet (mw σ m A R I) m 7 2 = some (.ref (m + 3)) := by rw [hGet_of mwz]; rfl
theorem mwg_3 : hGet (mw σ m A R I) m 7 3 = some (.int (I 3)) := by rw [hGet_of mwz]; rfl
theorem mwp_3 {x : Int32} : hPut (mw σ m A R I) m 7 3 (.int x) = some (mw σ m A R (upd I 3 x)) := by
  rw [hPut_of mwz (Nat.le_of_ble_eq_true rfl)]
  refine congrArg some (mw_hup (j := 0) ?_)
  exact fun i => by
    by_cases hi : i = 0
    · rw [if_pos hi, hi]; rfl
    · rw [if_neg hi]; unfold mel; split <;> first | rfl | exact absurd rfl hi
theorem mwr_4 : hGet (mw σ m A R I) m 7 4 = some (.ref (m + 4)) := by rw [hGet_of mwz]; rfl
theorem mwg_5 : hGet (mw σ m A R I) m 7 5 = some (.int (I 5)) := by rw [hGet_of mwz]; rfl
theorem mwp_5 {x : Int32} : hPut (mw σ m A R I) m 7 5 (.int x) = some (mw σ m A R (upd I 5 x)) := by
  rw [hPut_of mwz (Nat.le_of_ble_eq_true rfl)]
  refine congrArg some (mw_hup (j := 0) ?_)
  exact fun i => by
    by_cases hi : i = 0
    · rw [if_pos hi, hi]; rfl
    · rw [if_neg hi]; unfold mel; split <;> first | rfl | exact absurd rfl hi
theorem mwg_6 : hGet (mw σ m A R I) m 7 6 = some (.int (I 6)) := by rw [hGet_of mwz]; rfl
theorem mwp_6 {x : Int32} : hPut (mw σ m A R I) m 7 6 (.int x) = some (mw σ m A R (upd I 6 x)) := by
  rw [hPut_of mwz (Nat.le_of_ble_eq_true rfl)]
  refine congrArg some (mw_hup (j := 0) ?_)
  exact fun i => by
    by_cases hi : i = 0
    · rw [if_pos hi, hi]; rfl
    · rw [if_neg hi]; unfold mel; split <;> first | rfl | exact absurd rfl hi
theorem mwr_7 : hGet (mw σ m A R I) m 7 7 = some (.ref (m + 5)) := by rw [hGet_of mwz]; rfl
theorem mwr_8 : hGet (mw σ m A R I) m 7 8 = some (.ref (m + 6)) := by rw [hGet_of mwz]; rfl
theorem mwg_9 : hGet (mw σ m A R I) m 7 9 = some (.int (I 9)) := by rw [hGet_of mwz]; rfl
theorem mwp_9 {x : Int32} : hPut (mw σ m A R I) m 7 9 (.int x) = some (mw σ m A R (upd I 9 x)) := by
  rw [hPut_of mwz (Nat.le_of_ble_eq_true rfl)]
  refine congrArg some (mw_hup (j := 0) ?_)
  exact fun i => by
    by_cases hi : i = 0
    · rw [if_pos hi, hi]; rfl
    · rw [if_neg hi]; unfold mel; split <;> first | rfl | exact absurd rfl hi
theorem mwg_10 : hGet (mw σ m A R I) m 7 10 = some (.int (I 10)) := by rw [hGet_of mwz]; rfl
theorem mwp_10 {x : Int32} : hPut (mw σ m A R I) m 7 10 (.int x) = some (mw σ m A R (upd I 10 x)) := by
  rw [hPut_of mwz (Nat.le_of_ble_eq_true rfl)]
  refine congrArg some (mw_hup (j := 0) ?_)
  exact fun i => by
    by_cases hi : i = 0
    · rw [if_pos hi, hi]; rfl
    · rw [if_neg hi]; unfold mel; split <;> first | rfl | exact absurd rfl hi
theorem mwg_11 : hGet (mw σ m A R I) m 7 11 = some (.int (I 11)) := by rw [hGet_of mwz]; rfl
theorem mwp_11 {x : Int32} : hPut (mw σ m A R I) m 7 11 (.int x) = some (mw σ m A R (upd I 11 x)) := by
  rw [hPut_of mwz (Nat.le_of_ble_eq_true rfl)]
  refine congrArg some (mw_hup (j := 0) ?_)
  exact fun i => by
    by_cases hi : i = 0
    · rw [if_pos hi, hi]; rfl
    · rw [if_neg hi]; unfold mel; split <;> first | rfl | exact absurd rfl hi
theorem mwr_12 : hGet (mw σ m A R I) m 7 12 = some (.ref (m + 7)) := by rw [hGet_of mwz]; rfl
theorem mwg_13 : hGet (mw σ m A R I) m 7 13 = some (.int (I 13)) := by rw [hGet_of mwz]; rfl
theorem mwp_13 {x : Int32} : hPut (mw σ m A R I) m 7 13 (.int x) = some (mw σ m A R (upd I 13 x)) := by
  rw [hPut_of mwz (Nat.le_of_ble_eq_true rfl)]
  refine congrArg some (mw_hup (j := 0) ?_)
  exact fun i => by
    by_cases hi : i = 0
    · rw [if_pos hi, hi]; rfl
    · rw [if_neg hi]; unfold mel; split <;> first | rfl | exact absurd rfl hi
theorem mwr_14 : hGet (mw σ m A R I) m 7 14 = some (.ref (m + 8)) := by rw [hGet_of mwz]; rfl
theorem mwr_15 : hGet (mw σ m A R I) m 7 15 = some (.ref (m + 9)) := by rw [hGet_of mwz]; rfl
theorem mwr_16 : hGet (mw σ m A R I) m 7 16 = some (.ref (m + 10)) := by rw [hGet_of mwz]; rfl
theorem mwr_17 : hGet (mw σ m A R I) m 7 17 = some (.ref (m + 11)) := by rw [hGet_of mwz]; rfl
theorem mwr_18 : hGet (mw σ m A R I) m 7 18 = some (.ref (m + 12)) := by rw [hGet_of mwz]; rfl
theorem mwr_19 : hGet (mw σ m A R I) m 7 19 = some (.ref (m + 13)) := by rw [hGet_of mwz]; rfl
theorem mwg_20 : hGet (mw σ m A R I) m 7 20 = some (.int (I 20)) := by rw [hGet_of mwz]; rfl
theorem mwp_20 {x : Int32} : hPut (mw σ m A R I) m 7 20 (.int x) = some (mw σ m A R (upd I 20 x)) := by
  rw [hPut_of mwz (Nat.le_of_ble_eq_true rfl)]
  refine congrArg some (mw_hup (j := 0) ?_)
  exact fun i => by
    by_cases hi : i = 0
    · rw [if_pos hi, hi]; rfl
    · rw [if_neg hi]; unfold mel; split <;> first | rfl | exact absurd rfl hi
theorem mwr_21 : hGet (mw σ m A R I) m 7 21 = some (.ref (m + 14)) := by rw [hGet_of mwz]; rfl
theorem mwr_22 : hGet (mw σ m A R I) m 7 22 = some (.ref (m + 15)) := by rw [hGet_of mwz]; rfl
theorem mwr_23 : hGet (mw σ m A R I) m 7 23 = some (.ref (m + 16)) := by rw [hGet_of mwz]; rfl
theorem mwa_1 : hI (mw σ m A R I) (m + 1) 0 = some (3075, A 1) := hI_of (mw_at rfl)
theorem mwu_1 {f : Nat → Int32} : hup (mw σ m A R I) (m + 1) (.inl (0, 3075, .inl f)) = mw σ m (va_up A 1 f) R I := mw_hup (fun i => by
  by_cases hi : i = 1
  · rw [if_pos hi, hi]; rfl
  · rw [if_neg hi]; unfold mel; split <;> first | rfl | exact absurd rfl hi)
theorem mwa_2 : hI (mw σ m A R I) (m + 2) 0 = some (12, A 2) := hI_of (mw_at rfl)
theorem mwu_2 {f : Nat → Int32} : hup (mw σ m A R I) (m + 2) (.inl (0, 12, .inl f)) = mw σ m (va_up A 2 f) R I := mw_hup (fun i => by
  by_cases hi : i = 2
  · rw [if_pos hi, hi]; rfl
  · rw [if_neg hi]; unfold mel; split <;> first | rfl | exact absurd rfl hi)
theorem mwa_3 : hB (mw σ m A R I) (m + 3) = some (2, 80, A 3) := hB_of (mw_at rfl) (by decide)
theorem mwu_3 {f : Nat → Int32} : hup (mw σ m A R I) (m + 3) (.inl (2, 80, .inl f)) = mw σ m (va_up A 3 f) R I := mw_hup (fun i => by
  by_cases hi : i = 3
  · rw [if_pos hi, hi]; rfl
  · rw [if_neg hi]; unfold mel; split <;> first | rfl | exact absurd rfl hi)
theorem mwa_4 : hL (mw σ m A R I) (m + 4) 1 = some (600, R) := hL_of (mw_at rfl)
theorem mwu_4 {f : Nat → Int64} : hup (mw σ m A R I) (m + 4) (.inl (1, 600, .inr (.inl f))) = mw σ m A f I := mw_hup (fun i => by
  by_cases hi : i = 4
  · rw [if_pos hi, hi]; rfl
  · rw [if_neg hi]; unfold mel; split <;> first | rfl | exact absurd rfl hi)
theorem mwa_5 : hI (mw σ m A R I) (m + 5) 0 = some (512, A 5) := hI_of (mw_at rfl)
theorem mwu_5 {f : Nat → Int32} : hup (mw σ m A R I) (m + 5) (.inl (0, 512, .inl f)) = mw σ m (va_up A 5 f) R I := mw_hup (fun i => by
  by_cases hi : i = 5
  · rw [if_pos hi, hi]; rfl
  · rw [if_neg hi]; unfold mel; split <;> first | rfl | exact absurd rfl hi)
theorem mwa_6 : hB (mw σ m A R I) (m + 6) = some (4, 512, A 6) := hB_of (mw_at rfl) (by decide)
theorem mwu_6 {f : Nat → Int32} : hup (mw σ m A R I) (m + 6) (.inl (4, 512, .inl f)) = mw σ m (va_up A 6 f) R I := mw_hup (fun i => by
  by_cases hi : i = 6
  · rw [if_pos hi, hi]; rfl
  · rw [if_neg hi]; unfold mel; split <;> first | rfl | exact absurd rfl hi)
theorem mwa_7 : hI (mw σ m A R I) (m + 7) 0 = some (320, A 7) := hI_of (mw_at rfl)
theorem mwu_7 {f : Nat → Int32} : hup (mw σ m A R I) (m + 7) (.inl (0, 320, .inl f)) = mw σ m (va_up A 7 f) R I := mw_hup (fun i => by
  by_cases hi : i = 7
  · rw [if_pos hi, hi]; rfl
  · rw [if_neg hi]; unfold mel; split <;> first | rfl | exact absurd rfl hi)
theorem mwa_8 : hI (mw σ m A R I) (m + 8) 0 = some (256, A 8) := hI_of (mw_at rfl)
theorem mwu_8 {f : Nat → Int32} : hup (mw σ m A R I) (m + 8) (.inl (0, 256, .inl f)) = mw σ m (va_up A 8 f) R I := mw_hup (fun i => by
  by_cases hi : i = 8
  · rw [if_pos hi, hi]; rfl
  · rw [if_neg hi]; unfold mel; split <;> first | rfl | exact absurd rfl hi)
theorem mwa_9 : hB (mw σ m A R I) (m + 9) = some (4, 512, A 9) := hB_of (mw_at rfl) (by decide)
theorem mwu_9 {f : Nat → Int32} : hup (mw σ m A R I) (m + 9) (.inl (4, 512, .inl f)) = mw σ m (va_up A 9 f) R I := mw_hup (fun i => by
  by_cases hi : i = 9
  · rw [if_pos hi, hi]; rfl
  · rw [if_neg hi]; unfold mel; split <;> first | rfl | exact absurd rfl hi)
theorem mwa_10 : hB (mw σ m A R I) (m + 10) = some (4, 512, A 10) := hB_of (mw_at rfl) (by decide)
theorem mwu_10 {f : Nat → Int32} : hup (mw σ m A R I) (m + 10) (.inl (4, 512, .inl f)) = mw σ m (va_up A 10 f) R I := mw_hup (fun i => by
  by_cases hi : i = 10
  · rw [if_pos hi, hi]; rfl
  · rw [if_neg hi]; unfold mel; split <;> first | rfl | exact absurd rfl hi)
theorem mwa_11 : hB (mw σ m A R I) (m + 11) = some (4, 512, A 11) := hB_of (mw_at rfl) (by decide)
theorem mwu_11 {f : Nat → Int32} : hup (mw σ m A R I) (m + 11) (.inl (4, 512, .inl f)) = mw σ m (va_up A 11 f) R I := mw_hup (fun i => by
  by_cases hi : i = 11
  · rw [if_pos hi, hi]; rfl
  · rw [if_neg hi]; unfold mel; split <;> first | rfl | exact absurd rfl hi)
theorem mwa_12 : hB (mw σ m A R I) (m + 12) = some (4, 512, A 12) := hB_of (mw_at rfl) (by decide)
theorem mwu_12 {f : Nat → Int32} : hup (mw σ m A R I) (m + 12) (.inl (4, 512, .inl f)) = mw σ m (va_up A 12 f) R I := mw_hup (fun i => by
  by_cases hi : i = 12
  · rw [if_pos hi, hi]; rfl
  · rw [if_neg hi]; unfold mel; split <;> first | rfl | exact absurd rfl hi)
theorem mwa_13 : hI (mw σ m A R I) (m + 13) 0 = some (9, A 13) := hI_of (mw_at rfl)
theorem mwu_13 {f : Nat → Int32} : hup (mw σ m A R I) (m + 13) (.inl (0, 9, .inl f)) = mw σ m (va_up A 13 f) R I := mw_hup (fun i => by
  by_cases hi : i = 13
  · rw [if_pos hi, hi]; rfl
  · rw [if_neg hi]; unfold mel; split <;> first | rfl | exact absurd rfl hi)
theorem mwa_14 : hI (mw σ m A R I) (m + 14) 0 = some (3075, A 14) := hI_of (mw_at rfl)
theorem mwu_14 {f : Nat → Int32} : hup (mw σ m A R I) (m + 14) (.inl (0, 3075, .inl f)) = mw σ m (va_up A 14 f) R I := mw_hup (fun i => by
  by_cases hi : i = 14
  · rw [if_pos hi, hi]; rfl
  · rw [if_neg hi]; unfold mel; split <;> first | rfl | exact absurd rfl hi)
theorem mwa_15 : hI (mw σ m A R I) (m + 15) 0 = some (6150, A 15) := hI_of (mw_at rfl)
theorem mwu_15 {f : Nat → Int32} : hup (mw σ m A R I) (m + 15) (.inl (0, 6150, .inl f)) = mw σ m (va_up A 15 f) R I := mw_hup (fun i => by
  by_cases hi : i = 15
  · rw [if_pos hi, hi]; rfl
  · rw [if_neg hi]; unfold mel; split <;> first | rfl | exact absurd rfl hi)
theorem mwa_16 : hB (mw σ m A R I) (m + 16) = some (4, 2, A 16) := hB_of (mw_at rfl) (by decide)
theorem mwu_16 {f : Nat → Int32} : hup (mw σ m A R I) (m + 16) (.inl (4, 2, .inl f)) = mw σ m (va_up A 16 f) R I := mw_hup (fun i => by
  by_cases hi : i = 16
  · rw [if_pos hi, hi]; rfl
  · rw [if_neg hi]; unfold mel; split <;> first | rfl | exact absurd rfl hi)
end MW
