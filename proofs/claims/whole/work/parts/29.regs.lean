/-! the class's small things (text, row, two proofs, chosen keys) as registers over a world -/
def cel (c : Nat) (A : Nat → Nat → Int32) (R : Nat → Int64) (I : Nat → Int32) : Nat → Option va_E := fun j => match j with
  | 1 => some (.inr (4, [.ref (c + 2), .int (I 0), .int (I 1), .int (I 2)]))
  | 2 => some (.inl (3, 80, .inl (A 0)))
  | 3 => some (.inr (3, [.ref (c + 4), .int (I 3)]))
  | 4 => some (.inl (1, 128, .inr (.inl R)))
  | 5 => some (.inr (2, [.ref (c + 6), .int (I 4), .int (I 5), .int (I 6), .int (I 7), .int (I 8)]))
  | 6 => some (.inl (0, 8, .inl (A 1)))
  | 7 => some (.inr (2, [.ref (c + 8), .int (I 9), .int (I 10), .int (I 11), .int (I 12), .int (I 13)]))
  | 8 => some (.inl (0, 8, .inl (A 2)))
  | 17 => some (.inr (1, [.ref (c + 18), .int (I 14)]))
  | 18 => some (.inl (0, 512, .inl (A 3)))
  | _ => none
def cw (σ : Hp) (c : Nat) (A : Nat → Nat → Int32) (R : Nat → Int64) (I : Nat → Int32) : Hp := (fun q => if c ≤ q then (cel c A R I (q - c)).or (σ.1 q) else σ.1 q, σ.2)
section CW
variable {σ : Hp} {c : Nat} {A : Nat → Nat → Int32} {R : Nat → Int64} {I : Nat → Int32}
theorem cw_at {j : Nat} {e : va_E} (h : cel c A R I j = some e) : (cw σ c A R I).1 (c + j) = some e := by
  show (if c ≤ c + j then (cel c A R I (c + j - c)).or (σ.1 (c + j)) else σ.1 (c + j)) = _
  rw [if_pos (Nat.le_add_right _ _), Nat.add_sub_cancel_left, h]
  rfl
theorem cw_no {j : Nat} (h : cel c A R I j = none) : (cw σ c A R I).1 (c + j) = σ.1 (c + j) := by
  show (if c ≤ c + j then (cel c A R I (c + j - c)).or (σ.1 (c + j)) else σ.1 (c + j)) = _
  rw [if_pos (Nat.le_add_right _ _), Nat.add_sub_cancel_left, h]
  rfl
theorem cw_lo {a : Nat} (h : a < c) : (cw σ c A R I).1 a = σ.1 a := if_neg (by omega)
theorem cel_no {j : Nat} (h : j = 0 ∨ (9 ≤ j ∧ j < 17) ∨ 19 ≤ j) : cel c A R I j = none := by
  unfold cel
  split <;> first | rfl | omega
theorem cw_out {a : Nat} (h : a ≤ c ∨ (c + 9 ≤ a ∧ a < c + 17) ∨ c + 19 ≤ a) : (cw σ c A R I).1 a = σ.1 a := by
  by_cases h1 : a < c
  · exact cw_lo h1
  · have := cw_no (σ := σ) (A := A) (R := R) (I := I) (c := c) (j := a - c) (cel_no (by omega))
    rwa [show c + (a - c) = a by omega] at this
theorem cw_2 : (cw σ c A R I).2 = σ.2 := rfl
theorem cw_cw {A' : Nat → Nat → Int32} {R' : Nat → Int64} {I' : Nat → Int32} (h : ∀ j, (cel c A R I j).isSome = (cel c A' R' I' j).isSome) : cw (cw σ c A R I) c A' R' I' = cw σ c A' R' I' := by
  refine Prod.ext (funext fun q => ?_) rfl
  by_cases h1 : c ≤ q
  · show (if c ≤ q then (cel c A' R' I' (q - c)).or (if c ≤ q then (cel c A R I (q - c)).or (σ.1 q) else σ.1 q) else _) = if c ≤ q then (cel c A' R' I' (q - c)).or (σ.1 q) else _
    rw [if_pos h1, if_pos h1, if_pos h1]
    have := h (q - c)
    cases h2 : cel c A' R' I' (q - c) with
    | some e => rfl
    | none =>
      rw [h2] at this
      cases h3 : cel c A R I (q - c) with
      | some e => rw [h3] at this; cases this
      | none => rfl
  · show (if c ≤ q then _ else (if c ≤ q then _ else σ.1 q)) = if c ≤ q then _ else σ.1 q
    rw [if_neg h1, if_neg h1, if_neg h1]
theorem cw_hup {j : Nat} {e : va_E} {A' : Nat → Nat → Int32} {R' : Nat → Int64} {I' : Nat → Int32} (h : ∀ i, cel c A' R' I' i = if i = j then some e else cel c A R I i) : hup (cw σ c A R I) (c + j) e = cw σ c A' R' I' := by
  refine Prod.ext (funext fun q => ?_) rfl
  show (if q = c + j then some e else if c ≤ q then (cel c A R I (q - c)).or (σ.1 q) else σ.1 q) = if c ≤ q then (cel c A' R' I' (q - c)).or (σ.1 q) else σ.1 q
  rw [h]
  by_cases h1 : c ≤ q
  · rw [if_pos h1, if_pos h1]
    by_cases h2 : q = c + j
    · rw [if_pos h2, if_pos (by omega)]; rfl
    · rw [if_neg h2, if_neg (by omega)]
  · rw [if_neg h1, if_neg h1, if_neg (by omega)]
/-- a world with these registers in it is its own overlay -/
theorem cw_self {τ : Hp} (h : ∀ j, j < 19 → cel c A R I j ≠ none → τ.1 (c + j) = cel c A R I j) : cw τ c A R I = τ := by
  refine Prod.ext (funext fun q => ?_) rfl
  show (if c ≤ q then (cel c A R I (q - c)).or (τ.1 q) else τ.1 q) = τ.1 q
  by_cases h1 : c ≤ q
  · rw [if_pos h1]
    cases h2 : cel c A R I (q - c) with
    | none => rfl
    | some e =>
      have h3 : q - c < 19 := Classical.byContradiction fun z => by rw [cel_no (by omega)] at h2; cases h2
      have := h (q - c) h3 (by rw [h2]; exact fun z => by cases z)
      rw [show c + (q - c) = q by omega, h2] at this
      rw [this]
      rfl
  · rw [if_neg h1]
theorem cw_keep {τ : Hp} (h : ∀ a, c + 1 ≤ a → a < c + 9 ∨ c + 17 ≤ a → a < c + 19 → τ.1 a = (cw σ c A R I).1 a) : cw τ c A R I = τ := cw_self fun j h1 h2 => by
  have h3 : ¬ (j = 0 ∨ (9 ≤ j ∧ j < 17) ∨ 19 ≤ j) := fun z => h2 (cel_no z)
  rw [h (c + j) (by omega) (by omega) (by omega)]
  cases h4 : cel c A R I j with
  | none => exact absurd h4 h2
  | some e => exact cw_at h4
theorem cwo_1 : hObj (cw σ c A R I) (c + 1) = some 4 := hObj_of (cw_at rfl)
theorem cwr_1 : hGet (cw σ c A R I) (c + 1) 4 0 = some (.ref (c + 2)) := by rw [hGet_of (cw_at rfl)]; rfl
theorem cwg_0 : hGet (cw σ c A R I) (c + 1) 4 1 = some (.int (I 0)) := by rw [hGet_of (cw_at rfl)]; rfl
theorem cwp_0 {x : Int32} : hPut (cw σ c A R I) (c + 1) 4 1 (.int x) = some (cw σ c A R (upd I 0 x)) := by
  rw [hPut_of (cw_at rfl) (Nat.le_of_ble_eq_true rfl)]
  refine congrArg some (cw_hup ?_)
  exact fun i => by
    by_cases hi : i = 1
    · rw [if_pos hi, hi]; rfl
    · rw [if_neg hi]; unfold cel; split <;> first | rfl | exact absurd rfl hi
theorem cwg_1 : hGet (cw σ c A R I) (c + 1) 4 2 = some (.int (I 1)) := by rw [hGet_of (cw_at rfl)]; rfl
theorem cwp_1 {x : Int32} : hPut (cw σ c A R I) (c + 1) 4 2 (.int x) = some (cw σ c A R (upd I 1 x)) := by
  rw [hPut_of (cw_at rfl) (Nat.le_of_ble_eq_true rfl)]
  refine congrArg some (cw_hup ?_)
  exact fun i => by
    by_cases hi : i = 1
    · rw [if_pos hi, hi]; rfl
    · rw [if_neg hi]; unfold cel; split <;> first | rfl | exact absurd rfl hi
theorem cwg_2 : hGet (cw σ c A R I) (c + 1) 4 3 = some (.int (I 2)) := by rw [hGet_of (cw_at rfl)]; rfl
theorem cwp_2 {x : Int32} : hPut (cw σ c A R I) (c + 1) 4 3 (.int x) = some (cw σ c A R (upd I 2 x)) := by
  rw [hPut_of (cw_at rfl) (Nat.le_of_ble_eq_true rfl)]
  refine congrArg some (cw_hup ?_)
  exact fun i => by
    by_cases hi : i = 1
    · rw [if_pos hi, hi]; rfl
    · rw [if_neg hi]; unfold cel; split <;> first | rfl | exact absurd rfl hi
theorem cwa_0 : hI (cw σ c A R I) (c + 2) 3 = some (80, A 0) := hI_of (cw_at rfl)
theorem cwu_0 {f : Nat → Int32} : hup (cw σ c A R I) (c + 2) (.inl (3, 80, .inl f)) = cw σ c (va_up A 0 f) R I := cw_hup (fun i => by
  by_cases hi : i = 2
  · rw [if_pos hi, hi]; rfl
  · rw [if_neg hi]; unfold cel; split <;> first | rfl | exact absurd rfl hi)
theorem cwl_0 : hLen (cw σ c A R I) (c + 2) = some 80 := hLen_of (cw_at rfl)
theorem cwo_3 : hObj (cw σ c A R I) (c + 3) = some 3 := hObj_of (cw_at rfl)
theorem cwr_3 : hGet (cw σ c A R I) (c + 3) 3 0 = some (.ref (c + 4)) := by rw [hGet_of (cw_at rfl)]; rfl
theorem cwg_3 : hGet (cw σ c A R I) (c + 3) 3 1 = some (.int (I 3)) := by rw [hGet_of (cw_at rfl)]; rfl
theorem cwp_3 {x : Int32} : hPut (cw σ c A R I) (c + 3) 3 1 (.int x) = some (cw σ c A R (upd I 3 x)) := by
  rw [hPut_of (cw_at rfl) (Nat.le_of_ble_eq_true rfl)]
  refine congrArg some (cw_hup ?_)
  exact fun i => by
    by_cases hi : i = 3
    · rw [if_pos hi, hi]; rfl
    · rw [if_neg hi]; unfold cel; split <;> first | rfl | exact absurd rfl hi
theorem cwa_R : hL (cw σ c A R I) (c + 4) 1 = some (128, R) := hL_of (cw_at rfl)
theorem cwu_R {f : Nat → Int64} : hup (cw σ c A R I) (c + 4) (.inl (1, 128, .inr (.inl f))) = cw σ c A f I := cw_hup (fun i => by
  by_cases hi : i = 4
  · rw [if_pos hi, hi]; rfl
  · rw [if_neg hi]; unfold cel; split <;> first | rfl | exact absurd rfl hi)
theorem cwl_R : hLen (cw σ c A R I) (c + 4) = some 128 := hLen_of (cw_at rfl)
theorem cwo_5 : hObj (cw σ c A R I) (c + 5) = some 2 := hObj_of (cw_at rfl)
theorem cwr_5 : hGet (cw σ c A R I) (c + 5) 2 0 = some (.ref (c + 6)) := by rw [hGet_of (cw_at rfl)]; rfl
theorem cwg_4 : hGet (cw σ c A R I) (c + 5) 2 1 = some (.int (I 4)) := by rw [hGet_of (cw_at rfl)]; rfl
theorem cwp_4 {x : Int32} : hPut (cw σ c A R I) (c + 5) 2 1 (.int x) = some (cw σ c A R (upd I 4 x)) := by
  rw [hPut_of (cw_at rfl) (Nat.le_of_ble_eq_true rfl)]
  refine congrArg some (cw_hup ?_)
  exact fun i => by
    by_cases hi : i = 5
    · rw [if_pos hi, hi]; rfl
    · rw [if_neg hi]; unfold cel; split <;> first | rfl | exact absurd rfl hi
theorem cwg_5 : hGet (cw σ c A R I) (c + 5) 2 2 = some (.int (I 5)) := by rw [hGet_of (cw_at rfl)]; rfl
theorem cwp_5 {x : Int32} : hPut (cw σ c A R I) (c + 5) 2 2 (.int x) = some (cw σ c A R (upd I 5 x)) := by
  rw [hPut_of (cw_at rfl) (Nat.le_of_ble_eq_true rfl)]
  refine congrArg some (cw_hup ?_)
  exact fun i => by
    by_cases hi : i = 5
    · rw [if_pos hi, hi]; rfl
    · rw [if_neg hi]; unfold cel; split <;> first | rfl | exact absurd rfl hi
theorem cwg_6 : hGet (cw σ c A R I) (c + 5) 2 3 = some (.int (I 6)) := by rw [hGet_of (cw_at rfl)]; rfl
theorem cwp_6 {x : Int32} : hPut (cw σ c A R I) (c + 5) 2 3 (.int x) = some (cw σ c A R (upd I 6 x)) := by
  rw [hPut_of (cw_at rfl) (Nat.le_of_ble_eq_true rfl)]
  refine congrArg some (cw_hup ?_)
  exact fun i => by
    by_cases hi : i = 5
    · rw [if_pos hi, hi]; rfl
    · rw [if_neg hi]; unfold cel; split <;> first | rfl | exact absurd rfl hi
theorem cwg_7 : hGet (cw σ c A R I) (c + 5) 2 4 = some (.int (I 7)) := by rw [hGet_of (cw_at rfl)]; rfl
theorem cwp_7 {x : Int32} : hPut (cw σ c A R I) (c + 5) 2 4 (.int x) = some (cw σ c A R (upd I 7 x)) := by
  rw [hPut_of (cw_at rfl) (Nat.le_of_ble_eq_true rfl)]
  refine congrArg some (cw_hup ?_)
  exact fun i => by
    by_cases hi : i = 5
    · rw [if_pos hi, hi]; rfl
    · rw [if_neg hi]; unfold cel; split <;> first | rfl | exact absurd rfl hi
theorem cwg_8 : hGet (cw σ c A R I) (c + 5) 2 5 = some (.int (I 8)) := by rw [hGet_of (cw_at rfl)]; rfl
theorem cwp_8 {x : Int32} : hPut (cw σ c A R I) (c + 5) 2 5 (.int x) = some (cw σ c A R (upd I 8 x)) := by
  rw [hPut_of (cw_at rfl) (Nat.le_of_ble_eq_true rfl)]
  refine congrArg some (cw_hup ?_)
  exact fun i => by
    by_cases hi : i = 5
    · rw [if_pos hi, hi]; rfl
    · rw [if_neg hi]; unfold cel; split <;> first | rfl | exact absurd rfl hi
theorem cwa_1 : hI (cw σ c A R I) (c + 6) 0 = some (8, A 1) := hI_of (cw_at rfl)
theorem cwu_1 {f : Nat → Int32} : hup (cw σ c A R I) (c + 6) (.inl (0, 8, .inl f)) = cw σ c (va_up A 1 f) R I := cw_hup (fun i => by
  by_cases hi : i = 6
  · rw [if_pos hi, hi]; rfl
  · rw [if_neg hi]; unfold cel; split <;> first | rfl | exact absurd rfl hi)
theorem cwl_1 : hLen (cw σ c A R I) (c + 6) = some 8 := hLen_of (cw_at rfl)
theorem cwo_7 : hObj (cw σ c A R I) (c + 7) = some 2 := hObj_of (cw_at rfl)
theorem cwr_7 : hGet (cw σ c A R I) (c + 7) 2 0 = some (.ref (c + 8)) := by rw [hGet_of (cw_at rfl)]; rfl
theorem cwg_9 : hGet (cw σ c A R I) (c + 7) 2 1 = some (.int (I 9)) := by rw [hGet_of (cw_at rfl)]; rfl
theorem cwp_9 {x : Int32} : hPut (cw σ c A R I) (c + 7) 2 1 (.int x) = some (cw σ c A R (upd I 9 x)) := by
  rw [hPut_of (cw_at rfl) (Nat.le_of_ble_eq_true rfl)]
  refine congrArg some (cw_hup ?_)
  exact fun i => by
    by_cases hi : i = 7
    · rw [if_pos hi, hi]; rfl
    · rw [if_neg hi]; unfold cel; split <;> first | rfl | exact absurd rfl hi
theorem cwg_10 : hGet (cw σ c A R I) (c + 7) 2 2 = some (.int (I 10)) := by rw [hGet_of (cw_at rfl)]; rfl
theorem cwp_10 {x : Int32} : hPut (cw σ c A R I) (c + 7) 2 2 (.int x) = some (cw σ c A R (upd I 10 x)) := by
  rw [hPut_of (cw_at rfl) (Nat.le_of_ble_eq_true rfl)]
  refine congrArg some (cw_hup ?_)
  exact fun i => by
    by_cases hi : i = 7
    · rw [if_pos hi, hi]; rfl
    · rw [if_neg hi]; unfold cel; split <;> first | rfl | exact absurd rfl hi
theorem cwg_11 : hGet (cw σ c A R I) (c + 7) 2 3 = some (.int (I 11)) := by rw [hGet_of (cw_at rfl)]; rfl
theorem cwp_11 {x : Int32} : hPut (cw σ c A R I) (c + 7) 2 3 (.int x) = some (cw σ c A R (upd I 11 x)) := by
  rw [hPut_of (cw_at rfl) (Nat.le_of_ble_eq_true rfl)]
  refine congrArg some (cw_hup ?_)
  exact fun i => by
    by_cases hi : i = 7
    · rw [if_pos hi, hi]; rfl
    · rw [if_neg hi]; unfold cel; split <;> first | rfl | exact absurd rfl hi
theorem cwg_12 : hGet (cw σ c A R I) (c + 7) 2 4 = some (.int (I 12)) := by rw [hGet_of (cw_at rfl)]; rfl
theorem cwp_12 {x : Int32} : hPut (cw σ c A R I) (c + 7) 2 4 (.int x) = some (cw σ c A R (upd I 12 x)) := by
  rw [hPut_of (cw_at rfl) (Nat.le_of_ble_eq_true rfl)]
  refine congrArg some (cw_hup ?_)
  exact fun i => by
    by_cases hi : i = 7
    · rw [if_pos hi, hi]; rfl
    · rw [if_neg hi]; unfold cel; split <;> first | rfl | exact absurd rfl hi
theorem cwg_13 : hGet (cw σ c A R I) (c + 7) 2 5 = some (.int (I 13)) := by rw [hGet_of (cw_at rfl)]; rfl
theorem cwp_13 {x : Int32} : hPut (cw σ c A R I) (c + 7) 2 5 (.int x) = some (cw σ c A R (upd I 13 x)) := by
  rw [hPut_of (cw_at rfl) (Nat.le_of_ble_eq_true rfl)]
  refine congrArg some (cw_hup ?_)
  exact fun i => by
    by_cases hi : i = 7
    · rw [if_pos hi, hi]; rfl
    · rw [if_neg hi]; unfold cel; split <;> first | rfl | exact absurd rfl hi
theorem cwa_2 : hI (cw σ c A R I) (c + 8) 0 = some (8, A 2) := hI_of (cw_at rfl)
theorem cwu_2 {f : Nat → Int32} : hup (cw σ c A R I) (c + 8) (.inl (0, 8, .inl f)) = cw σ c (va_up A 2 f) R I := cw_hup (fun i => by
  by_cases hi : i = 8
  · rw [if_pos hi, hi]; rfl
  · rw [if_neg hi]; unfold cel; split <;> first | rfl | exact absurd rfl hi)
theorem cwl_2 : hLen (cw σ c A R I) (c + 8) = some 8 := hLen_of (cw_at rfl)
theorem cwo_17 : hObj (cw σ c A R I) (c + 17) = some 1 := hObj_of (cw_at rfl)
theorem cwr_17 : hGet (cw σ c A R I) (c + 17) 1 0 = some (.ref (c + 18)) := by rw [hGet_of (cw_at rfl)]; rfl
theorem cwg_14 : hGet (cw σ c A R I) (c + 17) 1 1 = some (.int (I 14)) := by rw [hGet_of (cw_at rfl)]; rfl
theorem cwp_14 {x : Int32} : hPut (cw σ c A R I) (c + 17) 1 1 (.int x) = some (cw σ c A R (upd I 14 x)) := by
  rw [hPut_of (cw_at rfl) (Nat.le_of_ble_eq_true rfl)]
  refine congrArg some (cw_hup ?_)
  exact fun i => by
    by_cases hi : i = 17
    · rw [if_pos hi, hi]; rfl
    · rw [if_neg hi]; unfold cel; split <;> first | rfl | exact absurd rfl hi
theorem cwa_3 : hI (cw σ c A R I) (c + 18) 0 = some (512, A 3) := hI_of (cw_at rfl)
theorem cwu_3 {f : Nat → Int32} : hup (cw σ c A R I) (c + 18) (.inl (0, 512, .inl f)) = cw σ c (va_up A 3 f) R I := cw_hup (fun i => by
  by_cases hi : i = 18
  · rw [if_pos hi, hi]; rfl
  · rw [if_neg hi]; unfold cel; split <;> first | rfl | exact absurd rfl hi)
theorem cwl_3 : hLen (cw σ c A R I) (c + 18) = some 512 := hLen_of (cw_at rfl)
/-- the object itself -/
def isX (σ : Hp) (c : Nat) : Prop := σ.1 c = some (.inr (6, [.ref (c + 1), .ref (c + 3), .ref (c + 5), .ref (c + 7), .ref (c + 9), .ref (c + 11), .ref (c + 12), .ref (c + 17)]))
theorem isX.f0 (h : isX σ c) : hGet σ c 6 0 = some (.ref (c + 1)) := by rw [hGet_of h]; rfl
theorem isX.f1 (h : isX σ c) : hGet σ c 6 1 = some (.ref (c + 3)) := by rw [hGet_of h]; rfl
theorem isX.f2 (h : isX σ c) : hGet σ c 6 2 = some (.ref (c + 5)) := by rw [hGet_of h]; rfl
theorem isX.f3 (h : isX σ c) : hGet σ c 6 3 = some (.ref (c + 7)) := by rw [hGet_of h]; rfl
theorem isX.f4 (h : isX σ c) : hGet σ c 6 4 = some (.ref (c + 9)) := by rw [hGet_of h]; rfl
theorem isX.f5 (h : isX σ c) : hGet σ c 6 5 = some (.ref (c + 11)) := by rw [hGet_of h]; rfl
theorem isX.f6 (h : isX σ c) : hGet σ c 6 6 = some (.ref (c + 12)) := by rw [hGet_of h]; rfl
theorem isX.f7 (h : isX σ c) : hGet σ c 6 7 = some (.ref (c + 17)) := by rw [hGet_of h]; rfl
theorem isX.o (h : isX σ c) : hObj σ c = some 6 := hObj_of h
theorem isX.up (h : isX σ c) : isX (cw σ c A R I) c := (cw_out (Or.inl (Nat.le_refl _))).trans h
end CW
