/-! KeySet: its methods over its two cells; Math and Arrays -/
section NN
variable {i pc : Nat} {ls st : List Value} {σ : Hp}
theorem oN (n : Nat) : Int32.ofNat n = nI n := rfl
theorem kI_n {n k : Nat} {f : Nat → Int32} (h : k < n) (hn : n < 2 ^ 31) : kI (some (n, f)) (nI k) i pc ls st σ = den i pc ls (.int (f k) :: st) σ := by
  rw [kI_s (inb_nI h hn), nI_clamp (by omega)]
theorem kB_n {n k t : Nat} {f : Nat → Int32} (h : k < n) (hn : n < 2 ^ 31) : kB (some (t, n, f)) (nI k) i pc ls st σ = den i pc ls (.int (f k) :: st) σ := by
  rw [kB_s (inb_nI h hn), nI_clamp (by omega)]
theorem kL_n {n k : Nat} {f : Nat → Int64} (h : k < n) (hn : n < 2 ^ 31) : kL (some (n, f)) (nI k) i pc ls st σ = den i pc ls (.long (f k) :: st) σ := by
  rw [kL_s (inb_nI h hn), nI_clamp (by omega)]
theorem kR_n {n k t : Nat} {f : Nat → Option Nat} (h : k < n) (hn : n < 2 ^ 31) (ht : t = 5 ∨ t = 6) : kR (some (t, n, f)) (nI k) i pc ls st σ = den i pc ls (va_rf (f k) :: st) σ := by
  rw [kR_s (inb_nI h hn) ht, nI_clamp (by omega)]
theorem wI_n {n k t a : Nat} {f : Nat → Int32} {x : Int32} (h : k < n) (hn : n < 2 ^ 31) : wI (some (n, f)) t a (nI k) x i pc ls st σ = den i pc ls st (hup σ a (.inl (t, n, .inl (upd f k x)))) := by
  rw [wI_s (inb_nI h hn), nI_clamp (by omega)]
theorem wB_n {n k t a : Nat} {f : Nat → Int32} {x : Int32} (h : k < n) (hn : n < 2 ^ 31) : wB (some (t, n, f)) a (nI k) x i pc ls st σ = den i pc ls st (hup σ a (.inl (t, n, .inl (upd f k (vp_nar (zG t) x))))) := by
  rw [wB_s (inb_nI h hn), nI_clamp (by omega)]
theorem wL_n {n k a : Nat} {f : Nat → Int64} {y : Int64} (h : k < n) (hn : n < 2 ^ 31) : wL (some (n, f)) a (nI k) y i pc ls st σ = den i pc ls st (hup σ a (.inl (1, n, .inr (.inl (vp_updL f k y))))) := by
  rw [wL_s (inb_nI h hn), nI_clamp (by omega)]
theorem ltT {a b : Nat} (h : a < b) : (a < b) = True := eq_true h
theorem ltF {a b : Nat} (h : ¬ a < b) : (a < b) = False := eq_false h
theorem leT {a b : Nat} (h : a ≤ b) : (a ≤ b) = True := eq_true h
theorem leF {a b : Nat} (h : ¬ a ≤ b) : (a ≤ b) = False := eq_false h
theorem eqT {a b : Nat} (h : a = b) : (a = b) = True := eq_true h
theorem eqF {a b : Nat} (h : ¬ a = b) : (a = b) = False := eq_false h
theorem bz0 : (nI 0 &&& 1 = nI 0) = True := eq_true rfl
theorem bz1 : (nI 1 &&& 1 = nI 1) = True := eq_true rfl
theorem bw0 : (nI 0 &&& nI 1 = nI 0) = True := eq_true rfl
theorem bw1 : (nI 1 &&& nI 1 = nI 1) = True := eq_true rfl
theorem shr1 {p : Nat} (h : p < 2 ^ 31) : nI p >>> (nI 1 &&& 31) = nI (p / 2) := pk_shrN h _ 1 (by decide)
theorem Jm_max {x y : Int32} : dcall 48 [.int x, .int y] σ = some (some (.int (if x < y then y else x)), σ) := by
  rw [q48]
  simp only [e48_0, e48_1, e48_2, e48_5, e48_6, e48_9, e48_10]
  split <;> rfl
theorem Jm_min {x y : Int32} : dcall 57 [.int x, .int y] σ = some (some (.int (if y < x then y else x)), σ) := by
  rw [q57]
  simp only [e57_0, e57_1, e57_2, e57_5, e57_6, e57_9, e57_10]
  split <;> rfl
theorem Jm_max0 {n : Nat} (h : n < 2 ^ 31) : dcall 48 [.int (nI n), .int (nI 0)] σ = some (some (.int (nI n)), σ) := by
  rw [Jm_max, if_neg]
  exact nI_nlt (Nat.zero_le _) h
theorem fill_loop {a n : Nat} {f : Nat → Int32} {x : Int32} (hn : n < 2 ^ 31) : ∀ (m i : Nat), i + m = n → den 9 5 [.ref a, .int x, .int (nI i), .int (nI n)] [] (hup σ a (.inl (0, n, .inl (fun j => if j < i then x else f j)))) = some (none, hup σ a (.inl (0, n, .inl (fun j => if j < n then x else f j)))) := by
  intro m
  induction m with
  | zero =>
    intro i hi
    have : i = n := by omega
    subst this
    rw [e9_5]
    simp (disch := omega) only [e9_0, e9_1, e9_2, e9_3, e9_4, e9_6, e9_7, e9_10, e9_11, e9_12, e9_13, e9_14, e9_17, e9_20, kv_s, kh_s, kr_s, kr_v, kn_s, z0, z1, z2, nI_ltI, nI_leI, nI_eq, nI_add, oN, bz0, bz1, bw0, bw1, ltT, ltF, leT, leF, eqT, eqF, if_true, if_false, kI_n, wI_n, and_true, true_and, and_false, false_and, not_true, not_false_eq_true]
  | succ m ih =>
    intro i hi
    rw [e9_5]
    simp (disch := omega) only [e9_0, e9_1, e9_2, e9_3, e9_4, e9_6, e9_7, e9_10, e9_11, e9_12, e9_13, e9_14, e9_17, e9_20, kv_s, kh_s, kr_s, kr_v, kn_s, z0, z1, z2, nI_ltI, nI_leI, nI_eq, nI_add, oN, bz0, bz1, bw0, bw1, ltT, ltF, leT, leF, eqT, eqF, if_true, if_false, kI_n, wI_n, and_true, true_and, and_false, false_and, not_true, not_false_eq_true, hI_of hup_at, hup_hup]
    rw [← ih (i + 1) (by omega)]
    have e1 : upd (fun j => if j < i then x else f j) i x = fun j => if j < i + 1 then x else f j := by
      funext j
      by_cases hj : j = i
      · subst hj; simp [upd]
      · by_cases h2 : j < i
        · simp [upd, hj, h2, Nat.lt_succ_of_lt h2]
        · have h3 : ¬ j < i + 1 := by omega
          simp [upd, hj, h2, h3]
    rw [e1]
theorem Ja_fill {a n : Nat} {f : Nat → Int32} {x : Int32} (h : σ.1 a = some (.inl (0, n, .inl f))) (hn : n < 2 ^ 31) : dcall 9 [.ref a, .int x] σ = some (none, hup σ a (.inl (0, n, .inl (fun j => if j < n then x else f j)))) := by
  rw [q9]
  simp only [e9_0, e9_1, e9_2, e9_3, e9_4, e9_6, e9_7, e9_10, e9_11, e9_12, e9_13, e9_14, e9_17, e9_20, kv_s, kh_s, kr_s, kr_v, kn_s, hLen_of h, oN, z0]
  have := fill_loop (σ := σ) (a := a) (f := f) (x := x) hn n 0 (by omega)
  simp only [Nat.not_lt_zero, if_false] at this
  rw [hup_id h] at this
  exact this
end NN
def isKS (σ : Hp) (k : Nat) (f : Nat → Int32) (d : Nat) : Prop := σ.1 k = some (.inr (1, [.ref (k + 1), .int (nI d)])) ∧ σ.1 (k + 1) = some (.inl (0, 512, .inl f))
def kput (σ : Hp) (k : Nat) (f : Nat → Int32) (d : Nat) : Hp := hup (hup σ k (.inr (1, [.ref (k + 1), .int (nI d)]))) (k + 1) (.inl (0, 512, .inl f))
section KS
variable {σ : Hp} {k : Nat} {f : Nat → Int32} {d : Nat}
theorem isKS.o (h : isKS σ k f d) : hObj σ k = some 1 := hObj_of h.1
theorem isKS.c (h : isKS σ k f d) : hGet σ k 1 0 = some (.ref (k + 1)) := by rw [hGet_of h.1]; rfl
theorem isKS.dd (h : isKS σ k f d) : hGet σ k 1 1 = some (.int (nI d)) := by rw [hGet_of h.1]; rfl
theorem isKS.a (h : isKS σ k f d) : hI σ (k + 1) 0 = some (512, f) := hI_of h.2
theorem isKS.l (h : isKS σ k f d) : hLen σ (k + 1) = some 512 := hLen_of h.2
theorem kput_is : isKS (kput σ k f d) k f d := ⟨by rw [kput, hup_ne (by omega), hup_at], by rw [kput, hup_at]⟩
theorem kput_id (h : isKS σ k f d) : kput σ k f d = σ := by rw [kput, hup_id h.1, hup_id h.2]
theorem isKS.cells (h : isKS σ k f d) (g : Nat → Int32) : hup σ (k + 1) (.inl (0, 512, .inl g)) = kput σ k g d := by rw [kput, hup_id h.1]
theorem kput_kput {f' : Nat → Int32} {d' : Nat} : kput (kput σ k f d) k f' d' = kput σ k f' d' := by
  unfold kput hup
  refine Prod.ext ?_ rfl
  funext q
  by_cases h1 : q = k + 1 <;> by_cases h2 : q = k <;> simp [h1, h2]
theorem kput_2 : (kput σ k f d).2 = σ.2 := rfl
theorem kput_ne {b : Nat} (h1 : b ≠ k) (h2 : b ≠ k + 1) : (kput σ k f d).1 b = σ.1 b := by rw [kput, hup_ne h2, hup_ne h1]
theorem Ks_keys (h : isKS σ k f d) (hd : d ≤ 8) : dcall 10 [.ref k] σ = some (some (.int (nI (2 ^ d))), σ) := by
  rw [q10]
  simp only [e10_0, e10_1, e10_2, e10_5, e10_6, kv_s, kh_s, kr_s, kr_v, kn_s, h.dd, z1]
  rw [shl_nI (by omega)]
theorem Ks_size (h : isKS σ k f d) : dcall 29 [.ref k] σ = some (some (.int (f 1)), σ) := by
  rw [q29]
  simp (disch := omega) only [e29_0, e29_1, e29_4, e29_5, e29_6, kv_s, kh_s, kr_s, kr_v, kn_s, h.c, h.a, z1, kI_n]
theorem Ks_under (h : isKS σ k f d) {p : Nat} (hp : p < 2 ^ 31) : dcall 36 [.ref k, .int (nI p)] σ = some (some (.int (if 1 ≤ p ∧ p < 512 then f p else 0)), σ) := by
  rw [q36]
  by_cases h1 : p < 1
  · have h2 : ¬ (1 ≤ p ∧ p < 512) := by omega
    simp (disch := omega) only [e36_0, e36_1, e36_2, e36_5, e36_6, e36_7, e36_10, e36_11, e36_14, e36_15, e36_18, e36_19, e36_20, e36_23, e36_24, kv_s, kh_s, kr_s, kr_v, kn_s, z1, nI_ltI, h1, h2, if_true, if_false]
  · by_cases h3 : 512 ≤ p
    · have h2 : ¬ (1 ≤ p ∧ p < 512) := by omega
      simp (disch := omega) only [e36_0, e36_1, e36_2, e36_5, e36_6, e36_7, e36_10, e36_11, e36_14, e36_15, e36_18, e36_19, e36_20, e36_23, e36_24, kv_s, kh_s, kr_s, kr_v, kn_s, h.c, h.l, oN, z1, nI_ltI, nI_leI, h1, h2, h3, if_true, if_false]
    · have h2 : 1 ≤ p ∧ p < 512 := by omega
      simp (disch := omega) only [e36_0, e36_1, e36_2, e36_5, e36_6, e36_7, e36_10, e36_11, e36_14, e36_15, e36_18, e36_19, e36_20, e36_23, e36_24, kv_s, kh_s, kr_s, kr_v, kn_s, h.c, h.l, h.a, oN, z1, nI_ltI, nI_leI, h1, h3, if_false, kI_n]
      rw [if_pos h2]
theorem Ks_under1 (h : isKS σ k f d) {p : Nat} (hp : 1 ≤ p) (hp2 : p < 512) : dcall 36 [.ref k, .int (nI p)] σ = some (some (.int (f p)), σ) := by
  rw [Ks_under h (by omega), if_pos ⟨hp, hp2⟩]
theorem Ks_has (h : isKS σ k f d) (hd : d ≤ 8) {p : Nat} (hp : p < 2 ^ 30) : dcall 35 [.ref k, .int (nI p)] σ = some (some (.int (if p < 2 ^ d ∧ nI 0 < f (2 ^ d + p) then nI 1 else nI 0)), σ) := by
  rw [q35]
  have hK : 2 ^ d ≤ 256 := Nat.pow_le_pow_right (by omega) hd
  have hK1 : 1 ≤ 2 ^ d := Nat.one_le_two_pow
  by_cases h1 : 2 ^ d ≤ p
  · simp (disch := omega) only [e35_0, e35_1, e35_4, e35_5, e35_6, e35_9, e35_12, e35_13, e35_14, e35_17, e35_18, e35_19, e35_22, e35_25, e35_26, e35_29, e35_30, kv_s, kh_s, kr_s, kr_v, kn_s, z0, z1, z2, nI_ltI, nI_leI, nI_eq, nI_add, oN, bz0, bz1, bw0, bw1, ltT, ltF, leT, leF, eqT, eqF, if_true, if_false, kI_n, wI_n, and_true, true_and, and_false, false_and, not_true, not_false_eq_true, h.o, Ks_keys h hd]
  · by_cases h4 : f (2 ^ d + p) ≤ nI 0
    · have h5 : ¬ nI 0 < f (2 ^ d + p) := Int32.not_lt.mpr h4
      simp (disch := omega) only [e35_0, e35_1, e35_4, e35_5, e35_6, e35_9, e35_12, e35_13, e35_14, e35_17, e35_18, e35_19, e35_22, e35_25, e35_26, e35_29, e35_30, kv_s, kh_s, kr_s, kr_v, kn_s, z0, z1, z2, nI_ltI, nI_leI, nI_eq, nI_add, oN, bz0, bz1, bw0, bw1, ltT, ltF, leT, leF, eqT, eqF, if_true, if_false, kI_n, wI_n, and_true, true_and, and_false, false_and, not_true, not_false_eq_true, h.o, Ks_keys h hd, Ks_under1 h, h4, h5]
    · have h5 : nI 0 < f (2 ^ d + p) := Int32.not_le.mp h4
      simp (disch := omega) only [e35_0, e35_1, e35_4, e35_5, e35_6, e35_9, e35_12, e35_13, e35_14, e35_17, e35_18, e35_19, e35_22, e35_25, e35_26, e35_29, e35_30, kv_s, kh_s, kr_s, kr_v, kn_s, z0, z1, z2, nI_ltI, nI_leI, nI_eq, nI_add, oN, bz0, bz1, bw0, bw1, ltT, ltF, leT, leF, eqT, eqF, if_true, if_false, kI_n, wI_n, and_true, true_and, and_false, false_and, not_true, not_false_eq_true, h.o, Ks_keys h hd, Ks_under1 h, h4, h5]
/-- a count that goes up a path -/
def chg : Nat → Nat → (Nat → Int32) → Int32 → (Nat → Int32)
  | 0, _, f, _ => f
  | n + 1, p, f, x => if p = 0 then f else chg n (p / 2) (upd f p (f p + x)) x
theorem Ks_change_loop {x : Int32} {l1 : Value} : ∀ (n p : Nat) (σ : Hp) (f : Nat → Int32), isKS σ k f d → p < 512 → p < 2 ^ n → den 37 20 [.ref k, l1, .int x, .int (nI p)] [] σ = some (none, kput σ k (chg n p f x) d) := by
  intro n
  induction n with
  | zero =>
    intro p σ f h hp hn
    have h0 : p < 1 := by omega
    rw [e37_20]
    simp (disch := omega) only [e37_0, e37_1, e37_4, e37_5, e37_6, e37_9, e37_12, e37_13, e37_14, e37_17, e37_18, e37_19, e37_21, e37_22, e37_25, e37_26, e37_27, e37_30, e37_31, e37_34, e37_35, e37_38, e37_39, e37_40, e37_41, e37_42, e37_43, e37_44, e37_45, e37_46, e37_47, e37_48, e37_51, z1, nI_ltI, h0, if_true]
    rw [chg, kput_id h]
  | succ n ih =>
    intro p σ f h hp hn
    rw [e37_20]
    by_cases h0 : p < 1
    · simp (disch := omega) only [e37_0, e37_1, e37_4, e37_5, e37_6, e37_9, e37_12, e37_13, e37_14, e37_17, e37_18, e37_19, e37_21, e37_22, e37_25, e37_26, e37_27, e37_30, e37_31, e37_34, e37_35, e37_38, e37_39, e37_40, e37_41, e37_42, e37_43, e37_44, e37_45, e37_46, e37_47, e37_48, e37_51, z1, nI_ltI, h0, if_true]
      rw [chg, if_pos (by omega), kput_id h]
    · have h1 : ¬ 512 ≤ p := by omega
      simp (disch := omega) only [e37_0, e37_1, e37_4, e37_5, e37_6, e37_9, e37_12, e37_13, e37_14, e37_17, e37_18, e37_19, e37_21, e37_22, e37_25, e37_26, e37_27, e37_30, e37_31, e37_34, e37_35, e37_38, e37_39, e37_40, e37_41, e37_42, e37_43, e37_44, e37_45, e37_46, e37_47, e37_48, e37_51, kv_s, kh_s, kr_s, kr_v, kn_s, z1, nI_ltI, nI_leI, h0, h1, if_false, h.c, h.l, oN, h.a, kI_n, wI_n, shr1]
      rw [h.cells, ih (p / 2) _ _ kput_is (by omega) (by omega), kput_kput, chg, if_neg (by omega)]
theorem Ks_change (h : isKS σ k f d) (hd : d ≤ 8) {p : Nat} (hp : p < 2 ^ d) {x : Int32} : dcall 37 [.ref k, .int (nI p), .int x] σ = some (none, kput σ k (chg 9 (2 ^ d + p) f x) d) := by
  rw [q37]
  have hK : 2 ^ d ≤ 256 := Nat.pow_le_pow_right (by omega) hd
  have h0 : ¬ p < 0 := by omega
  simp (disch := omega) only [e37_0, e37_1, e37_4, e37_5, e37_6, e37_9, e37_12, e37_13, e37_14, e37_17, e37_18, e37_19, e37_21, e37_22, e37_25, e37_26, e37_27, e37_30, e37_31, e37_34, e37_35, e37_38, e37_39, e37_40, e37_41, e37_42, e37_43, e37_44, e37_45, e37_46, e37_47, e37_48, e37_51, kv_s, kh_s, kr_s, kr_v, kn_s, z0, nI_ltI, h0, if_false, h.o, if_true, Ks_keys h hd, hp, nI_add]
  exact Ks_change_loop 9 _ σ f h (by omega) (by omega)
theorem Ks_change0 (h : isKS σ k f d) (hd : d ≤ 8) {p : Nat} (hp : 2 ^ d ≤ p) (hp2 : p < 2 ^ 31) {x : Int32} : dcall 37 [.ref k, .int (nI p), .int x] σ = some (none, σ) := by
  rw [q37]
  have hK : 2 ^ d ≤ 256 := Nat.pow_le_pow_right (by omega) hd
  have h0 : ¬ p < 0 := by omega
  have h1 : ¬ p < 2 ^ d := by omega
  simp (disch := omega) only [e37_0, e37_1, e37_4, e37_5, e37_6, e37_9, e37_12, e37_13, e37_14, e37_17, e37_18, e37_19, e37_21, e37_22, e37_25, e37_26, e37_27, e37_30, e37_31, e37_34, e37_35, e37_38, e37_39, e37_40, e37_41, e37_42, e37_43, e37_44, e37_45, e37_46, e37_47, e37_48, e37_51, kv_s, kh_s, kr_s, kr_v, kn_s, z0, nI_ltI, h0, if_false, h.o, if_true, Ks_keys h hd, h1]
theorem Ks_nodesIn_loop (h : isKS σ k f d) {l1 : Value} {e : Nat} (he : e < 2 ^ 31) : ∀ (m p c : Nat), min e 512 - p = m → p < 2 ^ 31 → den 51 9 [.ref k, l1, .int (nI e), .int (nI c), .int (nI p)] [] σ = some (some (.int (nI (c + cnt (fun j => decide (nI 0 < f j)) p m))), σ) := by
  intro m
  induction m with
  | zero =>
    intro p c hm hp
    rw [e51_9]
    by_cases h1 : e ≤ p
    · simp (disch := omega) only [e51_0, e51_1, e51_2, e51_3, e51_4, e51_7, e51_11, e51_12, e51_15, e51_17, e51_18, e51_21, e51_22, e51_25, e51_26, e51_29, e51_31, e51_32, e51_35, e51_38, e51_41, e51_44, e51_45, nI_leI, h1, if_true]
      rfl
    · have h2 : 512 ≤ p := by omega
      simp (disch := omega) only [e51_0, e51_1, e51_2, e51_3, e51_4, e51_7, e51_11, e51_12, e51_15, e51_17, e51_18, e51_21, e51_22, e51_25, e51_26, e51_29, e51_31, e51_32, e51_35, e51_38, e51_41, e51_44, e51_45, kv_s, kh_s, kr_s, kr_v, kn_s, nI_leI, h1, if_false, h.c, h.l, oN, h2, if_true]
      rfl
  | succ m ih =>
    intro p c hm hp
    rw [e51_9]
    have h1 : ¬ e ≤ p := by omega
    have h2 : ¬ 512 ≤ p := by omega
    by_cases h3 : f p ≤ nI 0
    · have h4 : ¬ nI 0 < f p := Int32.not_lt.mpr h3
      simp (disch := omega) only [e51_0, e51_1, e51_2, e51_3, e51_4, e51_7, e51_11, e51_12, e51_15, e51_17, e51_18, e51_21, e51_22, e51_25, e51_26, e51_29, e51_31, e51_32, e51_35, e51_38, e51_41, e51_44, e51_45, kv_s, kh_s, kr_s, kr_v, kn_s, nI_leI, h1, if_false, h.c, h.l, oN, h2, h.a, kI_n, z0, h3, if_true, z1, nI_add]
      rw [ih (p + 1) c (by omega) (by omega), cnt_first]
      simp only [h4, decide_false, Bool.false_eq_true, if_false, Nat.zero_add]
    · have h4 : nI 0 < f p := Int32.not_le.mp h3
      simp (disch := omega) only [e51_0, e51_1, e51_2, e51_3, e51_4, e51_7, e51_11, e51_12, e51_15, e51_17, e51_18, e51_21, e51_22, e51_25, e51_26, e51_29, e51_31, e51_32, e51_35, e51_38, e51_41, e51_44, e51_45, kv_s, kh_s, kr_s, kr_v, kn_s, nI_leI, h1, if_false, h.c, h.l, oN, h2, h.a, kI_n, z0, h3, z1, nI_add]
      rw [ih (p + 1) (c + 1) (by omega) (by omega), cnt_first]
      simp only [h4, decide_true, if_true, Nat.add_assoc]
theorem Ks_nodesIn (h : isKS σ k f d) {a e : Nat} (ha : a < 2 ^ 31) (he : e < 2 ^ 31) : dcall 51 [.ref k, .int (nI a), .int (nI e)] σ = some (some (.int (nI (cnt (fun j => decide (nI 0 < f j)) a (min e 512 - a)))), σ) := by
  rw [q51]
  simp (disch := omega) only [e51_0, e51_1, e51_2, e51_3, e51_4, e51_7, e51_11, e51_12, e51_15, e51_17, e51_18, e51_21, e51_22, e51_25, e51_26, e51_29, e51_31, e51_32, e51_35, e51_38, e51_41, e51_44, e51_45, kv_s, kh_s, kr_s, kr_v, kn_s, z0, Jm_max0]
  have := Ks_nodesIn_loop h he (l1 := .int (nI a)) (min e 512 - a) a 0 rfl ha
  rw [Nat.zero_add] at this
  exact this
theorem Ks_work (h : isKS σ k f d) (hd : d ≤ 8) : dcall 50 [.ref k] σ = some (some (.int (nI (cnt (fun j => decide (nI 0 < f j)) 1 (2 ^ d - 1)) + f 1)), σ) := by
  rw [q50]
  have hK : 2 ^ d ≤ 256 := Nat.pow_le_pow_right (by omega) hd
  have hm : min (2 ^ d) 512 - 1 = 2 ^ d - 1 := by omega
  simp (disch := omega) only [e50_0, e50_1, e50_2, e50_3, e50_6, e50_9, e50_10, e50_13, e50_14, kv_s, kh_s, kr_s, kr_v, kn_s, h.o, if_true, Ks_keys h hd, z1, Ks_nodesIn h, hm, Ks_size h]
theorem Ks_clear (h : isKS σ k f d) {d' : Nat} : dcall 8 [.ref k, .int (nI d')] σ = some (none, kput σ k (fun j => if j < 512 then nI 0 else f j) d') := by
  rw [q8]
  have h1 : hPut σ k 1 1 (.int (nI d')) = some (hup σ k (.inr (1, [.ref (k + 1), .int (nI d')]))) := hPut_of h.1 (Nat.le_of_ble_eq_true rfl)
  have h2 : hGet (hup σ k (.inr (1, [.ref (k + 1), .int (nI d')]))) k 1 0 = some (.ref (k + 1)) := by rw [hGet_of hup_at]; rfl
  have h3 : (hup σ k (.inr (1, [.ref (k + 1), .int (nI d')]))).1 (k + 1) = some (.inl (0, 512, .inl f)) := by rw [hup_ne (by omega)]; exact h.2
  simp only [e8_0, e8_1, e8_2, e8_5, e8_6, e8_9, e8_10, e8_13, kv_s, kh_s, kr_s, kr_v, kn_s, h1, h2, z0, Ja_fill h3 (by omega)]
  rfl
theorem Ks_take {k2 d2 : Nat} {f2 : Nat → Int32} (h : isKS σ k f d) (h2 : isKS σ k2 f2 d2) (hne : k2 ≠ k) (hne1 : k2 + 1 ≠ k) : dcall 18 [.ref k, .ref k2] σ = some (none, kput σ k (va_cpy f2 f 0 0 512) d2) := by
  rw [q18]
  have e1 : hPut σ k 1 1 (.int (nI d2)) = some (hup σ k (.inr (1, [.ref (k + 1), .int (nI d2)]))) := hPut_of h.1 (Nat.le_of_ble_eq_true rfl)
  have e2 : hGet (hup σ k (.inr (1, [.ref (k + 1), .int (nI d2)]))) k 1 0 = some (.ref (k + 1)) := by rw [hGet_of hup_at]; rfl
  have e3 : hGet (hup σ k (.inr (1, [.ref (k + 1), .int (nI d2)]))) k2 1 0 = some (.ref (k2 + 1)) := by rw [hGet_of ((hup_ne hne).trans h2.1)]; rfl
  have e4 : (hup σ k (.inr (1, [.ref (k + 1), .int (nI d2)]))).1 (k + 1) = some (.inl (0, 512, .inl f)) := by rw [hup_ne (by omega)]; exact h.2
  have e5 : (hup σ k (.inr (1, [.ref (k + 1), .int (nI d2)]))).1 (k2 + 1) = some (.inl (0, 512, .inl f2)) := by rw [hup_ne hne1]; exact h2.2
  simp only [e18_0, e18_1, e18_2, e18_5, e18_8, e18_9, e18_12, e18_13, e18_14, e18_17, e18_18, e18_19, e18_22, e18_23, e18_26, kv_s, kh_s, kr_s, kr_v, kn_s, h2.dd, e1, e2, e3, hLen_of e4, hI_of e4, hI_of e5, oN]
  rw [wC_s (by decide)]
  simp only [e18_0, e18_1, e18_2, e18_5, e18_8, e18_9, e18_12, e18_13, e18_14, e18_17, e18_18, e18_19, e18_22, e18_23, e18_26]
  rfl
theorem Ks_init (h : σ.1 k = some (.inr (1, [.null, .int 0]))) (hn : σ.2.1 = k + 1) : dcall 6 [.ref k] σ = some (none, ((kput σ k (fun _ => 0) 0).1, σ.2.1 + 1, σ.2.2 + 512)) := by
  rw [q6]
  have e1 : (hnew σ (zArr 0 512) 512).1 k = some (.inr (1, [.null, .int 0])) := by
    show (if k = σ.2.1 then _ else _) = _
    rw [if_neg (by omega)]
    exact h
  have e2 : hPut (hnew σ (zArr 0 512) 512) k 1 0 (.ref σ.2.1) = some (hup (hnew σ (zArr 0 512) 512) k (.inr (1, [.ref σ.2.1, .int 0]))) := hPut_of e1 (Nat.le_of_ble_eq_true rfl)
  simp only [e6_0, e6_1, e6_4, e6_5, e6_8, e6_10, e6_13, kv_s, kh_s, kr_s, kr_v, kn_s, e2]
  refine congrArg (fun z => some (none, z)) (Prod.ext (funext fun q => ?_) rfl)
  show (if q = k then _ else if q = σ.2.1 then _ else σ.1 q) = (kput σ k (fun _ => 0) 0).1 q
  rw [hn]
  by_cases h1 : q = k
  · subst h1
    rw [if_pos rfl, kput, hup_ne (by omega), hup_at]
    rfl
  · rw [if_neg h1]
    by_cases h2 : q = k + 1
    · subst h2
      rw [if_pos rfl, kput, hup_at]
      rfl
    · rw [if_neg h2, kput_ne h1 h2]
end KS
