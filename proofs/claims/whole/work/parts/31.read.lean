/-! reading the text -/
/-- a fault's register -/
def fl : Option Nat → Int32
  | none => -nI 1
  | some q => nI q
theorem nI_n1 {q : Nat} (h : q < 2 ^ 31) : (nI q = -nI 1) = False := eq_false fun z => by
  have e : (-nI 1 : Int32) < 0 := by decide
  rw [← z] at e
  exact nI_pos h e
theorem n1_n1 : (-nI 1 = -nI 1) = True := eq_true rfl
theorem n1_lt {q : Nat} (h : q < 2 ^ 31) : (-nI 1 < nI q) = True := eq_true (by
  have e : (-nI 1 : Int32) < 0 := by decide
  exact Int32.lt_of_lt_of_le e (nI_pos' h))
theorem n1_nI {q : Nat} (h : q < 2 ^ 31) : (-nI 1 = nI q) = False := eq_false fun z => by
  have e : (-nI 1 : Int32) < 0 := by decide
  rw [z] at e
  exact nI_pos h e
/-- registers of the reading: place and fault -/
def ti (I : Nat → Int32) (p : Nat) (e : Option Nat) : Nat → Int32 := upd (upd I 1 (nI p)) 2 (fl e)
section TI
variable {I : Nat → Int32} {p q : Nat} {e e' : Option Nat}
theorem ti_1 : ti I p e 1 = nI p := by rw [ti, pk_un (by omega), pk_us]
theorem ti_2 : ti I p e 2 = fl e := by rw [ti, pk_us]
theorem ti_o {k : Nat} (h1 : k ≠ 1) (h2 : k ≠ 2) : ti I p e k = I k := by rw [ti, pk_un h2, pk_un h1]
theorem ti_p : upd (ti I p e) 1 (nI q) = ti I q e := by
  funext j
  unfold ti
  by_cases h1 : j = 1
  · subst h1; rw [pk_us, pk_un (by omega), pk_us]
  · by_cases h2 : j = 2
    · subst h2; rw [pk_un h1, pk_us, pk_us]
    · rw [pk_un h1, pk_un h2, pk_un h1, pk_un h2, pk_un h1]
theorem ti_e : upd (ti I p e) 2 (nI q) = ti I p (some q) := upd_upd
theorem ti_u {k : Nat} {x : Int32} (h1 : k ≠ 1) (h2 : k ≠ 2) : upd (ti I p e) k x = ti (upd I k x) p e := by
  funext j
  by_cases h3 : j = k
  · subst h3; rw [pk_us, ti_o h1 h2, pk_us]
  · by_cases h4 : j = 1
    · subst h4; rw [pk_un h3, ti_1, ti_1]
    · by_cases h5 : j = 2
      · subst h5; rw [pk_un h3, ti_2, ti_2]
      · rw [pk_un h3, ti_o h4 h5, ti_o h4 h5, pk_un h3]
end TI
/-- the digit at a place -/
def dg (n : Nat) (B : Nat → Nat) (p : Nat) : Option Nat := if p < n ∧ 48 ≤ B p ∧ B p ≤ 57 then some (B p - 48) else none
/-- the text: n signs, B -/
def isB (A : Nat → Nat → Int32) (I : Nat → Int32) (n : Nat) (B : Nat → Nat) : Prop := n ≤ 80 ∧ I 0 = nI n ∧ ∀ i, i < n → A 0 i = nI (B i) ∧ B i < 256
section RD
variable {σ : Hp} {c : Nat} {A : Nat → Nat → Int32} {R : Nat → Int64} {I : Nat → Int32} {n : Nat} {B : Nat → Nat} {p : Nat} {e : Option Nat}
theorem Tx_rewind : dcall 24 [.ref (c + 1)] (cw σ c A R I) = some (none, cw σ c A R (ti I 0 none)) := by
  rw [q24]
  simp only [e24_0, e24_1, e24_2, e24_5, e24_6, e24_7, e24_10, kv_s, kh_s, kr_s, kr_v, kn_s, cwo_1, cwr_1, cwg_0, cwg_1, cwg_2, cwa_0, cwl_0, cwo_3, cwr_3, cwg_3, cwa_R, cwl_R, cwo_5, cwr_5, cwg_4, cwg_5, cwg_6, cwg_7, cwg_8, cwa_1, cwl_1, cwo_7, cwr_7, cwg_9, cwg_10, cwg_11, cwg_12, cwg_13, cwa_2, cwl_2, cwo_17, cwr_17, cwg_14, cwa_3, cwl_3, cwp_0, cwp_1, cwp_2, cwp_3, cwp_4, cwp_5, cwp_6, cwp_7, cwp_8, cwp_9, cwp_10, cwp_11, cwp_12, cwp_13, cwp_14, cwu_0, cwu_R, cwu_1, cwu_2, cwu_3, vu_at, vu_ne, pk_us, pk_un]
  rfl
theorem Tx_peek (h : isB A I n B) (hp : p ≤ n) : dcall 26 [.ref (c + 1)] (cw σ c A R (ti I p e)) = some (some (.int (if p < n then nI (B p) else -nI 1)), cw σ c A R (ti I p e)) := by
  obtain ⟨h1, h2, h3⟩ := h
  rw [q26]
  by_cases h4 : p < n
  · simp (disch := omega) only [e26_0, e26_1, e26_4, e26_7, e26_8, e26_11, e26_12, e26_15, e26_18, e26_19, e26_22, e26_23, e26_26, e26_27, e26_30, e26_31, e26_34, e26_35, e26_38, e26_39, e26_42, e26_43, kv_s, kh_s, kr_s, kr_v, kn_s, z0, z1, z2, nI_ltI, nI_leI, nI_eq, nI_add, oN, bz0, bz1, bw0, bw1, ltT, ltF, leT, leF, eqT, eqF, if_true, if_false, kI_n, wI_n, and_true, true_and, and_false, false_and, not_true, not_false_eq_true, cwo_1, cwr_1, cwg_0, cwg_1, cwg_2, cwa_0, cwl_0, cwo_3, cwr_3, cwg_3, cwa_R, cwl_R, cwo_5, cwr_5, cwg_4, cwg_5, cwg_6, cwg_7, cwg_8, cwa_1, cwl_1, cwo_7, cwr_7, cwg_9, cwg_10, cwg_11, cwg_12, cwg_13, cwa_2, cwl_2, cwo_17, cwr_17, cwg_14, cwa_3, cwl_3, cwp_0, cwp_1, cwp_2, cwp_3, cwp_4, cwp_5, cwp_6, cwp_7, cwp_8, cwp_9, cwp_10, cwp_11, cwp_12, cwp_13, cwp_14, cwu_0, cwu_R, cwu_1, cwu_2, cwu_3, vu_at, vu_ne, pk_us, pk_un, ti_1, ti_o, h2, h3 p h4, h4]
  · have h5 : p = n := by omega
    subst h5
    simp (disch := omega) only [e26_0, e26_1, e26_4, e26_7, e26_8, e26_11, e26_12, e26_15, e26_18, e26_19, e26_22, e26_23, e26_26, e26_27, e26_30, e26_31, e26_34, e26_35, e26_38, e26_39, e26_42, e26_43, kv_s, kh_s, kr_s, kr_v, kn_s, z0, z1, z2, nI_ltI, nI_leI, nI_eq, nI_add, oN, bz0, bz1, bw0, bw1, ltT, ltF, leT, leF, eqT, eqF, if_true, if_false, kI_n, wI_n, and_true, true_and, and_false, false_and, not_true, not_false_eq_true, cwo_1, cwr_1, cwg_0, cwg_1, cwg_2, cwa_0, cwl_0, cwo_3, cwr_3, cwg_3, cwa_R, cwl_R, cwo_5, cwr_5, cwg_4, cwg_5, cwg_6, cwg_7, cwg_8, cwa_1, cwl_1, cwo_7, cwr_7, cwg_9, cwg_10, cwg_11, cwg_12, cwg_13, cwa_2, cwl_2, cwo_17, cwr_17, cwg_14, cwa_3, cwl_3, cwp_0, cwp_1, cwp_2, cwp_3, cwp_4, cwp_5, cwp_6, cwp_7, cwp_8, cwp_9, cwp_10, cwp_11, cwp_12, cwp_13, cwp_14, cwu_0, cwu_R, cwu_1, cwu_2, cwu_3, vu_at, vu_ne, pk_us, pk_un, ti_1, ti_o, h2]
theorem Tx_digit (h : isB A I n B) (hp : p ≤ n) : dcall 25 [.ref (c + 1)] (cw σ c A R (ti I p e)) = some (some (.int (fl (dg n B p))), cw σ c A R (ti I p e)) := by
  rw [q25]
  unfold dg
  by_cases h4 : p < n
  · have hb := (h.2.2 p h4).2
    by_cases h5 : B p < 48
    · have h7 : ¬ (p < n ∧ 48 ≤ B p ∧ B p ≤ 57) := by omega
      simp (disch := omega) only [e25_0, e25_1, e25_4, e25_5, e25_6, e25_8, e25_11, e25_12, e25_14, e25_17, e25_18, e25_20, e25_21, e25_24, e25_25, kv_s, kh_s, kr_s, kr_v, kn_s, z0, z1, z2, nI_ltI, nI_leI, nI_eq, nI_add, oN, bz0, bz1, bw0, bw1, ltT, ltF, leT, leF, eqT, eqF, if_true, if_false, kI_n, wI_n, and_true, true_and, and_false, false_and, not_true, not_false_eq_true, cwo_1, cwr_1, cwg_0, cwg_1, cwg_2, cwa_0, cwl_0, cwo_3, cwr_3, cwg_3, cwa_R, cwl_R, cwo_5, cwr_5, cwg_4, cwg_5, cwg_6, cwg_7, cwg_8, cwa_1, cwl_1, cwo_7, cwr_7, cwg_9, cwg_10, cwg_11, cwg_12, cwg_13, cwa_2, cwl_2, cwo_17, cwr_17, cwg_14, cwa_3, cwl_3, cwp_0, cwp_1, cwp_2, cwp_3, cwp_4, cwp_5, cwp_6, cwp_7, cwp_8, cwp_9, cwp_10, cwp_11, cwp_12, cwp_13, cwp_14, cwu_0, cwu_R, cwu_1, cwu_2, cwu_3, vu_at, vu_ne, pk_us, pk_un, Tx_peek h hp, h4, z48, z57, h5, h7, fl]
    · by_cases h6 : 57 < B p
      · have h7 : ¬ (p < n ∧ 48 ≤ B p ∧ B p ≤ 57) := by omega
        simp (disch := omega) only [e25_0, e25_1, e25_4, e25_5, e25_6, e25_8, e25_11, e25_12, e25_14, e25_17, e25_18, e25_20, e25_21, e25_24, e25_25, kv_s, kh_s, kr_s, kr_v, kn_s, z0, z1, z2, nI_ltI, nI_leI, nI_eq, nI_add, oN, bz0, bz1, bw0, bw1, ltT, ltF, leT, leF, eqT, eqF, if_true, if_false, kI_n, wI_n, and_true, true_and, and_false, false_and, not_true, not_false_eq_true, cwo_1, cwr_1, cwg_0, cwg_1, cwg_2, cwa_0, cwl_0, cwo_3, cwr_3, cwg_3, cwa_R, cwl_R, cwo_5, cwr_5, cwg_4, cwg_5, cwg_6, cwg_7, cwg_8, cwa_1, cwl_1, cwo_7, cwr_7, cwg_9, cwg_10, cwg_11, cwg_12, cwg_13, cwa_2, cwl_2, cwo_17, cwr_17, cwg_14, cwa_3, cwl_3, cwp_0, cwp_1, cwp_2, cwp_3, cwp_4, cwp_5, cwp_6, cwp_7, cwp_8, cwp_9, cwp_10, cwp_11, cwp_12, cwp_13, cwp_14, cwu_0, cwu_R, cwu_1, cwu_2, cwu_3, vu_at, vu_ne, pk_us, pk_un, Tx_peek h hp, h4, z48, z57, h5, h6, h7, fl]
      · have h7 : p < n ∧ 48 ≤ B p ∧ B p ≤ 57 := by omega
        have h8 : nI (B p) - nI 48 = nI (B p - 48) := pk_sub (by omega)
        simp (disch := omega) only [e25_0, e25_1, e25_4, e25_5, e25_6, e25_8, e25_11, e25_12, e25_14, e25_17, e25_18, e25_20, e25_21, e25_24, e25_25, kv_s, kh_s, kr_s, kr_v, kn_s, z0, z1, z2, nI_ltI, nI_leI, nI_eq, nI_add, oN, bz0, bz1, bw0, bw1, ltT, ltF, leT, leF, eqT, eqF, if_true, if_false, kI_n, wI_n, and_true, true_and, and_false, false_and, not_true, not_false_eq_true, cwo_1, cwr_1, cwg_0, cwg_1, cwg_2, cwa_0, cwl_0, cwo_3, cwr_3, cwg_3, cwa_R, cwl_R, cwo_5, cwr_5, cwg_4, cwg_5, cwg_6, cwg_7, cwg_8, cwa_1, cwl_1, cwo_7, cwr_7, cwg_9, cwg_10, cwg_11, cwg_12, cwg_13, cwa_2, cwl_2, cwo_17, cwr_17, cwg_14, cwa_3, cwl_3, cwp_0, cwp_1, cwp_2, cwp_3, cwp_4, cwp_5, cwp_6, cwp_7, cwp_8, cwp_9, cwp_10, cwp_11, cwp_12, cwp_13, cwp_14, cwu_0, cwu_R, cwu_1, cwu_2, cwu_3, vu_at, vu_ne, pk_us, pk_un, Tx_peek h hp, h4, z48, z57, h5, h6, h7, fl, h8]
  · have h7 : ¬ (p < n ∧ 48 ≤ B p ∧ B p ≤ 57) := by omega
    simp (disch := omega) only [e25_0, e25_1, e25_4, e25_5, e25_6, e25_8, e25_11, e25_12, e25_14, e25_17, e25_18, e25_20, e25_21, e25_24, e25_25, kv_s, kh_s, kr_s, kr_v, kn_s, z0, z1, z2, nI_ltI, nI_leI, nI_eq, nI_add, oN, bz0, bz1, bw0, bw1, ltT, ltF, leT, leF, eqT, eqF, if_true, if_false, kI_n, wI_n, and_true, true_and, and_false, false_and, not_true, not_false_eq_true, cwo_1, cwr_1, cwg_0, cwg_1, cwg_2, cwa_0, cwl_0, cwo_3, cwr_3, cwg_3, cwa_R, cwl_R, cwo_5, cwr_5, cwg_4, cwg_5, cwg_6, cwg_7, cwg_8, cwa_1, cwl_1, cwo_7, cwr_7, cwg_9, cwg_10, cwg_11, cwg_12, cwg_13, cwa_2, cwl_2, cwo_17, cwr_17, cwg_14, cwa_3, cwl_3, cwp_0, cwp_1, cwp_2, cwp_3, cwp_4, cwp_5, cwp_6, cwp_7, cwp_8, cwp_9, cwp_10, cwp_11, cwp_12, cwp_13, cwp_14, cwu_0, cwu_R, cwu_1, cwu_2, cwu_3, vu_at, vu_ne, pk_us, pk_un, Tx_peek h hp, h4, z48, z57, h7, fl, n1_lt]
theorem Tx_fail {q : Nat} (he : ∀ r, e = some r → r < 2 ^ 31) : dcall 27 [.ref (c + 1), .int (nI q)] (cw σ c A R (ti I p e)) = some (none, cw σ c A R (ti I p (e.or (some q)))) := by
  rw [q27]
  cases e with
  | none =>
    simp (disch := omega) only [e27_0, e27_1, e27_4, e27_5, e27_8, e27_9, e27_10, e27_13, kv_s, kh_s, kr_s, kr_v, kn_s, z0, z1, z2, nI_ltI, nI_leI, nI_eq, nI_add, oN, bz0, bz1, bw0, bw1, ltT, ltF, leT, leF, eqT, eqF, if_true, if_false, kI_n, wI_n, and_true, true_and, and_false, false_and, not_true, not_false_eq_true, cwo_1, cwr_1, cwg_0, cwg_1, cwg_2, cwa_0, cwl_0, cwo_3, cwr_3, cwg_3, cwa_R, cwl_R, cwo_5, cwr_5, cwg_4, cwg_5, cwg_6, cwg_7, cwg_8, cwa_1, cwl_1, cwo_7, cwr_7, cwg_9, cwg_10, cwg_11, cwg_12, cwg_13, cwa_2, cwl_2, cwo_17, cwr_17, cwg_14, cwa_3, cwl_3, cwp_0, cwp_1, cwp_2, cwp_3, cwp_4, cwp_5, cwp_6, cwp_7, cwp_8, cwp_9, cwp_10, cwp_11, cwp_12, cwp_13, cwp_14, cwu_0, cwu_R, cwu_1, cwu_2, cwu_3, vu_at, vu_ne, pk_us, pk_un, ti_2, fl, n1_n1, ti_e]
    rfl
  | some r =>
    have := he r rfl
    simp (disch := omega) only [e27_0, e27_1, e27_4, e27_5, e27_8, e27_9, e27_10, e27_13, kv_s, kh_s, kr_s, kr_v, kn_s, z0, z1, z2, nI_ltI, nI_leI, nI_eq, nI_add, oN, bz0, bz1, bw0, bw1, ltT, ltF, leT, leF, eqT, eqF, if_true, if_false, kI_n, wI_n, and_true, true_and, and_false, false_and, not_true, not_false_eq_true, cwo_1, cwr_1, cwg_0, cwg_1, cwg_2, cwa_0, cwl_0, cwo_3, cwr_3, cwg_3, cwa_R, cwl_R, cwo_5, cwr_5, cwg_4, cwg_5, cwg_6, cwg_7, cwg_8, cwa_1, cwl_1, cwo_7, cwr_7, cwg_9, cwg_10, cwg_11, cwg_12, cwg_13, cwa_2, cwl_2, cwo_17, cwr_17, cwg_14, cwa_3, cwl_3, cwp_0, cwp_1, cwp_2, cwp_3, cwp_4, cwp_5, cwp_6, cwp_7, cwp_8, cwp_9, cwp_10, cwp_11, cwp_12, cwp_13, cwp_14, cwu_0, cwu_R, cwu_1, cwu_2, cwu_3, vu_at, vu_ne, pk_us, pk_un, ti_2, fl, nI_n1]
    rfl
theorem Tx_more (h : isB A I n B) (hp : p ≤ n) (he : ∀ r, e = some r → r < 2 ^ 31) : dcall 28 [.ref (c + 1)] (cw σ c A R (ti I p e)) = some (some (.int (if e = none ∧ p < n then nI 1 else nI 0)), cw σ c A R (ti I p e)) := by
  have h1 := h.1
  rw [q28]
  cases e with
  | none =>
    by_cases h4 : p < n
    · simp (disch := omega) only [e28_0, e28_1, e28_4, e28_5, e28_8, e28_9, e28_12, e28_13, e28_16, e28_19, e28_20, e28_23, e28_24, kv_s, kh_s, kr_s, kr_v, kn_s, z0, z1, z2, nI_ltI, nI_leI, nI_eq, nI_add, oN, bz0, bz1, bw0, bw1, ltT, ltF, leT, leF, eqT, eqF, if_true, if_false, kI_n, wI_n, and_true, true_and, and_false, false_and, not_true, not_false_eq_true, cwo_1, cwr_1, cwg_0, cwg_1, cwg_2, cwa_0, cwl_0, cwo_3, cwr_3, cwg_3, cwa_R, cwl_R, cwo_5, cwr_5, cwg_4, cwg_5, cwg_6, cwg_7, cwg_8, cwa_1, cwl_1, cwo_7, cwr_7, cwg_9, cwg_10, cwg_11, cwg_12, cwg_13, cwa_2, cwl_2, cwo_17, cwr_17, cwg_14, cwa_3, cwl_3, cwp_0, cwp_1, cwp_2, cwp_3, cwp_4, cwp_5, cwp_6, cwp_7, cwp_8, cwp_9, cwp_10, cwp_11, cwp_12, cwp_13, cwp_14, cwu_0, cwu_R, cwu_1, cwu_2, cwu_3, vu_at, vu_ne, pk_us, pk_un, ti_1, ti_2, ti_o, h.2.1, fl, n1_n1, h4]
    · simp (disch := omega) only [e28_0, e28_1, e28_4, e28_5, e28_8, e28_9, e28_12, e28_13, e28_16, e28_19, e28_20, e28_23, e28_24, kv_s, kh_s, kr_s, kr_v, kn_s, z0, z1, z2, nI_ltI, nI_leI, nI_eq, nI_add, oN, bz0, bz1, bw0, bw1, ltT, ltF, leT, leF, eqT, eqF, if_true, if_false, kI_n, wI_n, and_true, true_and, and_false, false_and, not_true, not_false_eq_true, cwo_1, cwr_1, cwg_0, cwg_1, cwg_2, cwa_0, cwl_0, cwo_3, cwr_3, cwg_3, cwa_R, cwl_R, cwo_5, cwr_5, cwg_4, cwg_5, cwg_6, cwg_7, cwg_8, cwa_1, cwl_1, cwo_7, cwr_7, cwg_9, cwg_10, cwg_11, cwg_12, cwg_13, cwa_2, cwl_2, cwo_17, cwr_17, cwg_14, cwa_3, cwl_3, cwp_0, cwp_1, cwp_2, cwp_3, cwp_4, cwp_5, cwp_6, cwp_7, cwp_8, cwp_9, cwp_10, cwp_11, cwp_12, cwp_13, cwp_14, cwu_0, cwu_R, cwu_1, cwu_2, cwu_3, vu_at, vu_ne, pk_us, pk_un, ti_1, ti_2, ti_o, h.2.1, fl, n1_n1, h4]
  | some r =>
    have := he r rfl
    simp (disch := omega) only [e28_0, e28_1, e28_4, e28_5, e28_8, e28_9, e28_12, e28_13, e28_16, e28_19, e28_20, e28_23, e28_24, kv_s, kh_s, kr_s, kr_v, kn_s, z0, z1, z2, nI_ltI, nI_leI, nI_eq, nI_add, oN, bz0, bz1, bw0, bw1, ltT, ltF, leT, leF, eqT, eqF, if_true, if_false, kI_n, wI_n, and_true, true_and, and_false, false_and, not_true, not_false_eq_true, cwo_1, cwr_1, cwg_0, cwg_1, cwg_2, cwa_0, cwl_0, cwo_3, cwr_3, cwg_3, cwa_R, cwl_R, cwo_5, cwr_5, cwg_4, cwg_5, cwg_6, cwg_7, cwg_8, cwa_1, cwl_1, cwo_7, cwr_7, cwg_9, cwg_10, cwg_11, cwg_12, cwg_13, cwa_2, cwl_2, cwo_17, cwr_17, cwg_14, cwa_3, cwl_3, cwp_0, cwp_1, cwp_2, cwp_3, cwp_4, cwp_5, cwp_6, cwp_7, cwp_8, cwp_9, cwp_10, cwp_11, cwp_12, cwp_13, cwp_14, cwu_0, cwu_R, cwu_1, cwu_2, cwu_3, vu_at, vu_ne, pk_us, pk_un, ti_2, fl, nI_n1, reduceCtorEq]
theorem Tx_pass (h : isB A I n B) (hp : p ≤ n) {s : Nat} (hs : s < 256) : dcall 31 [.ref (c + 1), .int (nI s)] (cw σ c A R (ti I p e)) = some (some (.int (if p < n ∧ B p = s then nI 1 else nI 0)), cw σ c A R (ti I (if p < n ∧ B p = s then p + 1 else p) e)) := by
  have h1 := h.1
  rw [q31]
  by_cases h4 : p < n
  · have hb := (h.2.2 p h4).2
    by_cases h5 : B p = s
    · simp (disch := omega) only [e31_0, e31_1, e31_4, e31_5, e31_8, e31_9, e31_10, e31_11, e31_12, e31_15, e31_16, e31_17, e31_20, e31_21, kv_s, kh_s, kr_s, kr_v, kn_s, z0, z1, z2, nI_ltI, nI_leI, nI_eq, nI_add, oN, bz0, bz1, bw0, bw1, ltT, ltF, leT, leF, eqT, eqF, if_true, if_false, kI_n, wI_n, and_true, true_and, and_false, false_and, not_true, not_false_eq_true, cwo_1, cwr_1, cwg_0, cwg_1, cwg_2, cwa_0, cwl_0, cwo_3, cwr_3, cwg_3, cwa_R, cwl_R, cwo_5, cwr_5, cwg_4, cwg_5, cwg_6, cwg_7, cwg_8, cwa_1, cwl_1, cwo_7, cwr_7, cwg_9, cwg_10, cwg_11, cwg_12, cwg_13, cwa_2, cwl_2, cwo_17, cwr_17, cwg_14, cwa_3, cwl_3, cwp_0, cwp_1, cwp_2, cwp_3, cwp_4, cwp_5, cwp_6, cwp_7, cwp_8, cwp_9, cwp_10, cwp_11, cwp_12, cwp_13, cwp_14, cwu_0, cwu_R, cwu_1, cwu_2, cwu_3, vu_at, vu_ne, pk_us, pk_un, Tx_peek h hp, h4, h5, ti_1, ti_p]
    · simp (disch := omega) only [e31_0, e31_1, e31_4, e31_5, e31_8, e31_9, e31_10, e31_11, e31_12, e31_15, e31_16, e31_17, e31_20, e31_21, kv_s, kh_s, kr_s, kr_v, kn_s, z0, z1, z2, nI_ltI, nI_leI, nI_eq, nI_add, oN, bz0, bz1, bw0, bw1, ltT, ltF, leT, leF, eqT, eqF, if_true, if_false, kI_n, wI_n, and_true, true_and, and_false, false_and, not_true, not_false_eq_true, cwo_1, cwr_1, cwg_0, cwg_1, cwg_2, cwa_0, cwl_0, cwo_3, cwr_3, cwg_3, cwa_R, cwl_R, cwo_5, cwr_5, cwg_4, cwg_5, cwg_6, cwg_7, cwg_8, cwa_1, cwl_1, cwo_7, cwr_7, cwg_9, cwg_10, cwg_11, cwg_12, cwg_13, cwa_2, cwl_2, cwo_17, cwr_17, cwg_14, cwa_3, cwl_3, cwp_0, cwp_1, cwp_2, cwp_3, cwp_4, cwp_5, cwp_6, cwp_7, cwp_8, cwp_9, cwp_10, cwp_11, cwp_12, cwp_13, cwp_14, cwu_0, cwu_R, cwu_1, cwu_2, cwu_3, vu_at, vu_ne, pk_us, pk_un, Tx_peek h hp, h4, h5, ti_1, ti_p]
  · simp (disch := omega) only [e31_0, e31_1, e31_4, e31_5, e31_8, e31_9, e31_10, e31_11, e31_12, e31_15, e31_16, e31_17, e31_20, e31_21, kv_s, kh_s, kr_s, kr_v, kn_s, z0, z1, z2, nI_ltI, nI_leI, nI_eq, nI_add, oN, bz0, bz1, bw0, bw1, ltT, ltF, leT, leF, eqT, eqF, if_true, if_false, kI_n, wI_n, and_true, true_and, and_false, false_and, not_true, not_false_eq_true, cwo_1, cwr_1, cwg_0, cwg_1, cwg_2, cwa_0, cwl_0, cwo_3, cwr_3, cwg_3, cwa_R, cwl_R, cwo_5, cwr_5, cwg_4, cwg_5, cwg_6, cwg_7, cwg_8, cwa_1, cwl_1, cwo_7, cwr_7, cwg_9, cwg_10, cwg_11, cwg_12, cwg_13, cwa_2, cwl_2, cwo_17, cwr_17, cwg_14, cwa_3, cwl_3, cwp_0, cwp_1, cwp_2, cwp_3, cwp_4, cwp_5, cwp_6, cwp_7, cwp_8, cwp_9, cwp_10, cwp_11, cwp_12, cwp_13, cwp_14, cwu_0, cwu_R, cwu_1, cwu_2, cwu_3, vu_at, vu_ne, pk_us, pk_un, Tx_peek h hp, h4, n1_nI]
theorem Tx_must (h : isB A I n B) (hp : p ≤ n) (he : ∀ r, e = some r → r < 2 ^ 31) {s : Nat} (hs : s < 256) : dcall 30 [.ref (c + 1), .int (nI s)] (cw σ c A R (ti I p e)) = some (none, cw σ c A R (if p < n ∧ B p = s then ti I (p + 1) e else ti I p (e.or (some p)))) := by
  rw [q30]
  by_cases h4 : p < n ∧ B p = s
  · simp (disch := omega) only [e30_0, e30_1, e30_2, e30_5, e30_8, e30_9, e30_10, e30_13, e30_16, kv_s, kh_s, kr_s, kr_v, kn_s, z0, z1, z2, nI_ltI, nI_leI, nI_eq, nI_add, oN, bz0, bz1, bw0, bw1, ltT, ltF, leT, leF, eqT, eqF, if_true, if_false, kI_n, wI_n, and_true, true_and, and_false, false_and, not_true, not_false_eq_true, cwo_1, cwr_1, cwg_0, cwg_1, cwg_2, cwa_0, cwl_0, cwo_3, cwr_3, cwg_3, cwa_R, cwl_R, cwo_5, cwr_5, cwg_4, cwg_5, cwg_6, cwg_7, cwg_8, cwa_1, cwl_1, cwo_7, cwr_7, cwg_9, cwg_10, cwg_11, cwg_12, cwg_13, cwa_2, cwl_2, cwo_17, cwr_17, cwg_14, cwa_3, cwl_3, cwp_0, cwp_1, cwp_2, cwp_3, cwp_4, cwp_5, cwp_6, cwp_7, cwp_8, cwp_9, cwp_10, cwp_11, cwp_12, cwp_13, cwp_14, cwu_0, cwu_R, cwu_1, cwu_2, cwu_3, vu_at, vu_ne, pk_us, pk_un, Tx_pass h hp hs, h4, n01]
  · simp (disch := first | omega | exact he) only [e30_0, e30_1, e30_2, e30_5, e30_8, e30_9, e30_10, e30_13, e30_16, kv_s, kh_s, kr_s, kr_v, kn_s, z0, z1, z2, nI_ltI, nI_leI, nI_eq, nI_add, oN, bz0, bz1, bw0, bw1, ltT, ltF, leT, leF, eqT, eqF, if_true, if_false, kI_n, wI_n, and_true, true_and, and_false, false_and, not_true, not_false_eq_true, cwo_1, cwr_1, cwg_0, cwg_1, cwg_2, cwa_0, cwl_0, cwo_3, cwr_3, cwg_3, cwa_R, cwl_R, cwo_5, cwr_5, cwg_4, cwg_5, cwg_6, cwg_7, cwg_8, cwa_1, cwl_1, cwo_7, cwr_7, cwg_9, cwg_10, cwg_11, cwg_12, cwg_13, cwa_2, cwl_2, cwo_17, cwr_17, cwg_14, cwa_3, cwl_3, cwp_0, cwp_1, cwp_2, cwp_3, cwp_4, cwp_5, cwp_6, cwp_7, cwp_8, cwp_9, cwp_10, cwp_11, cwp_12, cwp_13, cwp_14, cwu_0, cwu_R, cwu_1, cwu_2, cwu_3, vu_at, vu_ne, pk_us, pk_un, Tx_pass h hp hs, h4, ti_1, Tx_fail]
/-- digits taken, as many as there are but so many at most: their number, and the place behind -/
def dgs (n : Nat) (B : Nat → Nat) : Nat → Nat → Nat → Nat × Nat
  | 0, p, v => (v, p)
  | m + 1, p, v => match dg n B p with
    | some x => dgs n B m (p + 1) (10 * v + x)
    | none => (v, p)
theorem dg_lt {x : Nat} (h : dg n B p = some x) : p < n ∧ x < 10 := by
  unfold dg at h
  split at h
  · cases h; omega
  · cases h
theorem dgs_bd : ∀ (m p v : Nat), p ≤ n → p ≤ (dgs n B m p v).2 ∧ (dgs n B m p v).2 ≤ n ∧ (dgs n B m p v).1 < (v + 1) * 10 ^ m := by
  intro m
  induction m with
  | zero => intro p v hp; simp [dgs]; omega
  | succ m ih =>
    intro p v hp
    rw [dgs]
    cases hd : dg n B p with
    | none =>
      refine ⟨Nat.le_refl _, hp, ?_⟩
      show v < (v + 1) * 10 ^ (m + 1)
      have : (v + 1) * 1 ≤ (v + 1) * 10 ^ (m + 1) := Nat.mul_le_mul_left _ (Nat.one_le_pow _ _ (by omega))
      omega
    | some x =>
      have := dg_lt hd
      obtain ⟨g1, g2, g3⟩ := ih (p + 1) (10 * v + x) (by omega)
      show p ≤ (dgs n B m (p + 1) (10 * v + x)).2 ∧ (dgs n B m (p + 1) (10 * v + x)).2 ≤ n ∧ (dgs n B m (p + 1) (10 * v + x)).1 < (v + 1) * 10 ^ (m + 1)
      refine ⟨by omega, g2, Nat.lt_of_lt_of_le g3 ?_⟩
      rw [Nat.pow_succ, ← Nat.mul_assoc, Nat.mul_right_comm]
      exact Nat.mul_le_mul_right _ (by omega)
theorem l10 : (10 : Int64) = lN 10 := rfl
theorem l0 : (0 : Int64) = lN 0 := rfl
theorem Tx_digits_loop (h : isB A I n B) {m s : Nat} (hm : m ≤ 10) : ∀ (k i p v : Nat), i + k = m → p ≤ n → ∃ j, den 34 10 [.ref (c + 1), .int (nI m), .int (nI s), .long (lN v), secd, .int (nI i)] [] (cw σ c A R (ti I p e)) = den 34 52 [.ref (c + 1), .int (nI m), .int (nI s), .long (lN (dgs n B k p v).1), secd, .int (nI j)] [] (cw σ c A R (ti I (dgs n B k p v).2 e)) := by
  have hn := h.1
  intro k
  induction k with
  | zero =>
    intro i p v hi hp
    refine ⟨i, ?_⟩
    rw [e34_10]
    simp (disch := omega) only [e34_12, e34_13, e34_16, e34_17, e34_20, e34_21, kv_s, kh_s, kr_s, kr_v, kn_s, z0, z1, z2, nI_ltI, nI_leI, nI_eq, nI_add, oN, bz0, bz1, bw0, bw1, ltT, ltF, leT, leF, eqT, eqF, if_true, if_false, kI_n, wI_n, and_true, true_and, and_false, false_and, not_true, not_false_eq_true, dgs]
  | succ k ih =>
    intro i p v hi hp
    cases hd : dg n B p with
    | none =>
      refine ⟨i, ?_⟩
      rw [e34_10]
      simp (disch := omega) only [e34_12, e34_13, e34_16, e34_17, e34_20, e34_21, kv_s, kh_s, kr_s, kr_v, kn_s, z0, z1, z2, nI_ltI, nI_leI, nI_eq, nI_add, oN, bz0, bz1, bw0, bw1, ltT, ltF, leT, leF, eqT, eqF, if_true, if_false, kI_n, wI_n, and_true, true_and, and_false, false_and, not_true, not_false_eq_true, cwo_1, cwr_1, cwg_0, cwg_1, cwg_2, cwa_0, cwl_0, cwo_3, cwr_3, cwg_3, cwa_R, cwl_R, cwo_5, cwr_5, cwg_4, cwg_5, cwg_6, cwg_7, cwg_8, cwa_1, cwl_1, cwo_7, cwr_7, cwg_9, cwg_10, cwg_11, cwg_12, cwg_13, cwa_2, cwl_2, cwo_17, cwr_17, cwg_14, cwa_3, cwl_3, cwp_0, cwp_1, cwp_2, cwp_3, cwp_4, cwp_5, cwp_6, cwp_7, cwp_8, cwp_9, cwp_10, cwp_11, cwp_12, cwp_13, cwp_14, cwu_0, cwu_R, cwu_1, cwu_2, cwu_3, vu_at, vu_ne, pk_us, pk_un, Tx_digit h hp, hd, fl, n1_n1, dgs]
    | some x =>
      have hx := dg_lt hd
      obtain ⟨j, hj⟩ := ih (i + 1) (p + 1) (10 * v + x) (by omega) (by omega)
      refine ⟨j, ?_⟩
      rw [e34_10]
      simp (disch := omega) only [e34_12, e34_13, e34_16, e34_17, e34_20, e34_21, e34_24, e34_27, e34_28, e34_29, e34_30, e34_33, e34_34, e34_35, e34_36, e34_37, e34_38, e34_41, e34_42, e34_43, e34_46, e34_49, kv_s, kh_s, kr_s, kr_v, kn_s, z0, z1, z2, nI_ltI, nI_leI, nI_eq, nI_add, oN, bz0, bz1, bw0, bw1, ltT, ltF, leT, leF, eqT, eqF, if_true, if_false, kI_n, wI_n, and_true, true_and, and_false, false_and, not_true, not_false_eq_true, cwo_1, cwr_1, cwg_0, cwg_1, cwg_2, cwa_0, cwl_0, cwo_3, cwr_3, cwg_3, cwa_R, cwl_R, cwo_5, cwr_5, cwg_4, cwg_5, cwg_6, cwg_7, cwg_8, cwa_1, cwl_1, cwo_7, cwr_7, cwg_9, cwg_10, cwg_11, cwg_12, cwg_13, cwa_2, cwl_2, cwo_17, cwr_17, cwg_14, cwa_3, cwl_3, cwp_0, cwp_1, cwp_2, cwp_3, cwp_4, cwp_5, cwp_6, cwp_7, cwp_8, cwp_9, cwp_10, cwp_11, cwp_12, cwp_13, cwp_14, cwu_0, cwu_R, cwu_1, cwu_2, cwu_3, vu_at, vu_ne, pk_us, pk_un, Tx_digit h hp, hd, fl, nI_n1, l10, lN_mul, nI_l, lN_add, ti_1, ti_p, dgs]
      exact hj
/-- is what was read no number? -/
def bad (n : Nat) (B : Nat → Nat) (m p : Nat) : Bool := decide ((dgs n B m p 0).2 = p) || (dg n B (dgs n B m p 0).2).isSome
theorem Tx_digits (h : isB A I n B) (hp : p ≤ n) (he : ∀ r, e = some r → r < 2 ^ 31) {m : Nat} (hm : m ≤ 10) : dcall 34 [.ref (c + 1), .int (nI m)] (cw σ c A R (ti I p e)) = some (some (.long (lN (dgs n B m p 0).1)), cw σ c A R (ti I (dgs n B m p 0).2 (if bad n B m p = true then e.or (some (dgs n B m p 0).2) else e))) := by
  have hn := h.1
  obtain ⟨j, hj⟩ := Tx_digits_loop (σ := σ) (c := c) (R := R) (e := e) h (s := p) hm m 0 p 0 (by omega) hp
  obtain ⟨g1, g2, g3⟩ := dgs_bd (n := n) (B := B) m p 0 hp
  rw [q34]
  simp (disch := omega) only [e34_0, e34_1, e34_4, e34_5, e34_6, e34_7, e34_8, kv_s, kh_s, kr_s, kr_v, kn_s, z0, z1, z2, nI_ltI, nI_leI, nI_eq, nI_add, oN, bz0, bz1, bw0, bw1, ltT, ltF, leT, leF, eqT, eqF, if_true, if_false, kI_n, wI_n, and_true, true_and, and_false, false_and, not_true, not_false_eq_true, cwo_1, cwr_1, cwg_0, cwg_1, cwg_2, cwa_0, cwl_0, cwo_3, cwr_3, cwg_3, cwa_R, cwl_R, cwo_5, cwr_5, cwg_4, cwg_5, cwg_6, cwg_7, cwg_8, cwa_1, cwl_1, cwo_7, cwr_7, cwg_9, cwg_10, cwg_11, cwg_12, cwg_13, cwa_2, cwl_2, cwo_17, cwr_17, cwg_14, cwa_3, cwl_3, cwp_0, cwp_1, cwp_2, cwp_3, cwp_4, cwp_5, cwp_6, cwp_7, cwp_8, cwp_9, cwp_10, cwp_11, cwp_12, cwp_13, cwp_14, cwu_0, cwu_R, cwu_1, cwu_2, cwu_3, vu_at, vu_ne, pk_us, pk_un, ti_1, l0]
  rw [hj]
  unfold bad
  by_cases h1 : (dgs n B m p 0).2 = p
  · simp (disch := first | omega | exact he) only [e34_52, e34_53, e34_56, e34_57, e34_60, e34_61, e34_64, e34_65, e34_68, e34_69, e34_70, e34_73, e34_76, e34_77, kv_s, kh_s, kr_s, kr_v, kn_s, z0, z1, z2, nI_ltI, nI_leI, nI_eq, nI_add, oN, bz0, bz1, bw0, bw1, ltT, ltF, leT, leF, eqT, eqF, if_true, if_false, kI_n, wI_n, and_true, true_and, and_false, false_and, not_true, not_false_eq_true, cwo_1, cwr_1, cwg_0, cwg_1, cwg_2, cwa_0, cwl_0, cwo_3, cwr_3, cwg_3, cwa_R, cwl_R, cwo_5, cwr_5, cwg_4, cwg_5, cwg_6, cwg_7, cwg_8, cwa_1, cwl_1, cwo_7, cwr_7, cwg_9, cwg_10, cwg_11, cwg_12, cwg_13, cwa_2, cwl_2, cwo_17, cwr_17, cwg_14, cwa_3, cwl_3, cwp_0, cwp_1, cwp_2, cwp_3, cwp_4, cwp_5, cwp_6, cwp_7, cwp_8, cwp_9, cwp_10, cwp_11, cwp_12, cwp_13, cwp_14, cwu_0, cwu_R, cwu_1, cwu_2, cwu_3, vu_at, vu_ne, pk_us, pk_un, ti_1, h1, Tx_fail, decide_true, Bool.true_or]
  · cases hd : dg n B (dgs n B m p 0).2 with
    | none => simp (disch := first | omega | exact he) only [e34_52, e34_53, e34_56, e34_57, e34_60, e34_61, e34_64, e34_65, e34_68, e34_69, e34_70, e34_73, e34_76, e34_77, kv_s, kh_s, kr_s, kr_v, kn_s, z0, z1, z2, nI_ltI, nI_leI, nI_eq, nI_add, oN, bz0, bz1, bw0, bw1, ltT, ltF, leT, leF, eqT, eqF, if_true, if_false, kI_n, wI_n, and_true, true_and, and_false, false_and, not_true, not_false_eq_true, cwo_1, cwr_1, cwg_0, cwg_1, cwg_2, cwa_0, cwl_0, cwo_3, cwr_3, cwg_3, cwa_R, cwl_R, cwo_5, cwr_5, cwg_4, cwg_5, cwg_6, cwg_7, cwg_8, cwa_1, cwl_1, cwo_7, cwr_7, cwg_9, cwg_10, cwg_11, cwg_12, cwg_13, cwa_2, cwl_2, cwo_17, cwr_17, cwg_14, cwa_3, cwl_3, cwp_0, cwp_1, cwp_2, cwp_3, cwp_4, cwp_5, cwp_6, cwp_7, cwp_8, cwp_9, cwp_10, cwp_11, cwp_12, cwp_13, cwp_14, cwu_0, cwu_R, cwu_1, cwu_2, cwu_3, vu_at, vu_ne, pk_us, pk_un, ti_1, h1, Tx_digit h g2, hd, fl, n1_n1, decide_false, Bool.false_or, Option.isSome_none, Bool.false_eq_true]
    | some x =>
      have := dg_lt hd
      simp (disch := first | omega | exact he) only [e34_52, e34_53, e34_56, e34_57, e34_60, e34_61, e34_64, e34_65, e34_68, e34_69, e34_70, e34_73, e34_76, e34_77, kv_s, kh_s, kr_s, kr_v, kn_s, z0, z1, z2, nI_ltI, nI_leI, nI_eq, nI_add, oN, bz0, bz1, bw0, bw1, ltT, ltF, leT, leF, eqT, eqF, if_true, if_false, kI_n, wI_n, and_true, true_and, and_false, false_and, not_true, not_false_eq_true, cwo_1, cwr_1, cwg_0, cwg_1, cwg_2, cwa_0, cwl_0, cwo_3, cwr_3, cwg_3, cwa_R, cwl_R, cwo_5, cwr_5, cwg_4, cwg_5, cwg_6, cwg_7, cwg_8, cwa_1, cwl_1, cwo_7, cwr_7, cwg_9, cwg_10, cwg_11, cwg_12, cwg_13, cwa_2, cwl_2, cwo_17, cwr_17, cwg_14, cwa_3, cwl_3, cwp_0, cwp_1, cwp_2, cwp_3, cwp_4, cwp_5, cwp_6, cwp_7, cwp_8, cwp_9, cwp_10, cwp_11, cwp_12, cwp_13, cwp_14, cwu_0, cwu_R, cwu_1, cwu_2, cwu_3, vu_at, vu_ne, pk_us, pk_un, ti_1, h1, Tx_digit h g2, hd, fl, nI_n1, Tx_fail, decide_false, Bool.false_or, Option.isSome_some]
theorem no_fault : ∀ r : Nat, (none : Option Nat) = some r → r < 2 ^ 31 := fun _ z => by cases z
/-- just so many digits -/
def fx (n : Nat) (B : Nat → Nat) : Nat → Nat → Nat → Nat × Nat × Option Nat
  | 0, p, v => (v, p, none)
  | m + 1, p, v => match dg n B p with
    | some x => fx n B m (p + 1) (10 * v + x)
    | none => (v, p, some p)
theorem Tx_fixed_loop (h : isB A I n B) {m : Nat} (hm : m ≤ 3) {l4 : Value} : ∀ (k i p v : Nat), i + k = m → p ≤ n → den 125 4 [.ref (c + 1), .int (nI m), .int (nI v), .int (nI i), l4] [] (cw σ c A R (ti I p none)) = some (some (.int (nI (fx n B k p v).1)), cw σ c A R (ti I (fx n B k p v).2.1 (fx n B k p v).2.2)) := by
  have hn := h.1
  intro k
  induction k generalizing l4 with
  | zero =>
    intro i p v hi hp
    rw [e125_4]
    simp (disch := omega) only [e125_0, e125_1, e125_2, e125_3, e125_5, e125_6, e125_9, e125_10, e125_13, e125_14, e125_17, e125_18, e125_21, e125_23, e125_25, e125_26, e125_29, e125_30, e125_31, e125_34, e125_37, e125_40, e125_42, e125_43, e125_44, e125_46, e125_47, e125_48, e125_49, e125_50, e125_53, e125_54, e125_55, e125_58, e125_61, e125_64, e125_65, kv_s, kh_s, kr_s, kr_v, kn_s, z0, z1, z2, nI_ltI, nI_leI, nI_eq, nI_add, oN, bz0, bz1, bw0, bw1, ltT, ltF, leT, leF, eqT, eqF, if_true, if_false, kI_n, wI_n, and_true, true_and, and_false, false_and, not_true, not_false_eq_true, fx]
  | succ k ih =>
    intro i p v hi hp
    cases hd : dg n B p with
    | none =>
      rw [e125_4]
      simp (disch := first | omega | exact no_fault) only [e125_0, e125_1, e125_2, e125_3, e125_5, e125_6, e125_9, e125_10, e125_13, e125_14, e125_17, e125_18, e125_21, e125_23, e125_25, e125_26, e125_29, e125_30, e125_31, e125_34, e125_37, e125_40, e125_42, e125_43, e125_44, e125_46, e125_47, e125_48, e125_49, e125_50, e125_53, e125_54, e125_55, e125_58, e125_61, e125_64, e125_65, kv_s, kh_s, kr_s, kr_v, kn_s, z0, z1, z2, nI_ltI, nI_leI, nI_eq, nI_add, oN, bz0, bz1, bw0, bw1, ltT, ltF, leT, leF, eqT, eqF, if_true, if_false, kI_n, wI_n, and_true, true_and, and_false, false_and, not_true, not_false_eq_true, cwo_1, cwr_1, cwg_0, cwg_1, cwg_2, cwa_0, cwl_0, cwo_3, cwr_3, cwg_3, cwa_R, cwl_R, cwo_5, cwr_5, cwg_4, cwg_5, cwg_6, cwg_7, cwg_8, cwa_1, cwl_1, cwo_7, cwr_7, cwg_9, cwg_10, cwg_11, cwg_12, cwg_13, cwa_2, cwl_2, cwo_17, cwr_17, cwg_14, cwa_3, cwl_3, cwp_0, cwp_1, cwp_2, cwp_3, cwp_4, cwp_5, cwp_6, cwp_7, cwp_8, cwp_9, cwp_10, cwp_11, cwp_12, cwp_13, cwp_14, cwu_0, cwu_R, cwu_1, cwu_2, cwu_3, vu_at, vu_ne, pk_us, pk_un, ti_2, Tx_digit h hp, hd, fl, n1_n1, fx, ti_1, Tx_fail, Option.none_or]
      rw [e125_4]
      simp (disch := omega) only [e125_0, e125_1, e125_2, e125_3, e125_5, e125_6, e125_9, e125_10, e125_13, e125_14, e125_17, e125_18, e125_21, e125_23, e125_25, e125_26, e125_29, e125_30, e125_31, e125_34, e125_37, e125_40, e125_42, e125_43, e125_44, e125_46, e125_47, e125_48, e125_49, e125_50, e125_53, e125_54, e125_55, e125_58, e125_61, e125_64, e125_65, kv_s, kh_s, kr_s, kr_v, kn_s, z0, z1, z2, nI_ltI, nI_leI, nI_eq, nI_add, oN, bz0, bz1, bw0, bw1, ltT, ltF, leT, leF, eqT, eqF, if_true, if_false, kI_n, wI_n, and_true, true_and, and_false, false_and, not_true, not_false_eq_true, cwo_1, cwr_1, cwg_0, cwg_1, cwg_2, cwa_0, cwl_0, cwo_3, cwr_3, cwg_3, cwa_R, cwl_R, cwo_5, cwr_5, cwg_4, cwg_5, cwg_6, cwg_7, cwg_8, cwa_1, cwl_1, cwo_7, cwr_7, cwg_9, cwg_10, cwg_11, cwg_12, cwg_13, cwa_2, cwl_2, cwo_17, cwr_17, cwg_14, cwa_3, cwl_3, cwp_0, cwp_1, cwp_2, cwp_3, cwp_4, cwp_5, cwp_6, cwp_7, cwp_8, cwp_9, cwp_10, cwp_11, cwp_12, cwp_13, cwp_14, cwu_0, cwu_R, cwu_1, cwu_2, cwu_3, vu_at, vu_ne, pk_us, pk_un, ti_2, fl, nI_n1]
      by_cases hk : i + 1 < m
      · simp (disch := omega) only [e125_0, e125_1, e125_2, e125_3, e125_5, e125_6, e125_9, e125_10, e125_13, e125_14, e125_17, e125_18, e125_21, e125_23, e125_25, e125_26, e125_29, e125_30, e125_31, e125_34, e125_37, e125_40, e125_42, e125_43, e125_44, e125_46, e125_47, e125_48, e125_49, e125_50, e125_53, e125_54, e125_55, e125_58, e125_61, e125_64, e125_65, kv_s, kh_s, kr_s, kr_v, kn_s, z0, z1, z2, nI_ltI, nI_leI, nI_eq, nI_add, oN, bz0, bz1, bw0, bw1, ltT, ltF, leT, leF, eqT, eqF, if_true, if_false, kI_n, wI_n, and_true, true_and, and_false, false_and, not_true, not_false_eq_true, cwo_1, cwr_1, cwg_0, cwg_1, cwg_2, cwa_0, cwl_0, cwo_3, cwr_3, cwg_3, cwa_R, cwl_R, cwo_5, cwr_5, cwg_4, cwg_5, cwg_6, cwg_7, cwg_8, cwa_1, cwl_1, cwo_7, cwr_7, cwg_9, cwg_10, cwg_11, cwg_12, cwg_13, cwa_2, cwl_2, cwo_17, cwr_17, cwg_14, cwa_3, cwl_3, cwp_0, cwp_1, cwp_2, cwp_3, cwp_4, cwp_5, cwp_6, cwp_7, cwp_8, cwp_9, cwp_10, cwp_11, cwp_12, cwp_13, cwp_14, cwu_0, cwu_R, cwu_1, cwu_2, cwu_3, vu_at, vu_ne, pk_us, pk_un, hk]
      · simp (disch := omega) only [e125_0, e125_1, e125_2, e125_3, e125_5, e125_6, e125_9, e125_10, e125_13, e125_14, e125_17, e125_18, e125_21, e125_23, e125_25, e125_26, e125_29, e125_30, e125_31, e125_34, e125_37, e125_40, e125_42, e125_43, e125_44, e125_46, e125_47, e125_48, e125_49, e125_50, e125_53, e125_54, e125_55, e125_58, e125_61, e125_64, e125_65, kv_s, kh_s, kr_s, kr_v, kn_s, z0, z1, z2, nI_ltI, nI_leI, nI_eq, nI_add, oN, bz0, bz1, bw0, bw1, ltT, ltF, leT, leF, eqT, eqF, if_true, if_false, kI_n, wI_n, and_true, true_and, and_false, false_and, not_true, not_false_eq_true, cwo_1, cwr_1, cwg_0, cwg_1, cwg_2, cwa_0, cwl_0, cwo_3, cwr_3, cwg_3, cwa_R, cwl_R, cwo_5, cwr_5, cwg_4, cwg_5, cwg_6, cwg_7, cwg_8, cwa_1, cwl_1, cwo_7, cwr_7, cwg_9, cwg_10, cwg_11, cwg_12, cwg_13, cwa_2, cwl_2, cwo_17, cwr_17, cwg_14, cwa_3, cwl_3, cwp_0, cwp_1, cwp_2, cwp_3, cwp_4, cwp_5, cwp_6, cwp_7, cwp_8, cwp_9, cwp_10, cwp_11, cwp_12, cwp_13, cwp_14, cwu_0, cwu_R, cwu_1, cwu_2, cwu_3, vu_at, vu_ne, pk_us, pk_un, hk]
    | some x =>
      have hx := dg_lt hd
      rw [e125_4]
      simp (disch := omega) only [e125_0, e125_1, e125_2, e125_3, e125_5, e125_6, e125_9, e125_10, e125_13, e125_14, e125_17, e125_18, e125_21, e125_23, e125_25, e125_26, e125_29, e125_30, e125_31, e125_34, e125_37, e125_40, e125_42, e125_43, e125_44, e125_46, e125_47, e125_48, e125_49, e125_50, e125_53, e125_54, e125_55, e125_58, e125_61, e125_64, e125_65, kv_s, kh_s, kr_s, kr_v, kn_s, z0, z1, z2, nI_ltI, nI_leI, nI_eq, nI_add, oN, bz0, bz1, bw0, bw1, ltT, ltF, leT, leF, eqT, eqF, if_true, if_false, kI_n, wI_n, and_true, true_and, and_false, false_and, not_true, not_false_eq_true, cwo_1, cwr_1, cwg_0, cwg_1, cwg_2, cwa_0, cwl_0, cwo_3, cwr_3, cwg_3, cwa_R, cwl_R, cwo_5, cwr_5, cwg_4, cwg_5, cwg_6, cwg_7, cwg_8, cwa_1, cwl_1, cwo_7, cwr_7, cwg_9, cwg_10, cwg_11, cwg_12, cwg_13, cwa_2, cwl_2, cwo_17, cwr_17, cwg_14, cwa_3, cwl_3, cwp_0, cwp_1, cwp_2, cwp_3, cwp_4, cwp_5, cwp_6, cwp_7, cwp_8, cwp_9, cwp_10, cwp_11, cwp_12, cwp_13, cwp_14, cwu_0, cwu_R, cwu_1, cwu_2, cwu_3, vu_at, vu_ne, pk_us, pk_un, ti_2, Tx_digit h hp, hd, fl, n1_n1, nI_n1, pk_mul, z10, ti_1, ti_p, fx]
      exact ih (i + 1) (p + 1) (10 * v + x) (by omega) (by omega)
theorem Tx_fixed (h : isB A I n B) (hp : p ≤ n) {m : Nat} (hm : m ≤ 3) : dcall 125 [.ref (c + 1), .int (nI m)] (cw σ c A R (ti I p none)) = some (some (.int (nI (fx n B m p 0).1)), cw σ c A R (ti I (fx n B m p 0).2.1 (fx n B m p 0).2.2)) := by
  rw [q125]
  simp (disch := omega) only [e125_0, e125_1, e125_2, e125_3, e125_5, e125_6, e125_9, e125_10, e125_13, e125_14, e125_17, e125_18, e125_21, e125_23, e125_25, e125_26, e125_29, e125_30, e125_31, e125_34, e125_37, e125_40, e125_42, e125_43, e125_44, e125_46, e125_47, e125_48, e125_49, e125_50, e125_53, e125_54, e125_55, e125_58, e125_61, e125_64, e125_65, kv_s, kh_s, kr_s, kr_v, kn_s, z0, z1, z2, nI_ltI, nI_leI, nI_eq, nI_add, oN, bz0, bz1, bw0, bw1, ltT, ltF, leT, leF, eqT, eqF, if_true, if_false, kI_n, wI_n, and_true, true_and, and_false, false_and, not_true, not_false_eq_true]
  exact Tx_fixed_loop h hm m 0 p 0 (by omega) hp
/-- after a fault nothing is read -/
theorem Tx_fixed_no {q : Nat} (hq : q < 2 ^ 31) {m : Nat} (hm : 1 ≤ m ∧ m ≤ 3) : dcall 125 [.ref (c + 1), .int (nI m)] (cw σ c A R (ti I p (some q))) = some (some (.int (nI 0)), cw σ c A R (ti I p (some q))) := by
  rw [q125]
  simp (disch := omega) only [e125_0, e125_1, e125_2, e125_3, e125_5, e125_6, e125_9, e125_10, e125_13, e125_14, e125_17, e125_18, e125_21, e125_23, e125_25, e125_26, e125_29, e125_30, e125_31, e125_34, e125_37, e125_40, e125_42, e125_43, e125_44, e125_46, e125_47, e125_48, e125_49, e125_50, e125_53, e125_54, e125_55, e125_58, e125_61, e125_64, e125_65, kv_s, kh_s, kr_s, kr_v, kn_s, z0, z1, z2, nI_ltI, nI_leI, nI_eq, nI_add, oN, bz0, bz1, bw0, bw1, ltT, ltF, leT, leF, eqT, eqF, if_true, if_false, kI_n, wI_n, and_true, true_and, and_false, false_and, not_true, not_false_eq_true]
  rw [e125_4]
  simp (disch := omega) only [e125_0, e125_1, e125_2, e125_3, e125_5, e125_6, e125_9, e125_10, e125_13, e125_14, e125_17, e125_18, e125_21, e125_23, e125_25, e125_26, e125_29, e125_30, e125_31, e125_34, e125_37, e125_40, e125_42, e125_43, e125_44, e125_46, e125_47, e125_48, e125_49, e125_50, e125_53, e125_54, e125_55, e125_58, e125_61, e125_64, e125_65, kv_s, kh_s, kr_s, kr_v, kn_s, z0, z1, z2, nI_ltI, nI_leI, nI_eq, nI_add, oN, bz0, bz1, bw0, bw1, ltT, ltF, leT, leF, eqT, eqF, if_true, if_false, kI_n, wI_n, and_true, true_and, and_false, false_and, not_true, not_false_eq_true, cwo_1, cwr_1, cwg_0, cwg_1, cwg_2, cwa_0, cwl_0, cwo_3, cwr_3, cwg_3, cwa_R, cwl_R, cwo_5, cwr_5, cwg_4, cwg_5, cwg_6, cwg_7, cwg_8, cwa_1, cwl_1, cwo_7, cwr_7, cwg_9, cwg_10, cwg_11, cwg_12, cwg_13, cwa_2, cwl_2, cwo_17, cwr_17, cwg_14, cwa_3, cwl_3, cwp_0, cwp_1, cwp_2, cwp_3, cwp_4, cwp_5, cwp_6, cwp_7, cwp_8, cwp_9, cwp_10, cwp_11, cwp_12, cwp_13, cwp_14, cwu_0, cwu_R, cwu_1, cwu_2, cwu_3, vu_at, vu_ne, pk_us, pk_un, ti_2, fl, nI_n1]
theorem fx_bd : ∀ (m p v : Nat), p ≤ n → p ≤ (fx n B m p v).2.1 ∧ (fx n B m p v).2.1 ≤ n ∧ (∀ q, (fx n B m p v).2.2 = some q → q ≤ n) ∧ ((fx n B m p v).2.2 = none → (fx n B m p v).2.1 = p + m) ∧ (fx n B m p v).1 < (v + 1) * 10 ^ m := by
  intro m
  induction m with
  | zero => intro p v hp; simp [fx]; omega
  | succ m ih =>
    intro p v hp
    rw [fx]
    cases hd : dg n B p with
    | none =>
      show p ≤ p ∧ p ≤ n ∧ (∀ q, some p = some q → q ≤ n) ∧ (some p = none → p = p + (m + 1)) ∧ v < (v + 1) * 10 ^ (m + 1)
      refine ⟨Nat.le_refl _, hp, fun q z => (by cases z; exact hp), fun z => (by cases z), ?_⟩
      have : (v + 1) * 1 ≤ (v + 1) * 10 ^ (m + 1) := Nat.mul_le_mul_left _ (Nat.one_le_pow _ _ (by omega))
      omega
    | some x =>
      have := dg_lt hd
      obtain ⟨g1, g2, g3, g4, g5⟩ := ih (p + 1) (10 * v + x) (by omega)
      refine ⟨Nat.le_trans (Nat.le_succ _) g1, g2, g3, fun z => ?_, Nat.lt_of_lt_of_le g5 ?_⟩
      · rw [g4 z]; omega
      · rw [Nat.pow_succ, ← Nat.mul_assoc, Nat.mul_right_comm]
        exact Nat.mul_le_mul_right _ (by omega)
end RD
