/-! Row, Text and Proof over the registers -/
/-- a row told over an old one -/
def rl (R : Nat → Int64) (L : List Int64) : Nat → Int64 := fun i => L[i]?.getD (R i)
theorem rl_nil {R : Nat → Int64} : rl R [] = R := rfl
theorem rl_add {R : Nat → Int64} {L : List Int64} {x : Int64} : vp_updL (rl R L) L.length x = rl R (L ++ [x]) := by
  funext i
  unfold rl
  by_cases h : i = L.length
  · subst h
    rw [pk_uLs, List.getElem?_append_right (Nat.le_refl _), Nat.sub_self]
    rfl
  · rw [pk_uLn h]
    by_cases h2 : i < L.length
    · rw [List.getElem?_append_left h2]
    · rw [List.getElem?_append_right (by omega), List.getElem?_eq_none (by omega), List.getElem?_eq_none]
      simp only [List.length_cons, List.length_nil]
      omega
theorem rl_get {R : Nat → Int64} {L : List Int64} {i : Nat} (h : i < L.length) : some (rl R L i) = L[i]? := by
  unfold rl
  rw [List.getElem?_eq_getElem h]
  rfl
theorem upd_upd {f : Nat → Int32} {k : Nat} {x y : Int32} : upd (upd f k x) k y = upd f k y := by
  funext j
  by_cases h : j = k
  · subst h; rw [pk_us, pk_us]
  · rw [pk_un h, pk_un h, pk_un h]
theorem upd_id {f : Nat → Int32} {k : Nat} {x : Int32} (h : f k = x) : upd f k x = f := by
  funext j
  by_cases hj : j = k
  · subst hj; rw [pk_us, h]
  · rw [pk_un hj]
section TX
variable {σ : Hp} {c : Nat} {A : Nat → Nat → Int32} {R : Nat → Int64} {I : Nat → Int32}
theorem Rw_empty : dcall 49 [.ref (c + 3)] (cw σ c A R I) = some (none, cw σ c A (rl R []) (upd I 3 (nI 0))) := by
  rw [q49, rl_nil]
  simp only [e49_0, e49_1, e49_2, e49_5, kv_s, kh_s, kr_s, kr_v, kn_s, cwo_1, cwr_1, cwg_0, cwg_1, cwg_2, cwa_0, cwl_0, cwo_3, cwr_3, cwg_3, cwa_R, cwl_R, cwo_5, cwr_5, cwg_4, cwg_5, cwg_6, cwg_7, cwg_8, cwa_1, cwl_1, cwo_7, cwr_7, cwg_9, cwg_10, cwg_11, cwg_12, cwg_13, cwa_2, cwl_2, cwo_17, cwr_17, cwg_14, cwa_3, cwl_3, cwp_0, cwp_1, cwp_2, cwp_3, cwp_4, cwp_5, cwp_6, cwp_7, cwp_8, cwp_9, cwp_10, cwp_11, cwp_12, cwp_13, cwp_14, cwu_0, cwu_R, cwu_1, cwu_2, cwu_3, vu_at, vu_ne, pk_us, pk_un, z0]
theorem Rw_add {L : List Int64} {n : Nat} {x : Int64} (hn : L.length = n) (h : n < 128) : dcall 52 [.ref (c + 3), .long x] (cw σ c A (rl R L) (upd I 3 (nI n))) = some (none, cw σ c A (rl R (L ++ [x])) (upd I 3 (nI (n + 1)))) := by
  subst hn
  rw [q52, ← rl_add]
  simp (disch := omega) only [e52_0, e52_1, e52_4, e52_7, e52_8, e52_11, e52_12, e52_15, e52_16, e52_19, e52_20, e52_23, e52_24, e52_27, e52_28, e52_29, e52_30, e52_31, e52_34, e52_35, e52_36, e52_39, kv_s, kh_s, kr_s, kr_v, kn_s, z0, z1, z2, nI_ltI, nI_leI, nI_eq, nI_add, oN, bz0, bz1, bw0, bw1, ltT, ltF, leT, leF, eqT, eqF, if_true, if_false, kI_n, wI_n, and_true, true_and, and_false, false_and, not_true, not_false_eq_true, cwo_1, cwr_1, cwg_0, cwg_1, cwg_2, cwa_0, cwl_0, cwo_3, cwr_3, cwg_3, cwa_R, cwl_R, cwo_5, cwr_5, cwg_4, cwg_5, cwg_6, cwg_7, cwg_8, cwa_1, cwl_1, cwo_7, cwr_7, cwg_9, cwg_10, cwg_11, cwg_12, cwg_13, cwa_2, cwl_2, cwo_17, cwr_17, cwg_14, cwa_3, cwl_3, cwp_0, cwp_1, cwp_2, cwp_3, cwp_4, cwp_5, cwp_6, cwp_7, cwp_8, cwp_9, cwp_10, cwp_11, cwp_12, cwp_13, cwp_14, cwu_0, cwu_R, cwu_1, cwu_2, cwu_3, vu_at, vu_ne, pk_us, pk_un, wL_n, Nat.not_lt_zero, upd_upd]
theorem Pr_begin {x y z : Int32} : dcall 73 [.ref (c + 5), .int x, .int y, .int z] (cw σ c A R I) = some (none, cw σ c A R (upd (upd (upd (upd (upd I 4 (nI 1)) 5 x) 6 y) 7 z) 8 (nI 0))) := by
  rw [q73]
  simp only [e73_0, e73_1, e73_2z, e73_2o, e73_5, e73_6, e73_7, e73_10, e73_11, e73_12, e73_15, e73_16, e73_17, e73_20, e73_21, e73_22, e73_25, kv_s, kh_s, kr_s, kr_v, kn_s, cwo_1, cwr_1, cwg_0, cwg_1, cwg_2, cwa_0, cwl_0, cwo_3, cwr_3, cwg_3, cwa_R, cwl_R, cwo_5, cwr_5, cwg_4, cwg_5, cwg_6, cwg_7, cwg_8, cwa_1, cwl_1, cwo_7, cwr_7, cwg_9, cwg_10, cwg_11, cwg_12, cwg_13, cwa_2, cwl_2, cwo_17, cwr_17, cwg_14, cwa_3, cwl_3, cwp_0, cwp_1, cwp_2, cwp_3, cwp_4, cwp_5, cwp_6, cwp_7, cwp_8, cwp_9, cwp_10, cwp_11, cwp_12, cwp_13, cwp_14, cwu_0, cwu_R, cwu_1, cwu_2, cwu_3, vu_at, vu_ne, pk_us, pk_un]
  rfl
theorem Pr_begin2 {x y z : Int32} : dcall 73 [.ref (c + 7), .int x, .int y, .int z] (cw σ c A R I) = some (none, cw σ c A R (upd (upd (upd (upd (upd I 9 (nI 1)) 10 x) 11 y) 12 z) 13 (nI 0))) := by
  rw [q73]
  simp only [e73_0, e73_1, e73_2z, e73_2o, e73_5, e73_6, e73_7, e73_10, e73_11, e73_12, e73_15, e73_16, e73_17, e73_20, e73_21, e73_22, e73_25, kv_s, kh_s, kr_s, kr_v, kn_s, cwo_1, cwr_1, cwg_0, cwg_1, cwg_2, cwa_0, cwl_0, cwo_3, cwr_3, cwg_3, cwa_R, cwl_R, cwo_5, cwr_5, cwg_4, cwg_5, cwg_6, cwg_7, cwg_8, cwa_1, cwl_1, cwo_7, cwr_7, cwg_9, cwg_10, cwg_11, cwg_12, cwg_13, cwa_2, cwl_2, cwo_17, cwr_17, cwg_14, cwa_3, cwl_3, cwp_0, cwp_1, cwp_2, cwp_3, cwp_4, cwp_5, cwp_6, cwp_7, cwp_8, cwp_9, cwp_10, cwp_11, cwp_12, cwp_13, cwp_14, cwu_0, cwu_R, cwu_1, cwu_2, cwu_3, vu_at, vu_ne, pk_us, pk_un]
  rfl
theorem Pr_add {n : Nat} (hn : I 8 = nI n) (h : n < 8) {x : Int32} : dcall 74 [.ref (c + 5), .int x] (cw σ c A R I) = some (none, cw σ c (va_up A 1 (upd (A 1) n x)) R (upd I 8 (nI (n + 1)))) := by
  rw [q74]
  simp (disch := omega) only [e74_0, e74_1, e74_4, e74_7, e74_8, e74_11, e74_12, e74_15, e74_16, e74_19, e74_20, e74_23, e74_24, e74_27, e74_28, e74_29, e74_30, e74_31, e74_34, e74_35, e74_36, e74_39, kv_s, kh_s, kr_s, kr_v, kn_s, z0, z1, z2, nI_ltI, nI_leI, nI_eq, nI_add, oN, bz0, bz1, bw0, bw1, ltT, ltF, leT, leF, eqT, eqF, if_true, if_false, kI_n, wI_n, and_true, true_and, and_false, false_and, not_true, not_false_eq_true, cwo_1, cwr_1, cwg_0, cwg_1, cwg_2, cwa_0, cwl_0, cwo_3, cwr_3, cwg_3, cwa_R, cwl_R, cwo_5, cwr_5, cwg_4, cwg_5, cwg_6, cwg_7, cwg_8, cwa_1, cwl_1, cwo_7, cwr_7, cwg_9, cwg_10, cwg_11, cwg_12, cwg_13, cwa_2, cwl_2, cwo_17, cwr_17, cwg_14, cwa_3, cwl_3, cwp_0, cwp_1, cwp_2, cwp_3, cwp_4, cwp_5, cwp_6, cwp_7, cwp_8, cwp_9, cwp_10, cwp_11, cwp_12, cwp_13, cwp_14, cwu_0, cwu_R, cwu_1, cwu_2, cwu_3, vu_at, vu_ne, pk_us, pk_un, hn]
theorem Pr_add2 {n : Nat} (hn : I 13 = nI n) (h : n < 8) {x : Int32} : dcall 74 [.ref (c + 7), .int x] (cw σ c A R I) = some (none, cw σ c (va_up A 2 (upd (A 2) n x)) R (upd I 13 (nI (n + 1)))) := by
  rw [q74]
  simp (disch := omega) only [e74_0, e74_1, e74_4, e74_7, e74_8, e74_11, e74_12, e74_15, e74_16, e74_19, e74_20, e74_23, e74_24, e74_27, e74_28, e74_29, e74_30, e74_31, e74_34, e74_35, e74_36, e74_39, kv_s, kh_s, kr_s, kr_v, kn_s, z0, z1, z2, nI_ltI, nI_leI, nI_eq, nI_add, oN, bz0, bz1, bw0, bw1, ltT, ltF, leT, leF, eqT, eqF, if_true, if_false, kI_n, wI_n, and_true, true_and, and_false, false_and, not_true, not_false_eq_true, cwo_1, cwr_1, cwg_0, cwg_1, cwg_2, cwa_0, cwl_0, cwo_3, cwr_3, cwg_3, cwa_R, cwl_R, cwo_5, cwr_5, cwg_4, cwg_5, cwg_6, cwg_7, cwg_8, cwa_1, cwl_1, cwo_7, cwr_7, cwg_9, cwg_10, cwg_11, cwg_12, cwg_13, cwa_2, cwl_2, cwo_17, cwr_17, cwg_14, cwa_3, cwl_3, cwp_0, cwp_1, cwp_2, cwp_3, cwp_4, cwp_5, cwp_6, cwp_7, cwp_8, cwp_9, cwp_10, cwp_11, cwp_12, cwp_13, cwp_14, cwu_0, cwu_R, cwu_1, cwu_2, cwu_3, vu_at, vu_ne, pk_us, pk_un, hn]
theorem Pr_add8 (hn : I 13 = nI 8) {x : Int32} : dcall 74 [.ref (c + 7), .int x] (cw σ c A R I) = some (none, cw σ c A R I) := by
  rw [q74]
  simp (disch := omega) only [e74_0, e74_1, e74_4, e74_7, e74_8, e74_11, e74_12, e74_15, e74_16, e74_19, e74_20, e74_23, e74_24, e74_27, e74_28, e74_29, e74_30, e74_31, e74_34, e74_35, e74_36, e74_39, kv_s, kh_s, kr_s, kr_v, kn_s, z0, z1, z2, nI_ltI, nI_leI, nI_eq, nI_add, oN, bz0, bz1, bw0, bw1, ltT, ltF, leT, leF, eqT, eqF, if_true, if_false, kI_n, wI_n, and_true, true_and, and_false, false_and, not_true, not_false_eq_true, cwo_1, cwr_1, cwg_0, cwg_1, cwg_2, cwa_0, cwl_0, cwo_3, cwr_3, cwg_3, cwa_R, cwl_R, cwo_5, cwr_5, cwg_4, cwg_5, cwg_6, cwg_7, cwg_8, cwa_1, cwl_1, cwo_7, cwr_7, cwg_9, cwg_10, cwg_11, cwg_12, cwg_13, cwa_2, cwl_2, cwo_17, cwr_17, cwg_14, cwa_3, cwl_3, cwp_0, cwp_1, cwp_2, cwp_3, cwp_4, cwp_5, cwp_6, cwp_7, cwp_8, cwp_9, cwp_10, cwp_11, cwp_12, cwp_13, cwp_14, cwu_0, cwu_R, cwu_1, cwu_2, cwu_3, vu_at, vu_ne, pk_us, pk_un, hn]
theorem Pr_markOf {n i : Nat} (hn : I 8 = nI n) (h : n ≤ 8) (hi : i < 2 ^ 31) : dcall 86 [.ref (c + 5), .int (nI i)] (cw σ c A R I) = some (some (.int (if i < n then A 1 i else nI 0)), cw σ c A R I) := by
  rw [q86]
  by_cases h1 : i < n
  · simp (disch := omega) only [e86_0, e86_1, e86_4, e86_5, e86_6, e86_9, e86_12, e86_13, e86_14, e86_17, e86_18, e86_21, e86_22, e86_25, e86_26, e86_27, e86_30, e86_31, kv_s, kh_s, kr_s, kr_v, kn_s, z0, z1, z2, nI_ltI, nI_leI, nI_eq, nI_add, oN, bz0, bz1, bw0, bw1, ltT, ltF, leT, leF, eqT, eqF, if_true, if_false, kI_n, wI_n, and_true, true_and, and_false, false_and, not_true, not_false_eq_true, cwo_1, cwr_1, cwg_0, cwg_1, cwg_2, cwa_0, cwl_0, cwo_3, cwr_3, cwg_3, cwa_R, cwl_R, cwo_5, cwr_5, cwg_4, cwg_5, cwg_6, cwg_7, cwg_8, cwa_1, cwl_1, cwo_7, cwr_7, cwg_9, cwg_10, cwg_11, cwg_12, cwg_13, cwa_2, cwl_2, cwo_17, cwr_17, cwg_14, cwa_3, cwl_3, cwp_0, cwp_1, cwp_2, cwp_3, cwp_4, cwp_5, cwp_6, cwp_7, cwp_8, cwp_9, cwp_10, cwp_11, cwp_12, cwp_13, cwp_14, cwu_0, cwu_R, cwu_1, cwu_2, cwu_3, vu_at, vu_ne, pk_us, pk_un, hn, h1]
  · simp (disch := omega) only [e86_0, e86_1, e86_4, e86_5, e86_6, e86_9, e86_12, e86_13, e86_14, e86_17, e86_18, e86_21, e86_22, e86_25, e86_26, e86_27, e86_30, e86_31, kv_s, kh_s, kr_s, kr_v, kn_s, z0, z1, z2, nI_ltI, nI_leI, nI_eq, nI_add, oN, bz0, bz1, bw0, bw1, ltT, ltF, leT, leF, eqT, eqF, if_true, if_false, kI_n, wI_n, and_true, true_and, and_false, false_and, not_true, not_false_eq_true, cwo_1, cwr_1, cwg_0, cwg_1, cwg_2, cwa_0, cwl_0, cwo_3, cwr_3, cwg_3, cwa_R, cwl_R, cwo_5, cwr_5, cwg_4, cwg_5, cwg_6, cwg_7, cwg_8, cwa_1, cwl_1, cwo_7, cwr_7, cwg_9, cwg_10, cwg_11, cwg_12, cwg_13, cwa_2, cwl_2, cwo_17, cwr_17, cwg_14, cwa_3, cwl_3, cwp_0, cwp_1, cwp_2, cwp_3, cwp_4, cwp_5, cwp_6, cwp_7, cwp_8, cwp_9, cwp_10, cwp_11, cwp_12, cwp_13, cwp_14, cwu_0, cwu_R, cwu_1, cwu_2, cwu_3, vu_at, vu_ne, pk_us, pk_un, hn, h1]
theorem Pr_change {n : Nat} (hn : I 8 = nI n) (h : n ≤ 8) {i : Nat} (hi : i < n) {x : Int32} : dcall 77 [.ref (c + 5), .int (nI i), .int x] (cw σ c A R I) = some (some (.int (nI 1)), cw σ c (va_up A 1 (upd (A 1) i x)) R I) := by
  rw [q77]
  simp (disch := omega) only [e77_0, e77_1, e77_4, e77_5, e77_6, e77_9, e77_12, e77_13, e77_14, e77_17, e77_18, e77_21, e77_22, e77_23, e77_24, e77_27, e77_28, e77_29, e77_30, e77_31, kv_s, kh_s, kr_s, kr_v, kn_s, z0, z1, z2, nI_ltI, nI_leI, nI_eq, nI_add, oN, bz0, bz1, bw0, bw1, ltT, ltF, leT, leF, eqT, eqF, if_true, if_false, kI_n, wI_n, and_true, true_and, and_false, false_and, not_true, not_false_eq_true, cwo_1, cwr_1, cwg_0, cwg_1, cwg_2, cwa_0, cwl_0, cwo_3, cwr_3, cwg_3, cwa_R, cwl_R, cwo_5, cwr_5, cwg_4, cwg_5, cwg_6, cwg_7, cwg_8, cwa_1, cwl_1, cwo_7, cwr_7, cwg_9, cwg_10, cwg_11, cwg_12, cwg_13, cwa_2, cwl_2, cwo_17, cwr_17, cwg_14, cwa_3, cwl_3, cwp_0, cwp_1, cwp_2, cwp_3, cwp_4, cwp_5, cwp_6, cwp_7, cwp_8, cwp_9, cwp_10, cwp_11, cwp_12, cwp_13, cwp_14, cwu_0, cwu_R, cwu_1, cwu_2, cwu_3, vu_at, vu_ne, pk_us, pk_un, hn]
theorem Pr_change0 {n : Nat} (hn : I 8 = nI n) (h : n ≤ 8) {i : Int32} (hi : i < nI 0 ∨ nI n ≤ i) {x : Int32} : dcall 77 [.ref (c + 5), .int i, .int x] (cw σ c A R I) = some (some (.int (nI 0)), cw σ c A R I) := by
  rw [q77]
  by_cases h1 : i < nI 0
  · simp (disch := omega) only [e77_0, e77_1, e77_4, e77_5, e77_6, e77_9, e77_12, e77_13, e77_14, e77_17, e77_18, e77_21, e77_22, e77_23, e77_24, e77_27, e77_28, e77_29, e77_30, e77_31, kv_s, kh_s, kr_s, kr_v, kn_s, z0, z1, z2, nI_ltI, nI_leI, nI_eq, nI_add, oN, bz0, bz1, bw0, bw1, ltT, ltF, leT, leF, eqT, eqF, if_true, if_false, kI_n, wI_n, and_true, true_and, and_false, false_and, not_true, not_false_eq_true, cwo_1, cwr_1, cwg_0, cwg_1, cwg_2, cwa_0, cwl_0, cwo_3, cwr_3, cwg_3, cwa_R, cwl_R, cwo_5, cwr_5, cwg_4, cwg_5, cwg_6, cwg_7, cwg_8, cwa_1, cwl_1, cwo_7, cwr_7, cwg_9, cwg_10, cwg_11, cwg_12, cwg_13, cwa_2, cwl_2, cwo_17, cwr_17, cwg_14, cwa_3, cwl_3, cwp_0, cwp_1, cwp_2, cwp_3, cwp_4, cwp_5, cwp_6, cwp_7, cwp_8, cwp_9, cwp_10, cwp_11, cwp_12, cwp_13, cwp_14, cwu_0, cwu_R, cwu_1, cwu_2, cwu_3, vu_at, vu_ne, pk_us, pk_un, hn, h1]
  · simp (disch := omega) only [e77_0, e77_1, e77_4, e77_5, e77_6, e77_9, e77_12, e77_13, e77_14, e77_17, e77_18, e77_21, e77_22, e77_23, e77_24, e77_27, e77_28, e77_29, e77_30, e77_31, kv_s, kh_s, kr_s, kr_v, kn_s, z0, z1, z2, nI_ltI, nI_leI, nI_eq, nI_add, oN, bz0, bz1, bw0, bw1, ltT, ltF, leT, leF, eqT, eqF, if_true, if_false, kI_n, wI_n, and_true, true_and, and_false, false_and, not_true, not_false_eq_true, cwo_1, cwr_1, cwg_0, cwg_1, cwg_2, cwa_0, cwl_0, cwo_3, cwr_3, cwg_3, cwa_R, cwl_R, cwo_5, cwr_5, cwg_4, cwg_5, cwg_6, cwg_7, cwg_8, cwa_1, cwl_1, cwo_7, cwr_7, cwg_9, cwg_10, cwg_11, cwg_12, cwg_13, cwa_2, cwl_2, cwo_17, cwr_17, cwg_14, cwa_3, cwl_3, cwp_0, cwp_1, cwp_2, cwp_3, cwp_4, cwp_5, cwp_6, cwp_7, cwp_8, cwp_9, cwp_10, cwp_11, cwp_12, cwp_13, cwp_14, cwu_0, cwu_R, cwu_1, cwu_2, cwu_3, vu_at, vu_ne, pk_us, pk_un, hn, h1, hi.resolve_left h1]
theorem Pr_take : dcall 82 [.ref (c + 5), .ref (c + 7)] (cw σ c A R I) = some (none, cw σ c (va_up A 1 (va_cpy (A 2) (A 1) 0 0 8)) R (upd (upd (upd (upd (upd I 4 (nI 1)) 5 (I 10)) 6 (I 11)) 7 (I 12)) 8 (I 13))) := by
  rw [q82]
  simp (disch := omega) only [e82_0, e82_1, e82_2, e82_5, e82_6, e82_9, e82_10, e82_13, e82_16, e82_17, e82_18, e82_21, e82_24, e82_25, e82_28, e82_29, e82_30, e82_33, e82_34, e82_35, e82_38, e82_39, e82_42, kv_s, kh_s, kr_s, kr_v, kn_s, cwo_1, cwr_1, cwg_0, cwg_1, cwg_2, cwa_0, cwl_0, cwo_3, cwr_3, cwg_3, cwa_R, cwl_R, cwo_5, cwr_5, cwg_4, cwg_5, cwg_6, cwg_7, cwg_8, cwa_1, cwl_1, cwo_7, cwr_7, cwg_9, cwg_10, cwg_11, cwg_12, cwg_13, cwa_2, cwl_2, cwo_17, cwr_17, cwg_14, cwa_3, cwl_3, cwp_0, cwp_1, cwp_2, cwp_3, cwp_4, cwp_5, cwp_6, cwp_7, cwp_8, cwp_9, cwp_10, cwp_11, cwp_12, cwp_13, cwp_14, cwu_0, cwu_R, cwu_1, cwu_2, cwu_3, vu_at, vu_ne, pk_us, pk_un, Pr_begin, if_true, oN, upd_upd]
  rw [wC_s (by decide)]
  simp (disch := omega) only [e82_0, e82_1, e82_2, e82_5, e82_6, e82_9, e82_10, e82_13, e82_16, e82_17, e82_18, e82_21, e82_24, e82_25, e82_28, e82_29, e82_30, e82_33, e82_34, e82_35, e82_38, e82_39, e82_42, kv_s, kh_s, kr_s, kr_v, kn_s, cwo_1, cwr_1, cwg_0, cwg_1, cwg_2, cwa_0, cwl_0, cwo_3, cwr_3, cwg_3, cwa_R, cwl_R, cwo_5, cwr_5, cwg_4, cwg_5, cwg_6, cwg_7, cwg_8, cwa_1, cwl_1, cwo_7, cwr_7, cwg_9, cwg_10, cwg_11, cwg_12, cwg_13, cwa_2, cwl_2, cwo_17, cwr_17, cwg_14, cwa_3, cwl_3, cwp_0, cwp_1, cwp_2, cwp_3, cwp_4, cwp_5, cwp_6, cwp_7, cwp_8, cwp_9, cwp_10, cwp_11, cwp_12, cwp_13, cwp_14, cwu_0, cwu_R, cwu_1, cwu_2, cwu_3, vu_at, vu_ne, pk_us, pk_un, show Int32.toNatClampNeg 0 = 0 from rfl, show (nI 8).toNatClampNeg = 8 by decide +kernel]
end TX
