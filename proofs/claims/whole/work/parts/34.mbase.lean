/-! the reference: values, versions, marks laid -/
def nowM (N : Nat → Int32) (d f l : Nat) (V : Nat → Nat → Int32) : Prop := N 0 = nI d ∧ N 1 = nI f ∧ N 2 = nI (l - f + 1) ∧ d ≤ 8 ∧ f ≤ l ∧ l < f + 12 ∧ l < 2 ^ 30 ∧ ∀ v k, f ≤ v → v ≤ l → k < 256 → N (3 + 256 * (v - f) + k) = V v k
/-- plain values -/
def plW (d : Nat) (W : Nat → Int32) : Prop := ∀ k, k < 2 ^ d → ∃ n, n ≤ 999 ∧ W k = nI n
theorem plW.ge {d : Nat} {W : Nat → Int32} (h : plW d W) {k : Nat} (hk : k < 2 ^ d) : (nI 0 < W k) = ¬ W k = nI 0 := by
  obtain ⟨n, h1, h2⟩ := h k hk
  rw [h2]
  simp (disch := omega) only [nI_ltI, nI_eq]
  exact propext (by omega)
theorem ite_bit {P : Prop} [Decidable P] : ((if P then nI 1 else nI 0) &&& nI 1 = if P then nI 1 else nI 0) = True := by
  split
  · exact eq_true rfl
  · exact eq_true rfl
section MB
variable {σ : Hp} {m : Nat} {A : Nat → Nat → Int32} {R : Nat → Int64} {I : Nat → Int32} {d f l : Nat} {V : Nat → Nat → Int32}
theorem M_in {x y z : Int32} : dcall 141 [.int x, .int y, .int z] σ = some (some (.int (if y ≤ x ∧ x ≤ z then nI 1 else nI 0)), σ) := by
  rw [q141]
  by_cases h1 : x < y
  · have h2 : ¬ y ≤ x := Int32.not_le.mpr h1
    simp only [e141_0, e141_1, e141_2, e141_5, e141_6, e141_7, e141_10, e141_11, e141_14, e141_15, kv_s, kh_s, kr_s, kr_v, kn_s, z0, z1, z2, nI_ltI, nI_leI, nI_eq, nI_add, oN, bz0, bz1, bw0, bw1, ltT, ltF, leT, leF, eqT, eqF, if_true, if_false, kI_n, wI_n, and_true, true_and, and_false, false_and, not_true, not_false_eq_true, h1, h2]
  · have h2 : y ≤ x := Int32.not_lt.mp h1
    by_cases h3 : z < x
    · have h4 : ¬ x ≤ z := Int32.not_le.mpr h3
      simp only [e141_0, e141_1, e141_2, e141_5, e141_6, e141_7, e141_10, e141_11, e141_14, e141_15, kv_s, kh_s, kr_s, kr_v, kn_s, z0, z1, z2, nI_ltI, nI_leI, nI_eq, nI_add, oN, bz0, bz1, bw0, bw1, ltT, ltF, leT, leF, eqT, eqF, if_true, if_false, kI_n, wI_n, and_true, true_and, and_false, false_and, not_true, not_false_eq_true, h1, h2, h3, h4]
    · have h4 : x ≤ z := Int32.not_lt.mp h3
      simp only [e141_0, e141_1, e141_2, e141_5, e141_6, e141_7, e141_10, e141_11, e141_14, e141_15, kv_s, kh_s, kr_s, kr_v, kn_s, z0, z1, z2, nI_ltI, nI_leI, nI_eq, nI_add, oN, bz0, bz1, bw0, bw1, ltT, ltF, leT, leF, eqT, eqF, if_true, if_false, kI_n, wI_n, and_true, true_and, and_false, false_and, not_true, not_false_eq_true, h1, h2, h3, h4]
theorem M_hash {a b : Int32} : dcall 180 [.int a, .int b] σ = some (some (.int (hs a b)), σ) := by
  rw [q180]
  simp only [e180_0, e180_2, e180_3, e180_4, e180_5, e180_6, e180_8, e180_9, e180_11, e180_12, e180_13, e180_14, e180_15, e180_17, e180_18, e180_19]
  rfl
theorem M_leaf {k : Nat} {v : Int32} : dcall 179 [.int (nI k), .int v] σ = some (some (.int (lf k v)), σ) := by
  rw [q179]
  unfold lf
  by_cases h : v = nI 0
  · simp only [e179_0, e179_1, e179_4, e179_5, e179_8, e179_9, e179_10, e179_11, e179_12, e179_15, kv_s, kh_s, kr_s, kr_v, kn_s, z0, z1, z2, nI_ltI, nI_leI, nI_eq, nI_add, oN, bz0, bz1, bw0, bw1, ltT, ltF, leT, leF, eqT, eqF, if_true, if_false, kI_n, wI_n, and_true, true_and, and_false, false_and, not_true, not_false_eq_true, h]
  · simp only [e179_0, e179_1, e179_4, e179_5, e179_8, e179_9, e179_10, e179_11, e179_12, e179_15, kv_s, kh_s, kr_s, kr_v, kn_s, z0, z1, z2, nI_ltI, nI_leI, nI_eq, nI_add, oN, bz0, bz1, bw0, bw1, ltT, ltF, leT, leF, eqT, eqF, if_true, if_false, kI_n, wI_n, and_true, true_and, and_false, false_and, not_true, not_false_eq_true, h, M_hash]
theorem M_depth (h : nowM (A 1) d f l V) : dcall 169 [.ref m] (mw σ m A R I) = some (some (.int (nI d)), mw σ m A R I) := by
  rw [q169]
  simp (disch := omega) only [e169_0, e169_1, e169_4, e169_5, e169_6, kv_s, kh_s, kr_s, kr_v, kn_s, z0, z1, z2, nI_ltI, nI_leI, nI_eq, nI_add, oN, bz0, bz1, bw0, bw1, ltT, ltF, leT, leF, eqT, eqF, if_true, if_false, kI_n, wI_n, and_true, true_and, and_false, false_and, not_true, not_false_eq_true, mwo, mwr_0, mwr_1, mwr_2, mwg_3, mwp_3, mwr_4, mwg_5, mwp_5, mwg_6, mwp_6, mwr_7, mwr_8, mwg_9, mwp_9, mwg_10, mwp_10, mwg_11, mwp_11, mwr_12, mwg_13, mwp_13, mwr_14, mwr_15, mwr_16, mwr_17, mwr_18, mwr_19, mwg_20, mwp_20, mwr_21, mwr_22, mwr_23, mwa_1, mwu_1, mwa_2, mwu_2, mwa_3, mwu_3, mwa_4, mwu_4, mwa_5, mwu_5, mwa_6, mwu_6, mwa_7, mwu_7, mwa_8, mwu_8, mwa_9, mwu_9, mwa_10, mwu_10, mwa_11, mwu_11, mwa_12, mwu_12, mwa_13, mwu_13, mwa_14, mwu_14, mwa_15, mwu_15, mwa_16, mwu_16, vu_at, vu_ne, pk_us, pk_un, kB_n, wB_n, kL_n, wL_n, h.1]
theorem M_keys (h : nowM (A 1) d f l V) : dcall 158 [.ref m] (mw σ m A R I) = some (some (.int (nI (2 ^ d))), mw σ m A R I) := by
  have hd := h.2.2.2.1
  rw [q158]
  simp (disch := omega) only [e158_0, e158_1, e158_2, e158_5, e158_6, e158_7, e158_8, kv_s, kh_s, kr_s, kr_v, kn_s, z0, z1, z2, nI_ltI, nI_leI, nI_eq, nI_add, oN, bz0, bz1, bw0, bw1, ltT, ltF, leT, leF, eqT, eqF, if_true, if_false, kI_n, wI_n, and_true, true_and, and_false, false_and, not_true, not_false_eq_true, mwo, mwr_0, mwr_1, mwr_2, mwg_3, mwp_3, mwr_4, mwg_5, mwp_5, mwg_6, mwp_6, mwr_7, mwr_8, mwg_9, mwp_9, mwg_10, mwp_10, mwg_11, mwp_11, mwr_12, mwg_13, mwp_13, mwr_14, mwr_15, mwr_16, mwr_17, mwr_18, mwr_19, mwg_20, mwp_20, mwr_21, mwr_22, mwr_23, mwa_1, mwu_1, mwa_2, mwu_2, mwa_3, mwu_3, mwa_4, mwu_4, mwa_5, mwu_5, mwa_6, mwu_6, mwa_7, mwu_7, mwa_8, mwu_8, mwa_9, mwu_9, mwa_10, mwu_10, mwa_11, mwu_11, mwa_12, mwu_12, mwa_13, mwu_13, mwa_14, mwu_14, mwa_15, mwu_15, mwa_16, mwu_16, vu_at, vu_ne, pk_us, pk_un, kB_n, wB_n, kL_n, wL_n, h.1, shl_nI]
theorem M_isKey (h : nowM (A 1) d f l V) {x : Int32} : dcall 172 [.ref m, .int x] (mw σ m A R I) = some (some (.int (if isK d x = true then nI 1 else nI 0)), mw σ m A R I) := by
  have hd := h.2.2.2.1
  have hK : 2 ^ d ≤ 256 := Nat.pow_le_pow_right (by omega) hd
  have hK1 : 1 ≤ 2 ^ d := Nat.one_le_two_pow
  have e : (nI 0 ≤ x ∧ x ≤ nI (2 ^ d - 1)) = (isK d x = true) := propext ⟨fun z => by
      obtain ⟨j, hj, rfl⟩ := nI_of (x := x) (Int32.not_lt.mpr z.1)
      exact isK_k hd (by have := (nI_leI hj (by omega)).mp z.2; omega), fun z => by
      obtain ⟨k, hk, rfl⟩ := isK_of hd z
      exact ⟨nI_le (Nat.zero_le _) (by omega), nI_le (by omega) (by omega)⟩⟩
  rw [q172]
  simp (disch := omega) only [e172_0, e172_1, e172_2, e172_3, e172_6, e172_7, e172_8, e172_11, kv_s, kh_s, kr_s, kr_v, kn_s, z0, z1, z2, nI_ltI, nI_leI, nI_eq, nI_add, oN, bz0, bz1, bw0, bw1, ltT, ltF, leT, leF, eqT, eqF, if_true, if_false, kI_n, wI_n, and_true, true_and, and_false, false_and, not_true, not_false_eq_true, mwo, M_keys h, pk_sub, M_in, e, ite_bit]
theorem M_latest (h : nowM (A 1) d f l V) : dcall 159 [.ref m] (mw σ m A R I) = some (some (.int (nI l)), mw σ m A R I) := by
  obtain ⟨h0, h1, h2, h3, h4, h5, h6, h7⟩ := h
  have e : nI (f + (l - f + 1)) - nI 1 = nI l := by rw [pk_sub (by omega), show f + (l - f + 1) - 1 = l by omega]
  rw [q159]
  simp (disch := omega) only [e159_0, e159_1, e159_4, e159_5, e159_6, e159_7, e159_10, e159_11, e159_12, e159_13, e159_14, e159_15, kv_s, kh_s, kr_s, kr_v, kn_s, z0, z1, z2, nI_ltI, nI_leI, nI_eq, nI_add, oN, bz0, bz1, bw0, bw1, ltT, ltF, leT, leF, eqT, eqF, if_true, if_false, kI_n, wI_n, and_true, true_and, and_false, false_and, not_true, not_false_eq_true, mwo, mwr_0, mwr_1, mwr_2, mwg_3, mwp_3, mwr_4, mwg_5, mwp_5, mwg_6, mwp_6, mwr_7, mwr_8, mwg_9, mwp_9, mwg_10, mwp_10, mwg_11, mwp_11, mwr_12, mwg_13, mwp_13, mwr_14, mwr_15, mwr_16, mwr_17, mwr_18, mwr_19, mwg_20, mwp_20, mwr_21, mwr_22, mwr_23, mwa_1, mwu_1, mwa_2, mwu_2, mwa_3, mwu_3, mwa_4, mwu_4, mwa_5, mwu_5, mwa_6, mwu_6, mwa_7, mwu_7, mwa_8, mwu_8, mwa_9, mwu_9, mwa_10, mwu_10, mwa_11, mwu_11, mwa_12, mwu_12, mwa_13, mwu_13, mwa_14, mwu_14, mwa_15, mwu_15, mwa_16, mwu_16, vu_at, vu_ne, pk_us, pk_un, kB_n, wB_n, kL_n, wL_n, h1, h2, e]
theorem M_isVersion (h : nowM (A 1) d f l V) {x : Int32} : dcall 175 [.ref m, .int x] (mw σ m A R I) = some (some (.int (if nI f ≤ x ∧ x ≤ nI l then nI 1 else nI 0)), mw σ m A R I) := by
  rw [q175]
  simp (disch := omega) only [e175_0, e175_1, e175_2, e175_5, e175_6, e175_7, e175_8, e175_11, e175_14, kv_s, kh_s, kr_s, kr_v, kn_s, z0, z1, z2, nI_ltI, nI_leI, nI_eq, nI_add, oN, bz0, bz1, bw0, bw1, ltT, ltF, leT, leF, eqT, eqF, if_true, if_false, kI_n, wI_n, and_true, true_and, and_false, false_and, not_true, not_false_eq_true, mwo, mwr_0, mwr_1, mwr_2, mwg_3, mwp_3, mwr_4, mwg_5, mwp_5, mwg_6, mwp_6, mwr_7, mwr_8, mwg_9, mwp_9, mwg_10, mwp_10, mwg_11, mwp_11, mwr_12, mwg_13, mwp_13, mwr_14, mwr_15, mwr_16, mwr_17, mwr_18, mwr_19, mwg_20, mwp_20, mwr_21, mwr_22, mwr_23, mwa_1, mwu_1, mwa_2, mwu_2, mwa_3, mwu_3, mwa_4, mwu_4, mwa_5, mwu_5, mwa_6, mwu_6, mwa_7, mwu_7, mwa_8, mwu_8, mwa_9, mwu_9, mwa_10, mwu_10, mwa_11, mwu_11, mwa_12, mwu_12, mwa_13, mwu_13, mwa_14, mwu_14, mwa_15, mwu_15, mwa_16, mwu_16, vu_at, vu_ne, pk_us, pk_un, kB_n, wB_n, kL_n, wL_n, h.2.1, M_latest h, M_in, ite_bit]
theorem M_ver (h : nowM (A 1) d f l V) {v : Nat} (h1 : f ≤ v) (h2 : v ≤ l) : dcall 175 [.ref m, .int (nI v)] (mw σ m A R I) = some (some (.int (nI 1)), mw σ m A R I) := by
  have hl := h.2.2.2.2.2.2.1
  rw [M_isVersion h, if_pos ⟨nI_le h1 (by omega), nI_le h2 (by omega)⟩]
theorem M_ver0 (h : nowM (A 1) d f l V) {x : Int32} (hx : x < nI f ∨ nI l < x) : dcall 175 [.ref m, .int x] (mw σ m A R I) = some (some (.int (nI 0)), mw σ m A R I) := by
  rw [M_isVersion h, if_neg]
  rintro ⟨z1, z2⟩
  rcases hx with hx | hx
  · exact absurd z1 (Int32.not_le.mpr hx)
  · exact absurd z2 (Int32.not_le.mpr hx)
theorem M_at (h : nowM (A 1) d f l V) {v k : Nat} (h1 : f ≤ v) : dcall 162 [.ref m, .int (nI v), .int (nI k)] (mw σ m A R I) = some (some (.int (nI (3 + 256 * (v - f) + k))), mw σ m A R I) := by
  rw [q162]
  simp (disch := omega) only [e162_0, e162_1, e162_4, e162_5, e162_6, e162_9, e162_10, e162_11, e162_12, e162_13, e162_14, e162_15, e162_16, kv_s, kh_s, kr_s, kr_v, kn_s, z0, z1, z2, nI_ltI, nI_leI, nI_eq, nI_add, oN, bz0, bz1, bw0, bw1, ltT, ltF, leT, leF, eqT, eqF, if_true, if_false, kI_n, wI_n, and_true, true_and, and_false, false_and, not_true, not_false_eq_true, mwo, mwr_0, mwr_1, mwr_2, mwg_3, mwp_3, mwr_4, mwg_5, mwp_5, mwg_6, mwp_6, mwr_7, mwr_8, mwg_9, mwp_9, mwg_10, mwp_10, mwg_11, mwp_11, mwr_12, mwg_13, mwp_13, mwr_14, mwr_15, mwr_16, mwr_17, mwr_18, mwr_19, mwg_20, mwp_20, mwr_21, mwr_22, mwr_23, mwa_1, mwu_1, mwa_2, mwu_2, mwa_3, mwu_3, mwa_4, mwu_4, mwa_5, mwu_5, mwa_6, mwu_6, mwa_7, mwu_7, mwa_8, mwu_8, mwa_9, mwu_9, mwa_10, mwu_10, mwa_11, mwu_11, mwa_12, mwu_12, mwa_13, mwu_13, mwa_14, mwu_14, mwa_15, mwu_15, mwa_16, mwu_16, vu_at, vu_ne, pk_us, pk_un, kB_n, wB_n, kL_n, wL_n, z3, z256, h.2.1, pk_sub, pk_mul]
theorem M_value (h : nowM (A 1) d f l V) {v k : Nat} (h1 : f ≤ v) (h2 : v ≤ l) (hk : k < 256) : dcall 161 [.ref m, .int (nI v), .int (nI k)] (mw σ m A R I) = some (some (.int (V v k)), mw σ m A R I) := by
  have h5 := h.2.2.2.2.2.1
  have e := h.2.2.2.2.2.2.2 v k h1 h2 hk
  rw [q161]
  simp (disch := omega) only [e161_0, e161_1, e161_4, e161_5, e161_6, e161_7, e161_10, e161_11, kv_s, kh_s, kr_s, kr_v, kn_s, z0, z1, z2, nI_ltI, nI_leI, nI_eq, nI_add, oN, bz0, bz1, bw0, bw1, ltT, ltF, leT, leF, eqT, eqF, if_true, if_false, kI_n, wI_n, and_true, true_and, and_false, false_and, not_true, not_false_eq_true, mwo, mwr_0, mwr_1, mwr_2, mwg_3, mwp_3, mwr_4, mwg_5, mwp_5, mwg_6, mwp_6, mwr_7, mwr_8, mwg_9, mwp_9, mwg_10, mwp_10, mwg_11, mwp_11, mwr_12, mwg_13, mwp_13, mwr_14, mwr_15, mwr_16, mwr_17, mwr_18, mwr_19, mwg_20, mwp_20, mwr_21, mwr_22, mwr_23, mwa_1, mwu_1, mwa_2, mwu_2, mwa_3, mwu_3, mwa_4, mwu_4, mwa_5, mwu_5, mwa_6, mwu_6, mwa_7, mwu_7, mwa_8, mwu_8, mwa_9, mwu_9, mwa_10, mwu_10, mwa_11, mwu_11, mwa_12, mwu_12, mwa_13, mwu_13, mwa_14, mwu_14, mwa_15, mwu_15, mwa_16, mwu_16, vu_at, vu_ne, pk_us, pk_un, kB_n, wB_n, kL_n, wL_n, mwo, M_at h, e]
theorem M_tell {L : List Int64} {n : Nat} {x : Int64} (hn : L.length = n) (h : n < 600) : dcall 168 [.ref m, .long x] (mw σ m A (rl R L) (upd I 5 (nI n))) = some (none, mw σ m A (rl R (L ++ [x])) (upd I 5 (nI (n + 1)))) := by
  subst hn
  rw [q168, ← rl_add]
  simp (disch := omega) only [e168_0, e168_1, e168_4, e168_5, e168_8, e168_9, e168_10, e168_11, e168_12, e168_15, e168_16, e168_17, e168_20, kv_s, kh_s, kr_s, kr_v, kn_s, z0, z1, z2, nI_ltI, nI_leI, nI_eq, nI_add, oN, bz0, bz1, bw0, bw1, ltT, ltF, leT, leF, eqT, eqF, if_true, if_false, kI_n, wI_n, and_true, true_and, and_false, false_and, not_true, not_false_eq_true, mwo, mwr_0, mwr_1, mwr_2, mwg_3, mwp_3, mwr_4, mwg_5, mwp_5, mwg_6, mwp_6, mwr_7, mwr_8, mwg_9, mwp_9, mwg_10, mwp_10, mwg_11, mwp_11, mwr_12, mwg_13, mwp_13, mwr_14, mwr_15, mwr_16, mwr_17, mwr_18, mwr_19, mwg_20, mwp_20, mwr_21, mwr_22, mwr_23, mwa_1, mwu_1, mwa_2, mwu_2, mwa_3, mwu_3, mwa_4, mwu_4, mwa_5, mwu_5, mwa_6, mwu_6, mwa_7, mwu_7, mwa_8, mwu_8, mwa_9, mwu_9, mwa_10, mwu_10, mwa_11, mwu_11, mwa_12, mwu_12, mwa_13, mwu_13, mwa_14, mwu_14, mwa_15, mwu_15, mwa_16, mwu_16, vu_at, vu_ne, pk_us, pk_un, kB_n, wB_n, kL_n, wL_n, upd_upd]
theorem M_tell0 {x : Int64} : dcall 168 [.ref m, .long x] (mw σ m A R (upd I 5 (nI 0))) = some (none, mw σ m A (rl R [x]) (upd I 5 (nI 1))) := M_tell (R := R) (L := []) (n := 0) rfl (by omega)
theorem M_place (h : nowM (A 1) d f l V) {j i : Nat} (hj : j ≤ d) : dcall 183 [.ref m, .int (nI j), .int (nI i)] (mw σ m A R I) = some (some (.int (nI (2 ^ (d - j) + i))), mw σ m A R I) := by
  have hd := h.2.2.2.1
  rw [q183]
  simp (disch := omega) only [e183_0, e183_1, e183_2, e183_5, e183_6, e183_7, e183_8, e183_9, e183_10, kv_s, kh_s, kr_s, kr_v, kn_s, z0, z1, z2, nI_ltI, nI_leI, nI_eq, nI_add, oN, bz0, bz1, bw0, bw1, ltT, ltF, leT, leF, eqT, eqF, if_true, if_false, kI_n, wI_n, and_true, true_and, and_false, false_and, not_true, not_false_eq_true, mwo, M_depth h, pk_sub, shl_nI]
theorem un_all {d : Nat} {W : Nat → Int32} : un d W 1 = cnt (fun k => decide (nI 0 < W k)) 0 (2 ^ d) := by
  have := un_cnt (d := d) (V := W) d 1 ⟨Nat.le_refl _, by rw [Nat.sub_self]; exact Nat.le_refl _, by rw [Nat.sub_self]; omega⟩
  rw [this, Nat.one_mul, Nat.sub_self]
theorem M_valued_loop (h : nowM (A 1) d f l V) {v : Nat} (h1 : f ≤ v) (h2 : v ≤ l) : ∀ (n k : Nat), k + n = 2 ^ d → den 181 4 [.ref m, .int (nI v), .int (nI (cnt (fun k => decide (nI 0 < V v k)) 0 k)), .int (nI k)] [] (mw σ m A R I) = some (some (.int (nI (un d (V v) 1))), mw σ m A R I) := by
  have hd := h.2.2.2.1
  have hK : 2 ^ d ≤ 256 := Nat.pow_le_pow_right (by omega) hd
  intro n
  induction n with
  | zero =>
    intro k hk
    have : k = 2 ^ d := by omega
    subst this
    rw [e181_4, un_all]
    simp (disch := omega) only [e181_0, e181_1, e181_2, e181_3, e181_5, e181_6, e181_9, e181_12, e181_13, e181_14, e181_15, e181_16, e181_19, e181_22, e181_23, e181_26, e181_27, e181_28, e181_29, e181_32, e181_35, e181_36, kv_s, kh_s, kr_s, kr_v, kn_s, z0, z1, z2, nI_ltI, nI_leI, nI_eq, nI_add, oN, bz0, bz1, bw0, bw1, ltT, ltF, leT, leF, eqT, eqF, if_true, if_false, kI_n, wI_n, and_true, true_and, and_false, false_and, not_true, not_false_eq_true, mwo, M_keys h]
  | succ n ih =>
    intro k hk
    rw [← ih (k + 1) (by omega)]
    rw [e181_4]
    have e : cnt (fun k => decide (nI 0 < V v k)) 0 (k + 1) = cnt (fun k => decide (nI 0 < V v k)) 0 k + if nI 0 < V v k then 1 else 0 := by
      show _ + (if decide (nI 0 < V v (0 + k)) = true then 1 else 0) = _
      simp only [Nat.zero_add, decide_eq_true_eq]
    rw [e]
    by_cases h3 : V v k ≤ nI 0
    · have h4 : ¬ nI 0 < V v k := Int32.not_lt.mpr h3
      simp (disch := omega) only [e181_0, e181_1, e181_2, e181_3, e181_5, e181_6, e181_9, e181_12, e181_13, e181_14, e181_15, e181_16, e181_19, e181_22, e181_23, e181_26, e181_27, e181_28, e181_29, e181_32, e181_35, e181_36, kv_s, kh_s, kr_s, kr_v, kn_s, z0, z1, z2, nI_ltI, nI_leI, nI_eq, nI_add, oN, bz0, bz1, bw0, bw1, ltT, ltF, leT, leF, eqT, eqF, if_true, if_false, kI_n, wI_n, and_true, true_and, and_false, false_and, not_true, not_false_eq_true, mwo, M_keys h, M_value h h1 h2, h3, h4, Nat.add_zero]
    · have h4 : nI 0 < V v k := Int32.not_le.mp h3
      simp (disch := omega) only [e181_0, e181_1, e181_2, e181_3, e181_5, e181_6, e181_9, e181_12, e181_13, e181_14, e181_15, e181_16, e181_19, e181_22, e181_23, e181_26, e181_27, e181_28, e181_29, e181_32, e181_35, e181_36, kv_s, kh_s, kr_s, kr_v, kn_s, z0, z1, z2, nI_ltI, nI_leI, nI_eq, nI_add, oN, bz0, bz1, bw0, bw1, ltT, ltF, leT, leF, eqT, eqF, if_true, if_false, kI_n, wI_n, and_true, true_and, and_false, false_and, not_true, not_false_eq_true, mwo, M_keys h, M_value h h1 h2, h3, h4]
theorem M_valued (h : nowM (A 1) d f l V) {v : Nat} (h1 : f ≤ v) (h2 : v ≤ l) : dcall 181 [.ref m, .int (nI v)] (mw σ m A R I) = some (some (.int (nI (un d (V v) 1))), mw σ m A R I) := by
  rw [q181]
  simp only [e181_0, e181_1, e181_2, e181_3, e181_5, e181_6, e181_9, e181_12, e181_13, e181_14, e181_15, e181_16, e181_19, e181_22, e181_23, e181_26, e181_27, e181_28, e181_29, e181_32, e181_35, e181_36, kv_s, kh_s, kr_s, kr_v, kn_s, z0, z1, z2, nI_ltI, nI_leI, nI_eq, nI_add, oN, bz0, bz1, bw0, bw1, ltT, ltF, leT, leF, eqT, eqF, if_true, if_false, kI_n, wI_n, and_true, true_and, and_false, false_and, not_true, not_false_eq_true]
  exact M_valued_loop h h1 h2 _ 0 (Nat.zero_add _)
/-- marks and bareness laid -/
def lA (A : Nat → Nat → Int32) (M B : Nat → Int32) : Nat → Nat → Int32 := fun i => if i = 5 then M else if i = 6 then B else A i
theorem lA_5 {M B : Nat → Int32} : lA A M B 5 = M := rfl
theorem lA_6 {M B : Nat → Int32} : lA A M B 6 = B := rfl
theorem lA_o {M B : Nat → Int32} {i : Nat} (h1 : i ≠ 5) (h2 : i ≠ 6) : lA A M B i = A i := by rw [lA, if_neg h1, if_neg h2]
theorem lA_u5 {M B M' : Nat → Int32} : va_up (lA A M B) 5 M' = lA A M' B := by
  funext i
  by_cases h : i = 5
  · subst h; rw [vu_at]; rfl
  · rw [vu_ne h, lA, lA, if_neg h, if_neg h]
theorem lA_u6 {M B B' : Nat → Int32} : va_up (lA A M B) 6 B' = lA A M B' := by
  funext i
  by_cases h : i = 6
  · subst h; rw [vu_at]; rfl
  · rw [vu_ne h, lA, lA, if_neg h, if_neg h]
theorem lA_id : lA A (A 5) (A 6) = A := by
  funext i
  unfold lA
  by_cases h : i = 5
  · subst h; rfl
  · by_cases h2 : i = 6
    · subst h2; rfl
    · rw [if_neg h, if_neg h2]
theorem lA_lA {M B M' B' : Nat → Int32} : lA (lA A M B) M' B' = lA A M' B' := by
  funext i
  unfold lA
  by_cases h : i = 5
  · rw [if_pos h, if_pos h]
  · by_cases h2 : i = 6
    · rw [if_neg h, if_pos h2, if_neg h, if_pos h2]
    · rw [if_neg h, if_neg h2, if_neg h, if_neg h2, if_neg h, if_neg h2]
theorem vnb0 : vp_nar (zG 4) (nI 0) = nI 0 := by decide +kernel
theorem vnb1 : vp_nar (zG 4) (nI 1) = nI 1 := by decide +kernel
/-- bareness as the reference keeps it -/
def bI (b : Bool) : Int32 := if b = true then nI 1 else nI 0
theorem br_leaf {d k : Nat} {W : Nat → Int32} (hW : plW d W) (hk : k < 2 ^ d) : br d W (2 ^ d + k) = decide (W k = nI 0) := by
  unfold br
  rw [un_leaf hk]
  by_cases h : W k = nI 0
  · have : ¬ nI 0 < W k := by rw [hW.ge hk]; exact fun z => z h
    rw [if_neg this, decide_eq_true h]; rfl
  · have : nI 0 < W k := by rw [hW.ge hk]; exact h
    rw [if_pos this, decide_eq_false h]; rfl
theorem br_node {d p : Nat} {W : Nat → Int32} (h1 : 1 ≤ p) (h2 : p < 2 ^ d) : br d W p = (br d W (2 * p) && br d W (2 * p + 1)) := by
  unfold br
  rw [un_node h1 h2]
  by_cases a : un d W (2 * p) = 0 <;> by_cases b : un d W (2 * p + 1) = 0
  · rw [decide_eq_true a, decide_eq_true b, decide_eq_true (by omega)]; rfl
  · rw [decide_eq_false b, decide_eq_false (by omega), Bool.and_false]
  · rw [decide_eq_false a, decide_eq_false (by omega), Bool.false_and]
  · rw [decide_eq_false a, decide_eq_false (by omega), Bool.false_and]
/-- what is laid -/
def laid (d : Nat) (W : Nat → Int32) (M B : Nat → Int32) (a : Nat) : Prop := ∀ p, a ≤ p → p < 2 * 2 ^ d → M p = mk d W p ∧ B p = bI (br d W p)
theorem M_lay_loop2 (h : nowM (A 1) d f l V) {W : Nat → Int32} {x : Value} : ∀ (n : Nat) (M B : Nat → Int32), n < 2 ^ d → laid d W M B (n + 1) → ∃ M' B', den 178 69 [.ref m, x, .int (nI n)] [] (mw σ m (lA A M B) R I) = some (none, mw σ m (lA A M' B') R I) ∧ laid d W M' B' 1 := by
  have hd := h.2.2.2.1
  have hK : 2 ^ d ≤ 256 := Nat.pow_le_pow_right (by omega) hd
  intro n
  induction n with
  | zero =>
    intro M B hn hl
    refine ⟨M, B, ?_, hl⟩
    rw [e178_69]
    simp (disch := omega) only [e178_70, e178_73, e178_74, e178_77, e178_78, e178_79, e178_82, e178_83, e178_84, e178_85, e178_86, e178_87, e178_90, e178_91, e178_92, e178_93, e178_94, e178_95, e178_96, e178_99, e178_100, e178_101, e178_104, e178_105, e178_106, e178_109, e178_110, e178_111, e178_112, e178_113, e178_116, e178_117, e178_120, e178_121, e178_122, e178_123, e178_124, e178_125, e178_126, e178_129, e178_130, e178_133, e178_134, e178_135, e178_138, e178_141, kv_s, kh_s, kr_s, kr_v, kn_s, z0, z1, z2, nI_ltI, nI_leI, nI_eq, nI_add, oN, bz0, bz1, bw0, bw1, ltT, ltF, leT, leF, eqT, eqF, if_true, if_false, kI_n, wI_n, and_true, true_and, and_false, false_and, not_true, not_false_eq_true]
  | succ n ih =>
    intro M B hn hl
    have g1 := hl (2 * (n + 1)) (by omega) (by omega)
    have g2 := hl (2 * (n + 1) + 1) (by omega) (by omega)
    have hl' : laid d W (upd M (n + 1) (hs (mk d W (2 * (n + 1))) (mk d W (2 * (n + 1) + 1)))) (upd B (n + 1) (bI (br d W (n + 1)))) (n + 1) := fun p q1 q2 => by
      by_cases hp : p = n + 1
      · subst hp
        rw [pk_us, pk_us, mk_node (by omega) hn]
        exact ⟨rfl, rfl⟩
      · rw [pk_un hp, pk_un hp]
        exact hl p (by omega) q2
    obtain ⟨M', B', e1, e2⟩ := ih _ _ (by omega) hl'
    refine ⟨M', B', ?_, e2⟩
    rw [← e1]
    rw [e178_69]
    have b0 : ¬ nI (n + 1) ≤ nI 0 := nI_ge (by omega) (by omega)
    rw [br_node (p := n + 1) (by omega) hn]
    cases h3 : br d W (2 * (n + 1)) with
    | false =>
      rw [h3] at g1
      simp (disch := omega) only [e178_70, e178_73, e178_74, e178_77, e178_78, e178_79, e178_82, e178_83, e178_84, e178_85, e178_86, e178_87, e178_90, e178_91, e178_92, e178_93, e178_94, e178_95, e178_96, e178_99, e178_100, e178_101, e178_104, e178_105, e178_106, e178_109, e178_110, e178_111, e178_112, e178_113, e178_116, e178_117, e178_120, e178_121, e178_122, e178_123, e178_124, e178_125, e178_126, e178_129, e178_130, e178_133, e178_134, e178_135, e178_138, kv_s, kh_s, kr_s, kr_v, kn_s, z0, z1, z2, nI_ltI, nI_leI, nI_eq, nI_add, oN, bz0, bz1, bw0, bw1, ltT, ltF, leT, leF, eqT, eqF, if_true, if_false, kI_n, wI_n, and_true, true_and, and_false, false_and, not_true, not_false_eq_true, mwo, mwr_0, mwr_1, mwr_2, mwg_3, mwp_3, mwr_4, mwg_5, mwp_5, mwg_6, mwp_6, mwr_7, mwr_8, mwg_9, mwp_9, mwg_10, mwp_10, mwg_11, mwp_11, mwr_12, mwg_13, mwp_13, mwr_14, mwr_15, mwr_16, mwr_17, mwr_18, mwr_19, mwg_20, mwp_20, mwr_21, mwr_22, mwr_23, mwa_1, mwu_1, mwa_2, mwu_2, mwa_3, mwu_3, mwa_4, mwu_4, mwa_5, mwu_5, mwa_6, mwu_6, mwa_7, mwu_7, mwa_8, mwu_8, mwa_9, mwu_9, mwa_10, mwu_10, mwa_11, mwu_11, mwa_12, mwu_12, mwa_13, mwu_13, mwa_14, mwu_14, mwa_15, mwu_15, mwa_16, mwu_16, vu_at, vu_ne, pk_us, pk_un, kB_n, wB_n, kL_n, wL_n, b0, lA_5, lA_6, nI_two, g1.1, g2.1, g1.2, M_hash, lA_u5, lA_u6, vnb0, bI, Bool.false_and, Bool.false_eq_true, nI_dec]
    | true =>
      rw [h3] at g1
      cases h4 : br d W (2 * (n + 1) + 1) with
      | false =>
        rw [h4] at g2
        simp (disch := omega) only [e178_70, e178_73, e178_74, e178_77, e178_78, e178_79, e178_82, e178_83, e178_84, e178_85, e178_86, e178_87, e178_90, e178_91, e178_92, e178_93, e178_94, e178_95, e178_96, e178_99, e178_100, e178_101, e178_104, e178_105, e178_106, e178_109, e178_110, e178_111, e178_112, e178_113, e178_116, e178_117, e178_120, e178_121, e178_122, e178_123, e178_124, e178_125, e178_126, e178_129, e178_130, e178_133, e178_134, e178_135, e178_138, kv_s, kh_s, kr_s, kr_v, kn_s, z0, z1, z2, nI_ltI, nI_leI, nI_eq, nI_add, oN, bz0, bz1, bw0, bw1, ltT, ltF, leT, leF, eqT, eqF, if_true, if_false, kI_n, wI_n, and_true, true_and, and_false, false_and, not_true, not_false_eq_true, mwo, mwr_0, mwr_1, mwr_2, mwg_3, mwp_3, mwr_4, mwg_5, mwp_5, mwg_6, mwp_6, mwr_7, mwr_8, mwg_9, mwp_9, mwg_10, mwp_10, mwg_11, mwp_11, mwr_12, mwg_13, mwp_13, mwr_14, mwr_15, mwr_16, mwr_17, mwr_18, mwr_19, mwg_20, mwp_20, mwr_21, mwr_22, mwr_23, mwa_1, mwu_1, mwa_2, mwu_2, mwa_3, mwu_3, mwa_4, mwu_4, mwa_5, mwu_5, mwa_6, mwu_6, mwa_7, mwu_7, mwa_8, mwu_8, mwa_9, mwu_9, mwa_10, mwu_10, mwa_11, mwu_11, mwa_12, mwu_12, mwa_13, mwu_13, mwa_14, mwu_14, mwa_15, mwu_15, mwa_16, mwu_16, vu_at, vu_ne, pk_us, pk_un, kB_n, wB_n, kL_n, wL_n, b0, lA_5, lA_6, nI_two, g1.1, g2.1, g1.2, g2.2, M_hash, lA_u5, lA_u6, vnb0, bI, Bool.and_false, Bool.false_eq_true, nI_dec, n01]
      | true =>
        rw [h4] at g2
        simp (disch := omega) only [e178_70, e178_73, e178_74, e178_77, e178_78, e178_79, e178_82, e178_83, e178_84, e178_85, e178_86, e178_87, e178_90, e178_91, e178_92, e178_93, e178_94, e178_95, e178_96, e178_99, e178_100, e178_101, e178_104, e178_105, e178_106, e178_109, e178_110, e178_111, e178_112, e178_113, e178_116, e178_117, e178_120, e178_121, e178_122, e178_123, e178_124, e178_125, e178_126, e178_129, e178_130, e178_133, e178_134, e178_135, e178_138, kv_s, kh_s, kr_s, kr_v, kn_s, z0, z1, z2, nI_ltI, nI_leI, nI_eq, nI_add, oN, bz0, bz1, bw0, bw1, ltT, ltF, leT, leF, eqT, eqF, if_true, if_false, kI_n, wI_n, and_true, true_and, and_false, false_and, not_true, not_false_eq_true, mwo, mwr_0, mwr_1, mwr_2, mwg_3, mwp_3, mwr_4, mwg_5, mwp_5, mwg_6, mwp_6, mwr_7, mwr_8, mwg_9, mwp_9, mwg_10, mwp_10, mwg_11, mwp_11, mwr_12, mwg_13, mwp_13, mwr_14, mwr_15, mwr_16, mwr_17, mwr_18, mwr_19, mwg_20, mwp_20, mwr_21, mwr_22, mwr_23, mwa_1, mwu_1, mwa_2, mwu_2, mwa_3, mwu_3, mwa_4, mwu_4, mwa_5, mwu_5, mwa_6, mwu_6, mwa_7, mwu_7, mwa_8, mwu_8, mwa_9, mwu_9, mwa_10, mwu_10, mwa_11, mwu_11, mwa_12, mwu_12, mwa_13, mwu_13, mwa_14, mwu_14, mwa_15, mwu_15, mwa_16, mwu_16, vu_at, vu_ne, pk_us, pk_un, kB_n, wB_n, kL_n, wL_n, b0, lA_5, lA_6, nI_two, g1.1, g2.1, g1.2, g2.2, M_hash, lA_u5, lA_u6, vnb1, bI, Bool.and_true, nI_dec, n01]
theorem M_lay_loop1 (h : nowM (A 1) d f l V) {v : Nat} (h1 : f ≤ v) (h2 : v ≤ l) (hW : plW d (V v)) : ∀ (n k : Nat) (M B : Nat → Int32), k + n = 2 ^ d → (∀ j, j < k → M (2 ^ d + j) = lf j (V v j) ∧ B (2 ^ d + j) = bI (br d (V v) (2 ^ d + j))) → ∃ M' B', den 178 2 [.ref m, .int (nI v), .int (nI k)] [] (mw σ m (lA A M B) R I) = some (none, mw σ m (lA A M' B') R I) ∧ laid d (V v) M' B' 1 := by
  have hd := h.2.2.2.1
  have hK : 2 ^ d ≤ 256 := Nat.pow_le_pow_right (by omega) hd
  have hK1 : 1 ≤ 2 ^ d := Nat.one_le_two_pow
  have hh : ∀ {M B}, nowM (lA A M B 1) d f l V := h
  intro n
  induction n with
  | zero =>
    intro k M B hk hj
    have : k = 2 ^ d := by omega
    subst this
    obtain ⟨M', B', e1, e2⟩ := M_lay_loop2 (σ := σ) (m := m) (R := R) (I := I) h (W := V v) (x := .int (nI v)) (2 ^ d - 1) M B (by omega) (fun p q1 q2 => by
      obtain ⟨z1, z2⟩ := hj (p - 2 ^ d) (by omega)
      rw [show 2 ^ d + (p - 2 ^ d) = p by omega] at z1 z2
      refine ⟨?_, z2⟩
      rw [z1, ← mk_leaf (V := V v) (show p - 2 ^ d < 2 ^ d by omega), show 2 ^ d + (p - 2 ^ d) = p by omega])
    refine ⟨M', B', ?_, e2⟩
    rw [← e1]
    rw [e178_2]
    simp (disch := omega) only [e178_3, e178_4, e178_7, e178_10, e178_11, e178_14, e178_15, e178_18, e178_19, e178_20, e178_21, e178_22, e178_23, e178_24, e178_27, e178_30, e178_31, e178_32, e178_35, e178_36, e178_39, e178_40, e178_41, e178_42, e178_43, e178_44, e178_47, e178_50, e178_51, e178_54, e178_55, e178_56, e178_59, e178_62, e178_63, e178_66, e178_67, e178_68, kv_s, kh_s, kr_s, kr_v, kn_s, z0, z1, z2, nI_ltI, nI_leI, nI_eq, nI_add, oN, bz0, bz1, bw0, bw1, ltT, ltF, leT, leF, eqT, eqF, if_true, if_false, kI_n, wI_n, and_true, true_and, and_false, false_and, not_true, not_false_eq_true, mwo, M_keys hh, pk_sub]
  | succ n ih =>
    intro k M B hk hj
    obtain ⟨M', B', e1, e2⟩ := ih (k + 1) (upd M (2 ^ d + k) (lf k (V v k))) (upd B (2 ^ d + k) (bI (br d (V v) (2 ^ d + k)))) (by omega) (fun j q => by
      by_cases hjk : j = k
      · subst hjk; rw [pk_us, pk_us]; exact ⟨rfl, rfl⟩
      · rw [pk_un (by omega), pk_un (by omega)]; exact hj j (by omega))
    refine ⟨M', B', ?_, e2⟩
    rw [← e1]
    rw [e178_2]
    rw [br_leaf hW (by omega)]
    by_cases h3 : V v k = nI 0
    · simp (disch := omega) only [e178_3, e178_4, e178_7, e178_10, e178_11, e178_14, e178_15, e178_18, e178_19, e178_20, e178_21, e178_22, e178_23, e178_24, e178_27, e178_30, e178_31, e178_32, e178_35, e178_36, e178_39, e178_40, e178_41, e178_42, e178_43, e178_44, e178_47, e178_50, e178_51, e178_54, e178_55, e178_56, e178_59, kv_s, kh_s, kr_s, kr_v, kn_s, z0, z1, z2, nI_ltI, nI_leI, nI_eq, nI_add, oN, bz0, bz1, bw0, bw1, ltT, ltF, leT, leF, eqT, eqF, if_true, if_false, kI_n, wI_n, and_true, true_and, and_false, false_and, not_true, not_false_eq_true, mwo, mwr_0, mwr_1, mwr_2, mwg_3, mwp_3, mwr_4, mwg_5, mwp_5, mwg_6, mwp_6, mwr_7, mwr_8, mwg_9, mwp_9, mwg_10, mwp_10, mwg_11, mwp_11, mwr_12, mwg_13, mwp_13, mwr_14, mwr_15, mwr_16, mwr_17, mwr_18, mwr_19, mwg_20, mwp_20, mwr_21, mwr_22, mwr_23, mwa_1, mwu_1, mwa_2, mwu_2, mwa_3, mwu_3, mwa_4, mwu_4, mwa_5, mwu_5, mwa_6, mwu_6, mwa_7, mwu_7, mwa_8, mwu_8, mwa_9, mwu_9, mwa_10, mwu_10, mwa_11, mwu_11, mwa_12, mwu_12, mwa_13, mwu_13, mwa_14, mwu_14, mwa_15, mwu_15, mwa_16, mwu_16, vu_at, vu_ne, pk_us, pk_un, kB_n, wB_n, kL_n, wL_n, M_keys hh, M_value hh h1 h2, M_leaf, lA_5, lA_6, lA_u5, lA_u6, h3, vnb1, bI, decide_true]
    · simp (disch := omega) only [e178_3, e178_4, e178_7, e178_10, e178_11, e178_14, e178_15, e178_18, e178_19, e178_20, e178_21, e178_22, e178_23, e178_24, e178_27, e178_30, e178_31, e178_32, e178_35, e178_36, e178_39, e178_40, e178_41, e178_42, e178_43, e178_44, e178_47, e178_50, e178_51, e178_54, e178_55, e178_56, e178_59, kv_s, kh_s, kr_s, kr_v, kn_s, z0, z1, z2, nI_ltI, nI_leI, nI_eq, nI_add, oN, bz0, bz1, bw0, bw1, ltT, ltF, leT, leF, eqT, eqF, if_true, if_false, kI_n, wI_n, and_true, true_and, and_false, false_and, not_true, not_false_eq_true, mwo, mwr_0, mwr_1, mwr_2, mwg_3, mwp_3, mwr_4, mwg_5, mwp_5, mwg_6, mwp_6, mwr_7, mwr_8, mwg_9, mwp_9, mwg_10, mwp_10, mwg_11, mwp_11, mwr_12, mwg_13, mwp_13, mwr_14, mwr_15, mwr_16, mwr_17, mwr_18, mwr_19, mwg_20, mwp_20, mwr_21, mwr_22, mwr_23, mwa_1, mwu_1, mwa_2, mwu_2, mwa_3, mwu_3, mwa_4, mwu_4, mwa_5, mwu_5, mwa_6, mwu_6, mwa_7, mwu_7, mwa_8, mwu_8, mwa_9, mwu_9, mwa_10, mwu_10, mwa_11, mwu_11, mwa_12, mwu_12, mwa_13, mwu_13, mwa_14, mwu_14, mwa_15, mwu_15, mwa_16, mwu_16, vu_at, vu_ne, pk_us, pk_un, kB_n, wB_n, kL_n, wL_n, M_keys hh, M_value hh h1 h2, M_leaf, lA_5, lA_6, lA_u5, lA_u6, h3, vnb0, bI, decide_false, Bool.false_eq_true]
theorem M_lay (h : nowM (A 1) d f l V) {v : Nat} (h1 : f ≤ v) (h2 : v ≤ l) (hW : plW d (V v)) : ∃ M' B', dcall 178 [.ref m, .int (nI v)] (mw σ m A R I) = some (none, mw σ m (lA A M' B') R I) ∧ laid d (V v) M' B' 1 := by
  obtain ⟨M', B', e1, e2⟩ := M_lay_loop1 (σ := σ) (m := m) (R := R) (I := I) h h1 h2 hW (2 ^ d) 0 (A 5) (A 6) (Nat.zero_add _) (fun j q => by omega)
  rw [lA_id] at e1
  refine ⟨M', B', ?_, e2⟩
  rw [← e1]
  rw [q178]
  simp only [e178_0, e178_1, kv_s, kh_s, kr_s, kr_v, kn_s, z0, z1, z2, nI_ltI, nI_leI, nI_eq, nI_add, oN, bz0, bz1, bw0, bw1, ltT, ltF, leT, leF, eqT, eqF, if_true, if_false, kI_n, wI_n, and_true, true_and, and_false, false_and, not_true, not_false_eq_true]
theorem M_root (h : nowM (A 1) d f l V) {v : Nat} (h1 : f ≤ v) (h2 : v ≤ l) (hW : plW d (V v)) : ∃ M' B', dcall 177 [.ref m, .int (nI v)] (mw σ m A R I) = some (some (.int (nI (un d (V v) 1))), mw σ m (lA A M' B') (rl R [(mk d (V v) 1).toInt64]) (upd (upd I 6 (nI 0)) 5 (nI 1))) ∧ laid d (V v) M' B' 1 := by
  have hK1 : 1 ≤ 2 ^ d := Nat.one_le_two_pow
  have hh : ∀ {M B}, nowM (lA A M B 1) d f l V := h
  obtain ⟨M', B', e1, e2⟩ := M_lay (σ := σ) (m := m) (R := R) (I := upd I 6 (nI 0)) h h1 h2 hW
  refine ⟨M', B', ?_, e2⟩
  have g := e2 1 (by omega) (by omega)
  rw [q177]
  simp (disch := first | omega | (simp only [List.length_cons, List.length_nil])) only [e177_0, e177_1, e177_2, e177_5, e177_6, e177_7, e177_10, e177_13, e177_14, e177_15, e177_16, e177_17, e177_20, e177_21, e177_22, e177_25, e177_26, e177_27, e177_30, e177_31, e177_32, e177_33, e177_36, e177_37, e177_38, e177_41, kv_s, kh_s, kr_s, kr_v, kn_s, z0, z1, z2, nI_ltI, nI_leI, nI_eq, nI_add, oN, bz0, bz1, bw0, bw1, ltT, ltF, leT, leF, eqT, eqF, if_true, if_false, kI_n, wI_n, and_true, true_and, and_false, false_and, not_true, not_false_eq_true, mwo, mwr_0, mwr_1, mwr_2, mwg_3, mwp_3, mwr_4, mwg_5, mwp_5, mwg_6, mwp_6, mwr_7, mwr_8, mwg_9, mwp_9, mwg_10, mwp_10, mwg_11, mwp_11, mwr_12, mwg_13, mwp_13, mwr_14, mwr_15, mwr_16, mwr_17, mwr_18, mwr_19, mwg_20, mwp_20, mwr_21, mwr_22, mwr_23, mwa_1, mwu_1, mwa_2, mwu_2, mwa_3, mwu_3, mwa_4, mwu_4, mwa_5, mwu_5, mwa_6, mwu_6, mwa_7, mwu_7, mwa_8, mwu_8, mwa_9, mwu_9, mwa_10, mwu_10, mwa_11, mwu_11, mwa_12, mwu_12, mwa_13, mwu_13, mwa_14, mwu_14, mwa_15, mwu_15, mwa_16, mwu_16, vu_at, vu_ne, pk_us, pk_un, kB_n, wB_n, kL_n, wL_n, M_ver h h1 h2, n01, e1, lA_5, g.1, M_tell0, M_valued hh h1 h2]
end MB
