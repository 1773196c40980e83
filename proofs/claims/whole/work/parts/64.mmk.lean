/-! versions made: the reference's -/
section MM
variable {σ : Hp} {m d f l : Nat} {V : Nat → Nat → Int32} {A : Nat → Nat → Int32} {R : Nat → Int64} {I : Nat → Int32}
theorem M_layNext_loop (h : nowM (A 1) d f l V) {v : Nat} (h1 : f ≤ v) (h2 : v ≤ l) : ∀ (n k : Nat) (N : Nat → Int32), k + n = 256 → (∀ j, j < k → N j = V v j) → ∃ N', den 160 2 [.ref m, .int (nI v), .int (nI k)] [] (mw σ m (va_up A 8 N) R I) = some (none, mw σ m (va_up A 8 N') R I) ∧ ∀ j, j < 256 → N' j = V v j := by
  have hh : ∀ {N}, nowM (va_up A 8 N 1) d f l V := fun {N} => by rw [vu_ne (by omega)]; exact h
  intro n
  induction n with
  | zero =>
    intro k N hk hj
    have : k = 256 := by omega
    subst this
    refine ⟨N, ?_, hj⟩
    rw [e160_2]
    simp (disch := first | omega | exact tl_l | exact tT_len | (simp only [List.length_cons, List.length_nil])) only [e160_0, e160_1, e160_3, e160_6, e160_9, e160_10, e160_13, e160_14, e160_15, e160_16, e160_17, e160_20, e160_21, e160_24, e160_27, kv_s, kh_s, kr_s, kr_v, kn_s, z0, z1, z2, nI_ltI, nI_leI, nI_eq, nI_add, oN, bz0, bz1, bw0, bw1, ltT, ltF, leT, leF, eqT, eqF, if_true, if_false, kI_n, wI_n, and_true, true_and, and_false, false_and, not_true, not_false_eq_true, z256]
  | succ n ih =>
    intro k N hk hj
    obtain ⟨N', e1, e2⟩ := ih (k + 1) (upd N k (V v k)) (by omega) (fun j q => by
      by_cases hjk : j = k
      · subst hjk; rw [pk_us]
      · rw [pk_un hjk]; exact hj j (by omega))
    refine ⟨N', ?_, e2⟩
    rw [← e1]
    rw [e160_2]
    simp (disch := first | omega | exact tl_l | exact tT_len | (simp only [List.length_cons, List.length_nil])) only [e160_0, e160_1, e160_3, e160_6, e160_9, e160_10, e160_13, e160_14, e160_15, e160_16, e160_17, e160_20, e160_21, e160_24, e160_27, kv_s, kh_s, kr_s, kr_v, kn_s, z0, z1, z2, nI_ltI, nI_leI, nI_eq, nI_add, oN, bz0, bz1, bw0, bw1, ltT, ltF, leT, leF, eqT, eqF, if_true, if_false, kI_n, wI_n, and_true, true_and, and_false, false_and, not_true, not_false_eq_true, mwo, mwr_0, mwr_1, mwr_2, mwg_3, mwp_3, mwr_4, mwg_5, mwp_5, mwg_6, mwp_6, mwr_7, mwr_8, mwg_9, mwp_9, mwg_10, mwp_10, mwg_11, mwp_11, mwr_12, mwg_13, mwp_13, mwr_14, mwr_15, mwr_16, mwr_17, mwr_18, mwr_19, mwg_20, mwp_20, mwr_21, mwr_22, mwr_23, mwa_1, mwu_1, mwa_2, mwu_2, mwa_3, mwu_3, mwa_4, mwu_4, mwa_5, mwu_5, mwa_6, mwu_6, mwa_7, mwu_7, mwa_8, mwu_8, mwa_9, mwu_9, mwa_10, mwu_10, mwa_11, mwu_11, mwa_12, mwu_12, mwa_13, mwu_13, mwa_14, mwu_14, mwa_15, mwu_15, mwa_16, mwu_16, vu_at, vu_ne, pk_us, pk_un, kB_n, wB_n, kL_n, wL_n, z256, M_value hh h1 h2, vu_vu]
theorem M_layNext (h : nowM (A 1) d f l V) {v : Nat} (h1 : f ≤ v) (h2 : v ≤ l) : ∃ N, dcall 160 [.ref m, .int (nI v)] (mw σ m A R I) = some (none, mw σ m (va_up A 8 N) R I) ∧ ∀ j, j < 256 → N j = V v j := by
  obtain ⟨N', e1, e2⟩ := M_layNext_loop (σ := σ) (m := m) (R := R) (I := I) h h1 h2 256 0 (A 8) (Nat.zero_add _) (fun j q => absurd q (Nat.not_lt_zero j))
  refine ⟨N', ?_, e2⟩
  rw [vu_id] at e1
  rw [← e1]
  rw [q160]
  simp (disch := first | omega | exact tl_l | exact tT_len | (simp only [List.length_cons, List.length_nil])) only [e160_0, e160_1, e160_3, e160_6, e160_9, e160_10, e160_13, e160_14, e160_15, e160_16, e160_17, e160_20, e160_21, e160_24, e160_27, kv_s, kh_s, kr_s, kr_v, kn_s, z0, z1, z2, nI_ltI, nI_leI, nI_eq, nI_add, oN, bz0, bz1, bw0, bw1, ltT, ltF, leT, leF, eqT, eqF, if_true, if_false, kI_n, wI_n, and_true, true_and, and_false, false_and, not_true, not_false_eq_true]
theorem M_many_loop : ∀ (n k : Nat), k + n = 256 → den 165 4 [.ref m, .int (nI (cnt (fun j => decide (nI 0 < A 8 j)) 0 k)), .int (nI k)] [] (mw σ m A R I) = some (some (.int (nI (cnt (fun j => decide (nI 0 < A 8 j)) 0 256))), mw σ m A R I) := by
  intro n
  induction n with
  | zero =>
    intro k hk
    have : k = 256 := by omega
    subst this
    rw [e165_4]
    simp (disch := first | omega | exact tl_l | exact tT_len | (simp only [List.length_cons, List.length_nil])) only [e165_0, e165_1, e165_2, e165_3, e165_5, e165_8, e165_11, e165_12, e165_13, e165_16, e165_17, e165_18, e165_21, e165_22, e165_25, e165_26, e165_27, e165_28, e165_31, e165_34, e165_35, kv_s, kh_s, kr_s, kr_v, kn_s, z0, z1, z2, nI_ltI, nI_leI, nI_eq, nI_add, oN, bz0, bz1, bw0, bw1, ltT, ltF, leT, leF, eqT, eqF, if_true, if_false, kI_n, wI_n, and_true, true_and, and_false, false_and, not_true, not_false_eq_true, mwo, mwr_0, mwr_1, mwr_2, mwg_3, mwp_3, mwr_4, mwg_5, mwp_5, mwg_6, mwp_6, mwr_7, mwr_8, mwg_9, mwp_9, mwg_10, mwp_10, mwg_11, mwp_11, mwr_12, mwg_13, mwp_13, mwr_14, mwr_15, mwr_16, mwr_17, mwr_18, mwr_19, mwg_20, mwp_20, mwr_21, mwr_22, mwr_23, mwa_1, mwu_1, mwa_2, mwu_2, mwa_3, mwu_3, mwa_4, mwu_4, mwa_5, mwu_5, mwa_6, mwu_6, mwa_7, mwu_7, mwa_8, mwu_8, mwa_9, mwu_9, mwa_10, mwu_10, mwa_11, mwu_11, mwa_12, mwu_12, mwa_13, mwu_13, mwa_14, mwu_14, mwa_15, mwu_15, mwa_16, mwu_16, vu_at, vu_ne, pk_us, pk_un, kB_n, wB_n, kL_n, wL_n, z256]
  | succ n ih =>
    intro k hk
    have e : cnt (fun j => decide (nI 0 < A 8 j)) 0 (k + 1) = cnt (fun j => decide (nI 0 < A 8 j)) 0 k + if nI 0 < A 8 k then 1 else 0 := by
      show _ + (if decide (nI 0 < A 8 (0 + k)) = true then 1 else 0) = _
      simp only [Nat.zero_add, decide_eq_true_eq]
    rw [← ih (k + 1) (by omega), e]
    by_cases h3 : A 8 k ≤ nI 0
    · have h4 : ¬ nI 0 < A 8 k := Int32.not_lt.mpr h3
      rw [e165_4]
      simp (disch := first | omega | exact tl_l | exact tT_len | (simp only [List.length_cons, List.length_nil])) only [e165_0, e165_1, e165_2, e165_3, e165_5, e165_8, e165_11, e165_12, e165_13, e165_16, e165_17, e165_18, e165_21, e165_22, e165_25, e165_26, e165_27, e165_28, e165_31, e165_34, e165_35, kv_s, kh_s, kr_s, kr_v, kn_s, z0, z1, z2, nI_ltI, nI_leI, nI_eq, nI_add, oN, bz0, bz1, bw0, bw1, ltT, ltF, leT, leF, eqT, eqF, if_true, if_false, kI_n, wI_n, and_true, true_and, and_false, false_and, not_true, not_false_eq_true, mwo, mwr_0, mwr_1, mwr_2, mwg_3, mwp_3, mwr_4, mwg_5, mwp_5, mwg_6, mwp_6, mwr_7, mwr_8, mwg_9, mwp_9, mwg_10, mwp_10, mwg_11, mwp_11, mwr_12, mwg_13, mwp_13, mwr_14, mwr_15, mwr_16, mwr_17, mwr_18, mwr_19, mwg_20, mwp_20, mwr_21, mwr_22, mwr_23, mwa_1, mwu_1, mwa_2, mwu_2, mwa_3, mwu_3, mwa_4, mwu_4, mwa_5, mwu_5, mwa_6, mwu_6, mwa_7, mwu_7, mwa_8, mwu_8, mwa_9, mwu_9, mwa_10, mwu_10, mwa_11, mwu_11, mwa_12, mwu_12, mwa_13, mwu_13, mwa_14, mwu_14, mwa_15, mwu_15, mwa_16, mwu_16, vu_at, vu_ne, pk_us, pk_un, kB_n, wB_n, kL_n, wL_n, z256, h3, h4, Nat.add_zero]
    · have h4 : nI 0 < A 8 k := Int32.not_le.mp h3
      rw [e165_4]
      simp (disch := first | omega | exact tl_l | exact tT_len | (simp only [List.length_cons, List.length_nil])) only [e165_0, e165_1, e165_2, e165_3, e165_5, e165_8, e165_11, e165_12, e165_13, e165_16, e165_17, e165_18, e165_21, e165_22, e165_25, e165_26, e165_27, e165_28, e165_31, e165_34, e165_35, kv_s, kh_s, kr_s, kr_v, kn_s, z0, z1, z2, nI_ltI, nI_leI, nI_eq, nI_add, oN, bz0, bz1, bw0, bw1, ltT, ltF, leT, leF, eqT, eqF, if_true, if_false, kI_n, wI_n, and_true, true_and, and_false, false_and, not_true, not_false_eq_true, mwo, mwr_0, mwr_1, mwr_2, mwg_3, mwp_3, mwr_4, mwg_5, mwp_5, mwg_6, mwp_6, mwr_7, mwr_8, mwg_9, mwp_9, mwg_10, mwp_10, mwg_11, mwp_11, mwr_12, mwg_13, mwp_13, mwr_14, mwr_15, mwr_16, mwr_17, mwr_18, mwr_19, mwg_20, mwp_20, mwr_21, mwr_22, mwr_23, mwa_1, mwu_1, mwa_2, mwu_2, mwa_3, mwu_3, mwa_4, mwu_4, mwa_5, mwu_5, mwa_6, mwu_6, mwa_7, mwu_7, mwa_8, mwu_8, mwa_9, mwu_9, mwa_10, mwu_10, mwa_11, mwu_11, mwa_12, mwu_12, mwa_13, mwu_13, mwa_14, mwu_14, mwa_15, mwu_15, mwa_16, mwu_16, vu_at, vu_ne, pk_us, pk_un, kB_n, wB_n, kL_n, wL_n, z256, h3, h4]
theorem many_un {W : Nat → Int32} (hd : d ≤ 8) (h0 : ∀ k, 2 ^ d ≤ k → k < 256 → W k = nI 0) : cnt (fun j => decide (nI 0 < W j)) 0 256 = un d W 1 := by
  have hK : 2 ^ d ≤ 256 := Nat.pow_le_pow_right (by omega) hd
  have nd : ¬ nI 0 < nI 0 := by decide
  rw [un_all, show 256 = 2 ^ d + (256 - 2 ^ d) by omega, cnt_add, cnt_none (a := 0 + 2 ^ d) fun i hi => ?_, Nat.add_zero]
  show decide (nI 0 < W (0 + 2 ^ d + i)) = false
  rw [h0 _ (by omega) (by omega)]
  exact decide_eq_false nd
theorem M_nextMany (hd : d ≤ 8) {W : Nat → Int32} (hW : ∀ k, k < 256 → A 8 k = W k) (h0 : ∀ k, 2 ^ d ≤ k → k < 256 → W k = nI 0) : dcall 165 [.ref m] (mw σ m A R I) = some (some (.int (nI (un d W 1))), mw σ m A R I) := by
  have e := M_many_loop (σ := σ) (m := m) (A := A) (R := R) (I := I) 256 0 (Nat.zero_add _)
  have e2 : cnt (fun j => decide (nI 0 < A 8 j)) 0 256 = cnt (fun j => decide (nI 0 < W j)) 0 256 := cnt_congr fun i hi => by
    show decide (nI 0 < A 8 (0 + i)) = decide (nI 0 < W (0 + i))
    rw [hW _ (by omega)]
  rw [e2, many_un hd h0] at e
  rw [← e]
  rw [q165]
  simp (disch := first | omega | exact tl_l | exact tT_len | (simp only [List.length_cons, List.length_nil])) only [e165_0, e165_1, e165_2, e165_3, e165_5, e165_8, e165_11, e165_12, e165_13, e165_16, e165_17, e165_18, e165_21, e165_22, e165_25, e165_26, e165_27, e165_28, e165_31, e165_34, e165_35, kv_s, kh_s, kr_s, kr_v, kn_s, z0, z1, z2, nI_ltI, nI_leI, nI_eq, nI_add, oN, bz0, bz1, bw0, bw1, ltT, ltF, leT, leF, eqT, eqF, if_true, if_false, kI_n, wI_n, and_true, true_and, and_false, false_and, not_true, not_false_eq_true, mwo, mwr_0, mwr_1, mwr_2, mwg_3, mwp_3, mwr_4, mwg_5, mwp_5, mwg_6, mwp_6, mwr_7, mwr_8, mwg_9, mwp_9, mwg_10, mwp_10, mwg_11, mwp_11, mwr_12, mwg_13, mwp_13, mwr_14, mwr_15, mwr_16, mwr_17, mwr_18, mwr_19, mwg_20, mwp_20, mwr_21, mwr_22, mwr_23, mwa_1, mwu_1, mwa_2, mwu_2, mwa_3, mwu_3, mwa_4, mwu_4, mwa_5, mwu_5, mwa_6, mwu_6, mwa_7, mwu_7, mwa_8, mwu_8, mwa_9, mwu_9, mwa_10, mwu_10, mwa_11, mwu_11, mwa_12, mwu_12, mwa_13, mwu_13, mwa_14, mwu_14, mwa_15, mwu_15, mwa_16, mwu_16, vu_at, vu_ne, pk_us, pk_un, kB_n, wB_n, kL_n, wL_n, cnt]
theorem M_isNow_loop (h : nowM (A 1) d f l V) {W : Nat → Int32} (hW : ∀ k, k < 256 → A 8 k = W k) (hal : (∀ j, j < 256 → W j = V l j) ↔ un d (dl W (V l)) 1 = 0) : ∀ (n k : Nat), k + n = 256 → (∀ j, j < k → W j = V l j) → den 166 2 [.ref m, .int (nI k)] [] (mw σ m A R I) = some (some (.int (if un d (dl W (V l)) 1 = 0 then nI 1 else nI 0)), mw σ m A R I) := by
  have hK := h.K
  intro n
  induction n with
  | zero =>
    intro k hk hj
    have : k = 256 := by omega
    subst this
    rw [if_pos (hal.mp hj)]
    rw [e166_2]
    simp (disch := first | omega | exact tl_l | exact tT_len | (simp only [List.length_cons, List.length_nil])) only [e166_0, e166_1, e166_3, e166_6, e166_9, e166_10, e166_13, e166_14, e166_15, e166_16, e166_17, e166_20, e166_21, e166_24, e166_27, e166_28, e166_29, e166_32, e166_35, e166_36, kv_s, kh_s, kr_s, kr_v, kn_s, z0, z1, z2, nI_ltI, nI_leI, nI_eq, nI_add, oN, bz0, bz1, bw0, bw1, ltT, ltF, leT, leF, eqT, eqF, if_true, if_false, kI_n, wI_n, and_true, true_and, and_false, false_and, not_true, not_false_eq_true, mwo, mwr_0, mwr_1, mwr_2, mwg_3, mwp_3, mwr_4, mwg_5, mwp_5, mwg_6, mwp_6, mwr_7, mwr_8, mwg_9, mwp_9, mwg_10, mwp_10, mwg_11, mwp_11, mwr_12, mwg_13, mwp_13, mwr_14, mwr_15, mwr_16, mwr_17, mwr_18, mwr_19, mwg_20, mwp_20, mwr_21, mwr_22, mwr_23, mwa_1, mwu_1, mwa_2, mwu_2, mwa_3, mwu_3, mwa_4, mwu_4, mwa_5, mwu_5, mwa_6, mwu_6, mwa_7, mwu_7, mwa_8, mwu_8, mwa_9, mwu_9, mwa_10, mwu_10, mwa_11, mwu_11, mwa_12, mwu_12, mwa_13, mwu_13, mwa_14, mwu_14, mwa_15, mwu_15, mwa_16, mwu_16, vu_at, vu_ne, pk_us, pk_un, kB_n, wB_n, kL_n, wL_n, z256]
  | succ n ih =>
    intro k hk hj
    have hw := hW k (by omega)
    by_cases h1 : W k = V l k
    · rw [← ih (k + 1) (by omega) (fun j q => by
        by_cases hjk : j = k
        · subst hjk; exact h1
        · exact hj j (by omega))]
      rw [e166_2]
      simp (disch := first | omega | exact tl_l | exact tT_len | (simp only [List.length_cons, List.length_nil])) only [e166_0, e166_1, e166_3, e166_6, e166_9, e166_10, e166_13, e166_14, e166_15, e166_16, e166_17, e166_20, e166_21, e166_24, e166_27, e166_28, e166_29, e166_32, e166_35, e166_36, kv_s, kh_s, kr_s, kr_v, kn_s, z0, z1, z2, nI_ltI, nI_leI, nI_eq, nI_add, oN, bz0, bz1, bw0, bw1, ltT, ltF, leT, leF, eqT, eqF, if_true, if_false, kI_n, wI_n, and_true, true_and, and_false, false_and, not_true, not_false_eq_true, mwo, mwr_0, mwr_1, mwr_2, mwg_3, mwp_3, mwr_4, mwg_5, mwp_5, mwg_6, mwp_6, mwr_7, mwr_8, mwg_9, mwp_9, mwg_10, mwp_10, mwg_11, mwp_11, mwr_12, mwg_13, mwp_13, mwr_14, mwr_15, mwr_16, mwr_17, mwr_18, mwr_19, mwg_20, mwp_20, mwr_21, mwr_22, mwr_23, mwa_1, mwu_1, mwa_2, mwu_2, mwa_3, mwu_3, mwa_4, mwu_4, mwa_5, mwu_5, mwa_6, mwu_6, mwa_7, mwu_7, mwa_8, mwu_8, mwa_9, mwu_9, mwa_10, mwu_10, mwa_11, mwu_11, mwa_12, mwu_12, mwa_13, mwu_13, mwa_14, mwu_14, mwa_15, mwu_15, mwa_16, mwu_16, vu_at, vu_ne, pk_us, pk_un, kB_n, wB_n, kL_n, wL_n, z256, hw, M_latest h, M_value h hK.2.2.2.1 (Nat.le_refl l), h1]
    · rw [if_neg (fun z => h1 (hal.mpr z k (by omega)))]
      rw [e166_2]
      simp (disch := first | omega | exact tl_l | exact tT_len | (simp only [List.length_cons, List.length_nil])) only [e166_0, e166_1, e166_3, e166_6, e166_9, e166_10, e166_13, e166_14, e166_15, e166_16, e166_17, e166_20, e166_21, e166_24, e166_27, e166_28, e166_29, e166_32, e166_35, e166_36, kv_s, kh_s, kr_s, kr_v, kn_s, z0, z1, z2, nI_ltI, nI_leI, nI_eq, nI_add, oN, bz0, bz1, bw0, bw1, ltT, ltF, leT, leF, eqT, eqF, if_true, if_false, kI_n, wI_n, and_true, true_and, and_false, false_and, not_true, not_false_eq_true, mwo, mwr_0, mwr_1, mwr_2, mwg_3, mwp_3, mwr_4, mwg_5, mwp_5, mwg_6, mwp_6, mwr_7, mwr_8, mwg_9, mwp_9, mwg_10, mwp_10, mwg_11, mwp_11, mwr_12, mwg_13, mwp_13, mwr_14, mwr_15, mwr_16, mwr_17, mwr_18, mwr_19, mwg_20, mwp_20, mwr_21, mwr_22, mwr_23, mwa_1, mwu_1, mwa_2, mwu_2, mwa_3, mwu_3, mwa_4, mwu_4, mwa_5, mwu_5, mwa_6, mwu_6, mwa_7, mwu_7, mwa_8, mwu_8, mwa_9, mwu_9, mwa_10, mwu_10, mwa_11, mwu_11, mwa_12, mwu_12, mwa_13, mwu_13, mwa_14, mwu_14, mwa_15, mwu_15, mwa_16, mwu_16, vu_at, vu_ne, pk_us, pk_un, kB_n, wB_n, kL_n, wL_n, z256, hw, M_latest h, M_value h hK.2.2.2.1 (Nat.le_refl l), h1]
/-- alike everywhere -/
theorem alike_all {W U : Nat → Int32} (hd : d ≤ 8) (h0 : ∀ k, 2 ^ d ≤ k → k < 256 → W k = nI 0) (h1 : ∀ k, 2 ^ d ≤ k → k < 256 → U k = nI 0) : (∀ j, j < 256 → W j = U j) ↔ un d (dl W U) 1 = 0 := by
  have hK : 2 ^ d ≤ 256 := Nat.pow_le_pow_right (by omega) hd
  rw [un_all, cnt_zero]
  constructor
  · intro h i hi
    refine decide_eq_false ?_
    rw [Nat.zero_add, dl_0]
    exact fun z => z (h i (by omega))
  · intro h j hj
    by_cases hj2 : j < 2 ^ d
    · have := of_decide_eq_false (h j hj2)
      rw [Nat.zero_add, dl_0] at this
      exact Classical.byContradiction this
    · rw [h0 j (by omega) hj, h1 j (by omega) hj]
theorem M_isNow (h : nowM (A 1) d f l V) {W : Nat → Int32} (hW : ∀ k, k < 256 → A 8 k = W k) (h0 : ∀ k, 2 ^ d ≤ k → k < 256 → W k = nI 0) (h1 : ∀ k, 2 ^ d ≤ k → k < 256 → V l k = nI 0) : dcall 166 [.ref m] (mw σ m A R I) = some (some (.int (if un d (dl W (V l)) 1 = 0 then nI 1 else nI 0)), mw σ m A R I) := by
  have hK := h.K
  have e := M_isNow_loop (σ := σ) (m := m) (R := R) (I := I) h hW (alike_all hK.2.2.1 h0 h1) 256 0 (Nat.zero_add _) (fun j q => absurd q (Nat.not_lt_zero j))
  rw [← e]
  rw [q166]
  simp (disch := first | omega | exact tl_l | exact tT_len | (simp only [List.length_cons, List.length_nil])) only [e166_0, e166_1, e166_3, e166_6, e166_9, e166_10, e166_13, e166_14, e166_15, e166_16, e166_17, e166_20, e166_21, e166_24, e166_27, e166_28, e166_29, e166_32, e166_35, e166_36, kv_s, kh_s, kr_s, kr_v, kn_s, z0, z1, z2, nI_ltI, nI_leI, nI_eq, nI_add, oN, bz0, bz1, bw0, bw1, ltT, ltF, leT, leF, eqT, eqF, if_true, if_false, kI_n, wI_n, and_true, true_and, and_false, false_and, not_true, not_false_eq_true, mwo, mwr_0, mwr_1, mwr_2, mwg_3, mwp_3, mwr_4, mwg_5, mwp_5, mwg_6, mwp_6, mwr_7, mwr_8, mwg_9, mwp_9, mwg_10, mwp_10, mwg_11, mwp_11, mwr_12, mwg_13, mwp_13, mwr_14, mwr_15, mwr_16, mwr_17, mwr_18, mwr_19, mwg_20, mwp_20, mwr_21, mwr_22, mwr_23, mwa_1, mwu_1, mwa_2, mwu_2, mwa_3, mwu_3, mwa_4, mwu_4, mwa_5, mwu_5, mwa_6, mwu_6, mwa_7, mwu_7, mwa_8, mwu_8, mwa_9, mwu_9, mwa_10, mwu_10, mwa_11, mwu_11, mwa_12, mwu_12, mwa_13, mwu_13, mwa_14, mwu_14, mwa_15, mwu_15, mwa_16, mwu_16, vu_at, vu_ne, pk_us, pk_un, kB_n, wB_n, kL_n, wL_n]
theorem M_shift_loop : ∀ (n k : Nat) (N N0 : Nat → Int32), k + n = 2819 → 3 ≤ k → (∀ j, 3 ≤ j → j < k → N j = N0 (j + 256)) → (∀ j, k ≤ j → N j = N0 j) → (∀ j, j < 3 → N j = N0 j) → ∃ N' l1', den 170 13 [.ref m, .int (nI k)] [] (mw σ m (va_up A 1 N) R I) = den 170 42 [.ref m, l1'] [] (mw σ m (va_up A 1 N') R I) ∧ (∀ j, 3 ≤ j → j < 2819 → N' j = N0 (j + 256)) ∧ ∀ j, j < 3 → N' j = N0 j := by
  intro n
  induction n with
  | zero =>
    intro k N N0 hk h3 h4 h5 h6
    have : k = 2819 := by omega
    subst this
    refine ⟨N, .int (nI 2819), ?_, h4, h6⟩
    rw [e170_13]
    simp (disch := first | omega | exact tl_l | exact tT_len | (simp only [List.length_cons, List.length_nil])) only [e170_14, e170_17, e170_20, e170_21, e170_24, e170_25, e170_26, e170_29, e170_30, e170_33, e170_34, e170_35, e170_36, e170_39, kv_s, kh_s, kr_s, kr_v, kn_s, z0, z1, z2, nI_ltI, nI_leI, nI_eq, nI_add, oN, bz0, bz1, bw0, bw1, ltT, ltF, leT, leF, eqT, eqF, if_true, if_false, kI_n, wI_n, and_true, true_and, and_false, false_and, not_true, not_false_eq_true, show (2819 : Int32) = nI 2819 from rfl]
  | succ n ih =>
    intro k N N0 hk h3 h4 h5 h6
    obtain ⟨N', l1', e1, e2, e3⟩ := ih (k + 1) (upd N k (N (k + 256))) N0 (by omega) (by omega) (fun j q1 q2 => by
      by_cases hjk : j = k
      · subst hjk; rw [pk_us, h5 _ (by omega)]
      · rw [pk_un hjk]; exact h4 j q1 (by omega)) (fun j q => by rw [pk_un (by omega)]; exact h5 j (by omega)) (fun j q => by rw [pk_un (by omega)]; exact h6 j q)
    refine ⟨N', l1', ?_, e2, e3⟩
    rw [← e1]
    rw [e170_13]
    simp (disch := first | omega | exact tl_l | exact tT_len | (simp only [List.length_cons, List.length_nil])) only [e170_14, e170_17, e170_20, e170_21, e170_24, e170_25, e170_26, e170_29, e170_30, e170_33, e170_34, e170_35, e170_36, e170_39, kv_s, kh_s, kr_s, kr_v, kn_s, z0, z1, z2, nI_ltI, nI_leI, nI_eq, nI_add, oN, bz0, bz1, bw0, bw1, ltT, ltF, leT, leF, eqT, eqF, if_true, if_false, kI_n, wI_n, and_true, true_and, and_false, false_and, not_true, not_false_eq_true, mwo, mwr_0, mwr_1, mwr_2, mwg_3, mwp_3, mwr_4, mwg_5, mwp_5, mwg_6, mwp_6, mwr_7, mwr_8, mwg_9, mwp_9, mwg_10, mwp_10, mwg_11, mwp_11, mwr_12, mwg_13, mwp_13, mwr_14, mwr_15, mwr_16, mwr_17, mwr_18, mwr_19, mwg_20, mwp_20, mwr_21, mwr_22, mwr_23, mwa_1, mwu_1, mwa_2, mwu_2, mwa_3, mwu_3, mwa_4, mwu_4, mwa_5, mwu_5, mwa_6, mwu_6, mwa_7, mwu_7, mwa_8, mwu_8, mwa_9, mwu_9, mwa_10, mwu_10, mwa_11, mwu_11, mwa_12, mwu_12, mwa_13, mwu_13, mwa_14, mwu_14, mwa_15, mwu_15, mwa_16, mwu_16, vu_at, vu_ne, pk_us, pk_un, kB_n, wB_n, kL_n, wL_n, show (2819 : Int32) = nI 2819 from rfl, z256, vu_vu]
theorem M_fill_loop {l' f' : Nat} (hf : f' ≤ l') (hl : l' < f' + 12) (hl2 : l' < 2 ^ 30) (hd : d ≤ 8) : ∀ (n k : Nat) (N N0 : Nat → Int32), k + n = 256 → N0 0 = nI d → N0 1 = nI f' → N0 2 = nI (l' - f' + 1) → (∀ j, j < k → N (3 + 256 * (l' - f') + j) = A 8 j) → (∀ j, j < 3 + 256 * (l' - f') → N j = N0 j) → ∃ N', den 170 67 [.ref m, .int (nI k)] [] (mw σ m (va_up A 1 N) R I) = some (some (.int (nI l')), mw σ m (va_up A 1 N') R I) ∧ (∀ j, j < 256 → N' (3 + 256 * (l' - f') + j) = A 8 j) ∧ ∀ j, j < 3 + 256 * (l' - f') → N' j = N0 j := by
  have e2 : nI (f' + (l' - f' + 1)) - nI 1 = nI l' := by rw [pk_sub (by omega), show f' + (l' - f' + 1) - 1 = l' by omega]
  have hlat : ∀ (N : Nat → Int32), N 1 = nI f' → N 2 = nI (l' - f' + 1) → dcall 159 [.ref m] (mw σ m (va_up A 1 N) R I) = some (some (.int (nI l')), mw σ m (va_up A 1 N) R I) := fun N q1 q2 => by
    rw [q159]
    simp (disch := first | omega | exact tl_l | exact tT_len | (simp only [List.length_cons, List.length_nil])) only [e159_0, e159_1, e159_4, e159_5, e159_6, e159_7, e159_10, e159_11, e159_12, e159_13, e159_14, e159_15, kv_s, kh_s, kr_s, kr_v, kn_s, z0, z1, z2, nI_ltI, nI_leI, nI_eq, nI_add, oN, bz0, bz1, bw0, bw1, ltT, ltF, leT, leF, eqT, eqF, if_true, if_false, kI_n, wI_n, and_true, true_and, and_false, false_and, not_true, not_false_eq_true, mwo, mwr_0, mwr_1, mwr_2, mwg_3, mwp_3, mwr_4, mwg_5, mwp_5, mwg_6, mwp_6, mwr_7, mwr_8, mwg_9, mwp_9, mwg_10, mwp_10, mwg_11, mwp_11, mwr_12, mwg_13, mwp_13, mwr_14, mwr_15, mwr_16, mwr_17, mwr_18, mwr_19, mwg_20, mwp_20, mwr_21, mwr_22, mwr_23, mwa_1, mwu_1, mwa_2, mwu_2, mwa_3, mwu_3, mwa_4, mwu_4, mwa_5, mwu_5, mwa_6, mwu_6, mwa_7, mwu_7, mwa_8, mwu_8, mwa_9, mwu_9, mwa_10, mwu_10, mwa_11, mwu_11, mwa_12, mwu_12, mwa_13, mwu_13, mwa_14, mwu_14, mwa_15, mwu_15, mwa_16, mwu_16, vu_at, vu_ne, pk_us, pk_un, kB_n, wB_n, kL_n, wL_n, q1, q2, e2]
  have hat : ∀ (N : Nat → Int32) (k : Nat), N 1 = nI f' → dcall 162 [.ref m, .int (nI l'), .int (nI k)] (mw σ m (va_up A 1 N) R I) = some (some (.int (nI (3 + 256 * (l' - f') + k))), mw σ m (va_up A 1 N) R I) := fun N k q1 => by
    rw [q162]
    simp (disch := first | omega | exact tl_l | exact tT_len | (simp only [List.length_cons, List.length_nil])) only [e162_0, e162_1, e162_4, e162_5, e162_6, e162_9, e162_10, e162_11, e162_12, e162_13, e162_14, e162_15, e162_16, kv_s, kh_s, kr_s, kr_v, kn_s, z0, z1, z2, nI_ltI, nI_leI, nI_eq, nI_add, oN, bz0, bz1, bw0, bw1, ltT, ltF, leT, leF, eqT, eqF, if_true, if_false, kI_n, wI_n, and_true, true_and, and_false, false_and, not_true, not_false_eq_true, mwo, mwr_0, mwr_1, mwr_2, mwg_3, mwp_3, mwr_4, mwg_5, mwp_5, mwg_6, mwp_6, mwr_7, mwr_8, mwg_9, mwp_9, mwg_10, mwp_10, mwg_11, mwp_11, mwr_12, mwg_13, mwp_13, mwr_14, mwr_15, mwr_16, mwr_17, mwr_18, mwr_19, mwg_20, mwp_20, mwr_21, mwr_22, mwr_23, mwa_1, mwu_1, mwa_2, mwu_2, mwa_3, mwu_3, mwa_4, mwu_4, mwa_5, mwu_5, mwa_6, mwu_6, mwa_7, mwu_7, mwa_8, mwu_8, mwa_9, mwu_9, mwa_10, mwu_10, mwa_11, mwu_11, mwa_12, mwu_12, mwa_13, mwu_13, mwa_14, mwu_14, mwa_15, mwu_15, mwa_16, mwu_16, vu_at, vu_ne, pk_us, pk_un, kB_n, wB_n, kL_n, wL_n, z3, z256, q1, pk_sub, pk_mul]
  intro n
  induction n with
  | zero =>
    intro k N N0 hk c0 c1 c2 h4 h5
    have : k = 256 := by omega
    subst this
    have q1 : N 1 = nI f' := (h5 1 (by omega)).trans c1
    have q2 : N 2 = nI (l' - f' + 1) := (h5 2 (by omega)).trans c2
    refine ⟨N, ?_, h4, h5⟩
    rw [e170_67]
    simp (disch := first | omega | exact tl_l | exact tT_len | (simp only [List.length_cons, List.length_nil])) only [e170_0, e170_1, e170_4, e170_5, e170_6, e170_8, e170_11, e170_12, e170_14, e170_17, e170_20, e170_21, e170_24, e170_25, e170_26, e170_29, e170_30, e170_33, e170_34, e170_35, e170_36, e170_39, e170_42, e170_43, e170_46, e170_47, e170_48, e170_49, e170_50, e170_51, e170_52, e170_55, e170_56, e170_59, e170_60, e170_61, e170_62, e170_63, e170_64, e170_65, e170_66, e170_68, e170_71, e170_74, e170_75, e170_78, e170_79, e170_80, e170_83, e170_84, e170_87, e170_88, e170_91, e170_92, e170_93, e170_94, e170_97, e170_100, e170_101, e170_104, kv_s, kh_s, kr_s, kr_v, kn_s, z0, z1, z2, nI_ltI, nI_leI, nI_eq, nI_add, oN, bz0, bz1, bw0, bw1, ltT, ltF, leT, leF, eqT, eqF, if_true, if_false, kI_n, wI_n, and_true, true_and, and_false, false_and, not_true, not_false_eq_true, mwo, mwr_0, mwr_1, mwr_2, mwg_3, mwp_3, mwr_4, mwg_5, mwp_5, mwg_6, mwp_6, mwr_7, mwr_8, mwg_9, mwp_9, mwg_10, mwp_10, mwg_11, mwp_11, mwr_12, mwg_13, mwp_13, mwr_14, mwr_15, mwr_16, mwr_17, mwr_18, mwr_19, mwg_20, mwp_20, mwr_21, mwr_22, mwr_23, mwa_1, mwu_1, mwa_2, mwu_2, mwa_3, mwu_3, mwa_4, mwu_4, mwa_5, mwu_5, mwa_6, mwu_6, mwa_7, mwu_7, mwa_8, mwu_8, mwa_9, mwu_9, mwa_10, mwu_10, mwa_11, mwu_11, mwa_12, mwu_12, mwa_13, mwu_13, mwa_14, mwu_14, mwa_15, mwu_15, mwa_16, mwu_16, vu_at, vu_ne, pk_us, pk_un, kB_n, wB_n, kL_n, wL_n, z256, mwo, hlat N q1 q2]
  | succ n ih =>
    intro k N N0 hk c0 c1 c2 h4 h5
    have q1 : N 1 = nI f' := (h5 1 (by omega)).trans c1
    have q2 : N 2 = nI (l' - f' + 1) := (h5 2 (by omega)).trans c2
    obtain ⟨N', e1, e3, e4⟩ := ih (k + 1) (upd N (3 + 256 * (l' - f') + k) (A 8 k)) N0 (by omega) c0 c1 c2 (fun j q => by
      by_cases hjk : j = k
      · subst hjk; rw [pk_us]
      · rw [pk_un (by omega)]; exact h4 j (by omega)) (fun j q => by rw [pk_un (by omega)]; exact h5 j q)
    refine ⟨N', ?_, e3, e4⟩
    rw [← e1]
    have h8 : ∀ {N}, va_up A 1 N 8 = A 8 := fun {N} => vu_ne (by omega)
    rw [e170_67]
    simp (disch := first | omega | exact tl_l | exact tT_len | (simp only [List.length_cons, List.length_nil])) only [e170_0, e170_1, e170_4, e170_5, e170_6, e170_8, e170_11, e170_12, e170_14, e170_17, e170_20, e170_21, e170_24, e170_25, e170_26, e170_29, e170_30, e170_33, e170_34, e170_35, e170_36, e170_39, e170_42, e170_43, e170_46, e170_47, e170_48, e170_49, e170_50, e170_51, e170_52, e170_55, e170_56, e170_59, e170_60, e170_61, e170_62, e170_63, e170_64, e170_65, e170_66, e170_68, e170_71, e170_74, e170_75, e170_78, e170_79, e170_80, e170_83, e170_84, e170_87, e170_88, e170_91, e170_92, e170_93, e170_94, e170_97, e170_100, e170_101, e170_104, kv_s, kh_s, kr_s, kr_v, kn_s, z0, z1, z2, nI_ltI, nI_leI, nI_eq, nI_add, oN, bz0, bz1, bw0, bw1, ltT, ltF, leT, leF, eqT, eqF, if_true, if_false, kI_n, wI_n, and_true, true_and, and_false, false_and, not_true, not_false_eq_true, mwo, mwr_0, mwr_1, mwr_2, mwg_3, mwp_3, mwr_4, mwg_5, mwp_5, mwg_6, mwp_6, mwr_7, mwr_8, mwg_9, mwp_9, mwg_10, mwp_10, mwg_11, mwp_11, mwr_12, mwg_13, mwp_13, mwr_14, mwr_15, mwr_16, mwr_17, mwr_18, mwr_19, mwg_20, mwp_20, mwr_21, mwr_22, mwr_23, mwa_1, mwu_1, mwa_2, mwu_2, mwa_3, mwu_3, mwa_4, mwu_4, mwa_5, mwu_5, mwa_6, mwu_6, mwa_7, mwu_7, mwa_8, mwu_8, mwa_9, mwu_9, mwa_10, mwu_10, mwa_11, mwu_11, mwa_12, mwu_12, mwa_13, mwu_13, mwa_14, mwu_14, mwa_15, mwu_15, mwa_16, mwu_16, vu_at, vu_ne, pk_us, pk_un, kB_n, wB_n, kL_n, wL_n, z256, hlat N q1 q2, hat N k q1, h8, vu_vu]
theorem M_makes (h : nowM (A 1) d f l V) (hl : l + 1 < 2 ^ 30) {W : Nat → Int32} (hW : ∀ k, k < 256 → A 8 k = W k) : ∃ N, dcall 170 [.ref m] (mw σ m A R I) = some (some (.int (nI (l + 1))), mw σ m (va_up A 1 N) R I) ∧ nowM N d (fst1 f l) (l + 1) (vup V (l + 1) W) := by
  have hK := h.K
  obtain ⟨g0, g1, g2, g3, g4, g5, g6, g7⟩ := h
  have hb := fst1_bd g4 g5
  by_cases h12 : l = f + 11
  · have ef : fst1 f l = f + 1 := if_pos h12
    rw [ef]
    obtain ⟨N1, l1', s1, s2, s3⟩ := M_shift_loop (σ := σ) (m := m) (A := A) (R := R) (I := I) 2816 3 (A 1) (A 1) (by omega) (Nat.le_refl _) (fun j q1 q2 => by omega) (fun j _ => rfl) (fun j _ => rfl)
    rw [vu_id] at s1
    have n1 : N1 1 = nI f := (s3 1 (by omega)).trans g1
    have n2 : N1 2 = nI (l - f + 1) := (s3 2 (by omega)).trans g2
    obtain ⟨N', e1, e2, e3⟩ := M_fill_loop (σ := σ) (m := m) (A := A) (R := R) (I := I) (d := d) (l' := l + 1) (f' := f + 1) (by omega) (by omega) hl g3 256 0 (upd N1 1 (nI (f + 1))) (upd N1 1 (nI (f + 1))) (Nat.zero_add _) (by rw [pk_un (by omega), s3 0 (by omega)]; exact g0) pk_us (by rw [pk_un (by omega), n2, show l + 1 - (f + 1) + 1 = l - f + 1 by omega]) (fun j q => absurd q (Nat.not_lt_zero j)) (fun j _ => rfl)
    refine ⟨N', ?_, ?_, ?_, ?_, g3, by omega, by omega, hl, fun v k q1 q2 q3 => ?_⟩
    · rw [← e1]
      have e12 : l - f + 1 = 12 := by omega
      rw [q170]
      simp (disch := first | omega | exact tl_l | exact tT_len | (simp only [List.length_cons, List.length_nil])) only [e170_0, e170_1, e170_4, e170_5, e170_6, e170_8, e170_11, e170_12, e170_14, e170_17, e170_20, e170_21, e170_24, e170_25, e170_26, e170_29, e170_30, e170_33, e170_34, e170_35, e170_36, e170_39, e170_42, e170_43, e170_46, e170_47, e170_48, e170_49, e170_50, e170_51, e170_52, e170_55, e170_56, e170_59, e170_60, e170_61, e170_62, e170_63, e170_64, e170_65, e170_66, e170_68, e170_71, e170_74, e170_75, e170_78, e170_79, e170_80, e170_83, e170_84, e170_87, e170_88, e170_91, e170_92, e170_93, e170_94, e170_97, e170_100, e170_101, e170_104, kv_s, kh_s, kr_s, kr_v, kn_s, z0, z1, z2, nI_ltI, nI_leI, nI_eq, nI_add, oN, bz0, bz1, bw0, bw1, ltT, ltF, leT, leF, eqT, eqF, if_true, if_false, kI_n, wI_n, and_true, true_and, and_false, false_and, not_true, not_false_eq_true, mwo, mwr_0, mwr_1, mwr_2, mwg_3, mwp_3, mwr_4, mwg_5, mwp_5, mwg_6, mwp_6, mwr_7, mwr_8, mwg_9, mwp_9, mwg_10, mwp_10, mwg_11, mwp_11, mwr_12, mwg_13, mwp_13, mwr_14, mwr_15, mwr_16, mwr_17, mwr_18, mwr_19, mwg_20, mwp_20, mwr_21, mwr_22, mwr_23, mwa_1, mwu_1, mwa_2, mwu_2, mwa_3, mwu_3, mwa_4, mwu_4, mwa_5, mwu_5, mwa_6, mwu_6, mwa_7, mwu_7, mwa_8, mwu_8, mwa_9, mwu_9, mwa_10, mwu_10, mwa_11, mwu_11, mwa_12, mwu_12, mwa_13, mwu_13, mwa_14, mwu_14, mwa_15, mwu_15, mwa_16, mwu_16, vu_at, vu_ne, pk_us, pk_un, kB_n, wB_n, kL_n, wL_n, g2, z12, e12, show (3 : Int32) = nI 3 from rfl]
      rw [s1]
      simp (disch := first | omega | exact tl_l | exact tT_len | (simp only [List.length_cons, List.length_nil])) only [e170_0, e170_1, e170_4, e170_5, e170_6, e170_8, e170_11, e170_12, e170_14, e170_17, e170_20, e170_21, e170_24, e170_25, e170_26, e170_29, e170_30, e170_33, e170_34, e170_35, e170_36, e170_39, e170_42, e170_43, e170_46, e170_47, e170_48, e170_49, e170_50, e170_51, e170_52, e170_55, e170_56, e170_59, e170_60, e170_61, e170_62, e170_63, e170_64, e170_65, e170_66, e170_68, e170_71, e170_74, e170_75, e170_78, e170_79, e170_80, e170_83, e170_84, e170_87, e170_88, e170_91, e170_92, e170_93, e170_94, e170_97, e170_100, e170_101, e170_104, kv_s, kh_s, kr_s, kr_v, kn_s, z0, z1, z2, nI_ltI, nI_leI, nI_eq, nI_add, oN, bz0, bz1, bw0, bw1, ltT, ltF, leT, leF, eqT, eqF, if_true, if_false, kI_n, wI_n, and_true, true_and, and_false, false_and, not_true, not_false_eq_true, mwo, mwr_0, mwr_1, mwr_2, mwg_3, mwp_3, mwr_4, mwg_5, mwp_5, mwg_6, mwp_6, mwr_7, mwr_8, mwg_9, mwp_9, mwg_10, mwp_10, mwg_11, mwp_11, mwr_12, mwg_13, mwp_13, mwr_14, mwr_15, mwr_16, mwr_17, mwr_18, mwr_19, mwg_20, mwp_20, mwr_21, mwr_22, mwr_23, mwa_1, mwu_1, mwa_2, mwu_2, mwa_3, mwu_3, mwa_4, mwu_4, mwa_5, mwu_5, mwa_6, mwu_6, mwa_7, mwu_7, mwa_8, mwu_8, mwa_9, mwu_9, mwa_10, mwu_10, mwa_11, mwu_11, mwa_12, mwu_12, mwa_13, mwu_13, mwa_14, mwu_14, mwa_15, mwu_15, mwa_16, mwu_16, vu_at, vu_ne, pk_us, pk_un, kB_n, wB_n, kL_n, wL_n, n1, vu_vu]
    · rw [e3 0 (by omega), pk_un (by omega), s3 0 (by omega)]; exact g0
    · rw [e3 1 (by omega), pk_us]
    · rw [e3 2 (by omega), pk_un (by omega), n2, show l + 1 - (f + 1) + 1 = l - f + 1 by omega]
    · unfold vup
      by_cases hv : v = l + 1
      · subst hv
        rw [if_pos rfl, e2 k q3, hW k q3]
      · rw [if_neg hv, e3 _ (by omega), pk_un (by omega), s2 _ (by omega) (by omega), show 3 + 256 * (v - (f + 1)) + k + 256 = 3 + 256 * (v - f) + k by omega]
        exact g7 v k (by omega) (by omega) q3
  · have ef : fst1 f l = f := if_neg h12
    rw [ef]
    obtain ⟨N', e1, e2, e3⟩ := M_fill_loop (σ := σ) (m := m) (A := A) (R := R) (I := I) (d := d) (l' := l + 1) (f' := f) (by omega) (by omega) hl g3 256 0 (upd (A 1) 2 (nI (l + 1 - f + 1))) (upd (A 1) 2 (nI (l + 1 - f + 1))) (Nat.zero_add _) (by rw [pk_un (by omega)]; exact g0) (by rw [pk_un (by omega)]; exact g1) pk_us (fun j q => absurd q (Nat.not_lt_zero j)) (fun j _ => rfl)
    refine ⟨N', ?_, ?_, ?_, ?_, g3, by omega, by omega, hl, fun v k q1 q2 q3 => ?_⟩
    · rw [← e1]
      have e12 : ¬ l - f + 1 = 12 := by omega
      have e13 : l - f + 1 + 1 = l + 1 - f + 1 := by omega
      rw [q170]
      simp (disch := first | omega | exact tl_l | exact tT_len | (simp only [List.length_cons, List.length_nil])) only [e170_0, e170_1, e170_4, e170_5, e170_6, e170_8, e170_11, e170_12, e170_14, e170_17, e170_20, e170_21, e170_24, e170_25, e170_26, e170_29, e170_30, e170_33, e170_34, e170_35, e170_36, e170_39, e170_42, e170_43, e170_46, e170_47, e170_48, e170_49, e170_50, e170_51, e170_52, e170_55, e170_56, e170_59, e170_60, e170_61, e170_62, e170_63, e170_64, e170_65, e170_66, e170_68, e170_71, e170_74, e170_75, e170_78, e170_79, e170_80, e170_83, e170_84, e170_87, e170_88, e170_91, e170_92, e170_93, e170_94, e170_97, e170_100, e170_101, e170_104, kv_s, kh_s, kr_s, kr_v, kn_s, z0, z1, z2, nI_ltI, nI_leI, nI_eq, nI_add, oN, bz0, bz1, bw0, bw1, ltT, ltF, leT, leF, eqT, eqF, if_true, if_false, kI_n, wI_n, and_true, true_and, and_false, false_and, not_true, not_false_eq_true, mwo, mwr_0, mwr_1, mwr_2, mwg_3, mwp_3, mwr_4, mwg_5, mwp_5, mwg_6, mwp_6, mwr_7, mwr_8, mwg_9, mwp_9, mwg_10, mwp_10, mwg_11, mwp_11, mwr_12, mwg_13, mwp_13, mwr_14, mwr_15, mwr_16, mwr_17, mwr_18, mwr_19, mwg_20, mwp_20, mwr_21, mwr_22, mwr_23, mwa_1, mwu_1, mwa_2, mwu_2, mwa_3, mwu_3, mwa_4, mwu_4, mwa_5, mwu_5, mwa_6, mwu_6, mwa_7, mwu_7, mwa_8, mwu_8, mwa_9, mwu_9, mwa_10, mwu_10, mwa_11, mwu_11, mwa_12, mwu_12, mwa_13, mwu_13, mwa_14, mwu_14, mwa_15, mwu_15, mwa_16, mwu_16, vu_at, vu_ne, pk_us, pk_un, kB_n, wB_n, kL_n, wL_n, g2, z12, e12, e13]
    · rw [e3 0 (by omega), pk_un (by omega)]; exact g0
    · rw [e3 1 (by omega), pk_un (by omega)]; exact g1
    · rw [e3 2 (by omega), pk_us]
    · unfold vup
      by_cases hv : v = l + 1
      · subst hv
        rw [if_pos rfl, e2 k q3, hW k q3]
      · rw [if_neg hv, e3 _ (by omega), pk_un (by omega)]
        exact g7 v k (by omega) (by omega) q3
end MM
