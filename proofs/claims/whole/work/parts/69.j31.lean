/-! calls: acts of the reference -/
section AG
variable {c : Nat} {σ τ : Hp} {m : Nat} {A : Nat → Nat → Int32} {R : Nat → Int64} {I : Nat → Int32} {z : Hs} {K : Nat → Option Hs} {W N : Nat → Int32} {x y : Int32} {d : Nat} {V : Nat → Int32}
/-- the reference's end of an act: the same, or made -/
theorem M_end2 (h : nowM (A 1) z.1 z.2.1 z.2.2.1 z.2.2.2) (ok : okH z) (hl : z.2.2.1 + 1 < 2 ^ 30) {N : Nat → Int32} (hW : ∀ k, k < 256 → N k = W k) (h0 : zer z.1 W) (h40 : un z.1 W 1 ≤ 40) {X : Nat} {as : List Value} (e1 : un z.1 (dl W (z.2.2.2 z.2.2.1)) 1 = 0 → dcall 166 [.ref m] (mw σ m (va_up A 8 N) R I) = some (some (.int (nI 1)), mw σ m (va_up A 8 N) R I) → dcall X as (mw σ m A R I) = some (some (.int y), mw σ m (va_up A 8 N) R I)) (e2 : ∀ b v, un z.1 (dl W (z.2.2.2 z.2.2.1)) 1 ≠ 0 → dcall 166 [.ref m] (mw σ m (va_up A 8 N) R I) = some (some (.int (nI 0)), mw σ m (va_up A 8 N) R I) → dcall 170 [.ref m] (mw σ m (va_up A 8 N) R I) = some (some (.int b), v) → dcall X as (mw σ m A R I) = some (some (.int b), v)) : RA m X as σ A R I (mkF z W x y) := by
  have g1 : nowM (va_up A 8 N 1) z.1 z.2.1 z.2.2.1 z.2.2.2 := by rw [vu_ne (by omega)]; exact h
  obtain ⟨i1, i2, i3⟩ := M_mk2 (σ := σ) (m := m) (A := va_up A 8 N) (R := R) (I := I) (x := x) (y := y) g1 ok hl (fun k hk => by rw [vu_at]; exact hW k hk) h0 h40
  by_cases hz : un z.1 (dl W (z.2.2.2 z.2.2.1)) 1 = 0
  · rw [if_pos hz] at i1
    rw [i2 hz]
    exact ⟨va_up A 8 N, e1 hz i1, g1, fun k q1 q2 => vu_ne q2⟩
  · rw [if_neg hz] at i1
    have hmk := i3 hz
    refine hmk.of (fun k q1 q2 => vu_ne q2) ?_
    obtain ⟨A'', f1, _⟩ := hmk
    rw [f1]
    exact e2 _ _ hz i1 f1
theorem M_goBack (h : nowM (A 1) z.1 z.2.1 z.2.2.1 z.2.2.2) (ok : okH z) (hl : z.2.2.1 + 1 < 2 ^ 30) {v : Nat} (hv : v < 2 ^ 31) : RA m 236 [.ref m, .int (nI v)] σ A R I (bckF z v) := by
  have hK := h.K
  unfold bckF
  by_cases h1 : z.2.1 ≤ v ∧ v ≤ z.2.2.1
  · rw [if_pos h1]
    have okv := ok v h1.1 h1.2
    obtain ⟨N, n1, n2⟩ := M_layNext (σ := σ) (m := m) (R := R) (I := I) h h1.1 h1.2
    refine M_end2 h ok hl n2 okv.2.2 okv.2.1 (fun hz i1 => ?_) (fun b v' hz i1 f1 => ?_)
    · rw [q236]
      simp (disch := first | omega | exact tl_l | exact tT_len | (simp only [List.length_cons, List.length_nil])) only [e236_0, e236_1, e236_2, e236_5, e236_8, e236_9, e236_10, e236_11, e236_12, e236_15, e236_16, e236_19, e236_22, e236_24, e236_27, e236_28, e236_31, kv_s, kh_s, kr_s, kr_v, kn_s, z0, z1, z2, nI_ltI, nI_leI, nI_eq, nI_add, oN, bz0, bz1, bw0, bw1, ltT, ltF, leT, leF, eqT, eqF, if_true, if_false, kI_n, wI_n, and_true, true_and, and_false, false_and, not_true, not_false_eq_true, mwo, mwr_0, mwr_1, mwr_2, mwg_3, mwp_3, mwr_4, mwg_5, mwp_5, mwg_6, mwp_6, mwr_7, mwr_8, mwg_9, mwp_9, mwg_10, mwp_10, mwg_11, mwp_11, mwr_12, mwg_13, mwp_13, mwr_14, mwr_15, mwr_16, mwr_17, mwr_18, mwr_19, mwg_20, mwp_20, mwr_21, mwr_22, mwr_23, mwa_1, mwu_1, mwa_2, mwu_2, mwa_3, mwu_3, mwa_4, mwu_4, mwa_5, mwu_5, mwa_6, mwu_6, mwa_7, mwu_7, mwa_8, mwu_8, mwa_9, mwu_9, mwa_10, mwu_10, mwa_11, mwu_11, mwa_12, mwu_12, mwa_13, mwu_13, mwa_14, mwu_14, mwa_15, mwu_15, mwa_16, mwu_16, vu_at, vu_ne, pk_us, pk_un, kB_n, wB_n, kL_n, wL_n, mwo, M_ver h h1.1 h1.2, n01, n1, i1]
    · rw [q236]
      simp (disch := first | omega | exact tl_l | exact tT_len | (simp only [List.length_cons, List.length_nil])) only [e236_0, e236_1, e236_2, e236_5, e236_8, e236_9, e236_10, e236_11, e236_12, e236_15, e236_16, e236_19, e236_22, e236_24, e236_27, e236_28, e236_31, kv_s, kh_s, kr_s, kr_v, kn_s, z0, z1, z2, nI_ltI, nI_leI, nI_eq, nI_add, oN, bz0, bz1, bw0, bw1, ltT, ltF, leT, leF, eqT, eqF, if_true, if_false, kI_n, wI_n, and_true, true_and, and_false, false_and, not_true, not_false_eq_true, mwo, mwr_0, mwr_1, mwr_2, mwg_3, mwp_3, mwr_4, mwg_5, mwp_5, mwg_6, mwp_6, mwr_7, mwr_8, mwg_9, mwp_9, mwg_10, mwp_10, mwg_11, mwp_11, mwr_12, mwg_13, mwp_13, mwr_14, mwr_15, mwr_16, mwr_17, mwr_18, mwr_19, mwg_20, mwp_20, mwr_21, mwr_22, mwr_23, mwa_1, mwu_1, mwa_2, mwu_2, mwa_3, mwu_3, mwa_4, mwu_4, mwa_5, mwu_5, mwa_6, mwu_6, mwa_7, mwu_7, mwa_8, mwu_8, mwa_9, mwu_9, mwa_10, mwu_10, mwa_11, mwu_11, mwa_12, mwu_12, mwa_13, mwu_13, mwa_14, mwu_14, mwa_15, mwu_15, mwa_16, mwu_16, vu_at, vu_ne, pk_us, pk_un, kB_n, wB_n, kL_n, wL_n, mwo, M_ver h h1.1 h1.2, n01, n1, i1, f1]
  · rw [if_neg h1]
    have hx : nI v < nI z.2.1 ∨ nI z.2.2.1 < nI v := by
      rcases Nat.lt_or_ge v z.2.1 with q | q
      · exact Or.inl ((nI_ltI hv (by omega)).mpr q)
      · exact Or.inr ((nI_ltI (by omega) hv).mpr (by omega))
    refine ⟨A, ?_, h, fun _ _ _ => rfl⟩
    rw [q236]
    simp (disch := first | omega | exact tl_l | exact tT_len | (simp only [List.length_cons, List.length_nil])) only [e236_0, e236_1, e236_2, e236_5, e236_8, e236_9, e236_10, e236_11, e236_12, e236_15, e236_16, e236_19, e236_22, e236_24, e236_27, e236_28, e236_31, kv_s, kh_s, kr_s, kr_v, kn_s, z0, z1, z2, nI_ltI, nI_leI, nI_eq, nI_add, oN, bz0, bz1, bw0, bw1, ltT, ltF, leT, leF, eqT, eqF, if_true, if_false, kI_n, wI_n, and_true, true_and, and_false, false_and, not_true, not_false_eq_true, mwo, mwr_0, mwr_1, mwr_2, mwg_3, mwp_3, mwr_4, mwg_5, mwp_5, mwg_6, mwp_6, mwr_7, mwr_8, mwg_9, mwp_9, mwg_10, mwp_10, mwg_11, mwp_11, mwr_12, mwg_13, mwp_13, mwr_14, mwr_15, mwr_16, mwr_17, mwr_18, mwr_19, mwg_20, mwp_20, mwr_21, mwr_22, mwr_23, mwa_1, mwu_1, mwa_2, mwu_2, mwa_3, mwu_3, mwa_4, mwu_4, mwa_5, mwu_5, mwa_6, mwu_6, mwa_7, mwu_7, mwa_8, mwu_8, mwa_9, mwu_9, mwa_10, mwu_10, mwa_11, mwu_11, mwa_12, mwu_12, mwa_13, mwu_13, mwa_14, mwu_14, mwa_15, mwu_15, mwa_16, mwu_16, vu_at, vu_ne, pk_us, pk_un, kB_n, wB_n, kL_n, wL_n, mwo, M_ver0 h hx]
theorem M_clear_loop {a b : Nat} (hb' : b < 256) : ∀ (n k : Nat) (N : Nat → Int32), k + n = b + 1 → a ≤ k → (∀ j, j < 256 → N j = clr V a k j) → ∃ N', den 238 21 [.ref m, .int (nI a), .int (nI b), .int (nI k)] [] (mw σ m (va_up A 8 N) R I) = den 238 39 [.ref m, .int (nI a), .int (nI b), .int (nI (b + 1))] [] (mw σ m (va_up A 8 N') R I) ∧ ∀ j, j < 256 → N' j = clr V a (b + 1) j := by
  intro n
  induction n with
  | zero =>
    intro k N hk ha hN
    have : k = b + 1 := by omega
    subst this
    refine ⟨N, ?_, hN⟩
    rw [e238_21]
    simp (disch := first | omega | exact tl_l | exact tT_len | (simp only [List.length_cons, List.length_nil])) only [e238_22, e238_23, e238_26, e238_27, e238_30, e238_31, e238_32, e238_33, e238_36, kv_s, kh_s, kr_s, kr_v, kn_s, z0, z1, z2, nI_ltI, nI_leI, nI_eq, nI_add, oN, bz0, bz1, bw0, bw1, ltT, ltF, leT, leF, eqT, eqF, if_true, if_false, kI_n, wI_n, and_true, true_and, and_false, false_and, not_true, not_false_eq_true]
  | succ n ih =>
    intro k N hk ha hN
    obtain ⟨N', e1, e2⟩ := ih (k + 1) (upd N k (nI 0)) (by omega) (by omega) (fun j hj => by
      rw [← clr_s ha]
      by_cases hjk : j = k
      · subst hjk; rw [pk_us, pk_us]
      · rw [pk_un hjk, pk_un hjk]; exact hN j hj)
    refine ⟨N', ?_, e2⟩
    rw [← e1]
    rw [e238_21]
    simp (disch := first | omega | exact tl_l | exact tT_len | (simp only [List.length_cons, List.length_nil])) only [e238_22, e238_23, e238_26, e238_27, e238_30, e238_31, e238_32, e238_33, e238_36, kv_s, kh_s, kr_s, kr_v, kn_s, z0, z1, z2, nI_ltI, nI_leI, nI_eq, nI_add, oN, bz0, bz1, bw0, bw1, ltT, ltF, leT, leF, eqT, eqF, if_true, if_false, kI_n, wI_n, and_true, true_and, and_false, false_and, not_true, not_false_eq_true, mwo, mwr_0, mwr_1, mwr_2, mwg_3, mwp_3, mwr_4, mwg_5, mwp_5, mwg_6, mwp_6, mwr_7, mwr_8, mwg_9, mwp_9, mwg_10, mwp_10, mwg_11, mwp_11, mwr_12, mwg_13, mwp_13, mwr_14, mwr_15, mwr_16, mwr_17, mwr_18, mwr_19, mwg_20, mwp_20, mwr_21, mwr_22, mwr_23, mwa_1, mwu_1, mwa_2, mwu_2, mwa_3, mwu_3, mwa_4, mwu_4, mwa_5, mwu_5, mwa_6, mwu_6, mwa_7, mwu_7, mwa_8, mwu_8, mwa_9, mwu_9, mwa_10, mwu_10, mwa_11, mwu_11, mwa_12, mwu_12, mwa_13, mwu_13, mwa_14, mwu_14, mwa_15, mwu_15, mwa_16, mwu_16, vu_at, vu_ne, pk_us, pk_un, kB_n, wB_n, kL_n, wL_n, vu_vu]
theorem M_goClear (h : nowM (A 1) z.1 z.2.1 z.2.2.1 z.2.2.2) (ok : okH z) (hl : z.2.2.1 + 1 < 2 ^ 30) {a b : Nat} (ha : a < 2 ^ 31) (hb' : b < 2 ^ 31) : RA m 238 [.ref m, .int (nI a), .int (nI b)] σ A R I (clrF z a b) := by
  have hK := h.K
  have hd := hK.2.2.1
  have okl := ok _ hK.2.2.2.1 (Nat.le_refl _)
  unfold clrF
  by_cases h1 : a ≤ b ∧ b < 2 ^ z.1
  · rw [if_pos h1]
    have hs := isS_k hd h1.1 h1.2
    obtain ⟨N, n1, n2⟩ := M_layNext (σ := σ) (m := m) (R := R) (I := I) h hK.2.2.2.1 (Nat.le_refl z.2.2.1)
    obtain ⟨N', c1, c2⟩ := M_clear_loop (σ := σ) (m := m) (A := A) (R := R) (I := I) (V := z.2.2.2 z.2.2.1) (show b < 256 by omega) (b + 1 - a) a N (by omega) (Nat.le_refl _) (fun j hj => by rw [clr_0]; exact n2 j hj)
    refine M_end2 h ok hl c2 (zer.cl okl.2.2) (Nat.le_trans un_clr okl.2.1) (fun hz i1 => ?_) (fun b v' hz i1 f1 => ?_)
    · rw [q238]
      simp (disch := first | omega | exact tl_l | exact tT_len | (simp only [List.length_cons, List.length_nil])) only [e238_0, e238_1, e238_2, e238_3, e238_6, e238_9, e238_10, e238_11, e238_12, e238_13, e238_16, e238_19, e238_20, e238_22, e238_23, e238_26, e238_27, e238_30, e238_31, e238_32, e238_33, e238_36, e238_39, e238_40, e238_43, e238_46, e238_48, e238_51, e238_52, e238_55, kv_s, kh_s, kr_s, kr_v, kn_s, z0, z1, z2, nI_ltI, nI_leI, nI_eq, nI_add, oN, bz0, bz1, bw0, bw1, ltT, ltF, leT, leF, eqT, eqF, if_true, if_false, kI_n, wI_n, and_true, true_and, and_false, false_and, not_true, not_false_eq_true, mwo, mwr_0, mwr_1, mwr_2, mwg_3, mwp_3, mwr_4, mwg_5, mwp_5, mwg_6, mwp_6, mwr_7, mwr_8, mwg_9, mwp_9, mwg_10, mwp_10, mwg_11, mwp_11, mwr_12, mwg_13, mwp_13, mwr_14, mwr_15, mwr_16, mwr_17, mwr_18, mwr_19, mwg_20, mwp_20, mwr_21, mwr_22, mwr_23, mwa_1, mwu_1, mwa_2, mwu_2, mwa_3, mwu_3, mwa_4, mwu_4, mwa_5, mwu_5, mwa_6, mwu_6, mwa_7, mwu_7, mwa_8, mwu_8, mwa_9, mwu_9, mwa_10, mwu_10, mwa_11, mwu_11, mwa_12, mwu_12, mwa_13, mwu_13, mwa_14, mwu_14, mwa_15, mwu_15, mwa_16, mwu_16, vu_at, vu_ne, pk_us, pk_un, kB_n, wB_n, kL_n, wL_n, mwo, M_isSpan h, hs, n01, M_latest h, n1]
      rw [c1]
      simp (disch := first | omega | exact tl_l | exact tT_len | (simp only [List.length_cons, List.length_nil])) only [e238_0, e238_1, e238_2, e238_3, e238_6, e238_9, e238_10, e238_11, e238_12, e238_13, e238_16, e238_19, e238_20, e238_22, e238_23, e238_26, e238_27, e238_30, e238_31, e238_32, e238_33, e238_36, e238_39, e238_40, e238_43, e238_46, e238_48, e238_51, e238_52, e238_55, kv_s, kh_s, kr_s, kr_v, kn_s, z0, z1, z2, nI_ltI, nI_leI, nI_eq, nI_add, oN, bz0, bz1, bw0, bw1, ltT, ltF, leT, leF, eqT, eqF, if_true, if_false, kI_n, wI_n, and_true, true_and, and_false, false_and, not_true, not_false_eq_true, mwo, mwr_0, mwr_1, mwr_2, mwg_3, mwp_3, mwr_4, mwg_5, mwp_5, mwg_6, mwp_6, mwr_7, mwr_8, mwg_9, mwp_9, mwg_10, mwp_10, mwg_11, mwp_11, mwr_12, mwg_13, mwp_13, mwr_14, mwr_15, mwr_16, mwr_17, mwr_18, mwr_19, mwg_20, mwp_20, mwr_21, mwr_22, mwr_23, mwa_1, mwu_1, mwa_2, mwu_2, mwa_3, mwu_3, mwa_4, mwu_4, mwa_5, mwu_5, mwa_6, mwu_6, mwa_7, mwu_7, mwa_8, mwu_8, mwa_9, mwu_9, mwa_10, mwu_10, mwa_11, mwu_11, mwa_12, mwu_12, mwa_13, mwu_13, mwa_14, mwu_14, mwa_15, mwu_15, mwa_16, mwu_16, vu_at, vu_ne, pk_us, pk_un, kB_n, wB_n, kL_n, wL_n, mwo, i1, n01]
    · rw [q238]
      simp (disch := first | omega | exact tl_l | exact tT_len | (simp only [List.length_cons, List.length_nil])) only [e238_0, e238_1, e238_2, e238_3, e238_6, e238_9, e238_10, e238_11, e238_12, e238_13, e238_16, e238_19, e238_20, e238_22, e238_23, e238_26, e238_27, e238_30, e238_31, e238_32, e238_33, e238_36, e238_39, e238_40, e238_43, e238_46, e238_48, e238_51, e238_52, e238_55, kv_s, kh_s, kr_s, kr_v, kn_s, z0, z1, z2, nI_ltI, nI_leI, nI_eq, nI_add, oN, bz0, bz1, bw0, bw1, ltT, ltF, leT, leF, eqT, eqF, if_true, if_false, kI_n, wI_n, and_true, true_and, and_false, false_and, not_true, not_false_eq_true, mwo, mwr_0, mwr_1, mwr_2, mwg_3, mwp_3, mwr_4, mwg_5, mwp_5, mwg_6, mwp_6, mwr_7, mwr_8, mwg_9, mwp_9, mwg_10, mwp_10, mwg_11, mwp_11, mwr_12, mwg_13, mwp_13, mwr_14, mwr_15, mwr_16, mwr_17, mwr_18, mwr_19, mwg_20, mwp_20, mwr_21, mwr_22, mwr_23, mwa_1, mwu_1, mwa_2, mwu_2, mwa_3, mwu_3, mwa_4, mwu_4, mwa_5, mwu_5, mwa_6, mwu_6, mwa_7, mwu_7, mwa_8, mwu_8, mwa_9, mwu_9, mwa_10, mwu_10, mwa_11, mwu_11, mwa_12, mwu_12, mwa_13, mwu_13, mwa_14, mwu_14, mwa_15, mwu_15, mwa_16, mwu_16, vu_at, vu_ne, pk_us, pk_un, kB_n, wB_n, kL_n, wL_n, mwo, M_isSpan h, hs, n01, M_latest h, n1]
      rw [c1]
      simp (disch := first | omega | exact tl_l | exact tT_len | (simp only [List.length_cons, List.length_nil])) only [e238_0, e238_1, e238_2, e238_3, e238_6, e238_9, e238_10, e238_11, e238_12, e238_13, e238_16, e238_19, e238_20, e238_22, e238_23, e238_26, e238_27, e238_30, e238_31, e238_32, e238_33, e238_36, e238_39, e238_40, e238_43, e238_46, e238_48, e238_51, e238_52, e238_55, kv_s, kh_s, kr_s, kr_v, kn_s, z0, z1, z2, nI_ltI, nI_leI, nI_eq, nI_add, oN, bz0, bz1, bw0, bw1, ltT, ltF, leT, leF, eqT, eqF, if_true, if_false, kI_n, wI_n, and_true, true_and, and_false, false_and, not_true, not_false_eq_true, mwo, mwr_0, mwr_1, mwr_2, mwg_3, mwp_3, mwr_4, mwg_5, mwp_5, mwg_6, mwp_6, mwr_7, mwr_8, mwg_9, mwp_9, mwg_10, mwp_10, mwg_11, mwp_11, mwr_12, mwg_13, mwp_13, mwr_14, mwr_15, mwr_16, mwr_17, mwr_18, mwr_19, mwg_20, mwp_20, mwr_21, mwr_22, mwr_23, mwa_1, mwu_1, mwa_2, mwu_2, mwa_3, mwu_3, mwa_4, mwu_4, mwa_5, mwu_5, mwa_6, mwu_6, mwa_7, mwu_7, mwa_8, mwu_8, mwa_9, mwu_9, mwa_10, mwu_10, mwa_11, mwu_11, mwa_12, mwu_12, mwa_13, mwu_13, mwa_14, mwu_14, mwa_15, mwu_15, mwa_16, mwu_16, vu_at, vu_ne, pk_us, pk_un, kB_n, wB_n, kL_n, wL_n, mwo, i1, f1]
  · rw [if_neg h1]
    have hs : isS z.1 (nI a) (nI b) = false := by
      cases hs : isS z.1 (nI a) (nI b) with
      | false => rfl
      | true =>
        obtain ⟨a', b', e1, e2, e3, e4⟩ := isS_of hd hs
        have q1 := (nI_eq ha (by omega)).mp e1
        have q2 := (nI_eq hb' (by omega)).mp e2
        exact absurd ⟨by omega, by omega⟩ h1
    refine ⟨A, ?_, h, fun _ _ _ => rfl⟩
    rw [q238]
    simp (disch := first | omega | exact tl_l | exact tT_len | (simp only [List.length_cons, List.length_nil])) only [e238_0, e238_1, e238_2, e238_3, e238_6, e238_9, e238_10, e238_11, e238_12, e238_13, e238_16, e238_19, e238_20, e238_22, e238_23, e238_26, e238_27, e238_30, e238_31, e238_32, e238_33, e238_36, e238_39, e238_40, e238_43, e238_46, e238_48, e238_51, e238_52, e238_55, kv_s, kh_s, kr_s, kr_v, kn_s, z0, z1, z2, nI_ltI, nI_leI, nI_eq, nI_add, oN, bz0, bz1, bw0, bw1, ltT, ltF, leT, leF, eqT, eqF, if_true, if_false, kI_n, wI_n, and_true, true_and, and_false, false_and, not_true, not_false_eq_true, mwo, mwr_0, mwr_1, mwr_2, mwg_3, mwp_3, mwr_4, mwg_5, mwp_5, mwg_6, mwp_6, mwr_7, mwr_8, mwg_9, mwp_9, mwg_10, mwp_10, mwg_11, mwp_11, mwr_12, mwg_13, mwp_13, mwr_14, mwr_15, mwr_16, mwr_17, mwr_18, mwr_19, mwg_20, mwp_20, mwr_21, mwr_22, mwr_23, mwa_1, mwu_1, mwa_2, mwu_2, mwa_3, mwu_3, mwa_4, mwu_4, mwa_5, mwu_5, mwa_6, mwu_6, mwa_7, mwu_7, mwa_8, mwu_8, mwa_9, mwu_9, mwa_10, mwu_10, mwa_11, mwu_11, mwa_12, mwu_12, mwa_13, mwu_13, mwa_14, mwu_14, mwa_15, mwu_15, mwa_16, mwu_16, vu_at, vu_ne, pk_us, pk_un, kB_n, wB_n, kL_n, wL_n, mwo, M_isSpan h, hs, Bool.false_eq_true]
end AG
