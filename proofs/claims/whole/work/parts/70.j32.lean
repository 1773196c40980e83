/-! calls: moves and swaps of the reference -/
section AH
variable {c : Nat} {σ τ : Hp} {m : Nat} {A : Nat → Nat → Int32} {R : Nat → Int64} {I : Nat → Int32} {z : Hs} {K : Nat → Option Hs} {W N : Nat → Int32} {x y : Int32} {d : Nat} {V : Nat → Int32}
/-- the reference makes it, as it is another one -/
theorem M_mk3 (h : nowM (A 1) z.1 z.2.1 z.2.2.1 z.2.2.2) (hl : z.2.2.1 + 1 < 2 ^ 30) {N : Nat → Int32} (hW : ∀ k, k < 256 → N k = W k) (h40 : un z.1 W 1 ≤ 40) (hne : un z.1 (dl W (z.2.2.2 z.2.2.1)) 1 ≠ 0) {X : Nat} {as : List Value} (e2 : ∀ b v, dcall 170 [.ref m] (mw σ m (va_up A 8 N) R I) = some (some (.int b), v) → dcall X as (mw σ m A R I) = some (some (.int b), v)) : RA m X as σ A R I (mkF z W x y) := by
  have g1 : nowM (va_up A 8 N 1) z.1 z.2.1 z.2.2.1 z.2.2.2 := by rw [vu_ne (by omega)]; exact h
  have hmk := M_mk (σ := σ) (m := m) (A := va_up A 8 N) (R := R) (I := I) (x := x) (y := y) g1 hl (fun k hk => by rw [vu_at]; exact hW k hk) h40 hne
  refine hmk.of (fun k q1 q2 => vu_ne q2) ?_
  obtain ⟨A'', f1, _⟩ := hmk
  rw [f1]
  exact e2 _ _ f1
theorem M_goMove (h : nowM (A 1) z.1 z.2.1 z.2.2.1 z.2.2.2) (ok : okH z) (hl : z.2.2.1 + 1 < 2 ^ 30) {a b : Nat} (ha : a < 2 ^ 31) (hb' : b < 2 ^ 31) : RA m 232 [.ref m, .int (nI a), .int (nI b)] σ A R I (movF z a b) := by
  have hK := h.K
  have hd := hK.2.2.1
  have okl := ok _ hK.2.2.2.1 (Nat.le_refl _)
  have hk := isK_nat (a := a) hd ha
  have hk2 := isK_nat (a := b) hd hb'
  obtain ⟨N, n1, n2⟩ := M_layNext (σ := σ) (m := m) (R := R) (I := I) h hK.2.2.2.1 (Nat.le_refl z.2.2.1)
  have g1 : nowM (va_up A 8 N 1) z.1 z.2.1 z.2.2.1 z.2.2.2 := by rw [vu_ne (by omega)]; exact h
  unfold movF
  by_cases h1 : a < 2 ^ z.1
  · rw [decide_eq_true h1] at hk
    by_cases h2 : b < 2 ^ z.1
    · rw [decide_eq_true h2] at hk2
      by_cases h3 : a = b
      · rw [if_neg (fun z => z.2.2 h3)]
        refine ⟨A, ?_, h, fun _ _ _ => rfl⟩
        rw [q232]
        simp (disch := first | omega | exact tl_l | exact tT_len | (simp only [List.length_cons, List.length_nil])) only [e232_0, e232_1, e232_2, e232_5, e232_8, e232_9, e232_10, e232_13, e232_16, e232_17, e232_18, e232_21, e232_22, e232_23, e232_24, e232_25, e232_28, e232_31, e232_32, e232_35, e232_36, e232_37, e232_40, e232_42, e232_43, e232_44, e232_47, e232_48, e232_49, e232_52, e232_54, e232_55, e232_56, e232_59, e232_60, e232_61, e232_64, e232_65, e232_66, e232_67, e232_68, e232_71, e232_72, e232_73, e232_74, e232_75, e232_78, kv_s, kh_s, kr_s, kr_v, kn_s, z0, z1, z2, nI_ltI, nI_leI, nI_eq, nI_add, oN, bz0, bz1, bw0, bw1, ltT, ltF, leT, leF, eqT, eqF, if_true, if_false, kI_n, wI_n, and_true, true_and, and_false, false_and, not_true, not_false_eq_true, mwo, mwr_0, mwr_1, mwr_2, mwg_3, mwp_3, mwr_4, mwg_5, mwp_5, mwg_6, mwp_6, mwr_7, mwr_8, mwg_9, mwp_9, mwg_10, mwp_10, mwg_11, mwp_11, mwr_12, mwg_13, mwp_13, mwr_14, mwr_15, mwr_16, mwr_17, mwr_18, mwr_19, mwg_20, mwp_20, mwr_21, mwr_22, mwr_23, mwa_1, mwu_1, mwa_2, mwu_2, mwa_3, mwu_3, mwa_4, mwu_4, mwa_5, mwu_5, mwa_6, mwu_6, mwa_7, mwu_7, mwa_8, mwu_8, mwa_9, mwu_9, mwa_10, mwu_10, mwa_11, mwu_11, mwa_12, mwu_12, mwa_13, mwu_13, mwa_14, mwu_14, mwa_15, mwu_15, mwa_16, mwu_16, vu_at, vu_ne, pk_us, pk_un, kB_n, wB_n, kL_n, wL_n, mwo, M_isKey h, hk, hk2, n01, h3]
      · rw [if_pos ⟨h1, h2, h3⟩]
        have na := n2 a (by omega)
        have nb := n2 b (by omega)
        by_cases h4 : z.2.2.2 z.2.2.1 a = nI 0
        · rw [if_pos h4]
          rw [h4] at na
          refine ⟨va_up A 8 N, ?_, g1, fun k q1 q2 => vu_ne q2⟩
          rw [q232]
          simp (disch := first | omega | exact tl_l | exact tT_len | (simp only [List.length_cons, List.length_nil])) only [e232_0, e232_1, e232_2, e232_5, e232_8, e232_9, e232_10, e232_13, e232_16, e232_17, e232_18, e232_21, e232_22, e232_23, e232_24, e232_25, e232_28, e232_31, e232_32, e232_35, e232_36, e232_37, e232_40, e232_42, e232_43, e232_44, e232_47, e232_48, e232_49, e232_52, e232_54, e232_55, e232_56, e232_59, e232_60, e232_61, e232_64, e232_65, e232_66, e232_67, e232_68, e232_71, e232_72, e232_73, e232_74, e232_75, e232_78, kv_s, kh_s, kr_s, kr_v, kn_s, z0, z1, z2, nI_ltI, nI_leI, nI_eq, nI_add, oN, bz0, bz1, bw0, bw1, ltT, ltF, leT, leF, eqT, eqF, if_true, if_false, kI_n, wI_n, and_true, true_and, and_false, false_and, not_true, not_false_eq_true, mwo, mwr_0, mwr_1, mwr_2, mwg_3, mwp_3, mwr_4, mwg_5, mwp_5, mwg_6, mwp_6, mwr_7, mwr_8, mwg_9, mwp_9, mwg_10, mwp_10, mwg_11, mwp_11, mwr_12, mwg_13, mwp_13, mwr_14, mwr_15, mwr_16, mwr_17, mwr_18, mwr_19, mwg_20, mwp_20, mwr_21, mwr_22, mwr_23, mwa_1, mwu_1, mwa_2, mwu_2, mwa_3, mwu_3, mwa_4, mwu_4, mwa_5, mwu_5, mwa_6, mwu_6, mwa_7, mwu_7, mwa_8, mwu_8, mwa_9, mwu_9, mwa_10, mwu_10, mwa_11, mwu_11, mwa_12, mwu_12, mwa_13, mwu_13, mwa_14, mwu_14, mwa_15, mwu_15, mwa_16, mwu_16, vu_at, vu_ne, pk_us, pk_un, kB_n, wB_n, kL_n, wL_n, mwo, M_isKey h, hk, hk2, n01, h3, M_latest h, n1, na]
        · rw [if_neg h4]
          have na' : ¬ N a = nI 0 := fun z => h4 (na.symm.trans z)
          by_cases h5 : nI 0 < z.2.2.2 z.2.2.1 b
          · rw [if_pos h5]
            have h6 : ¬ N b ≤ nI 0 := by rw [nb]; exact Int32.not_le.mpr h5
            refine ⟨va_up A 8 N, ?_, g1, fun k q1 q2 => vu_ne q2⟩
            rw [q232]
            simp (disch := first | omega | exact tl_l | exact tT_len | (simp only [List.length_cons, List.length_nil])) only [e232_0, e232_1, e232_2, e232_5, e232_8, e232_9, e232_10, e232_13, e232_16, e232_17, e232_18, e232_21, e232_22, e232_23, e232_24, e232_25, e232_28, e232_31, e232_32, e232_35, e232_36, e232_37, e232_40, e232_42, e232_43, e232_44, e232_47, e232_48, e232_49, e232_52, e232_54, e232_55, e232_56, e232_59, e232_60, e232_61, e232_64, e232_65, e232_66, e232_67, e232_68, e232_71, e232_72, e232_73, e232_74, e232_75, e232_78, kv_s, kh_s, kr_s, kr_v, kn_s, z0, z1, z2, nI_ltI, nI_leI, nI_eq, nI_add, oN, bz0, bz1, bw0, bw1, ltT, ltF, leT, leF, eqT, eqF, if_true, if_false, kI_n, wI_n, and_true, true_and, and_false, false_and, not_true, not_false_eq_true, mwo, mwr_0, mwr_1, mwr_2, mwg_3, mwp_3, mwr_4, mwg_5, mwp_5, mwg_6, mwp_6, mwr_7, mwr_8, mwg_9, mwp_9, mwg_10, mwp_10, mwg_11, mwp_11, mwr_12, mwg_13, mwp_13, mwr_14, mwr_15, mwr_16, mwr_17, mwr_18, mwr_19, mwg_20, mwp_20, mwr_21, mwr_22, mwr_23, mwa_1, mwu_1, mwa_2, mwu_2, mwa_3, mwu_3, mwa_4, mwu_4, mwa_5, mwu_5, mwa_6, mwu_6, mwa_7, mwu_7, mwa_8, mwu_8, mwa_9, mwu_9, mwa_10, mwu_10, mwa_11, mwu_11, mwa_12, mwu_12, mwa_13, mwu_13, mwa_14, mwu_14, mwa_15, mwu_15, mwa_16, mwu_16, vu_at, vu_ne, pk_us, pk_un, kB_n, wB_n, kL_n, wL_n, mwo, M_isKey h, hk, hk2, n01, h3, M_latest h, n1, na', h6, z3]
          · rw [if_neg h5]
            have h6 : N b ≤ nI 0 := by rw [nb]; exact Int32.not_lt.mp h5
            have hb0 : z.2.2.2 z.2.2.1 b = nI 0 := by
              have := okl.1.ge h2
              rw [this] at h5
              exact Classical.byContradiction h5
            refine M_mk3 (N := upd (upd N b (N a)) a (nI 0)) h hl (fun k hk => ?_) (by rw [un_xch h1 h2 h3]; exact okl.2.1) (un_other (k := a) h1 (by rw [xch_a h3, hb0]; exact fun z => h4 z.symm)) (fun b' v f1 => ?_)
            · by_cases q1 : k = a
              · subst q1; rw [pk_us, xch_a h3, hb0]
              · rw [pk_un q1]
                by_cases q2 : k = b
                · subst q2; rw [pk_us, xch_b, na]
                · rw [pk_un q2, xch_o q1 q2]; exact n2 k hk
            · rw [q232]
              simp (disch := first | omega | exact tl_l | exact tT_len | (simp only [List.length_cons, List.length_nil])) only [e232_0, e232_1, e232_2, e232_5, e232_8, e232_9, e232_10, e232_13, e232_16, e232_17, e232_18, e232_21, e232_22, e232_23, e232_24, e232_25, e232_28, e232_31, e232_32, e232_35, e232_36, e232_37, e232_40, e232_42, e232_43, e232_44, e232_47, e232_48, e232_49, e232_52, e232_54, e232_55, e232_56, e232_59, e232_60, e232_61, e232_64, e232_65, e232_66, kv_s, kh_s, kr_s, kr_v, kn_s, z0, z1, z2, nI_ltI, nI_leI, nI_eq, nI_add, oN, bz0, bz1, bw0, bw1, ltT, ltF, leT, leF, eqT, eqF, if_true, if_false, kI_n, wI_n, and_true, true_and, and_false, false_and, not_true, not_false_eq_true, mwo, mwr_0, mwr_1, mwr_2, mwg_3, mwp_3, mwr_4, mwg_5, mwp_5, mwg_6, mwp_6, mwr_7, mwr_8, mwg_9, mwp_9, mwg_10, mwp_10, mwg_11, mwp_11, mwr_12, mwg_13, mwp_13, mwr_14, mwr_15, mwr_16, mwr_17, mwr_18, mwr_19, mwg_20, mwp_20, mwr_21, mwr_22, mwr_23, mwa_1, mwu_1, mwa_2, mwu_2, mwa_3, mwu_3, mwa_4, mwu_4, mwa_5, mwu_5, mwa_6, mwu_6, mwa_7, mwu_7, mwa_8, mwu_8, mwa_9, mwu_9, mwa_10, mwu_10, mwa_11, mwu_11, mwa_12, mwu_12, mwa_13, mwu_13, mwa_14, mwu_14, mwa_15, mwu_15, mwa_16, mwu_16, vu_at, vu_ne, pk_us, pk_un, kB_n, wB_n, kL_n, wL_n, mwo, M_isKey h, hk, hk2, n01, h3, M_latest h, n1, na', h6]
              simp (disch := first | omega | exact tl_l | exact tT_len | (simp only [List.length_cons, List.length_nil])) only [e232_67, e232_68, e232_71, e232_72, e232_73, e232_74, kv_s, kh_s, kr_s, kr_v, kn_s, z0, z1, z2, nI_ltI, nI_leI, nI_eq, nI_add, oN, bz0, bz1, bw0, bw1, ltT, ltF, leT, leF, eqT, eqF, if_true, if_false, kI_n, wI_n, and_true, true_and, and_false, false_and, not_true, not_false_eq_true, mwo, mwr_0, mwr_1, mwr_2, mwg_3, mwp_3, mwr_4, mwg_5, mwp_5, mwg_6, mwp_6, mwr_7, mwr_8, mwg_9, mwp_9, mwg_10, mwp_10, mwg_11, mwp_11, mwr_12, mwg_13, mwp_13, mwr_14, mwr_15, mwr_16, mwr_17, mwr_18, mwr_19, mwg_20, mwp_20, mwr_21, mwr_22, mwr_23, mwa_1, mwu_1, mwa_2, mwu_2, mwa_3, mwu_3, mwa_4, mwu_4, mwa_5, mwu_5, mwa_6, mwu_6, mwa_7, mwu_7, mwa_8, mwu_8, mwa_9, mwu_9, mwa_10, mwu_10, mwa_11, mwu_11, mwa_12, mwu_12, mwa_13, mwu_13, mwa_14, mwu_14, mwa_15, mwu_15, mwa_16, mwu_16, vu_at, vu_ne, pk_us, pk_un, kB_n, wB_n, kL_n, wL_n, vu_vu]
              simp (disch := first | omega | exact tl_l | exact tT_len | (simp only [List.length_cons, List.length_nil])) only [e232_75, e232_78, kv_s, kh_s, kr_s, kr_v, kn_s, z0, z1, z2, nI_ltI, nI_leI, nI_eq, nI_add, oN, bz0, bz1, bw0, bw1, ltT, ltF, leT, leF, eqT, eqF, if_true, if_false, kI_n, wI_n, and_true, true_and, and_false, false_and, not_true, not_false_eq_true, mwo, f1]
    · rw [if_neg (fun z => h2 z.2.1)]
      rw [decide_eq_false h2] at hk2
      refine ⟨A, ?_, h, fun _ _ _ => rfl⟩
      rw [q232]
      simp (disch := first | omega | exact tl_l | exact tT_len | (simp only [List.length_cons, List.length_nil])) only [e232_0, e232_1, e232_2, e232_5, e232_8, e232_9, e232_10, e232_13, e232_16, e232_17, e232_18, e232_21, e232_22, e232_23, e232_24, e232_25, e232_28, e232_31, e232_32, e232_35, e232_36, e232_37, e232_40, e232_42, e232_43, e232_44, e232_47, e232_48, e232_49, e232_52, e232_54, e232_55, e232_56, e232_59, e232_60, e232_61, e232_64, e232_65, e232_66, e232_67, e232_68, e232_71, e232_72, e232_73, e232_74, e232_75, e232_78, kv_s, kh_s, kr_s, kr_v, kn_s, z0, z1, z2, nI_ltI, nI_leI, nI_eq, nI_add, oN, bz0, bz1, bw0, bw1, ltT, ltF, leT, leF, eqT, eqF, if_true, if_false, kI_n, wI_n, and_true, true_and, and_false, false_and, not_true, not_false_eq_true, mwo, mwr_0, mwr_1, mwr_2, mwg_3, mwp_3, mwr_4, mwg_5, mwp_5, mwg_6, mwp_6, mwr_7, mwr_8, mwg_9, mwp_9, mwg_10, mwp_10, mwg_11, mwp_11, mwr_12, mwg_13, mwp_13, mwr_14, mwr_15, mwr_16, mwr_17, mwr_18, mwr_19, mwg_20, mwp_20, mwr_21, mwr_22, mwr_23, mwa_1, mwu_1, mwa_2, mwu_2, mwa_3, mwu_3, mwa_4, mwu_4, mwa_5, mwu_5, mwa_6, mwu_6, mwa_7, mwu_7, mwa_8, mwu_8, mwa_9, mwu_9, mwa_10, mwu_10, mwa_11, mwu_11, mwa_12, mwu_12, mwa_13, mwu_13, mwa_14, mwu_14, mwa_15, mwu_15, mwa_16, mwu_16, vu_at, vu_ne, pk_us, pk_un, kB_n, wB_n, kL_n, wL_n, mwo, M_isKey h, hk, hk2, n01, Bool.false_eq_true]
  · rw [if_neg (fun z => h1 z.1)]
    rw [decide_eq_false h1] at hk
    refine ⟨A, ?_, h, fun _ _ _ => rfl⟩
    rw [q232]
    simp (disch := first | omega | exact tl_l | exact tT_len | (simp only [List.length_cons, List.length_nil])) only [e232_0, e232_1, e232_2, e232_5, e232_8, e232_9, e232_10, e232_13, e232_16, e232_17, e232_18, e232_21, e232_22, e232_23, e232_24, e232_25, e232_28, e232_31, e232_32, e232_35, e232_36, e232_37, e232_40, e232_42, e232_43, e232_44, e232_47, e232_48, e232_49, e232_52, e232_54, e232_55, e232_56, e232_59, e232_60, e232_61, e232_64, e232_65, e232_66, e232_67, e232_68, e232_71, e232_72, e232_73, e232_74, e232_75, e232_78, kv_s, kh_s, kr_s, kr_v, kn_s, z0, z1, z2, nI_ltI, nI_leI, nI_eq, nI_add, oN, bz0, bz1, bw0, bw1, ltT, ltF, leT, leF, eqT, eqF, if_true, if_false, kI_n, wI_n, and_true, true_and, and_false, false_and, not_true, not_false_eq_true, mwo, mwr_0, mwr_1, mwr_2, mwg_3, mwp_3, mwr_4, mwg_5, mwp_5, mwg_6, mwp_6, mwr_7, mwr_8, mwg_9, mwp_9, mwg_10, mwp_10, mwg_11, mwp_11, mwr_12, mwg_13, mwp_13, mwr_14, mwr_15, mwr_16, mwr_17, mwr_18, mwr_19, mwg_20, mwp_20, mwr_21, mwr_22, mwr_23, mwa_1, mwu_1, mwa_2, mwu_2, mwa_3, mwu_3, mwa_4, mwu_4, mwa_5, mwu_5, mwa_6, mwu_6, mwa_7, mwu_7, mwa_8, mwu_8, mwa_9, mwu_9, mwa_10, mwu_10, mwa_11, mwu_11, mwa_12, mwu_12, mwa_13, mwu_13, mwa_14, mwu_14, mwa_15, mwu_15, mwa_16, mwu_16, vu_at, vu_ne, pk_us, pk_un, kB_n, wB_n, kL_n, wL_n, mwo, M_isKey h, hk, n01, Bool.false_eq_true]
theorem M_goSwap (h : nowM (A 1) z.1 z.2.1 z.2.2.1 z.2.2.2) (ok : okH z) (hl : z.2.2.1 + 1 < 2 ^ 30) {a b : Nat} (ha : a < 2 ^ 31) (hb' : b < 2 ^ 31) : RA m 234 [.ref m, .int (nI a), .int (nI b)] σ A R I (swpF z a b) := by
  have hK := h.K
  have hd := hK.2.2.1
  have okl := ok _ hK.2.2.2.1 (Nat.le_refl _)
  have hk := isK_nat (a := a) hd ha
  have hk2 := isK_nat (a := b) hd hb'
  obtain ⟨N, n1, n2⟩ := M_layNext (σ := σ) (m := m) (R := R) (I := I) h hK.2.2.2.1 (Nat.le_refl z.2.2.1)
  have g1 : nowM (va_up A 8 N 1) z.1 z.2.1 z.2.2.1 z.2.2.2 := by rw [vu_ne (by omega)]; exact h
  unfold swpF
  by_cases h1 : a < 2 ^ z.1
  · rw [decide_eq_true h1] at hk
    by_cases h2 : b < 2 ^ z.1
    · rw [decide_eq_true h2] at hk2
      by_cases h3 : a = b
      · rw [if_neg (fun z => z.2.2 h3)]
        refine ⟨A, ?_, h, fun _ _ _ => rfl⟩
        rw [q234]
        simp (disch := first | omega | exact tl_l | exact tT_len | (simp only [List.length_cons, List.length_nil])) only [e234_0, e234_1, e234_2, e234_5, e234_8, e234_9, e234_10, e234_13, e234_16, e234_17, e234_18, e234_21, e234_22, e234_23, e234_24, e234_25, e234_28, e234_31, e234_32, e234_35, e234_36, e234_37, e234_38, e234_41, e234_42, e234_43, e234_46, e234_48, e234_49, e234_50, e234_53, e234_54, e234_55, e234_56, e234_57, e234_60, e234_61, e234_62, e234_65, e234_66, e234_67, e234_68, e234_69, e234_72, e234_73, e234_74, e234_75, e234_76, e234_79, kv_s, kh_s, kr_s, kr_v, kn_s, z0, z1, z2, nI_ltI, nI_leI, nI_eq, nI_add, oN, bz0, bz1, bw0, bw1, ltT, ltF, leT, leF, eqT, eqF, if_true, if_false, kI_n, wI_n, and_true, true_and, and_false, false_and, not_true, not_false_eq_true, mwo, mwr_0, mwr_1, mwr_2, mwg_3, mwp_3, mwr_4, mwg_5, mwp_5, mwg_6, mwp_6, mwr_7, mwr_8, mwg_9, mwp_9, mwg_10, mwp_10, mwg_11, mwp_11, mwr_12, mwg_13, mwp_13, mwr_14, mwr_15, mwr_16, mwr_17, mwr_18, mwr_19, mwg_20, mwp_20, mwr_21, mwr_22, mwr_23, mwa_1, mwu_1, mwa_2, mwu_2, mwa_3, mwu_3, mwa_4, mwu_4, mwa_5, mwu_5, mwa_6, mwu_6, mwa_7, mwu_7, mwa_8, mwu_8, mwa_9, mwu_9, mwa_10, mwu_10, mwa_11, mwu_11, mwa_12, mwu_12, mwa_13, mwu_13, mwa_14, mwu_14, mwa_15, mwu_15, mwa_16, mwu_16, vu_at, vu_ne, pk_us, pk_un, kB_n, wB_n, kL_n, wL_n, mwo, M_isKey h, hk, hk2, n01, h3]
      · rw [if_pos ⟨h1, h2, h3⟩]
        have na := n2 a (by omega)
        have nb := n2 b (by omega)
        by_cases h4 : z.2.2.2 z.2.2.1 a = z.2.2.2 z.2.2.1 b
        · have e : mkF z (xch (z.2.2.2 z.2.2.1) a b) (-nI 5) (-nI 2) = (-nI 2, z) := by
            unfold mkF
            have hun := un_xch (V := z.2.2.2 z.2.2.1) h1 h2 h3
            rw [if_neg (by omega), if_pos (un_same fun k _ => ?_)]
            by_cases q1 : k = a
            · subst q1; rw [xch_a h3, h4]
            · by_cases q2 : k = b
              · subst q2; rw [xch_b, h4]
              · rw [xch_o q1 q2]
          rw [e]
          refine ⟨va_up A 8 N, ?_, g1, fun k q1 q2 => vu_ne q2⟩
          have hnn : N a = N b := by rw [na, nb, h4]
          rw [q234]
          simp (disch := first | omega | exact tl_l | exact tT_len | (simp only [List.length_cons, List.length_nil])) only [e234_0, e234_1, e234_2, e234_5, e234_8, e234_9, e234_10, e234_13, e234_16, e234_17, e234_18, e234_21, e234_22, e234_23, e234_24, e234_25, e234_28, e234_31, e234_32, e234_35, e234_36, e234_37, e234_38, e234_41, e234_42, e234_43, e234_46, e234_48, e234_49, e234_50, e234_53, e234_54, e234_55, e234_56, e234_57, e234_60, e234_61, e234_62, e234_65, e234_66, e234_67, e234_68, e234_69, e234_72, e234_73, e234_74, e234_75, e234_76, e234_79, kv_s, kh_s, kr_s, kr_v, kn_s, z0, z1, z2, nI_ltI, nI_leI, nI_eq, nI_add, oN, bz0, bz1, bw0, bw1, ltT, ltF, leT, leF, eqT, eqF, if_true, if_false, kI_n, wI_n, and_true, true_and, and_false, false_and, not_true, not_false_eq_true, mwo, mwr_0, mwr_1, mwr_2, mwg_3, mwp_3, mwr_4, mwg_5, mwp_5, mwg_6, mwp_6, mwr_7, mwr_8, mwg_9, mwp_9, mwg_10, mwp_10, mwg_11, mwp_11, mwr_12, mwg_13, mwp_13, mwr_14, mwr_15, mwr_16, mwr_17, mwr_18, mwr_19, mwg_20, mwp_20, mwr_21, mwr_22, mwr_23, mwa_1, mwu_1, mwa_2, mwu_2, mwa_3, mwu_3, mwa_4, mwu_4, mwa_5, mwu_5, mwa_6, mwu_6, mwa_7, mwu_7, mwa_8, mwu_8, mwa_9, mwu_9, mwa_10, mwu_10, mwa_11, mwu_11, mwa_12, mwu_12, mwa_13, mwu_13, mwa_14, mwu_14, mwa_15, mwu_15, mwa_16, mwu_16, vu_at, vu_ne, pk_us, pk_un, kB_n, wB_n, kL_n, wL_n, mwo, M_isKey h, hk, hk2, n01, h3, M_latest h, n1, hnn]
        · have hnn : ¬ N a = N b := by rw [na, nb]; exact h4
          refine M_mk3 (N := upd (upd N a (N b)) b (N a)) h hl (fun k hk => ?_) (by rw [un_xch h1 h2 h3]; exact okl.2.1) (un_other (k := a) h1 (by rw [xch_a h3]; exact fun z => h4 z.symm)) (fun b' v f1 => ?_)
          · by_cases q2 : k = b
            · subst q2; rw [pk_us, xch_b, na]
            · rw [pk_un q2]
              by_cases q1 : k = a
              · subst q1; rw [pk_us, xch_a h3, nb]
              · rw [pk_un q1, xch_o q1 q2]; exact n2 k hk
          · rw [q234]
            simp (disch := first | omega | exact tl_l | exact tT_len | (simp only [List.length_cons, List.length_nil])) only [e234_0, e234_1, e234_2, e234_5, e234_8, e234_9, e234_10, e234_13, e234_16, e234_17, e234_18, e234_21, e234_22, e234_23, e234_24, e234_25, e234_28, e234_31, e234_32, e234_35, e234_36, e234_37, e234_38, e234_41, e234_42, e234_43, e234_46, e234_48, e234_49, e234_50, e234_53, e234_54, e234_55, e234_56, e234_57, e234_60, e234_61, e234_62, e234_65, e234_66, e234_67, kv_s, kh_s, kr_s, kr_v, kn_s, z0, z1, z2, nI_ltI, nI_leI, nI_eq, nI_add, oN, bz0, bz1, bw0, bw1, ltT, ltF, leT, leF, eqT, eqF, if_true, if_false, kI_n, wI_n, and_true, true_and, and_false, false_and, not_true, not_false_eq_true, mwo, mwr_0, mwr_1, mwr_2, mwg_3, mwp_3, mwr_4, mwg_5, mwp_5, mwg_6, mwp_6, mwr_7, mwr_8, mwg_9, mwp_9, mwg_10, mwp_10, mwg_11, mwp_11, mwr_12, mwg_13, mwp_13, mwr_14, mwr_15, mwr_16, mwr_17, mwr_18, mwr_19, mwg_20, mwp_20, mwr_21, mwr_22, mwr_23, mwa_1, mwu_1, mwa_2, mwu_2, mwa_3, mwu_3, mwa_4, mwu_4, mwa_5, mwu_5, mwa_6, mwu_6, mwa_7, mwu_7, mwa_8, mwu_8, mwa_9, mwu_9, mwa_10, mwu_10, mwa_11, mwu_11, mwa_12, mwu_12, mwa_13, mwu_13, mwa_14, mwu_14, mwa_15, mwu_15, mwa_16, mwu_16, vu_at, vu_ne, pk_us, pk_un, kB_n, wB_n, kL_n, wL_n, mwo, M_isKey h, hk, hk2, n01, h3, M_latest h, n1, hnn]
            simp (disch := first | omega | exact tl_l | exact tT_len | (simp only [List.length_cons, List.length_nil])) only [e234_68, e234_69, e234_72, e234_73, e234_74, e234_75, kv_s, kh_s, kr_s, kr_v, kn_s, z0, z1, z2, nI_ltI, nI_leI, nI_eq, nI_add, oN, bz0, bz1, bw0, bw1, ltT, ltF, leT, leF, eqT, eqF, if_true, if_false, kI_n, wI_n, and_true, true_and, and_false, false_and, not_true, not_false_eq_true, mwo, mwr_0, mwr_1, mwr_2, mwg_3, mwp_3, mwr_4, mwg_5, mwp_5, mwg_6, mwp_6, mwr_7, mwr_8, mwg_9, mwp_9, mwg_10, mwp_10, mwg_11, mwp_11, mwr_12, mwg_13, mwp_13, mwr_14, mwr_15, mwr_16, mwr_17, mwr_18, mwr_19, mwg_20, mwp_20, mwr_21, mwr_22, mwr_23, mwa_1, mwu_1, mwa_2, mwu_2, mwa_3, mwu_3, mwa_4, mwu_4, mwa_5, mwu_5, mwa_6, mwu_6, mwa_7, mwu_7, mwa_8, mwu_8, mwa_9, mwu_9, mwa_10, mwu_10, mwa_11, mwu_11, mwa_12, mwu_12, mwa_13, mwu_13, mwa_14, mwu_14, mwa_15, mwu_15, mwa_16, mwu_16, vu_at, vu_ne, pk_us, pk_un, kB_n, wB_n, kL_n, wL_n, vu_vu]
            simp (disch := first | omega | exact tl_l | exact tT_len | (simp only [List.length_cons, List.length_nil])) only [e234_76, e234_79, kv_s, kh_s, kr_s, kr_v, kn_s, z0, z1, z2, nI_ltI, nI_leI, nI_eq, nI_add, oN, bz0, bz1, bw0, bw1, ltT, ltF, leT, leF, eqT, eqF, if_true, if_false, kI_n, wI_n, and_true, true_and, and_false, false_and, not_true, not_false_eq_true, mwo, f1]
    · rw [if_neg (fun z => h2 z.2.1)]
      rw [decide_eq_false h2] at hk2
      refine ⟨A, ?_, h, fun _ _ _ => rfl⟩
      rw [q234]
      simp (disch := first | omega | exact tl_l | exact tT_len | (simp only [List.length_cons, List.length_nil])) only [e234_0, e234_1, e234_2, e234_5, e234_8, e234_9, e234_10, e234_13, e234_16, e234_17, e234_18, e234_21, e234_22, e234_23, e234_24, e234_25, e234_28, e234_31, e234_32, e234_35, e234_36, e234_37, e234_38, e234_41, e234_42, e234_43, e234_46, e234_48, e234_49, e234_50, e234_53, e234_54, e234_55, e234_56, e234_57, e234_60, e234_61, e234_62, e234_65, e234_66, e234_67, e234_68, e234_69, e234_72, e234_73, e234_74, e234_75, e234_76, e234_79, kv_s, kh_s, kr_s, kr_v, kn_s, z0, z1, z2, nI_ltI, nI_leI, nI_eq, nI_add, oN, bz0, bz1, bw0, bw1, ltT, ltF, leT, leF, eqT, eqF, if_true, if_false, kI_n, wI_n, and_true, true_and, and_false, false_and, not_true, not_false_eq_true, mwo, mwr_0, mwr_1, mwr_2, mwg_3, mwp_3, mwr_4, mwg_5, mwp_5, mwg_6, mwp_6, mwr_7, mwr_8, mwg_9, mwp_9, mwg_10, mwp_10, mwg_11, mwp_11, mwr_12, mwg_13, mwp_13, mwr_14, mwr_15, mwr_16, mwr_17, mwr_18, mwr_19, mwg_20, mwp_20, mwr_21, mwr_22, mwr_23, mwa_1, mwu_1, mwa_2, mwu_2, mwa_3, mwu_3, mwa_4, mwu_4, mwa_5, mwu_5, mwa_6, mwu_6, mwa_7, mwu_7, mwa_8, mwu_8, mwa_9, mwu_9, mwa_10, mwu_10, mwa_11, mwu_11, mwa_12, mwu_12, mwa_13, mwu_13, mwa_14, mwu_14, mwa_15, mwu_15, mwa_16, mwu_16, vu_at, vu_ne, pk_us, pk_un, kB_n, wB_n, kL_n, wL_n, mwo, M_isKey h, hk, hk2, n01, Bool.false_eq_true]
  · rw [if_neg (fun z => h1 z.1)]
    rw [decide_eq_false h1] at hk
    refine ⟨A, ?_, h, fun _ _ _ => rfl⟩
    rw [q234]
    simp (disch := first | omega | exact tl_l | exact tT_len | (simp only [List.length_cons, List.length_nil])) only [e234_0, e234_1, e234_2, e234_5, e234_8, e234_9, e234_10, e234_13, e234_16, e234_17, e234_18, e234_21, e234_22, e234_23, e234_24, e234_25, e234_28, e234_31, e234_32, e234_35, e234_36, e234_37, e234_38, e234_41, e234_42, e234_43, e234_46, e234_48, e234_49, e234_50, e234_53, e234_54, e234_55, e234_56, e234_57, e234_60, e234_61, e234_62, e234_65, e234_66, e234_67, e234_68, e234_69, e234_72, e234_73, e234_74, e234_75, e234_76, e234_79, kv_s, kh_s, kr_s, kr_v, kn_s, z0, z1, z2, nI_ltI, nI_leI, nI_eq, nI_add, oN, bz0, bz1, bw0, bw1, ltT, ltF, leT, leF, eqT, eqF, if_true, if_false, kI_n, wI_n, and_true, true_and, and_false, false_and, not_true, not_false_eq_true, mwo, mwr_0, mwr_1, mwr_2, mwg_3, mwp_3, mwr_4, mwg_5, mwp_5, mwg_6, mwp_6, mwr_7, mwr_8, mwg_9, mwp_9, mwg_10, mwp_10, mwg_11, mwp_11, mwr_12, mwg_13, mwp_13, mwr_14, mwr_15, mwr_16, mwr_17, mwr_18, mwr_19, mwg_20, mwp_20, mwr_21, mwr_22, mwr_23, mwa_1, mwu_1, mwa_2, mwu_2, mwa_3, mwu_3, mwa_4, mwu_4, mwa_5, mwu_5, mwa_6, mwu_6, mwa_7, mwu_7, mwa_8, mwu_8, mwa_9, mwu_9, mwa_10, mwu_10, mwa_11, mwu_11, mwa_12, mwu_12, mwa_13, mwu_13, mwa_14, mwu_14, mwa_15, mwu_15, mwa_16, mwu_16, vu_at, vu_ne, pk_us, pk_un, kB_n, wB_n, kL_n, wL_n, mwo, M_isKey h, hk, n01, Bool.false_eq_true]
end AH
