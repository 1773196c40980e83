/-! calls: told, both -/
section MT3
variable {σ : Hp} {m : Nat} {R : Nat → Int64} {n : Nat} {B : Nat → Nat} {p q : Nat} {I : Nat → Int32}
theorem Mt61 {A : Nat → Nat → Int32} (hp : p ≤ n) (hn : n ≤ 80) (hq : q ≤ 80) {l1 l2 l3 l4 : Value} : den 153 61 [.ref m, l1, l2, l3, l4] [] (mw σ m A R (mt I n p (some q))) = some (some (.int (-nI 1 - nI q)), mw σ m A R (mt I n p (some q))) := by
  rw [e153_61]
  simp (disch := first | omega | exact tl_l | exact tT_len | (simp only [List.length_cons, List.length_nil])) only [e153_0, e153_1, e153_2, e153_5, e153_6, e153_9, e153_10, e153_13, e153_14, e153_15, e153_18, e153_19, e153_20, e153_22, e153_23, e153_26, e153_27, e153_28, e153_31, e153_32, e153_33, e153_34, e153_37, e153_38, e153_39, e153_40, e153_42, e153_43, e153_46, e153_47, e153_48, e153_51, e153_52, e153_53, e153_54, e153_57, e153_58, e153_59, e153_60, e153_62, e153_65, e153_68, e153_69, e153_72, e153_74, e153_77, e153_78, e153_80, e153_83, e153_84, e153_85, e153_88, e153_91, e153_92, e153_93, e153_96, e153_97, e153_98, e153_101, e153_102, e153_105, e153_108, e153_109, e153_112, e153_113, e153_114, e153_115, e153_116, e153_119, e153_120, e153_123, e153_126, e153_127, e153_130, e153_133, e153_134, e153_135, e153_138, e153_139, e153_140, e153_141, e153_144, e153_145, e153_146, e153_147, e153_148, e153_152, e153_153, e153_154, e153_155, e153_158, e153_159, e153_162, e153_164, e153_165, e153_168, e153_170, e153_171, e153_172, e153_175, e153_178, e153_179, kv_s, kh_s, kr_s, kr_v, kn_s, z0, z1, z2, nI_ltI, nI_leI, nI_eq, nI_add, oN, bz0, bz1, bw0, bw1, ltT, ltF, leT, leF, eqT, eqF, if_true, if_false, kI_n, wI_n, and_true, true_and, and_false, false_and, not_true, not_false_eq_true, mwo, mwr_0, mwr_1, mwr_2, mwg_3, mwp_3, mwr_4, mwg_5, mwp_5, mwg_6, mwp_6, mwr_7, mwr_8, mwg_9, mwp_9, mwg_10, mwp_10, mwg_11, mwp_11, mwr_12, mwg_13, mwp_13, mwr_14, mwr_15, mwr_16, mwr_17, mwr_18, mwr_19, mwg_20, mwp_20, mwr_21, mwr_22, mwr_23, mwa_1, mwu_1, mwa_2, mwu_2, mwa_3, mwu_3, mwa_4, mwu_4, mwa_5, mwu_5, mwa_6, mwu_6, mwa_7, mwu_7, mwa_8, mwu_8, mwa_9, mwu_9, mwa_10, mwu_10, mwa_11, mwu_11, mwa_12, mwu_12, mwa_13, mwu_13, mwa_14, mwu_14, mwa_15, mwu_15, mwa_16, mwu_16, vu_at, vu_ne, pk_us, pk_un, kB_n, wB_n, kL_n, wL_n, mwo, M_fine1 hq, M_wasRight1 hq hp hn, mt_11, fl]
theorem Mt47 {A : Nat → Nat → Int32} (hp : p ≤ n) (hn : n ≤ 80) (hq : q ≤ 80) {l1 l3 l4 : Value} {x : Int32} : ∃ A', den 153 47 [.ref m, l1, .int x, l3, l4] [] (mw σ m A R (mt I n p (some q))) = some (some (.int (-nI 1 - nI q)), mw σ m A' R (mt I n p (some q))) ∧ ∀ j, j ≠ 7 → A' j = A j := by
  refine ⟨va_up A 7 (upd (A 7) 3 (x + nI 0)), ?_, fun j hj => vu_ne hj⟩
  rw [← Mt61 (σ := σ) (m := m) (A := va_up A 7 (upd (A 7) 3 (x + nI 0))) (R := R) (I := I) hp hn hq (l1 := l1) (l2 := .int x) (l3 := .int (nI 0)) (l4 := l4)]
  simp (disch := first | omega | exact tl_l | exact tT_len | (simp only [List.length_cons, List.length_nil])) only [e153_47, e153_48, e153_51, e153_52, e153_53, e153_54, e153_57, e153_58, e153_59, e153_60, kv_s, kh_s, kr_s, kr_v, kn_s, z0, z1, z2, nI_ltI, nI_leI, nI_eq, nI_add, oN, bz0, bz1, bw0, bw1, ltT, ltF, leT, leF, eqT, eqF, if_true, if_false, kI_n, wI_n, and_true, true_and, and_false, false_and, not_true, not_false_eq_true, mwo, mwr_0, mwr_1, mwr_2, mwg_3, mwp_3, mwr_4, mwg_5, mwp_5, mwg_6, mwp_6, mwr_7, mwr_8, mwg_9, mwp_9, mwg_10, mwp_10, mwg_11, mwp_11, mwr_12, mwg_13, mwp_13, mwr_14, mwr_15, mwr_16, mwr_17, mwr_18, mwr_19, mwg_20, mwp_20, mwr_21, mwr_22, mwr_23, mwa_1, mwu_1, mwa_2, mwu_2, mwa_3, mwu_3, mwa_4, mwu_4, mwa_5, mwu_5, mwa_6, mwu_6, mwa_7, mwu_7, mwa_8, mwu_8, mwa_9, mwu_9, mwa_10, mwu_10, mwa_11, mwu_11, mwa_12, mwu_12, mwa_13, mwu_13, mwa_14, mwu_14, mwa_15, mwu_15, mwa_16, mwu_16, vu_at, vu_ne, pk_us, pk_un, kB_n, wB_n, kL_n, wL_n, mwo, z3, M_byteNumber1 hq]
theorem Mt39 {A : Nat → Nat → Int32} (hp : p ≤ n) (hn : n ≤ 80) (hq : q ≤ 80) {l1 l2 l3 l4 : Value} : ∃ A', den 153 39 [.ref m, l1, l2, l3, l4] [] (mw σ m A R (mt I n p (some q))) = some (some (.int (-nI 1 - nI q)), mw σ m A' R (mt I n p (some q))) ∧ ∀ j, j ≠ 7 → A' j = A j := by
  obtain ⟨A', k1, k2⟩ := Mt47 (σ := σ) (m := m) (A := A) (R := R) (I := I) hp hn hq (l1 := l1) (l3 := l3) (l4 := l4) (x := nI 0)
  refine ⟨A', ?_, k2⟩
  rw [← k1]
  simp (disch := first | omega | exact tl_l | exact tT_len | (simp only [List.length_cons, List.length_nil])) only [e153_39, e153_40, e153_42, e153_43, e153_46, kv_s, kh_s, kr_s, kr_v, kn_s, z0, z1, z2, nI_ltI, nI_leI, nI_eq, nI_add, oN, bz0, bz1, bw0, bw1, ltT, ltF, leT, leF, eqT, eqF, if_true, if_false, kI_n, wI_n, and_true, true_and, and_false, false_and, not_true, not_false_eq_true, mwo, mwr_0, mwr_1, mwr_2, mwg_3, mwp_3, mwr_4, mwg_5, mwp_5, mwg_6, mwp_6, mwr_7, mwr_8, mwg_9, mwp_9, mwg_10, mwp_10, mwg_11, mwp_11, mwr_12, mwg_13, mwp_13, mwr_14, mwr_15, mwr_16, mwr_17, mwr_18, mwr_19, mwg_20, mwp_20, mwr_21, mwr_22, mwr_23, mwa_1, mwu_1, mwa_2, mwu_2, mwa_3, mwu_3, mwa_4, mwu_4, mwa_5, mwu_5, mwa_6, mwu_6, mwa_7, mwu_7, mwa_8, mwu_8, mwa_9, mwu_9, mwa_10, mwu_10, mwa_11, mwu_11, mwa_12, mwu_12, mwa_13, mwu_13, mwa_14, mwu_14, mwa_15, mwu_15, mwa_16, mwu_16, vu_at, vu_ne, pk_us, pk_un, kB_n, wB_n, kL_n, wL_n, mwo, z58, M_oneOf1 hq]
theorem Mt27 {A : Nat → Nat → Int32} (hp : p ≤ n) (hn : n ≤ 80) (hq : q ≤ 80) {l2 l3 l4 : Value} {x : Int32} : ∃ A', den 153 27 [.ref m, .int x, l2, l3, l4] [] (mw σ m A R (mt I n p (some q))) = some (some (.int (-nI 1 - nI q)), mw σ m A' R (mt I n p (some q))) ∧ ∀ j, j ≠ 7 → A' j = A j := by
  obtain ⟨A', k1, k2⟩ := Mt39 (σ := σ) (m := m) (A := va_up A 7 (upd (A 7) 2 (x + nI 0))) (R := R) (I := I) hp hn hq (l1 := .int x) (l2 := l2) (l3 := l3) (l4 := l4)
  refine ⟨A', ?_, fun j hj => (k2 j hj).trans (vu_ne hj)⟩
  rw [← k1]
  simp (disch := first | omega | exact tl_l | exact tT_len | (simp only [List.length_cons, List.length_nil])) only [e153_27, e153_28, e153_31, e153_32, e153_33, e153_34, e153_37, e153_38, kv_s, kh_s, kr_s, kr_v, kn_s, z0, z1, z2, nI_ltI, nI_leI, nI_eq, nI_add, oN, bz0, bz1, bw0, bw1, ltT, ltF, leT, leF, eqT, eqF, if_true, if_false, kI_n, wI_n, and_true, true_and, and_false, false_and, not_true, not_false_eq_true, mwo, mwr_0, mwr_1, mwr_2, mwg_3, mwp_3, mwr_4, mwg_5, mwp_5, mwg_6, mwp_6, mwr_7, mwr_8, mwg_9, mwp_9, mwg_10, mwp_10, mwg_11, mwp_11, mwr_12, mwg_13, mwp_13, mwr_14, mwr_15, mwr_16, mwr_17, mwr_18, mwr_19, mwg_20, mwp_20, mwr_21, mwr_22, mwr_23, mwa_1, mwu_1, mwa_2, mwu_2, mwa_3, mwu_3, mwa_4, mwu_4, mwa_5, mwu_5, mwa_6, mwu_6, mwa_7, mwu_7, mwa_8, mwu_8, mwa_9, mwu_9, mwa_10, mwu_10, mwa_11, mwu_11, mwa_12, mwu_12, mwa_13, mwu_13, mwa_14, mwu_14, mwa_15, mwu_15, mwa_16, mwu_16, vu_at, vu_ne, pk_us, pk_un, kB_n, wB_n, kL_n, wL_n, mwo, M_number1 hq]
theorem Mt19 {A : Nat → Nat → Int32} (hp : p ≤ n) (hn : n ≤ 80) (hq : q ≤ 80) {l1 l2 l3 l4 : Value} : ∃ A', den 153 19 [.ref m, l1, l2, l3, l4] [] (mw σ m A R (mt I n p (some q))) = some (some (.int (-nI 1 - nI q)), mw σ m A' R (mt I n p (some q))) ∧ ∀ j, j ≠ 7 → A' j = A j := by
  obtain ⟨A', k1, k2⟩ := Mt27 (σ := σ) (m := m) (A := A) (R := R) (I := I) hp hn hq (l2 := l2) (l3 := l3) (l4 := l4) (x := nI 0)
  refine ⟨A', ?_, k2⟩
  rw [← k1]
  simp (disch := first | omega | exact tl_l | exact tT_len | (simp only [List.length_cons, List.length_nil])) only [e153_19, e153_20, e153_22, e153_23, e153_26, kv_s, kh_s, kr_s, kr_v, kn_s, z0, z1, z2, nI_ltI, nI_leI, nI_eq, nI_add, oN, bz0, bz1, bw0, bw1, ltT, ltF, leT, leF, eqT, eqF, if_true, if_false, kI_n, wI_n, and_true, true_and, and_false, false_and, not_true, not_false_eq_true, mwo, mwr_0, mwr_1, mwr_2, mwg_3, mwp_3, mwr_4, mwg_5, mwp_5, mwg_6, mwp_6, mwr_7, mwr_8, mwg_9, mwp_9, mwg_10, mwp_10, mwg_11, mwp_11, mwr_12, mwg_13, mwp_13, mwr_14, mwr_15, mwr_16, mwr_17, mwr_18, mwr_19, mwg_20, mwp_20, mwr_21, mwr_22, mwr_23, mwa_1, mwu_1, mwa_2, mwu_2, mwa_3, mwu_3, mwa_4, mwu_4, mwa_5, mwu_5, mwa_6, mwu_6, mwa_7, mwu_7, mwa_8, mwu_8, mwa_9, mwu_9, mwa_10, mwu_10, mwa_11, mwu_11, mwa_12, mwu_12, mwa_13, mwu_13, mwa_14, mwu_14, mwa_15, mwu_15, mwa_16, mwu_16, vu_at, vu_ne, pk_us, pk_un, kB_n, wB_n, kL_n, wL_n, mwo, z61, M_oneOf1 hq]
theorem M_marks_loop {l1 l2 l4 : Value} : ∀ (k : Nat) (L : List Int32) (p : Nat) (A : Nat → Nat → Int32), MB A n B → L.length ≤ 8 → (∀ j, j < L.length → some (A 7 (4 + j)) = L[j]?) → p ≤ n → n < p + k → (∀ q, mkt n B k L p = .inl q → ∃ A' p', den 153 61 [.ref m, l1, l2, .int (nI L.length), l4] [] (mw σ m A R (mt I n p none)) = some (some (.int (-nI 1 - nI q)), mw σ m A' R (mt I n p' (some q))) ∧ ∀ j, j ≠ 7 → A' j = A j) ∧ ∀ L', mkt n B k L p = .inr L' → ∃ A', den 153 61 [.ref m, l1, l2, .int (nI L.length), l4] [] (mw σ m A R (mt I n p none)) = den 153 140 [.ref m, l1, l2, .int (nI L'.length), l4] [] (mw σ m A' R (mt I n n none)) ∧ (∀ j, j < L'.length → some (A' 7 (4 + j)) = L'[j]?) ∧ L'.length ≤ 8 ∧ (∀ j, j < 4 → A' 7 j = A 7 j) ∧ ∀ j, j ≠ 7 → A' j = A j := by
  intro k
  induction k with
  | zero => intro L p A hB hl hL hp hk; omega
  | succ k ih =>
    intro L p A hB hl hL hp hk
    have hn := hB.1
    have hh := M_here (σ := σ) (m := m) (R := R) (I := I) (e := none) hB hp
    rw [mkt]
    by_cases h1 : p = n
    · rw [if_pos h1]
      refine ⟨fun q z => (by cases z), fun L' z => ?_⟩
      cases z
      refine ⟨A, ?_, hL, hl, fun j _ => rfl, fun j _ => rfl⟩
      rw [if_neg (by omega)] at hh
      have hw := M_wasRight0 (σ := σ) (m := m) (A := A) (R := R) (I := I) hp hn
      rw [if_neg (by omega)] at hw
      rw [h1] at hh hw
      rw [h1]
      rw [e153_61]
      simp (disch := first | omega | exact tl_l | exact tT_len | (simp only [List.length_cons, List.length_nil])) only [e153_62, e153_65, e153_68, e153_69, e153_72, e153_74, e153_77, e153_78, e153_80, e153_83, e153_84, e153_85, e153_88, e153_91, e153_92, e153_93, e153_96, e153_97, e153_98, e153_101, e153_102, e153_105, e153_108, e153_109, e153_112, e153_113, e153_114, e153_115, e153_116, e153_119, e153_120, e153_123, e153_126, e153_127, e153_130, kv_s, kh_s, kr_s, kr_v, kn_s, z0, z1, z2, nI_ltI, nI_leI, nI_eq, nI_add, oN, bz0, bz1, bw0, bw1, ltT, ltF, leT, leF, eqT, eqF, if_true, if_false, kI_n, wI_n, and_true, true_and, and_false, false_and, not_true, not_false_eq_true, mwo, mwr_0, mwr_1, mwr_2, mwg_3, mwp_3, mwr_4, mwg_5, mwp_5, mwg_6, mwp_6, mwr_7, mwr_8, mwg_9, mwp_9, mwg_10, mwp_10, mwg_11, mwp_11, mwr_12, mwg_13, mwp_13, mwr_14, mwr_15, mwr_16, mwr_17, mwr_18, mwr_19, mwg_20, mwp_20, mwr_21, mwr_22, mwr_23, mwa_1, mwu_1, mwa_2, mwu_2, mwa_3, mwu_3, mwa_4, mwu_4, mwa_5, mwu_5, mwa_6, mwu_6, mwa_7, mwu_7, mwa_8, mwu_8, mwa_9, mwu_9, mwa_10, mwu_10, mwa_11, mwu_11, mwa_12, mwu_12, mwa_13, mwu_13, mwa_14, mwu_14, mwa_15, mwu_15, mwa_16, mwu_16, vu_at, vu_ne, pk_us, pk_un, kB_n, wB_n, kL_n, wL_n, mwo, M_fine0, hh, z58, n1_nI, hw]
    · rw [if_neg h1]
      have hlt : p < n := by omega
      rw [if_pos hlt] at hh
      obtain ⟨b1, b2⟩ := hB.2 p hlt
      have hw := M_wasRight0 (σ := σ) (m := m) (A := A) (R := R) (I := I) hp hn
      rw [if_pos hlt] at hw
      by_cases h8 : L.length = 8
      · rw [if_pos h8]
        refine ⟨fun q z => ?_, fun L' z => (by cases z)⟩
        cases z
        by_cases h2 : B p = 58
        · refine ⟨A, p + 1, ?_, fun j _ => rfl⟩
          rw [← Mt61 (σ := σ) (m := m) (A := A) (R := R) (I := I) (show p + 1 ≤ n by omega) hn (show p ≤ 80 by omega) (l1 := l1) (l2 := l2) (l3 := .int (nI (L.length + 1))) (l4 := l4)]
          rw [h2] at hh
          rw [e153_61]
          simp (disch := first | omega | exact tl_l | exact tT_len | (simp only [List.length_cons, List.length_nil])) only [e153_62, e153_65, e153_68, e153_69, e153_72, e153_74, e153_77, e153_78, e153_80, e153_83, e153_84, e153_85, e153_88, e153_91, e153_92, e153_93, e153_96, e153_97, e153_98, e153_101, e153_102, e153_105, e153_108, e153_109, e153_112, e153_113, e153_114, e153_115, e153_116, e153_119, e153_120, e153_123, kv_s, kh_s, kr_s, kr_v, kn_s, z0, z1, z2, nI_ltI, nI_leI, nI_eq, nI_add, oN, bz0, bz1, bw0, bw1, ltT, ltF, leT, leF, eqT, eqF, if_true, if_false, kI_n, wI_n, and_true, true_and, and_false, false_and, not_true, not_false_eq_true, mwo, mwr_0, mwr_1, mwr_2, mwg_3, mwp_3, mwr_4, mwg_5, mwp_5, mwg_6, mwp_6, mwr_7, mwr_8, mwg_9, mwp_9, mwg_10, mwp_10, mwg_11, mwp_11, mwr_12, mwg_13, mwp_13, mwr_14, mwr_15, mwr_16, mwr_17, mwr_18, mwr_19, mwg_20, mwp_20, mwr_21, mwr_22, mwr_23, mwa_1, mwu_1, mwa_2, mwu_2, mwa_3, mwu_3, mwa_4, mwu_4, mwa_5, mwu_5, mwa_6, mwu_6, mwa_7, mwu_7, mwa_8, mwu_8, mwa_9, mwu_9, mwa_10, mwu_10, mwa_11, mwu_11, mwa_12, mwu_12, mwa_13, mwu_13, mwa_14, mwu_14, mwa_15, mwu_15, mwa_16, mwu_16, vu_at, vu_ne, pk_us, pk_un, kB_n, wB_n, kL_n, wL_n, mwo, M_fine0, hh, z58, z8, h8, mt_10, M_fault0, mt_p, M_fine1 (show p ≤ 80 by omega)]
        · refine ⟨A, p, ?_, fun j _ => rfl⟩
          rw [e153_61]
          simp (disch := first | omega | exact tl_l | exact tT_len | (simp only [List.length_cons, List.length_nil])) only [e153_0, e153_1, e153_2, e153_5, e153_6, e153_9, e153_10, e153_13, e153_14, e153_15, e153_18, e153_19, e153_20, e153_22, e153_23, e153_26, e153_27, e153_28, e153_31, e153_32, e153_33, e153_34, e153_37, e153_38, e153_39, e153_40, e153_42, e153_43, e153_46, e153_47, e153_48, e153_51, e153_52, e153_53, e153_54, e153_57, e153_58, e153_59, e153_60, e153_62, e153_65, e153_68, e153_69, e153_72, e153_74, e153_77, e153_78, e153_80, e153_83, e153_84, e153_85, e153_88, e153_91, e153_92, e153_93, e153_96, e153_97, e153_98, e153_101, e153_102, e153_105, e153_108, e153_109, e153_112, e153_113, e153_114, e153_115, e153_116, e153_119, e153_120, e153_123, e153_126, e153_127, e153_130, e153_133, e153_134, e153_135, e153_138, e153_139, e153_140, e153_141, e153_144, e153_145, e153_146, e153_147, e153_148, e153_152, e153_153, e153_154, e153_155, e153_158, e153_159, e153_162, e153_164, e153_165, e153_168, e153_170, e153_171, e153_172, e153_175, e153_178, e153_179, kv_s, kh_s, kr_s, kr_v, kn_s, z0, z1, z2, nI_ltI, nI_leI, nI_eq, nI_add, oN, bz0, bz1, bw0, bw1, ltT, ltF, leT, leF, eqT, eqF, if_true, if_false, kI_n, wI_n, and_true, true_and, and_false, false_and, not_true, not_false_eq_true, mwo, mwr_0, mwr_1, mwr_2, mwg_3, mwp_3, mwr_4, mwg_5, mwp_5, mwg_6, mwp_6, mwr_7, mwr_8, mwg_9, mwp_9, mwg_10, mwp_10, mwg_11, mwp_11, mwr_12, mwg_13, mwp_13, mwr_14, mwr_15, mwr_16, mwr_17, mwr_18, mwr_19, mwg_20, mwp_20, mwr_21, mwr_22, mwr_23, mwa_1, mwu_1, mwa_2, mwu_2, mwa_3, mwu_3, mwa_4, mwu_4, mwa_5, mwu_5, mwa_6, mwu_6, mwa_7, mwu_7, mwa_8, mwu_8, mwa_9, mwu_9, mwa_10, mwu_10, mwa_11, mwu_11, mwa_12, mwu_12, mwa_13, mwu_13, mwa_14, mwu_14, mwa_15, mwu_15, mwa_16, mwu_16, vu_at, vu_ne, pk_us, pk_un, kB_n, wB_n, kL_n, wL_n, mwo, M_fine0, hh, z58, h2, hw, mt_11, fl]
      · rw [if_neg h8]
        by_cases h2 : B p = 58
        · rw [if_pos h2]
          rw [h2] at hh
          obtain ⟨m1, m2⟩ := M_mark (σ := σ) (m := m) (R := R) (I := I) hB (show p + 1 ≤ n by omega)
          obtain ⟨d1, d2⟩ := mk1_bd (n := n) (B := B) (show p + 1 ≤ n by omega)
          cases hr : mk1 n B (p + 1) with
          | inl q0 =>
            obtain ⟨z, p', c1, c2⟩ := m1 q0 hr
            have hq := d1 q0 hr
            refine ⟨fun q z => ?_, fun L' z => (by cases z)⟩
            cases z
            refine ⟨va_up A 7 (upd (A 7) (4 + L.length) z), p', ?_, fun j hj => vu_ne hj⟩
            rw [← Mt61 (σ := σ) (m := m) (A := va_up A 7 (upd (A 7) (4 + L.length) z)) (R := R) (I := I) c1 hn (show q0 ≤ 80 by omega) (l1 := l1) (l2 := l2) (l3 := .int (nI (L.length + 1))) (l4 := l4)]
            rw [e153_61]
            simp (disch := first | omega | exact tl_l | exact tT_len | (simp only [List.length_cons, List.length_nil])) only [e153_62, e153_65, e153_68, e153_69, e153_72, e153_74, e153_77, e153_78, e153_80, e153_83, e153_84, e153_85, e153_88, e153_91, e153_92, e153_93, e153_96, e153_97, e153_98, e153_101, e153_102, e153_105, e153_108, e153_109, e153_112, e153_113, e153_114, e153_115, e153_116, e153_119, e153_120, e153_123, kv_s, kh_s, kr_s, kr_v, kn_s, z0, z1, z2, nI_ltI, nI_leI, nI_eq, nI_add, oN, bz0, bz1, bw0, bw1, ltT, ltF, leT, leF, eqT, eqF, if_true, if_false, kI_n, wI_n, and_true, true_and, and_false, false_and, not_true, not_false_eq_true, mwo, mwr_0, mwr_1, mwr_2, mwg_3, mwp_3, mwr_4, mwg_5, mwp_5, mwg_6, mwp_6, mwr_7, mwr_8, mwg_9, mwp_9, mwg_10, mwp_10, mwg_11, mwp_11, mwr_12, mwg_13, mwp_13, mwr_14, mwr_15, mwr_16, mwr_17, mwr_18, mwr_19, mwg_20, mwp_20, mwr_21, mwr_22, mwr_23, mwa_1, mwu_1, mwa_2, mwu_2, mwa_3, mwu_3, mwa_4, mwu_4, mwa_5, mwu_5, mwa_6, mwu_6, mwa_7, mwu_7, mwa_8, mwu_8, mwa_9, mwu_9, mwa_10, mwu_10, mwa_11, mwu_11, mwa_12, mwu_12, mwa_13, mwu_13, mwa_14, mwu_14, mwa_15, mwu_15, mwa_16, mwu_16, vu_at, vu_ne, pk_us, pk_un, kB_n, wB_n, kL_n, wL_n, mwo, M_fine0, hh, z58, z8, z4, h8, mt_10, mt_p, c2]
          | inr r0 =>
            have c2 := m2 r0 hr
            obtain ⟨e1, e2⟩ := d2 r0 hr
            have hll : (L ++ [(mkv (sgn n B (p + 1)) r0.1).toInt32]).length = L.length + 1 := by rw [List.length_append]; rfl
            obtain ⟨i1, i2⟩ := ih (L ++ [(mkv (sgn n B (p + 1)) r0.1).toInt32]) r0.2 (va_up A 7 (upd (A 7) (4 + L.length) (mkv (sgn n B (p + 1)) r0.1).toInt32)) ⟨hB.1, by rw [vu_ne (by omega)]; exact hB.2⟩ (by omega) (fun j hj => by
              rw [vu_at]
              by_cases hj2 : j = L.length
              · subst hj2
                rw [pk_us, List.getElem?_append_right (Nat.le_refl _), Nat.sub_self]
                rfl
              · rw [pk_un (by omega), List.getElem?_append_left (by omega)]
                exact hL j (by omega)) e2 (by omega)
            rw [hll] at i1 i2
            have e : den 153 61 [.ref m, l1, l2, .int (nI L.length), l4] [] (mw σ m A R (mt I n p none)) = den 153 61 [.ref m, l1, l2, .int (nI (L.length + 1)), l4] [] (mw σ m (va_up A 7 (upd (A 7) (4 + L.length) (mkv (sgn n B (p + 1)) r0.1).toInt32)) R (mt I n r0.2 none)) := by
              rw [e153_61]
              simp (disch := first | omega | exact tl_l | exact tT_len | (simp only [List.length_cons, List.length_nil])) only [e153_62, e153_65, e153_68, e153_69, e153_72, e153_74, e153_77, e153_78, e153_80, e153_83, e153_84, e153_85, e153_88, e153_91, e153_92, e153_93, e153_96, e153_97, e153_98, e153_101, e153_102, e153_105, e153_108, e153_109, e153_112, e153_113, e153_114, e153_115, e153_116, e153_119, e153_120, e153_123, kv_s, kh_s, kr_s, kr_v, kn_s, z0, z1, z2, nI_ltI, nI_leI, nI_eq, nI_add, oN, bz0, bz1, bw0, bw1, ltT, ltF, leT, leF, eqT, eqF, if_true, if_false, kI_n, wI_n, and_true, true_and, and_false, false_and, not_true, not_false_eq_true, mwo, mwr_0, mwr_1, mwr_2, mwg_3, mwp_3, mwr_4, mwg_5, mwp_5, mwg_6, mwp_6, mwr_7, mwr_8, mwg_9, mwp_9, mwg_10, mwp_10, mwg_11, mwp_11, mwr_12, mwg_13, mwp_13, mwr_14, mwr_15, mwr_16, mwr_17, mwr_18, mwr_19, mwg_20, mwp_20, mwr_21, mwr_22, mwr_23, mwa_1, mwu_1, mwa_2, mwu_2, mwa_3, mwu_3, mwa_4, mwu_4, mwa_5, mwu_5, mwa_6, mwu_6, mwa_7, mwu_7, mwa_8, mwu_8, mwa_9, mwu_9, mwa_10, mwu_10, mwa_11, mwu_11, mwa_12, mwu_12, mwa_13, mwu_13, mwa_14, mwu_14, mwa_15, mwu_15, mwa_16, mwu_16, vu_at, vu_ne, pk_us, pk_un, kB_n, wB_n, kL_n, wL_n, mwo, M_fine0, hh, z58, z8, z4, h8, mt_10, mt_p, c2]
            rw [e]
            refine ⟨fun q z => ?_, fun L' z => ?_⟩
            · obtain ⟨A', p', w1, w2⟩ := i1 q z
              exact ⟨A', p', w1, fun j hj => (w2 j hj).trans (vu_ne hj)⟩
            · obtain ⟨A', w1, w2, w3, w4, w5⟩ := i2 L' z
              exact ⟨A', w1, w2, w3, fun j hj => (w4 j hj).trans (by rw [vu_at, pk_un (by omega)]), fun j hj => (w5 j hj).trans (vu_ne hj)⟩
        · rw [if_neg h2]
          refine ⟨fun q z => ?_, fun L' z => (by cases z)⟩
          cases z
          refine ⟨A, p, ?_, fun j _ => rfl⟩
          rw [e153_61]
          simp (disch := first | omega | exact tl_l | exact tT_len | (simp only [List.length_cons, List.length_nil])) only [e153_0, e153_1, e153_2, e153_5, e153_6, e153_9, e153_10, e153_13, e153_14, e153_15, e153_18, e153_19, e153_20, e153_22, e153_23, e153_26, e153_27, e153_28, e153_31, e153_32, e153_33, e153_34, e153_37, e153_38, e153_39, e153_40, e153_42, e153_43, e153_46, e153_47, e153_48, e153_51, e153_52, e153_53, e153_54, e153_57, e153_58, e153_59, e153_60, e153_62, e153_65, e153_68, e153_69, e153_72, e153_74, e153_77, e153_78, e153_80, e153_83, e153_84, e153_85, e153_88, e153_91, e153_92, e153_93, e153_96, e153_97, e153_98, e153_101, e153_102, e153_105, e153_108, e153_109, e153_112, e153_113, e153_114, e153_115, e153_116, e153_119, e153_120, e153_123, e153_126, e153_127, e153_130, e153_133, e153_134, e153_135, e153_138, e153_139, e153_140, e153_141, e153_144, e153_145, e153_146, e153_147, e153_148, e153_152, e153_153, e153_154, e153_155, e153_158, e153_159, e153_162, e153_164, e153_165, e153_168, e153_170, e153_171, e153_172, e153_175, e153_178, e153_179, kv_s, kh_s, kr_s, kr_v, kn_s, z0, z1, z2, nI_ltI, nI_leI, nI_eq, nI_add, oN, bz0, bz1, bw0, bw1, ltT, ltF, leT, leF, eqT, eqF, if_true, if_false, kI_n, wI_n, and_true, true_and, and_false, false_and, not_true, not_false_eq_true, mwo, mwr_0, mwr_1, mwr_2, mwg_3, mwp_3, mwr_4, mwg_5, mwp_5, mwg_6, mwp_6, mwr_7, mwr_8, mwg_9, mwp_9, mwg_10, mwp_10, mwg_11, mwp_11, mwr_12, mwg_13, mwp_13, mwr_14, mwr_15, mwr_16, mwr_17, mwr_18, mwr_19, mwg_20, mwp_20, mwr_21, mwr_22, mwr_23, mwa_1, mwu_1, mwa_2, mwu_2, mwa_3, mwu_3, mwa_4, mwu_4, mwa_5, mwu_5, mwa_6, mwu_6, mwa_7, mwu_7, mwa_8, mwu_8, mwa_9, mwu_9, mwa_10, mwu_10, mwa_11, mwu_11, mwa_12, mwu_12, mwa_13, mwu_13, mwa_14, mwu_14, mwa_15, mwu_15, mwa_16, mwu_16, vu_at, vu_ne, pk_us, pk_un, kB_n, wB_n, kL_n, wL_n, mwo, M_fine0, hh, z58, h2, hw, mt_11, fl]
theorem M_copy_loop {l1 l2 : Value} {l : Nat} (hl : l ≤ 8) : ∀ (k i : Nat) (A : Nat → Nat → Int32), i + k = 4 + l → 1 ≤ i → (∀ j, 1 ≤ j → j < i → A 2 j = A 7 j) → ∃ N, den 153 150 [.ref m, l1, l2, .int (nI l), .int (nI i)] [] (mw σ m A R I) = some (some (.int (nI l)), mw σ m (va_up A 2 N) R I) ∧ N 0 = A 2 0 ∧ ∀ j, 1 ≤ j → j < 4 + l → N j = A 7 j := by
  intro k
  induction k with
  | zero =>
    intro i A hi h1 h2
    have : i = 4 + l := by omega
    subst this
    refine ⟨A 2, ?_, rfl, h2⟩
    rw [vu_id]
    rw [e153_150]
    simp (disch := first | omega | exact tl_l | exact tT_len | (simp only [List.length_cons, List.length_nil])) only [e153_0, e153_1, e153_2, e153_5, e153_6, e153_9, e153_10, e153_13, e153_14, e153_15, e153_18, e153_19, e153_20, e153_22, e153_23, e153_26, e153_27, e153_28, e153_31, e153_32, e153_33, e153_34, e153_37, e153_38, e153_39, e153_40, e153_42, e153_43, e153_46, e153_47, e153_48, e153_51, e153_52, e153_53, e153_54, e153_57, e153_58, e153_59, e153_60, e153_62, e153_65, e153_68, e153_69, e153_72, e153_74, e153_77, e153_78, e153_80, e153_83, e153_84, e153_85, e153_88, e153_91, e153_92, e153_93, e153_96, e153_97, e153_98, e153_101, e153_102, e153_105, e153_108, e153_109, e153_112, e153_113, e153_114, e153_115, e153_116, e153_119, e153_120, e153_123, e153_126, e153_127, e153_130, e153_133, e153_134, e153_135, e153_138, e153_139, e153_140, e153_141, e153_144, e153_145, e153_146, e153_147, e153_148, e153_152, e153_153, e153_154, e153_155, e153_158, e153_159, e153_162, e153_164, e153_165, e153_168, e153_170, e153_171, e153_172, e153_175, e153_178, e153_179, kv_s, kh_s, kr_s, kr_v, kn_s, z0, z1, z2, nI_ltI, nI_leI, nI_eq, nI_add, oN, bz0, bz1, bw0, bw1, ltT, ltF, leT, leF, eqT, eqF, if_true, if_false, kI_n, wI_n, and_true, true_and, and_false, false_and, not_true, not_false_eq_true, mwo, mwr_0, mwr_1, mwr_2, mwg_3, mwp_3, mwr_4, mwg_5, mwp_5, mwg_6, mwp_6, mwr_7, mwr_8, mwg_9, mwp_9, mwg_10, mwp_10, mwg_11, mwp_11, mwr_12, mwg_13, mwp_13, mwr_14, mwr_15, mwr_16, mwr_17, mwr_18, mwr_19, mwg_20, mwp_20, mwr_21, mwr_22, mwr_23, mwa_1, mwu_1, mwa_2, mwu_2, mwa_3, mwu_3, mwa_4, mwu_4, mwa_5, mwu_5, mwa_6, mwu_6, mwa_7, mwu_7, mwa_8, mwu_8, mwa_9, mwu_9, mwa_10, mwu_10, mwa_11, mwu_11, mwa_12, mwu_12, mwa_13, mwu_13, mwa_14, mwu_14, mwa_15, mwu_15, mwa_16, mwu_16, vu_at, vu_ne, pk_us, pk_un, kB_n, wB_n, kL_n, wL_n, z4]
  | succ k ih =>
    intro i A hi h1 h2
    obtain ⟨N, n1, n2, n3⟩ := ih (i + 1) (va_up A 2 (upd (A 2) i (A 7 i))) (by omega) (by omega) (fun j hj1 hj2 => by
      rw [vu_at, vu_ne (by omega)]
      by_cases hji : j = i
      · subst hji; exact pk_us
      · rw [pk_un hji]; exact h2 j hj1 (by omega))
    rw [vu_vu] at n1
    refine ⟨N, ?_, n2.trans (by rw [vu_at, pk_un (by omega)]), fun j hj1 hj2 => (n3 j hj1 hj2).trans (by rw [vu_ne (by omega)])⟩
    rw [← n1]
    have hlt : i < 4 + l := by omega
    rw [e153_150]
    simp (disch := first | omega | exact tl_l | exact tT_len | (simp only [List.length_cons, List.length_nil])) only [e153_0, e153_1, e153_2, e153_5, e153_6, e153_9, e153_10, e153_13, e153_14, e153_15, e153_18, e153_19, e153_20, e153_22, e153_23, e153_26, e153_27, e153_28, e153_31, e153_32, e153_33, e153_34, e153_37, e153_38, e153_39, e153_40, e153_42, e153_43, e153_46, e153_47, e153_48, e153_51, e153_52, e153_53, e153_54, e153_57, e153_58, e153_59, e153_60, e153_62, e153_65, e153_68, e153_69, e153_72, e153_74, e153_77, e153_78, e153_80, e153_83, e153_84, e153_85, e153_88, e153_91, e153_92, e153_93, e153_96, e153_97, e153_98, e153_101, e153_102, e153_105, e153_108, e153_109, e153_112, e153_113, e153_114, e153_115, e153_116, e153_119, e153_120, e153_123, e153_126, e153_127, e153_130, e153_133, e153_134, e153_135, e153_138, e153_139, e153_140, e153_141, e153_144, e153_145, e153_146, e153_147, e153_148, e153_152, e153_153, e153_154, e153_155, e153_158, e153_159, e153_162, e153_164, e153_165, e153_168, e153_170, e153_171, e153_172, e153_175, e153_178, e153_179, kv_s, kh_s, kr_s, kr_v, kn_s, z0, z1, z2, nI_ltI, nI_leI, nI_eq, nI_add, oN, bz0, bz1, bw0, bw1, ltT, ltF, leT, leF, eqT, eqF, if_true, if_false, kI_n, wI_n, and_true, true_and, and_false, false_and, not_true, not_false_eq_true, mwo, mwr_0, mwr_1, mwr_2, mwg_3, mwp_3, mwr_4, mwg_5, mwp_5, mwg_6, mwp_6, mwr_7, mwr_8, mwg_9, mwp_9, mwg_10, mwp_10, mwg_11, mwp_11, mwr_12, mwg_13, mwp_13, mwr_14, mwr_15, mwr_16, mwr_17, mwr_18, mwr_19, mwg_20, mwp_20, mwr_21, mwr_22, mwr_23, mwa_1, mwu_1, mwa_2, mwu_2, mwa_3, mwu_3, mwa_4, mwu_4, mwa_5, mwu_5, mwa_6, mwu_6, mwa_7, mwu_7, mwa_8, mwu_8, mwa_9, mwu_9, mwa_10, mwu_10, mwa_11, mwu_11, mwa_12, mwu_12, mwa_13, mwu_13, mwa_14, mwu_14, mwa_15, mwu_15, mwa_16, mwu_16, vu_at, vu_ne, pk_us, pk_un, kB_n, wB_n, kL_n, wL_n, z4, hlt]
end MT3
/-- the reference reads a proof -/
theorem M_told {σ : Hp} {m : Nat} {R : Nat → Int64} {n : Nat} {B : Nat → Nat} {A : Nat → Nat → Int32} {I : Nat → Int32} (hB : MB A n B) (h3 : I 3 = nI n) : (∀ q, tp n B = .inl q → ∃ A' p', dcall 153 [.ref m] (mw σ m A R I) = some (some (.int (-nI 1 - nI q)), mw σ m A' R (mt (upd I 6 (nI 0)) n p' (some q))) ∧ ∀ j, j ≠ 7 → A' j = A j) ∧ ∀ w, tp n B = .inr w → ∃ A', dcall 153 [.ref m] (mw σ m A R I) = some (some (.int (nI w.2.2.2.length)), mw σ m A' R (mt (upd I 6 (nI 0)) n n none)) ∧ RMh (A' 2) (some w) ∧ ∀ j, j ≠ 7 → j ≠ 2 → A' j = A j := by
  have hn := hB.1
  have hmI : upd I 6 (nI 0) 3 = nI n := (pk_un (by omega)).trans h3
  obtain ⟨a1, a2⟩ := M_byteNumber (σ := σ) (m := m) (R := R) (I := upd I 6 (nI 0)) hB (Nat.zero_le n)
  obtain ⟨d1, d2⟩ := by1_bd (n := n) (B := B) (Nat.zero_le n)
  have e0 : ∀ x e p', dcall 154 [.ref m] (mw σ m A R (mt (upd I 6 (nI 0)) n 0 none)) = some (some (.int x), mw σ m A R (mt (upd I 6 (nI 0)) n p' e)) → dcall 153 [.ref m] (mw σ m A R I) = den 153 19 [.ref m, junk, junk, junk, junk] [] (mw σ m (va_up A 7 (upd (A 7) 1 x)) R (mt (upd I 6 (nI 0)) n p' e)) := fun x e p' hx => by
    rw [q153]
    simp (disch := first | omega | exact tl_l | exact tT_len | (simp only [List.length_cons, List.length_nil])) only [e153_0, e153_1, e153_2, e153_5, e153_6, e153_9, e153_10, e153_13, e153_14, e153_15, e153_18, kv_s, kh_s, kr_s, kr_v, kn_s, z0, z1, z2, nI_ltI, nI_leI, nI_eq, nI_add, oN, bz0, bz1, bw0, bw1, ltT, ltF, leT, leF, eqT, eqF, if_true, if_false, kI_n, wI_n, and_true, true_and, and_false, false_and, not_true, not_false_eq_true, mwo, mwr_0, mwr_1, mwr_2, mwg_3, mwp_3, mwr_4, mwg_5, mwp_5, mwg_6, mwp_6, mwr_7, mwr_8, mwg_9, mwp_9, mwg_10, mwp_10, mwg_11, mwp_11, mwr_12, mwg_13, mwp_13, mwr_14, mwr_15, mwr_16, mwr_17, mwr_18, mwr_19, mwg_20, mwp_20, mwr_21, mwr_22, mwr_23, mwa_1, mwu_1, mwa_2, mwu_2, mwa_3, mwu_3, mwa_4, mwu_4, mwa_5, mwu_5, mwa_6, mwu_6, mwa_7, mwu_7, mwa_8, mwu_8, mwa_9, mwu_9, mwa_10, mwu_10, mwa_11, mwu_11, mwa_12, mwu_12, mwa_13, mwu_13, mwa_14, mwu_14, mwa_15, mwu_15, mwa_16, mwu_16, vu_at, vu_ne, pk_us, pk_un, kB_n, wB_n, kL_n, wL_n, mwo, M_begin hmI, hx]
  unfold tp
  cases hb : by1 n B 0 with
  | inl q0 =>
    obtain ⟨x, p', b1, b2⟩ := a1 q0 hb
    have hq := d1 q0 hb
    refine ⟨fun q z => ?_, fun w z => (by cases z)⟩
    cases z
    obtain ⟨A', k1, k2⟩ := Mt19 (σ := σ) (m := m) (A := va_up A 7 (upd (A 7) 1 x)) (R := R) (I := upd I 6 (nI 0)) b1 hn (show q0 ≤ 80 by omega) (l1 := junk) (l2 := junk) (l3 := junk) (l4 := junk)
    exact ⟨A', p', (e0 _ _ _ b2).trans k1, fun j hj => (k2 j hj).trans (vu_ne hj)⟩
  | inr r0 =>
    have b2 := a2 r0 hb
    obtain ⟨c1, c2, c3⟩ := d2 r0 hb
    have hB1 : MB (va_up A 7 (upd (A 7) 1 (nI r0.1))) n B := ⟨hB.1, by rw [vu_ne (by omega)]; exact hB.2⟩
    have ho := M_oneOf0 (σ := σ) (m := m) (R := R) (I := upd I 6 (nI 0)) hB1 c2 (s := 61) (k := 1) (by omega) (by omega)
    rw [e0 _ _ _ b2]
    by_cases h2 : r0.2 < n ∧ B r0.2 = 61
    · show (∀ q, (if r0.2 < n ∧ B r0.2 = 61 then tp2 n B r0.1 (r0.2 + 1) else .inl r0.2) = .inl q → _) ∧ ∀ w, (if r0.2 < n ∧ B r0.2 = 61 then tp2 n B r0.1 (r0.2 + 1) else .inl r0.2) = .inr w → _
      rw [if_pos h2]
      rw [if_pos ⟨h2.1, by omega, by omega⟩, h2.2] at ho
      obtain ⟨n1, n2⟩ := M_number (σ := σ) (m := m) (R := R) (I := upd I 6 (nI 0)) hB1 (show r0.2 + 1 ≤ n by omega)
      obtain ⟨g1, g2⟩ := nm_bd (n := n) (B := B) (m := 3) (show r0.2 + 1 ≤ n by omega)
      have e1 : ∀ x e p', dcall 150 [.ref m] (mw σ m (va_up A 7 (upd (A 7) 1 (nI r0.1))) R (mt (upd I 6 (nI 0)) n (r0.2 + 1) none)) = some (some (.int x), mw σ m (va_up A 7 (upd (A 7) 1 (nI r0.1))) R (mt (upd I 6 (nI 0)) n p' e)) → den 153 19 [.ref m, junk, junk, junk, junk] [] (mw σ m (va_up A 7 (upd (A 7) 1 (nI r0.1))) R (mt (upd I 6 (nI 0)) n r0.2 none)) = den 153 39 [.ref m, .int (nI 0), junk, junk, junk] [] (mw σ m (va_up A 7 (upd (upd (A 7) 1 (nI r0.1)) 2 (nI 0 + x))) R (mt (upd I 6 (nI 0)) n p' e)) := fun x e p' hx => by
        simp (disch := first | omega | exact tl_l | exact tT_len | (simp only [List.length_cons, List.length_nil])) only [e153_19, e153_20, e153_22, e153_23, e153_26, e153_27, e153_28, e153_31, e153_32, e153_33, e153_34, e153_37, e153_38, kv_s, kh_s, kr_s, kr_v, kn_s, z0, z1, z2, nI_ltI, nI_leI, nI_eq, nI_add, oN, bz0, bz1, bw0, bw1, ltT, ltF, leT, leF, eqT, eqF, if_true, if_false, kI_n, wI_n, and_true, true_and, and_false, false_and, not_true, not_false_eq_true, mwo, mwr_0, mwr_1, mwr_2, mwg_3, mwp_3, mwr_4, mwg_5, mwp_5, mwg_6, mwp_6, mwr_7, mwr_8, mwg_9, mwp_9, mwg_10, mwp_10, mwg_11, mwp_11, mwr_12, mwg_13, mwp_13, mwr_14, mwr_15, mwr_16, mwr_17, mwr_18, mwr_19, mwg_20, mwp_20, mwr_21, mwr_22, mwr_23, mwa_1, mwu_1, mwa_2, mwu_2, mwa_3, mwu_3, mwa_4, mwu_4, mwa_5, mwu_5, mwa_6, mwu_6, mwa_7, mwu_7, mwa_8, mwu_8, mwa_9, mwu_9, mwa_10, mwu_10, mwa_11, mwu_11, mwa_12, mwu_12, mwa_13, mwu_13, mwa_14, mwu_14, mwa_15, mwu_15, mwa_16, mwu_16, vu_at, vu_ne, pk_us, pk_un, kB_n, wB_n, kL_n, wL_n, mwo, z61, ho, Nat.sub_self, hx, vu_vu]
      unfold tp2
      cases hnm : nm n B 3 (r0.2 + 1) with
      | inl q0 =>
        obtain ⟨x, p', v1, v2⟩ := n1 q0 hnm
        have hq := g1 q0 hnm
        refine ⟨fun q z => ?_, fun w z => (by cases z)⟩
        cases z
        obtain ⟨A', k1, k2⟩ := Mt39 (σ := σ) (m := m) (A := va_up A 7 (upd (upd (A 7) 1 (nI r0.1)) 2 (nI 0 + x))) (R := R) (I := upd I 6 (nI 0)) v1 hn (show q0 ≤ 80 by omega) (l1 := .int (nI 0)) (l2 := junk) (l3 := junk) (l4 := junk)
        exact ⟨A', p', (e1 _ _ _ v2).trans k1, fun j hj => (k2 j hj).trans (vu_ne hj)⟩
      | inr r1 =>
        have v2 := n2 r1 hnm
        obtain ⟨k1, k2, k3⟩ := g2 r1 hnm
        rw [e1 _ _ _ v2]
        have e01 : nI 0 + nI r1.1 = nI r1.1 := Int32.zero_add _
        rw [e01]
        have hB2 : MB (va_up A 7 (upd (upd (A 7) 1 (nI r0.1)) 2 (nI r1.1))) n B := ⟨hB.1, by rw [vu_ne (by omega)]; exact hB.2⟩
        have ho2 := M_oneOf0 (σ := σ) (m := m) (R := R) (I := upd I 6 (nI 0)) hB2 k2 (s := 58) (k := 1) (by omega) (by omega)
        by_cases h3 : r1.2 < n ∧ B r1.2 = 58
        · show (∀ q, (if r1.2 < n ∧ B r1.2 = 58 then tp3 n B r0.1 r1.1 (r1.2 + 1) else .inl r1.2) = .inl q → _) ∧ ∀ w, (if r1.2 < n ∧ B r1.2 = 58 then tp3 n B r0.1 r1.1 (r1.2 + 1) else .inl r1.2) = .inr w → _
          rw [if_pos h3]
          rw [if_pos ⟨h3.1, by omega, by omega⟩, h3.2] at ho2
          obtain ⟨o1, o2⟩ := M_byteNumber (σ := σ) (m := m) (R := R) (I := upd I 6 (nI 0)) hB2 (show r1.2 + 1 ≤ n by omega)
          obtain ⟨f1, f2⟩ := by1_bd (n := n) (B := B) (show r1.2 + 1 ≤ n by omega)
          have e2 : ∀ x e p', dcall 154 [.ref m] (mw σ m (va_up A 7 (upd (upd (A 7) 1 (nI r0.1)) 2 (nI r1.1))) R (mt (upd I 6 (nI 0)) n (r1.2 + 1) none)) = some (some (.int x), mw σ m (va_up A 7 (upd (upd (A 7) 1 (nI r0.1)) 2 (nI r1.1))) R (mt (upd I 6 (nI 0)) n p' e)) → den 153 39 [.ref m, .int (nI 0), junk, junk, junk] [] (mw σ m (va_up A 7 (upd (upd (A 7) 1 (nI r0.1)) 2 (nI r1.1))) R (mt (upd I 6 (nI 0)) n r1.2 none)) = den 153 61 [.ref m, .int (nI 0), .int (nI 0), .int (nI 0), junk] [] (mw σ m (va_up A 7 (upd (upd (upd (A 7) 1 (nI r0.1)) 2 (nI r1.1)) 3 (nI 0 + x))) R (mt (upd I 6 (nI 0)) n p' e)) := fun x e p' hx => by
            simp (disch := first | omega | exact tl_l | exact tT_len | (simp only [List.length_cons, List.length_nil])) only [e153_39, e153_40, e153_42, e153_43, e153_46, e153_47, e153_48, e153_51, e153_52, e153_53, e153_54, e153_57, e153_58, e153_59, e153_60, kv_s, kh_s, kr_s, kr_v, kn_s, z0, z1, z2, nI_ltI, nI_leI, nI_eq, nI_add, oN, bz0, bz1, bw0, bw1, ltT, ltF, leT, leF, eqT, eqF, if_true, if_false, kI_n, wI_n, and_true, true_and, and_false, false_and, not_true, not_false_eq_true, mwo, mwr_0, mwr_1, mwr_2, mwg_3, mwp_3, mwr_4, mwg_5, mwp_5, mwg_6, mwp_6, mwr_7, mwr_8, mwg_9, mwp_9, mwg_10, mwp_10, mwg_11, mwp_11, mwr_12, mwg_13, mwp_13, mwr_14, mwr_15, mwr_16, mwr_17, mwr_18, mwr_19, mwg_20, mwp_20, mwr_21, mwr_22, mwr_23, mwa_1, mwu_1, mwa_2, mwu_2, mwa_3, mwu_3, mwa_4, mwu_4, mwa_5, mwu_5, mwa_6, mwu_6, mwa_7, mwu_7, mwa_8, mwu_8, mwa_9, mwu_9, mwa_10, mwu_10, mwa_11, mwu_11, mwa_12, mwu_12, mwa_13, mwu_13, mwa_14, mwu_14, mwa_15, mwu_15, mwa_16, mwu_16, vu_at, vu_ne, pk_us, pk_un, kB_n, wB_n, kL_n, wL_n, mwo, z58, z3, ho2, Nat.sub_self, hx, vu_vu]
          unfold tp3
          cases hb3 : by1 n B (r1.2 + 1) with
          | inl q0 =>
            obtain ⟨x, p', b1, b2⟩ := o1 q0 hb3
            have hq := f1 q0 hb3
            refine ⟨fun q z => ?_, fun w z => (by cases z)⟩
            cases z
            refine ⟨_, p', (e2 _ _ _ b2).trans (Mt61 b1 hn (show q0 ≤ 80 by omega)), fun j hj => vu_ne hj⟩
          | inr r2 =>
            have b3 := o2 r2 hb3
            obtain ⟨l1, l2, l3⟩ := f2 r2 hb3
            rw [e2 _ _ _ b3]
            have e02 : nI 0 + nI r2.1 = nI r2.1 := Int32.zero_add _
            rw [e02]
            obtain ⟨i1, i2⟩ := M_marks_loop (σ := σ) (m := m) (R := R) (n := n) (B := B) (I := upd I 6 (nI 0)) (l1 := .int (nI 0)) (l2 := .int (nI 0)) (l4 := junk) (n + 1) [] r2.2 (va_up A 7 (upd (upd (upd (A 7) 1 (nI r0.1)) 2 (nI r1.1)) 3 (nI r2.1))) ⟨hB.1, by rw [vu_ne (by omega)]; exact hB.2⟩ (by show 0 ≤ 8; omega) (fun j hj => absurd hj (Nat.not_lt_zero j)) l2 (by omega)
            cases hk : mkt n B (n + 1) [] r2.2 with
            | inl q0 =>
              simp only [hk]
              obtain ⟨A', p', w1, w2⟩ := i1 q0 hk
              refine ⟨fun q z => ?_, fun w z => (by cases z)⟩
              cases z
              exact ⟨A', p', w1, fun j hj => (w2 j hj).trans (vu_ne hj)⟩
            | inr L' =>
              simp only [hk]
              obtain ⟨A', w1, w2, w3, w4, w5⟩ := i2 L' hk
              refine ⟨fun q z => (by cases z), fun w z => ?_⟩
              cases z
              obtain ⟨N, y1, y2, y3⟩ := M_copy_loop (σ := σ) (m := m) (R := R) (I := mt (upd I 6 (nI 0)) n n none) (l1 := .int (nI 0)) (l2 := .int (nI 0)) w3 (3 + L'.length) 1 (va_up A' 2 (upd (A' 2) 0 (nI L'.length))) (by omega) (by omega) (fun j hj1 hj2 => by omega)
              rw [vu_vu] at y1
              have h7 : va_up A' 2 (upd (A' 2) 0 (nI L'.length)) 7 = A' 7 := vu_ne (by omega)
              rw [h7] at y3
              refine ⟨va_up A' 2 N, w1.trans ?_, ?_, fun j hj hj2 => (vu_ne hj2).trans ((w5 j hj).trans (vu_ne hj))⟩
              · rw [← y1]
                simp (disch := first | omega | exact tl_l | exact tT_len | (simp only [List.length_cons, List.length_nil])) only [e153_140, e153_141, e153_144, e153_145, e153_146, e153_147, e153_148, kv_s, kh_s, kr_s, kr_v, kn_s, z0, z1, z2, nI_ltI, nI_leI, nI_eq, nI_add, oN, bz0, bz1, bw0, bw1, ltT, ltF, leT, leF, eqT, eqF, if_true, if_false, kI_n, wI_n, and_true, true_and, and_false, false_and, not_true, not_false_eq_true, mwo, mwr_0, mwr_1, mwr_2, mwg_3, mwp_3, mwr_4, mwg_5, mwp_5, mwg_6, mwp_6, mwr_7, mwr_8, mwg_9, mwp_9, mwg_10, mwp_10, mwg_11, mwp_11, mwr_12, mwg_13, mwp_13, mwr_14, mwr_15, mwr_16, mwr_17, mwr_18, mwr_19, mwg_20, mwp_20, mwr_21, mwr_22, mwr_23, mwa_1, mwu_1, mwa_2, mwu_2, mwa_3, mwu_3, mwa_4, mwu_4, mwa_5, mwu_5, mwa_6, mwu_6, mwa_7, mwu_7, mwa_8, mwu_8, mwa_9, mwu_9, mwa_10, mwu_10, mwa_11, mwu_11, mwa_12, mwu_12, mwa_13, mwu_13, mwa_14, mwu_14, mwa_15, mwu_15, mwa_16, mwu_16, vu_at, vu_ne, pk_us, pk_un, kB_n, wB_n, kL_n, wL_n, mwo]
              · rw [vu_at]
                refine ⟨y2.trans (by rw [vu_at, pk_us]), ?_, ?_, ?_, fun j hj => by rw [y3 _ (by omega) (by have : j < L'.length := hj; omega)]; exact w2 j hj⟩
                · rw [y3 1 (by omega) (by omega), w4 1 (by omega), vu_at, pk_un (by omega), pk_un (by omega), pk_us]
                · rw [y3 2 (by omega) (by omega), w4 2 (by omega), vu_at, pk_un (by omega), pk_us]
                · rw [y3 3 (by omega) (by omega), w4 3 (by omega), vu_at, pk_us]
        · show (∀ q, (if r1.2 < n ∧ B r1.2 = 58 then tp3 n B r0.1 r1.1 (r1.2 + 1) else .inl r1.2) = .inl q → _) ∧ ∀ w, (if r1.2 < n ∧ B r1.2 = 58 then tp3 n B r0.1 r1.1 (r1.2 + 1) else .inl r1.2) = .inr w → _
          rw [if_neg h3]
          rw [if_neg (fun z => h3 ⟨z.1, by omega⟩)] at ho2
          refine ⟨fun q z => ?_, fun w z => (by cases z)⟩
          cases z
          obtain ⟨A', j1, j2⟩ := Mt47 (σ := σ) (m := m) (A := va_up A 7 (upd (upd (A 7) 1 (nI r0.1)) 2 (nI r1.1))) (R := R) (I := upd I 6 (nI 0)) k2 hn (show r1.2 ≤ 80 by omega) (l1 := .int (nI 0)) (l3 := junk) (l4 := junk) (x := nI 0)
          refine ⟨A', r1.2, ?_, fun j hj => (j2 j hj).trans (vu_ne hj)⟩
          rw [← j1]
          simp (disch := first | omega | exact tl_l | exact tT_len | (simp only [List.length_cons, List.length_nil])) only [e153_39, e153_40, e153_42, e153_43, e153_46, kv_s, kh_s, kr_s, kr_v, kn_s, z0, z1, z2, nI_ltI, nI_leI, nI_eq, nI_add, oN, bz0, bz1, bw0, bw1, ltT, ltF, leT, leF, eqT, eqF, if_true, if_false, kI_n, wI_n, and_true, true_and, and_false, false_and, not_true, not_false_eq_true, mwo, mwr_0, mwr_1, mwr_2, mwg_3, mwp_3, mwr_4, mwg_5, mwp_5, mwg_6, mwp_6, mwr_7, mwr_8, mwg_9, mwp_9, mwg_10, mwp_10, mwg_11, mwp_11, mwr_12, mwg_13, mwp_13, mwr_14, mwr_15, mwr_16, mwr_17, mwr_18, mwr_19, mwg_20, mwp_20, mwr_21, mwr_22, mwr_23, mwa_1, mwu_1, mwa_2, mwu_2, mwa_3, mwu_3, mwa_4, mwu_4, mwa_5, mwu_5, mwa_6, mwu_6, mwa_7, mwu_7, mwa_8, mwu_8, mwa_9, mwu_9, mwa_10, mwu_10, mwa_11, mwu_11, mwa_12, mwu_12, mwa_13, mwu_13, mwa_14, mwu_14, mwa_15, mwu_15, mwa_16, mwu_16, vu_at, vu_ne, pk_us, pk_un, kB_n, wB_n, kL_n, wL_n, mwo, z58, ho2]
    · show (∀ q, (if r0.2 < n ∧ B r0.2 = 61 then tp2 n B r0.1 (r0.2 + 1) else .inl r0.2) = .inl q → _) ∧ ∀ w, (if r0.2 < n ∧ B r0.2 = 61 then tp2 n B r0.1 (r0.2 + 1) else .inl r0.2) = .inr w → _
      rw [if_neg h2]
      rw [if_neg (fun z => h2 ⟨z.1, by omega⟩)] at ho
      refine ⟨fun q z => ?_, fun w z => (by cases z)⟩
      cases z
      obtain ⟨A', j1, j2⟩ := Mt27 (σ := σ) (m := m) (A := va_up A 7 (upd (A 7) 1 (nI r0.1))) (R := R) (I := upd I 6 (nI 0)) c2 hn (show r0.2 ≤ 80 by omega) (l2 := junk) (l3 := junk) (l4 := junk) (x := nI 0)
      refine ⟨A', r0.2, ?_, fun j hj => (j2 j hj).trans (vu_ne hj)⟩
      rw [← j1]
      simp (disch := first | omega | exact tl_l | exact tT_len | (simp only [List.length_cons, List.length_nil])) only [e153_19, e153_20, e153_22, e153_23, e153_26, kv_s, kh_s, kr_s, kr_v, kn_s, z0, z1, z2, nI_ltI, nI_leI, nI_eq, nI_add, oN, bz0, bz1, bw0, bw1, ltT, ltF, leT, leF, eqT, eqF, if_true, if_false, kI_n, wI_n, and_true, true_and, and_false, false_and, not_true, not_false_eq_true, mwo, mwr_0, mwr_1, mwr_2, mwg_3, mwp_3, mwr_4, mwg_5, mwp_5, mwg_6, mwp_6, mwr_7, mwr_8, mwg_9, mwp_9, mwg_10, mwp_10, mwg_11, mwp_11, mwr_12, mwg_13, mwp_13, mwr_14, mwr_15, mwr_16, mwr_17, mwr_18, mwr_19, mwg_20, mwp_20, mwr_21, mwr_22, mwr_23, mwa_1, mwu_1, mwa_2, mwu_2, mwa_3, mwu_3, mwa_4, mwu_4, mwa_5, mwu_5, mwa_6, mwu_6, mwa_7, mwu_7, mwa_8, mwu_8, mwa_9, mwu_9, mwa_10, mwu_10, mwa_11, mwu_11, mwa_12, mwu_12, mwa_13, mwu_13, mwa_14, mwu_14, mwa_15, mwu_15, mwa_16, mwu_16, vu_at, vu_ne, pk_us, pk_un, kB_n, wB_n, kL_n, wL_n, mwo, z61, ho]
theorem J_told : Jn 78 153 [] := by
  rintro c i σ hi ⟨z, n, B, L, q, K, A, R, I, A2, R2, I2, h⟩
  obtain ⟨T, hb⟩ := h.rb
  have hN := h.nm
  have hB := h.2.2.2.1.1
  have hn := hB.1
  have hMB : MB A2 n B := ⟨hn, fun j hj => ⟨h.2.2.2.2.1.2.2.2.1 j hj, (hB.2.2 j hj).2⟩⟩
  have hM3 := h.2.2.2.2.1.2.2.1
  obtain ⟨c1, c2⟩ := C_readProof (R := R) hb hB
  cases ht : tp n B with
  | inl q0 =>
    obtain ⟨A', I', p', w1, w2, w3, w4⟩ := c1 q0 ht
    obtain ⟨A2', p2, v1, v2⟩ := (M_told (σ := cw σ c A' R (upd (ti I' p' (some q0)) 0 (nI 0))) (m := c + 24) (R := R2) hMB hM3).1 q0 ht
    refine Inv_regs h (b := .int (-nI 1 - nI q0)) (A' := A') (R' := R) (I' := upd (ti I' p' (some q0)) 0 (nI 0)) (n' := 0) (B' := B) (L' := L) (q' := q) (A2' := A2') (R2' := R2) (I2' := mt (upd I2 6 (nI 0)) n p2 (some q0)) ?_ v1 ?_ (h.2.2.2.2.1.rd (fun k hk => v2 k (by omega)) mt_3 ((mt_o (by omega)).trans (pk_un (by omega)))) (h.2.2.2.2.2.rd hi)
    · have h := hb
      rw [q78]
      simp (disch := first | omega | exact tl_l | exact tT_len | (simp only [List.length_cons, List.length_nil])) only [e78_0, e78_1, e78_4, e78_5, e78_6, e78_9, e78_10, e78_13, e78_14, e78_15, e78_18, e78_19, e78_20, e78_21, e78_22, e78_23, e78_26, e78_27, e78_30, e78_33, e78_34, e78_37, e78_40, kv_s, kh_s, kr_s, kr_v, kn_s, z0, z1, z2, nI_ltI, nI_leI, nI_eq, nI_add, oN, bz0, bz1, bw0, bw1, ltT, ltF, leT, leF, eqT, eqF, if_true, if_false, kI_n, wI_n, and_true, true_and, and_false, false_and, not_true, not_false_eq_true, cwo_1, cwr_1, cwg_0, cwg_1, cwg_2, cwa_0, cwl_0, cwo_3, cwr_3, cwg_3, cwa_R, cwl_R, cwo_5, cwr_5, cwg_4, cwg_5, cwg_6, cwg_7, cwg_8, cwa_1, cwl_1, cwo_7, cwr_7, cwg_9, cwg_10, cwg_11, cwg_12, cwg_13, cwa_2, cwl_2, cwo_17, cwr_17, cwg_14, cwa_3, cwl_3, cwp_0, cwp_1, cwp_2, cwp_3, cwp_4, cwp_5, cwp_6, cwp_7, cwp_8, cwp_9, cwp_10, cwp_11, cwp_12, cwp_13, cwp_14, cwu_0, cwu_R, cwu_1, cwu_2, cwu_3, vu_at, vu_ne, pk_us, pk_un, h.x.f0, h.x.f1, h.x.f2, h.x.f3, h.x.f4, h.x.f5, h.x.f6, h.x.f7, h.x.o, h.hi.o, h.hi.gd, h.hi.gf, h.hi.gl, Hi_keys h.hi h.d8, Hi_hasKey h.hi h.d8, Rw_empty, Rw_add, List.nil_append, List.cons_append, upd_upd, cwo_1, cwo_3, cwo_5, cwo_7, cwo_17, Bool.false_eq_true, n01, w1, nI_n1]
    · refine h.2.2.2.1.text (B' := B) ⟨Nat.zero_le _, pk_us, fun i hi => absurd hi (Nat.not_lt_zero i)⟩ (w3 1 (by omega)) fun j hj => ?_
      rw [pk_un (by omega), ti_o (by omega) (by omega), w4 j (by omega)]
  | inr w =>
    obtain ⟨A', I', w1, w2, k10, k11, k12, k13, w3, w4, w5⟩ := c2 w ht
    have hU : ∀ j, j = 10 ∨ j = 11 ∨ j = 12 ∨ j = 13 → upd (ti I' n none) 0 (nI 0) j = I' j := fun j hj => by
      rw [pk_un (by omega), ti_o (by omega) (by omega)]
    have hpt := Pr_take (σ := σ) (c := c) (A := A') (R := R) (I := upd (ti I' n none) 0 (nI 0))
    rw [hU 10 (by omega), hU 11 (by omega), hU 12 (by omega), hU 13 (by omega), k10, k11, k12, k13] at hpt
    obtain ⟨A2', v1, v2, v3⟩ := (M_told (σ := cw σ c (va_up A' 1 (va_cpy (A' 2) (A' 1) 0 0 8)) R (upd (upd (upd (upd (upd (upd (ti I' n none) 0 (nI 0)) 4 (nI 1)) 5 (nI w.1)) 6 (nI w.2.1)) 7 (nI w.2.2.1)) 8 (nI w.2.2.2.length))) (m := c + 24) (R := R2) hMB hM3).2 w ht
    obtain ⟨⟨_, x1, x2⟩, x3, x4, x5, dc, x6, x7⟩ := h.2.2.2.1
    obtain ⟨g1, g2, g3, g4, g5, g6, g7⟩ := h.2.2.2.2.1
    obtain ⟨o1, o2, o3, o4, o5⟩ := h.2.2.2.2.2.rd hi
    have hU2 : ∀ j, j = 3 ∨ j = 14 → upd (upd (upd (upd (upd (upd (ti I' n none) 0 (nI 0)) 4 (nI 1)) 5 (nI w.1)) 6 (nI w.2.1)) 7 (nI w.2.2.1)) 8 (nI w.2.2.2.length) j = I j := fun j hj => by
      rw [pk_un (by omega), pk_un (by omega), pk_un (by omega), pk_un (by omega), pk_un (by omega), pk_un (by omega), ti_o (by omega) (by omega), w5 j (by omega)]
    refine Inv_regs h (b := .int (nI w.2.2.2.length)) (A' := va_up A' 1 (va_cpy (A' 2) (A' 1) 0 0 8)) (R' := R) (I' := upd (upd (upd (upd (upd (upd (ti I' n none) 0 (nI 0)) 4 (nI 1)) 5 (nI w.1)) 6 (nI w.2.1)) 7 (nI w.2.2.1)) 8 (nI w.2.2.2.length)) (n' := 0) (B' := B) (L' := L) (q' := some w) (A2' := A2') (R2' := R2) (I2' := mt (upd I2 6 (nI 0)) n n none) ?_ v1 ?_ ⟨by rw [v3 1 (by omega) (by omega)]; exact g1, v2, mt_3, fun i hi => absurd hi (Nat.not_lt_zero i), ((mt_o (by omega)).trans (pk_un (by omega))).trans g5, g6, fun j hj => RMk_stay' (fun k hk => v3 k (by omega) (by omega)) (g7 j hj)⟩ ⟨o1, o2, o3, fun p hp => by cases hp; exact w2, o5⟩
    · have h := hb
      rw [q78]
      simp (disch := first | omega | exact tl_l | exact tT_len | (simp only [List.length_cons, List.length_nil])) only [e78_0, e78_1, e78_4, e78_5, e78_6, e78_9, e78_10, e78_13, e78_14, e78_15, e78_18, e78_19, e78_20, e78_21, e78_22, e78_23, e78_26, e78_27, e78_30, e78_33, e78_34, e78_37, e78_40, kv_s, kh_s, kr_s, kr_v, kn_s, z0, z1, z2, nI_ltI, nI_leI, nI_eq, nI_add, oN, bz0, bz1, bw0, bw1, ltT, ltF, leT, leF, eqT, eqF, if_true, if_false, kI_n, wI_n, and_true, true_and, and_false, false_and, not_true, not_false_eq_true, cwo_1, cwr_1, cwg_0, cwg_1, cwg_2, cwa_0, cwl_0, cwo_3, cwr_3, cwg_3, cwa_R, cwl_R, cwo_5, cwr_5, cwg_4, cwg_5, cwg_6, cwg_7, cwg_8, cwa_1, cwl_1, cwo_7, cwr_7, cwg_9, cwg_10, cwg_11, cwg_12, cwg_13, cwa_2, cwl_2, cwo_17, cwr_17, cwg_14, cwa_3, cwl_3, cwp_0, cwp_1, cwp_2, cwp_3, cwp_4, cwp_5, cwp_6, cwp_7, cwp_8, cwp_9, cwp_10, cwp_11, cwp_12, cwp_13, cwp_14, cwu_0, cwu_R, cwu_1, cwu_2, cwu_3, vu_at, vu_ne, pk_us, pk_un, h.x.f0, h.x.f1, h.x.f2, h.x.f3, h.x.f4, h.x.f5, h.x.f6, h.x.f7, h.x.o, h.hi.o, h.hi.gd, h.hi.gf, h.hi.gl, Hi_keys h.hi h.d8, Hi_hasKey h.hi h.d8, Rw_empty, Rw_add, List.nil_append, List.cons_append, upd_upd, cwo_1, cwo_3, cwo_5, cwo_7, cwo_17, Bool.false_eq_true, n01, w1, n1_n1, hpt]
    · refine ⟨⟨Nat.zero_le _, ?_, fun i hi => absurd hi (Nat.not_lt_zero i)⟩, (hU2 3 (by omega)).trans x3, x4, ⟨?_, ?_, ?_, ?_, ?_, fun j hj => ?_⟩, dc, x6, (hU2 14 (by omega)).trans x7⟩
      · rw [pk_un (by omega), pk_un (by omega), pk_un (by omega), pk_un (by omega), pk_un (by omega), pk_us]
      · rw [pk_un (by omega), pk_un (by omega), pk_un (by omega), pk_un (by omega), pk_us]
      · rw [pk_un (by omega), pk_un (by omega), pk_un (by omega), pk_us]
      · rw [pk_un (by omega), pk_un (by omega), pk_us]
      · rw [pk_un (by omega), pk_us]
      · exact pk_us
      · have h8 := w2.2.2.2
        rw [vu_at]
        have e : va_cpy (A' 2) (A' 1) 0 0 8 j = A' 2 j := by
          unfold va_cpy
          rw [if_pos (by omega)]
          simp only [Nat.zero_add, Nat.sub_zero, Nat.add_zero]
        rw [e]
        exact w3 j hj
