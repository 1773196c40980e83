/-! calls: told -/
section MT2
variable {σ : Hp} {m : Nat} {R : Nat → Int64} {n : Nat} {B : Nat → Nat} {p q : Nat}
theorem M_byteNumber {A : Nat → Nat → Int32} {I : Nat → Int32} (hB : MB A n B) (hp : p ≤ n) : (∀ q, by1 n B p = .inl q → ∃ x p', p' ≤ n ∧ dcall 154 [.ref m] (mw σ m A R (mt I n p none)) = some (some (.int x), mw σ m A R (mt I n p' (some q)))) ∧ ∀ r, by1 n B p = .inr r → dcall 154 [.ref m] (mw σ m A R (mt I n p none)) = some (some (.int (nI r.1)), mw σ m A R (mt I n r.2 none)) := by
  have hn := hB.1
  obtain ⟨n1, n2⟩ := M_number (σ := σ) (m := m) (R := R) (I := I) hB hp
  obtain ⟨d1, d2⟩ := nm_bd (n := n) (B := B) (m := 3) hp
  have z256 : (256 : Int32) = nI 256 := rfl
  unfold by1
  cases hnm : nm n B 3 p with
  | inl q0 =>
    obtain ⟨x, p', a1, a2⟩ := n1 q0 hnm
    have hq := d1 q0 hnm
    refine ⟨fun q hq2 => ?_, fun r hr => (by cases hr)⟩
    cases hq2
    refine ⟨x, p', a1, ?_⟩
    have f1 := M_fine1 (σ := σ) (m := m) (A := A) (R := R) (I := I) (n := n) (p := p') (q := q0) (by omega)
    rw [q154]
    simp (disch := first | omega | exact tl_l | exact tT_len | (simp only [List.length_cons, List.length_nil])) only [e154_0, e154_1, e154_4, e154_5, e154_6, e154_9, e154_12, e154_13, e154_16, e154_19, e154_20, e154_21, e154_24, e154_25, e154_26, e154_29, e154_30, kv_s, kh_s, kr_s, kr_v, kn_s, z0, z1, z2, nI_ltI, nI_leI, nI_eq, nI_add, oN, bz0, bz1, bw0, bw1, ltT, ltF, leT, leF, eqT, eqF, if_true, if_false, kI_n, wI_n, and_true, true_and, and_false, false_and, not_true, not_false_eq_true, mwo, mwr_0, mwr_1, mwr_2, mwg_3, mwp_3, mwr_4, mwg_5, mwp_5, mwg_6, mwp_6, mwr_7, mwr_8, mwg_9, mwp_9, mwg_10, mwp_10, mwg_11, mwp_11, mwr_12, mwg_13, mwp_13, mwr_14, mwr_15, mwr_16, mwr_17, mwr_18, mwr_19, mwg_20, mwp_20, mwr_21, mwr_22, mwr_23, mwa_1, mwu_1, mwa_2, mwu_2, mwa_3, mwu_3, mwa_4, mwu_4, mwa_5, mwu_5, mwa_6, mwu_6, mwa_7, mwu_7, mwa_8, mwu_8, mwa_9, mwu_9, mwa_10, mwu_10, mwa_11, mwu_11, mwa_12, mwu_12, mwa_13, mwu_13, mwa_14, mwu_14, mwa_15, mwu_15, mwa_16, mwu_16, vu_at, vu_ne, pk_us, pk_un, kB_n, wB_n, kL_n, wL_n, mwo, a2, f1]
  | inr r0 =>
    have a2 := n2 r0 hnm
    obtain ⟨b1, b2, b3⟩ := d2 r0 hnm
    have e1 : nI r0.2 - nI 1 = nI (r0.2 - 1) := pk_sub (by omega)
    by_cases hc : 255 < r0.1
    · simp only [hc, if_true]
      refine ⟨fun q hq2 => ?_, fun r hr => (by cases hr)⟩
      cases hq2
      have hc' : ¬ r0.1 < 256 := by omega
      refine ⟨nI r0.1, r0.2, b2, ?_⟩
      rw [q154]
      simp (disch := first | omega | exact tl_l | exact tT_len | (simp only [List.length_cons, List.length_nil])) only [e154_0, e154_1, e154_4, e154_5, e154_6, e154_9, e154_12, e154_13, e154_16, e154_19, e154_20, e154_21, e154_24, e154_25, e154_26, e154_29, e154_30, kv_s, kh_s, kr_s, kr_v, kn_s, z0, z1, z2, nI_ltI, nI_leI, nI_eq, nI_add, oN, bz0, bz1, bw0, bw1, ltT, ltF, leT, leF, eqT, eqF, if_true, if_false, kI_n, wI_n, and_true, true_and, and_false, false_and, not_true, not_false_eq_true, mwo, mwr_0, mwr_1, mwr_2, mwg_3, mwp_3, mwr_4, mwg_5, mwp_5, mwg_6, mwp_6, mwr_7, mwr_8, mwg_9, mwp_9, mwg_10, mwp_10, mwg_11, mwp_11, mwr_12, mwg_13, mwp_13, mwr_14, mwr_15, mwr_16, mwr_17, mwr_18, mwr_19, mwg_20, mwp_20, mwr_21, mwr_22, mwr_23, mwa_1, mwu_1, mwa_2, mwu_2, mwa_3, mwu_3, mwa_4, mwu_4, mwa_5, mwu_5, mwa_6, mwu_6, mwa_7, mwu_7, mwa_8, mwu_8, mwa_9, mwu_9, mwa_10, mwu_10, mwa_11, mwu_11, mwa_12, mwu_12, mwa_13, mwu_13, mwa_14, mwu_14, mwa_15, mwu_15, mwa_16, mwu_16, vu_at, vu_ne, pk_us, pk_un, kB_n, wB_n, kL_n, wL_n, mwo, a2, M_fine0, n01, z256, hc', mt_10, e1, M_fault0]
    · simp only [hc, if_false]
      have hc' : r0.1 < 256 := by omega
      refine ⟨fun q hq2 => (by cases hq2), fun r hr2 => ?_⟩
      cases hr2
      rw [q154]
      simp (disch := first | omega | exact tl_l | exact tT_len | (simp only [List.length_cons, List.length_nil])) only [e154_0, e154_1, e154_4, e154_5, e154_6, e154_9, e154_12, e154_13, e154_16, e154_19, e154_20, e154_21, e154_24, e154_25, e154_26, e154_29, e154_30, kv_s, kh_s, kr_s, kr_v, kn_s, z0, z1, z2, nI_ltI, nI_leI, nI_eq, nI_add, oN, bz0, bz1, bw0, bw1, ltT, ltF, leT, leF, eqT, eqF, if_true, if_false, kI_n, wI_n, and_true, true_and, and_false, false_and, not_true, not_false_eq_true, mwo, mwr_0, mwr_1, mwr_2, mwg_3, mwp_3, mwr_4, mwg_5, mwp_5, mwg_6, mwp_6, mwr_7, mwr_8, mwg_9, mwp_9, mwg_10, mwp_10, mwg_11, mwp_11, mwr_12, mwg_13, mwp_13, mwr_14, mwr_15, mwr_16, mwr_17, mwr_18, mwr_19, mwg_20, mwp_20, mwr_21, mwr_22, mwr_23, mwa_1, mwu_1, mwa_2, mwu_2, mwa_3, mwu_3, mwa_4, mwu_4, mwa_5, mwu_5, mwa_6, mwu_6, mwa_7, mwu_7, mwa_8, mwu_8, mwa_9, mwu_9, mwa_10, mwu_10, mwa_11, mwu_11, mwa_12, mwu_12, mwa_13, mwu_13, mwa_14, mwu_14, mwa_15, mwu_15, mwa_16, mwu_16, vu_at, vu_ne, pk_us, pk_un, kB_n, wB_n, kL_n, wL_n, mwo, a2, M_fine0, n01, z256, hc']
theorem M_byteNumber1 {A : Nat → Nat → Int32} {I : Nat → Int32} (hq : q ≤ 80) : dcall 154 [.ref m] (mw σ m A R (mt I n p (some q))) = some (some (.int (nI 0)), mw σ m A R (mt I n p (some q))) := by
  rw [q154]
  simp (disch := first | omega | exact tl_l | exact tT_len | (simp only [List.length_cons, List.length_nil])) only [e154_0, e154_1, e154_4, e154_5, e154_6, e154_9, e154_12, e154_13, e154_16, e154_19, e154_20, e154_21, e154_24, e154_25, e154_26, e154_29, e154_30, kv_s, kh_s, kr_s, kr_v, kn_s, z0, z1, z2, nI_ltI, nI_leI, nI_eq, nI_add, oN, bz0, bz1, bw0, bw1, ltT, ltF, leT, leF, eqT, eqF, if_true, if_false, kI_n, wI_n, and_true, true_and, and_false, false_and, not_true, not_false_eq_true, mwo, mwr_0, mwr_1, mwr_2, mwg_3, mwp_3, mwr_4, mwg_5, mwp_5, mwg_6, mwp_6, mwr_7, mwr_8, mwg_9, mwp_9, mwg_10, mwp_10, mwg_11, mwp_11, mwr_12, mwg_13, mwp_13, mwr_14, mwr_15, mwr_16, mwr_17, mwr_18, mwr_19, mwg_20, mwp_20, mwr_21, mwr_22, mwr_23, mwa_1, mwu_1, mwa_2, mwu_2, mwa_3, mwu_3, mwa_4, mwu_4, mwa_5, mwu_5, mwa_6, mwu_6, mwa_7, mwu_7, mwa_8, mwu_8, mwa_9, mwu_9, mwa_10, mwu_10, mwa_11, mwu_11, mwa_12, mwu_12, mwa_13, mwu_13, mwa_14, mwu_14, mwa_15, mwu_15, mwa_16, mwu_16, vu_at, vu_ne, pk_us, pk_un, kB_n, wB_n, kL_n, wL_n, mwo, M_number1 hq, M_fine1 hq]
theorem M_mark_loop {A : Nat → Nat → Int32} {I : Nat → Int32} (hB : MB A n B) {s : Value} : ∀ (k j p v : Nat), j + k = 10 → p ≤ n → (∃ x y p', (dg n B (dgs n B k p v).2).isSome = true ∧ p' ≤ n ∧ den 155 20 [.ref m, s, .long (lN v), secd, .int (nI j)] [] (mw σ m A R (mt I n p none)) = den 155 78 [.ref m, s, .long x, secd, .int y] [] (mw σ m A R (mt I n p' (some (dgs n B k p v).2)))) ∨ ((dg n B (dgs n B k p v).2).isSome = false ∧ ∃ y, den 155 20 [.ref m, s, .long (lN v), secd, .int (nI j)] [] (mw σ m A R (mt I n p none)) = den 155 78 [.ref m, s, .long (lN (dgs n B k p v).1), secd, .int y] [] (mw σ m A R (mt I n (dgs n B k p v).2 none))) := by
  have hn := hB.1
  intro k
  induction k with
  | zero =>
    intro j p v hj hp
    have : j = 10 := by omega
    subst this
    obtain ⟨y, y1, y2⟩ := M_dig (σ := σ) (m := m) (R := R) (I := I) hB hp
    rw [dgs]
    cases hd : dg n B p with
    | none =>
      rw [hd] at y2
      right
      refine ⟨rfl, nI 10, ?_⟩
      have y2' : dcall 141 [.int y, .int (nI 48), .int (nI 57)] (mw σ m A R (mt I n p none)) = some (some (.int (nI 0)), mw σ m A R (mt I n p none)) := y2
      rw [e155_20]
      simp (disch := first | omega | exact tl_l | exact tT_len | (simp only [List.length_cons, List.length_nil])) only [e155_21, e155_24, e155_27, e155_28, e155_31, e155_33, e155_35, e155_38, e155_41, e155_43, e155_45, e155_48, e155_49, e155_50, e155_53, e155_56, e155_59, e155_60, e155_61, e155_62, e155_64, e155_66, e155_69, e155_70, e155_71, e155_72, e155_75, kv_s, kh_s, kr_s, kr_v, kn_s, z0, z1, z2, nI_ltI, nI_leI, nI_eq, nI_add, oN, bz0, bz1, bw0, bw1, ltT, ltF, leT, leF, eqT, eqF, if_true, if_false, kI_n, wI_n, and_true, true_and, and_false, false_and, not_true, not_false_eq_true, mwo, mwr_0, mwr_1, mwr_2, mwg_3, mwp_3, mwr_4, mwg_5, mwp_5, mwg_6, mwp_6, mwr_7, mwr_8, mwg_9, mwp_9, mwg_10, mwp_10, mwg_11, mwp_11, mwr_12, mwg_13, mwp_13, mwr_14, mwr_15, mwr_16, mwr_17, mwr_18, mwr_19, mwg_20, mwp_20, mwr_21, mwr_22, mwr_23, mwa_1, mwu_1, mwa_2, mwu_2, mwa_3, mwu_3, mwa_4, mwu_4, mwa_5, mwu_5, mwa_6, mwu_6, mwa_7, mwu_7, mwa_8, mwu_8, mwa_9, mwu_9, mwa_10, mwu_10, mwa_11, mwu_11, mwa_12, mwu_12, mwa_13, mwu_13, mwa_14, mwu_14, mwa_15, mwu_15, mwa_16, mwu_16, vu_at, vu_ne, pk_us, pk_un, kB_n, wB_n, kL_n, wL_n, mwo, M_fine0, n01, z48, z57, y1, y2']
    | some x =>
      rw [hd] at y2
      left
      have y2' : dcall 141 [.int y, .int (nI 48), .int (nI 57)] (mw σ m A R (mt I n p none)) = some (some (.int (nI 1)), mw σ m A R (mt I n p none)) := y2
      refine ⟨lN 10 * lN v + (nI 0).toInt64, nI (10 + 1), p, rfl, hp, ?_⟩
      have f1 := M_fine1 (σ := σ) (m := m) (A := A) (R := R) (I := I) (n := n) (p := p) (q := p) (by omega)
      have f2 := M_oneOf1 (σ := σ) (m := m) (A := A) (R := R) (I := I) (n := n) (p := p) (q := p) (by omega) (x := nI 48) (y := nI 10)
      rw [e155_20]
      simp (disch := first | omega | exact tl_l | exact tT_len | (simp only [List.length_cons, List.length_nil])) only [e155_21, e155_24, e155_27, e155_28, e155_31, e155_33, e155_35, e155_38, e155_41, e155_43, e155_45, e155_48, e155_49, e155_50, e155_53, e155_56, e155_59, e155_60, e155_61, e155_62, e155_64, e155_66, e155_69, e155_70, e155_71, e155_72, e155_75, kv_s, kh_s, kr_s, kr_v, kn_s, z0, z1, z2, nI_ltI, nI_leI, nI_eq, nI_add, oN, bz0, bz1, bw0, bw1, ltT, ltF, leT, leF, eqT, eqF, if_true, if_false, kI_n, wI_n, and_true, true_and, and_false, false_and, not_true, not_false_eq_true, mwo, mwr_0, mwr_1, mwr_2, mwg_3, mwp_3, mwr_4, mwg_5, mwp_5, mwg_6, mwp_6, mwr_7, mwr_8, mwg_9, mwp_9, mwg_10, mwp_10, mwg_11, mwp_11, mwr_12, mwg_13, mwp_13, mwr_14, mwr_15, mwr_16, mwr_17, mwr_18, mwr_19, mwg_20, mwp_20, mwr_21, mwr_22, mwr_23, mwa_1, mwu_1, mwa_2, mwu_2, mwa_3, mwu_3, mwa_4, mwu_4, mwa_5, mwu_5, mwa_6, mwu_6, mwa_7, mwu_7, mwa_8, mwu_8, mwa_9, mwu_9, mwa_10, mwu_10, mwa_11, mwu_11, mwa_12, mwu_12, mwa_13, mwu_13, mwa_14, mwu_14, mwa_15, mwu_15, mwa_16, mwu_16, vu_at, vu_ne, pk_us, pk_un, kB_n, wB_n, kL_n, wL_n, mwo, M_fine0, n01, z48, z57, z10, l10, y1, y2', mt_10, M_fault0, f2]
      rw [e155_20]
      simp (disch := first | omega | exact tl_l | exact tT_len | (simp only [List.length_cons, List.length_nil])) only [e155_21, e155_24, kv_s, kh_s, kr_s, kr_v, kn_s, z0, z1, z2, nI_ltI, nI_leI, nI_eq, nI_add, oN, bz0, bz1, bw0, bw1, ltT, ltF, leT, leF, eqT, eqF, if_true, if_false, kI_n, wI_n, and_true, true_and, and_false, false_and, not_true, not_false_eq_true, mwo, mwr_0, mwr_1, mwr_2, mwg_3, mwp_3, mwr_4, mwg_5, mwp_5, mwg_6, mwp_6, mwr_7, mwr_8, mwg_9, mwp_9, mwg_10, mwp_10, mwg_11, mwp_11, mwr_12, mwg_13, mwp_13, mwr_14, mwr_15, mwr_16, mwr_17, mwr_18, mwr_19, mwg_20, mwp_20, mwr_21, mwr_22, mwr_23, mwa_1, mwu_1, mwa_2, mwu_2, mwa_3, mwu_3, mwa_4, mwu_4, mwa_5, mwu_5, mwa_6, mwu_6, mwa_7, mwu_7, mwa_8, mwu_8, mwa_9, mwu_9, mwa_10, mwu_10, mwa_11, mwu_11, mwa_12, mwu_12, mwa_13, mwu_13, mwa_14, mwu_14, mwa_15, mwu_15, mwa_16, mwu_16, vu_at, vu_ne, pk_us, pk_un, kB_n, wB_n, kL_n, wL_n, mwo, f1]
  | succ k ih =>
    intro j p v hj hp
    obtain ⟨y, y1, y2⟩ := M_dig (σ := σ) (m := m) (R := R) (I := I) hB hp
    rw [dgs]
    rcases dg_c (n := n) (B := B) (p := p) with ⟨x, e1, e2, e3, e4, e5⟩ | ⟨e1, e2⟩
    · rw [e1] at y2 ⊢
      have y2' : dcall 141 [.int y, .int (nI 48), .int (nI 57)] (mw σ m A R (mt I n p none)) = some (some (.int (nI 1)), mw σ m A R (mt I n p none)) := y2
      have ho := M_oneOf0 (σ := σ) (m := m) (R := R) (I := I) hB hp (s := 48) (k := 10) (by omega) (by omega)
      rw [if_pos ⟨e2, e3, by omega⟩, ← e5] at ho
      have hj3 : ¬ j = 10 := by omega
      have e : den 155 20 [.ref m, s, .long (lN v), secd, .int (nI j)] [] (mw σ m A R (mt I n p none)) = den 155 20 [.ref m, s, .long (lN (10 * v + x)), secd, .int (nI (j + 1))] [] (mw σ m A R (mt I n (p + 1) none)) := by
        rw [e155_20]
        simp (disch := first | omega | exact tl_l | exact tT_len | (simp only [List.length_cons, List.length_nil])) only [e155_21, e155_24, e155_27, e155_28, e155_31, e155_33, e155_35, e155_38, e155_41, e155_43, e155_45, e155_48, e155_49, e155_50, e155_53, e155_56, e155_59, e155_60, e155_61, e155_62, e155_64, e155_66, e155_69, e155_70, e155_71, e155_72, e155_75, kv_s, kh_s, kr_s, kr_v, kn_s, z0, z1, z2, nI_ltI, nI_leI, nI_eq, nI_add, oN, bz0, bz1, bw0, bw1, ltT, ltF, leT, leF, eqT, eqF, if_true, if_false, kI_n, wI_n, and_true, true_and, and_false, false_and, not_true, not_false_eq_true, mwo, mwr_0, mwr_1, mwr_2, mwg_3, mwp_3, mwr_4, mwg_5, mwp_5, mwg_6, mwp_6, mwr_7, mwr_8, mwg_9, mwp_9, mwg_10, mwp_10, mwg_11, mwp_11, mwr_12, mwg_13, mwp_13, mwr_14, mwr_15, mwr_16, mwr_17, mwr_18, mwr_19, mwg_20, mwp_20, mwr_21, mwr_22, mwr_23, mwa_1, mwu_1, mwa_2, mwu_2, mwa_3, mwu_3, mwa_4, mwu_4, mwa_5, mwu_5, mwa_6, mwu_6, mwa_7, mwu_7, mwa_8, mwu_8, mwa_9, mwu_9, mwa_10, mwu_10, mwa_11, mwu_11, mwa_12, mwu_12, mwa_13, mwu_13, mwa_14, mwu_14, mwa_15, mwu_15, mwa_16, mwu_16, vu_at, vu_ne, pk_us, pk_un, kB_n, wB_n, kL_n, wL_n, mwo, M_fine0, n01, z48, z57, z10, y1, y2', hj3, l10, lN_mul, nI_l, lN_add, ho]
      rw [e]
      exact ih (j + 1) (p + 1) (10 * v + x) (by omega) (by omega)
    · rw [e1] at y2 ⊢
      right
      have y2' : dcall 141 [.int y, .int (nI 48), .int (nI 57)] (mw σ m A R (mt I n p none)) = some (some (.int (nI 0)), mw σ m A R (mt I n p none)) := y2
      refine ⟨by show (dg n B p).isSome = false; rw [e1]; rfl, nI j, ?_⟩
      rw [e155_20]
      simp (disch := first | omega | exact tl_l | exact tT_len | (simp only [List.length_cons, List.length_nil])) only [e155_21, e155_24, e155_27, e155_28, e155_31, e155_33, e155_35, e155_38, e155_41, e155_43, e155_45, e155_48, e155_49, e155_50, e155_53, e155_56, e155_59, e155_60, e155_61, e155_62, e155_64, e155_66, e155_69, e155_70, e155_71, e155_72, e155_75, kv_s, kh_s, kr_s, kr_v, kn_s, z0, z1, z2, nI_ltI, nI_leI, nI_eq, nI_add, oN, bz0, bz1, bw0, bw1, ltT, ltF, leT, leF, eqT, eqF, if_true, if_false, kI_n, wI_n, and_true, true_and, and_false, false_and, not_true, not_false_eq_true, mwo, mwr_0, mwr_1, mwr_2, mwg_3, mwp_3, mwr_4, mwg_5, mwp_5, mwg_6, mwp_6, mwr_7, mwr_8, mwg_9, mwp_9, mwg_10, mwp_10, mwg_11, mwp_11, mwr_12, mwg_13, mwp_13, mwr_14, mwr_15, mwr_16, mwr_17, mwr_18, mwr_19, mwg_20, mwp_20, mwr_21, mwr_22, mwr_23, mwa_1, mwu_1, mwa_2, mwu_2, mwa_3, mwu_3, mwa_4, mwu_4, mwa_5, mwu_5, mwa_6, mwu_6, mwa_7, mwu_7, mwa_8, mwu_8, mwa_9, mwu_9, mwa_10, mwu_10, mwa_11, mwu_11, mwa_12, mwu_12, mwa_13, mwu_13, mwa_14, mwu_14, mwa_15, mwu_15, mwa_16, mwu_16, vu_at, vu_ne, pk_us, pk_un, kB_n, wB_n, kL_n, wL_n, mwo, M_fine0, n01, z48, z57, y1, y2']
theorem M_mark_end {A : Nat → Nat → Int32} {I : Nat → Int32} (hB : MB A n B) {g : Bool} {x : Int64} {y : Int32} (hq : q ≤ 80) : ∃ w, den 155 78 [.ref m, .int (bI g), .long x, secd, .int y] [] (mw σ m A R (mt I n p (some q))) = some (some (.int w), mw σ m A R (mt I n p (some q))) := by
  cases g with
  | true =>
    refine ⟨(-x).toInt32, ?_⟩
    simp (disch := first | omega | exact tl_l | exact tT_len | (simp only [List.length_cons, List.length_nil])) only [e155_78, e155_79, e155_82, e155_85, e155_86, e155_89, e155_90, e155_91, e155_94, e155_95, e155_98, e155_101, e155_102, e155_105, e155_106, e155_109, e155_110, e155_111, e155_114, e155_115, e155_116, e155_119, e155_120, e155_123, e155_124, e155_125, e155_128, e155_129, e155_130, kv_s, kh_s, kr_s, kr_v, kn_s, z0, z1, z2, nI_ltI, nI_leI, nI_eq, nI_add, oN, bz0, bz1, bw0, bw1, ltT, ltF, leT, leF, eqT, eqF, if_true, if_false, kI_n, wI_n, and_true, true_and, and_false, false_and, not_true, not_false_eq_true, mwo, mwr_0, mwr_1, mwr_2, mwg_3, mwp_3, mwr_4, mwg_5, mwp_5, mwg_6, mwp_6, mwr_7, mwr_8, mwg_9, mwp_9, mwg_10, mwp_10, mwg_11, mwp_11, mwr_12, mwg_13, mwp_13, mwr_14, mwr_15, mwr_16, mwr_17, mwr_18, mwr_19, mwg_20, mwp_20, mwr_21, mwr_22, mwr_23, mwa_1, mwu_1, mwa_2, mwu_2, mwa_3, mwu_3, mwa_4, mwu_4, mwa_5, mwu_5, mwa_6, mwu_6, mwa_7, mwu_7, mwa_8, mwu_8, mwa_9, mwu_9, mwa_10, mwu_10, mwa_11, mwu_11, mwa_12, mwu_12, mwa_13, mwu_13, mwa_14, mwu_14, mwa_15, mwu_15, mwa_16, mwu_16, vu_at, vu_ne, pk_us, pk_un, kB_n, wB_n, kL_n, wL_n, mwo, M_fine1 hq, bI]
  | false =>
    refine ⟨x.toInt32, ?_⟩
    simp (disch := first | omega | exact tl_l | exact tT_len | (simp only [List.length_cons, List.length_nil])) only [e155_78, e155_79, e155_82, e155_85, e155_86, e155_89, e155_90, e155_91, e155_94, e155_95, e155_98, e155_101, e155_102, e155_105, e155_106, e155_109, e155_110, e155_111, e155_114, e155_115, e155_116, e155_119, e155_120, e155_123, e155_124, e155_125, e155_128, e155_129, e155_130, kv_s, kh_s, kr_s, kr_v, kn_s, z0, z1, z2, nI_ltI, nI_leI, nI_eq, nI_add, oN, bz0, bz1, bw0, bw1, ltT, ltF, leT, leF, eqT, eqF, if_true, if_false, kI_n, wI_n, and_true, true_and, and_false, false_and, not_true, not_false_eq_true, mwo, mwr_0, mwr_1, mwr_2, mwg_3, mwp_3, mwr_4, mwg_5, mwp_5, mwg_6, mwp_6, mwr_7, mwr_8, mwg_9, mwp_9, mwg_10, mwp_10, mwg_11, mwp_11, mwr_12, mwg_13, mwp_13, mwr_14, mwr_15, mwr_16, mwr_17, mwr_18, mwr_19, mwg_20, mwp_20, mwr_21, mwr_22, mwr_23, mwa_1, mwu_1, mwa_2, mwu_2, mwa_3, mwu_3, mwa_4, mwu_4, mwa_5, mwu_5, mwa_6, mwu_6, mwa_7, mwu_7, mwa_8, mwu_8, mwa_9, mwu_9, mwa_10, mwu_10, mwa_11, mwu_11, mwa_12, mwu_12, mwa_13, mwu_13, mwa_14, mwu_14, mwa_15, mwu_15, mwa_16, mwu_16, vu_at, vu_ne, pk_us, pk_un, kB_n, wB_n, kL_n, wL_n, mwo, M_fine1 hq, bI, Bool.false_eq_true]
theorem M_mark_ok {A : Nat → Nat → Int32} {I : Nat → Int32} (hp : p ≤ n) (hp0 : 1 ≤ p) (hn : n ≤ 80) {g : Bool} {v : Nat} (hv : v < 2 ^ 62) {y : Int32} : den 155 78 [.ref m, .int (bI g), .long (lN v), secd, .int y] [] (mw σ m A R (mt I n p none)) = some (some (.int (mkv g v).toInt32), mw σ m A R (mt I n p (if fits g v = true then none else some (p - 1)))) := by
  have e1 : nI p - nI 1 = nI (p - 1) := pk_sub (by omega)
  cases g with
  | true =>
    by_cases hc : fits true v = true
    · have hc' : (nI 0 ≤ lg_cmp (-(lN v)) (-2147483648)) = True := eq_true ((fits_t hv).mpr hc)
      rw [if_pos hc]
      simp (disch := first | omega | exact tl_l | exact tT_len | (simp only [List.length_cons, List.length_nil])) only [e155_78, e155_79, e155_82, e155_85, e155_86, e155_89, e155_90, e155_91, e155_94, e155_95, e155_98, e155_101, e155_102, e155_105, e155_106, e155_109, e155_110, e155_111, e155_114, e155_115, e155_116, e155_119, e155_120, e155_123, e155_124, e155_125, e155_128, e155_129, e155_130, kv_s, kh_s, kr_s, kr_v, kn_s, z0, z1, z2, nI_ltI, nI_leI, nI_eq, nI_add, oN, bz0, bz1, bw0, bw1, ltT, ltF, leT, leF, eqT, eqF, if_true, if_false, kI_n, wI_n, and_true, true_and, and_false, false_and, not_true, not_false_eq_true, mwo, mwr_0, mwr_1, mwr_2, mwg_3, mwp_3, mwr_4, mwg_5, mwp_5, mwg_6, mwp_6, mwr_7, mwr_8, mwg_9, mwp_9, mwg_10, mwp_10, mwg_11, mwp_11, mwr_12, mwg_13, mwp_13, mwr_14, mwr_15, mwr_16, mwr_17, mwr_18, mwr_19, mwg_20, mwp_20, mwr_21, mwr_22, mwr_23, mwa_1, mwu_1, mwa_2, mwu_2, mwa_3, mwu_3, mwa_4, mwu_4, mwa_5, mwu_5, mwa_6, mwu_6, mwa_7, mwu_7, mwa_8, mwu_8, mwa_9, mwu_9, mwa_10, mwu_10, mwa_11, mwu_11, mwa_12, mwu_12, mwa_13, mwu_13, mwa_14, mwu_14, mwa_15, mwu_15, mwa_16, mwu_16, vu_at, vu_ne, pk_us, pk_un, kB_n, wB_n, kL_n, wL_n, mwo, M_fine0, n01, bI, hc', mkv]
    · have hc' : (nI 0 ≤ lg_cmp (-(lN v)) (-2147483648)) = False := eq_false fun z => hc ((fits_t hv).mp z)
      rw [if_neg hc]
      simp (disch := first | omega | exact tl_l | exact tT_len | (simp only [List.length_cons, List.length_nil])) only [e155_78, e155_79, e155_82, e155_85, e155_86, e155_89, e155_90, e155_91, e155_94, e155_95, e155_98, e155_101, e155_102, e155_105, e155_106, e155_109, e155_110, e155_111, e155_114, e155_115, e155_116, e155_119, e155_120, e155_123, e155_124, e155_125, e155_128, e155_129, e155_130, kv_s, kh_s, kr_s, kr_v, kn_s, z0, z1, z2, nI_ltI, nI_leI, nI_eq, nI_add, oN, bz0, bz1, bw0, bw1, ltT, ltF, leT, leF, eqT, eqF, if_true, if_false, kI_n, wI_n, and_true, true_and, and_false, false_and, not_true, not_false_eq_true, mwo, mwr_0, mwr_1, mwr_2, mwg_3, mwp_3, mwr_4, mwg_5, mwp_5, mwg_6, mwp_6, mwr_7, mwr_8, mwg_9, mwp_9, mwg_10, mwp_10, mwg_11, mwp_11, mwr_12, mwg_13, mwp_13, mwr_14, mwr_15, mwr_16, mwr_17, mwr_18, mwr_19, mwg_20, mwp_20, mwr_21, mwr_22, mwr_23, mwa_1, mwu_1, mwa_2, mwu_2, mwa_3, mwu_3, mwa_4, mwu_4, mwa_5, mwu_5, mwa_6, mwu_6, mwa_7, mwu_7, mwa_8, mwu_8, mwa_9, mwu_9, mwa_10, mwu_10, mwa_11, mwu_11, mwa_12, mwu_12, mwa_13, mwu_13, mwa_14, mwu_14, mwa_15, mwu_15, mwa_16, mwu_16, vu_at, vu_ne, pk_us, pk_un, kB_n, wB_n, kL_n, wL_n, mwo, M_fine0, n01, bI, hc', mkv, mt_10, e1, M_fault0]
  | false =>
    by_cases hc : fits false v = true
    · have hc' : (lg_cmp (lN v) 2147483647 ≤ nI 0) = True := eq_true ((fits_f hv).mpr hc)
      rw [if_pos hc]
      simp (disch := first | omega | exact tl_l | exact tT_len | (simp only [List.length_cons, List.length_nil])) only [e155_78, e155_79, e155_82, e155_85, e155_86, e155_89, e155_90, e155_91, e155_94, e155_95, e155_98, e155_101, e155_102, e155_105, e155_106, e155_109, e155_110, e155_111, e155_114, e155_115, e155_116, e155_119, e155_120, e155_123, e155_124, e155_125, e155_128, e155_129, e155_130, kv_s, kh_s, kr_s, kr_v, kn_s, z0, z1, z2, nI_ltI, nI_leI, nI_eq, nI_add, oN, bz0, bz1, bw0, bw1, ltT, ltF, leT, leF, eqT, eqF, if_true, if_false, kI_n, wI_n, and_true, true_and, and_false, false_and, not_true, not_false_eq_true, mwo, mwr_0, mwr_1, mwr_2, mwg_3, mwp_3, mwr_4, mwg_5, mwp_5, mwg_6, mwp_6, mwr_7, mwr_8, mwg_9, mwp_9, mwg_10, mwp_10, mwg_11, mwp_11, mwr_12, mwg_13, mwp_13, mwr_14, mwr_15, mwr_16, mwr_17, mwr_18, mwr_19, mwg_20, mwp_20, mwr_21, mwr_22, mwr_23, mwa_1, mwu_1, mwa_2, mwu_2, mwa_3, mwu_3, mwa_4, mwu_4, mwa_5, mwu_5, mwa_6, mwu_6, mwa_7, mwu_7, mwa_8, mwu_8, mwa_9, mwu_9, mwa_10, mwu_10, mwa_11, mwu_11, mwa_12, mwu_12, mwa_13, mwu_13, mwa_14, mwu_14, mwa_15, mwu_15, mwa_16, mwu_16, vu_at, vu_ne, pk_us, pk_un, kB_n, wB_n, kL_n, wL_n, mwo, M_fine0, n01, bI, hc', mkv, Bool.false_eq_true]
    · have hc' : (lg_cmp (lN v) 2147483647 ≤ nI 0) = False := eq_false fun z => hc ((fits_f hv).mp z)
      rw [if_neg hc]
      simp (disch := first | omega | exact tl_l | exact tT_len | (simp only [List.length_cons, List.length_nil])) only [e155_78, e155_79, e155_82, e155_85, e155_86, e155_89, e155_90, e155_91, e155_94, e155_95, e155_98, e155_101, e155_102, e155_105, e155_106, e155_109, e155_110, e155_111, e155_114, e155_115, e155_116, e155_119, e155_120, e155_123, e155_124, e155_125, e155_128, e155_129, e155_130, kv_s, kh_s, kr_s, kr_v, kn_s, z0, z1, z2, nI_ltI, nI_leI, nI_eq, nI_add, oN, bz0, bz1, bw0, bw1, ltT, ltF, leT, leF, eqT, eqF, if_true, if_false, kI_n, wI_n, and_true, true_and, and_false, false_and, not_true, not_false_eq_true, mwo, mwr_0, mwr_1, mwr_2, mwg_3, mwp_3, mwr_4, mwg_5, mwp_5, mwg_6, mwp_6, mwr_7, mwr_8, mwg_9, mwp_9, mwg_10, mwp_10, mwg_11, mwp_11, mwr_12, mwg_13, mwp_13, mwr_14, mwr_15, mwr_16, mwr_17, mwr_18, mwr_19, mwg_20, mwp_20, mwr_21, mwr_22, mwr_23, mwa_1, mwu_1, mwa_2, mwu_2, mwa_3, mwu_3, mwa_4, mwu_4, mwa_5, mwu_5, mwa_6, mwu_6, mwa_7, mwu_7, mwa_8, mwu_8, mwa_9, mwu_9, mwa_10, mwu_10, mwa_11, mwu_11, mwa_12, mwu_12, mwa_13, mwu_13, mwa_14, mwu_14, mwa_15, mwu_15, mwa_16, mwu_16, vu_at, vu_ne, pk_us, pk_un, kB_n, wB_n, kL_n, wL_n, mwo, M_fine0, n01, bI, hc', mkv, Bool.false_eq_true, mt_10, e1, M_fault0]
theorem M_mark {A : Nat → Nat → Int32} {I : Nat → Int32} (hB : MB A n B) (hp : p ≤ n) : (∀ q, mk1 n B p = .inl q → ∃ x p', p' ≤ n ∧ dcall 155 [.ref m] (mw σ m A R (mt I n p none)) = some (some (.int x), mw σ m A R (mt I n p' (some q)))) ∧ ∀ r, mk1 n B p = .inr r → dcall 155 [.ref m] (mw σ m A R (mt I n p none)) = some (some (.int (mkv (sgn n B p) r.1).toInt32), mw σ m A R (mt I n r.2 none)) := by
  have hn := hB.1
  obtain ⟨s1, s2⟩ := sg_bd (n := n) (B := B) hp
  obtain ⟨d1, d2⟩ := nm_bd (n := n) (B := B) (m := 10) s2
  have hps : dcall 156 [.ref m, .int (nI 45)] (mw σ m A R (mt I n p none)) = some (some (.int (bI (sgn n B p))), mw σ m A R (mt I n (if sgn n B p = true then p + 1 else p) none)) := by
    rw [M_passes0 hB hp (by omega)]
    unfold sgn bI
    by_cases hc : p < n ∧ B p = 45
    · rw [if_pos hc, if_pos (decide_eq_true hc), if_pos (decide_eq_true hc)]
    · rw [if_neg hc, if_neg (fun z => hc (of_decide_eq_true z)), if_neg (fun z => hc (of_decide_eq_true z))]
  have key : ∀ p', p' = (if sgn n B p = true then p + 1 else p) → p' ≤ n → ((∀ q, nm n B 10 p' = .inl q → q ≤ n ∧ ∃ x p2, p2 ≤ n ∧ dcall 155 [.ref m] (mw σ m A R (mt I n p none)) = some (some (.int x), mw σ m A R (mt I n p2 (some q)))) ∧ ∀ r, nm n B 10 p' = .inr r → ∃ y, dcall 155 [.ref m] (mw σ m A R (mt I n p none)) = den 155 78 [.ref m, .int (bI (sgn n B p)), .long (lN r.1), secd, .int y] [] (mw σ m A R (mt I n r.2 none))) := fun p' hp' hp2 => by
    rw [← hp'] at hps
    have ho := M_oneOf0 (σ := σ) (m := m) (R := R) (I := I) hB hp2 (s := 48) (k := 10) (by omega) (by omega)
    unfold nm bad
    rcases dg_c (n := n) (B := B) (p := p') with ⟨x, e1, e2, e3, e4, e5⟩ | ⟨e1, e2⟩
    · have ed : dgs n B 10 p' 0 = dgs n B 9 (p' + 1) x := by
        rw [dgs, e1]
        show dgs n B 9 (p' + 1) (10 * 0 + x) = _
        rw [Nat.mul_zero, Nat.zero_add]
      rw [if_pos ⟨e2, e3, by omega⟩, ← e5] at ho
      obtain ⟨g1, g2, g3⟩ := dgs_bd (n := n) (B := B) 9 (p' + 1) x (by omega)
      have hne : ¬ (dgs n B 9 (p' + 1) x).2 = p' := by omega
      have e : dcall 155 [.ref m] (mw σ m A R (mt I n p none)) = den 155 20 [.ref m, .int (bI (sgn n B p)), .long (lN x), secd, .int (nI 1)] [] (mw σ m A R (mt I n (p' + 1) none)) := by
        rw [q155]
        simp (disch := first | omega | exact tl_l | exact tT_len | (simp only [List.length_cons, List.length_nil])) only [e155_0, e155_1, e155_3, e155_6, e155_7, e155_8, e155_10, e155_12, e155_15, e155_16, e155_17, e155_18, e155_21, e155_24, e155_27, e155_28, e155_31, e155_33, e155_35, e155_38, e155_41, e155_43, e155_45, e155_48, e155_49, e155_50, e155_53, e155_56, e155_59, e155_60, e155_61, e155_62, e155_64, e155_66, e155_69, e155_70, e155_71, e155_72, e155_75, e155_78, e155_79, e155_82, e155_85, e155_86, e155_89, e155_90, e155_91, e155_94, e155_95, e155_98, e155_101, e155_102, e155_105, e155_106, e155_109, e155_110, e155_111, e155_114, e155_115, e155_116, e155_119, e155_120, e155_123, e155_124, e155_125, e155_128, e155_129, e155_130, kv_s, kh_s, kr_s, kr_v, kn_s, z0, z1, z2, nI_ltI, nI_leI, nI_eq, nI_add, oN, bz0, bz1, bw0, bw1, ltT, ltF, leT, leF, eqT, eqF, if_true, if_false, kI_n, wI_n, and_true, true_and, and_false, false_and, not_true, not_false_eq_true, mwo, mwr_0, mwr_1, mwr_2, mwg_3, mwp_3, mwr_4, mwg_5, mwp_5, mwg_6, mwp_6, mwr_7, mwr_8, mwg_9, mwp_9, mwg_10, mwp_10, mwg_11, mwp_11, mwr_12, mwg_13, mwp_13, mwr_14, mwr_15, mwr_16, mwr_17, mwr_18, mwr_19, mwg_20, mwp_20, mwr_21, mwr_22, mwr_23, mwa_1, mwu_1, mwa_2, mwu_2, mwa_3, mwu_3, mwa_4, mwu_4, mwa_5, mwu_5, mwa_6, mwu_6, mwa_7, mwu_7, mwa_8, mwu_8, mwa_9, mwu_9, mwa_10, mwu_10, mwa_11, mwu_11, mwa_12, mwu_12, mwa_13, mwu_13, mwa_14, mwu_14, mwa_15, mwu_15, mwa_16, mwu_16, vu_at, vu_ne, pk_us, pk_un, kB_n, wB_n, kL_n, wL_n, mwo, z45, z48, z10, hps, ho, nI_l]
      rw [e, ed, decide_eq_false hne, Bool.false_or]
      rcases M_mark_loop (σ := σ) (m := m) (R := R) (I := I) hB (s := .int (bI (sgn n B p))) 9 1 (p' + 1) x (by omega) (by omega) with ⟨x1, y1, p2, l1, l2, l3⟩ | ⟨l1, y1, l2⟩
      · rw [l1, if_pos rfl]
        refine ⟨fun q hq => ?_, fun r hr => (by cases hr)⟩
        cases hq
        obtain ⟨w, hw⟩ := M_mark_end (σ := σ) (m := m) (R := R) (I := I) (p := p2) hB (g := sgn n B p) (x := x1) (y := y1) (show (dgs n B 9 (p' + 1) x).2 ≤ 80 by omega)
        exact ⟨g2, w, p2, l2, l3.trans hw⟩
      · rw [l1, if_neg Bool.false_ne_true]
        exact ⟨fun q hq => (by cases hq), fun r hr => by cases hr; exact ⟨y1, l2⟩⟩
    · have ed : dgs n B 10 p' 0 = (0, p') := by rw [dgs, e1]
      rw [if_neg (fun z => e2 ⟨z.1, z.2.1, by omega⟩)] at ho
      rw [ed, decide_eq_true (show (0, p').2 = p' from rfl), Bool.true_or, if_pos rfl]
      refine ⟨fun q hq => ?_, fun r hr => (by cases hr)⟩
      cases hq
      have f1 := M_fine1 (σ := σ) (m := m) (A := A) (R := R) (I := I) (n := n) (p := p') (q := p') (by omega)
      obtain ⟨w, hw⟩ := M_mark_end (σ := σ) (m := m) (R := R) (I := I) (p := p') hB (g := sgn n B p) (x := (nI 0).toInt64) (y := nI 1) (show p' ≤ 80 by omega)
      refine ⟨hp2, w, p', hp2, ?_⟩
      rw [← hw]
      rw [q155]
      simp (disch := first | omega | exact tl_l | exact tT_len | (simp only [List.length_cons, List.length_nil])) only [e155_0, e155_1, e155_3, e155_6, e155_7, e155_8, e155_10, e155_12, e155_15, e155_16, e155_17, e155_18, kv_s, kh_s, kr_s, kr_v, kn_s, z0, z1, z2, nI_ltI, nI_leI, nI_eq, nI_add, oN, bz0, bz1, bw0, bw1, ltT, ltF, leT, leF, eqT, eqF, if_true, if_false, kI_n, wI_n, and_true, true_and, and_false, false_and, not_true, not_false_eq_true, mwo, mwr_0, mwr_1, mwr_2, mwg_3, mwp_3, mwr_4, mwg_5, mwp_5, mwg_6, mwp_6, mwr_7, mwr_8, mwg_9, mwp_9, mwg_10, mwp_10, mwg_11, mwp_11, mwr_12, mwg_13, mwp_13, mwr_14, mwr_15, mwr_16, mwr_17, mwr_18, mwr_19, mwg_20, mwp_20, mwr_21, mwr_22, mwr_23, mwa_1, mwu_1, mwa_2, mwu_2, mwa_3, mwu_3, mwa_4, mwu_4, mwa_5, mwu_5, mwa_6, mwu_6, mwa_7, mwu_7, mwa_8, mwu_8, mwa_9, mwu_9, mwa_10, mwu_10, mwa_11, mwu_11, mwa_12, mwu_12, mwa_13, mwu_13, mwa_14, mwu_14, mwa_15, mwu_15, mwa_16, mwu_16, vu_at, vu_ne, pk_us, pk_un, kB_n, wB_n, kL_n, wL_n, mwo, z45, z48, z10, hps, ho]
      rw [e155_20]
      simp (disch := first | omega | exact tl_l | exact tT_len | (simp only [List.length_cons, List.length_nil])) only [e155_21, e155_24, kv_s, kh_s, kr_s, kr_v, kn_s, z0, z1, z2, nI_ltI, nI_leI, nI_eq, nI_add, oN, bz0, bz1, bw0, bw1, ltT, ltF, leT, leF, eqT, eqF, if_true, if_false, kI_n, wI_n, and_true, true_and, and_false, false_and, not_true, not_false_eq_true, mwo, mwr_0, mwr_1, mwr_2, mwg_3, mwp_3, mwr_4, mwg_5, mwp_5, mwg_6, mwp_6, mwr_7, mwr_8, mwg_9, mwp_9, mwg_10, mwp_10, mwg_11, mwp_11, mwr_12, mwg_13, mwp_13, mwr_14, mwr_15, mwr_16, mwr_17, mwr_18, mwr_19, mwg_20, mwp_20, mwr_21, mwr_22, mwr_23, mwa_1, mwu_1, mwa_2, mwu_2, mwa_3, mwu_3, mwa_4, mwu_4, mwa_5, mwu_5, mwa_6, mwu_6, mwa_7, mwu_7, mwa_8, mwu_8, mwa_9, mwu_9, mwa_10, mwu_10, mwa_11, mwu_11, mwa_12, mwu_12, mwa_13, mwu_13, mwa_14, mwu_14, mwa_15, mwu_15, mwa_16, mwu_16, vu_at, vu_ne, pk_us, pk_un, kB_n, wB_n, kL_n, wL_n, mwo, f1]
  obtain ⟨k1, k2⟩ := key _ rfl s2
  unfold mk1
  cases hnm : nm n B 10 (if sgn n B p = true then p + 1 else p) with
  | inl q0 =>
    refine ⟨fun q hq => ?_, fun r hr => (by cases hr)⟩
    cases hq
    exact (k1 q0 hnm).2
  | inr r0 =>
    obtain ⟨y, hy⟩ := k2 r0 hnm
    obtain ⟨b1, b2, b3⟩ := d2 r0 hnm
    rw [M_mark_ok b2 (by omega) hn (by omega)] at hy
    by_cases hc : fits (sgn n B p) r0.1 = true
    · simp only [hc, if_true]
      rw [if_pos hc] at hy
      exact ⟨fun q hq => (by cases hq), fun r hr => by cases hr; exact hy⟩
    · simp only [hc, if_false]
      rw [if_neg hc] at hy
      exact ⟨fun q hq => by cases hq; exact ⟨_, r0.2, b2, hy⟩, fun r hr => (by cases hr)⟩
end MT2
