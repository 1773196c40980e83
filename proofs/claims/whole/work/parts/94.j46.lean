/-! calls: day -/
/-- acts as the reference has read them -/
def AC (N : Nat → Int32) : Nat → List Ac → Prop
  | _, [] => True
  | i, a :: L => (N (3 * i) = nI a.1 ∧ N (3 * i + 1) = nI a.2.1 ∧ (a.1 ≠ 98 → N (3 * i + 2) = nI a.2.2) ∧ (a.1 = 98 ∨ isA a.1) ∧ a.2.1 < 1000 ∧ a.2.2 < 1000) ∧ AC N (i + 1) L
theorem AC.cg {N N' : Nat → Int32} : ∀ (L : List Ac) (i : Nat), AC N i L → (∀ j, 3 * i ≤ j → N' j = N j) → AC N' i L := by
  intro L
  induction L with
  | nil => intro i _ _; trivial
  | cons a L ih =>
    intro i h hj
    obtain ⟨⟨h1, h2, h3, h4⟩, h5⟩ := h
    exact ⟨⟨(hj _ (by omega)).trans h1, (hj _ (by omega)).trans h2, fun e => (hj _ (by omega)).trans (h3 e), h4⟩, ih (i + 1) h5 fun j q => hj j (by omega)⟩
section MD
variable {σ : Hp} {m : Nat} {R : Nat → Int64} {n : Nat} {B : Nat → Nat} {p q : Nat} {I : Nat → Int32} {z : Hs}
theorem M_digits1 {A : Nat → Nat → Int32} (hq : q ≤ 80) {k : Nat} (hk : k < 100) : ∀ (j i : Nat) (v : Int32), i + j = k → ∃ x, den 242 4 [.ref m, .int (nI k), .int v, .int (nI i)] [] (mw σ m A R (mt I n p (some q))) = some (some (.int x), mw σ m A R (mt I n p (some q))) := by
  intro j
  induction j with
  | zero =>
    intro i v hi
    have : i = k := by omega
    subst this
    refine ⟨v, ?_⟩
    rw [e242_4]
    simp (disch := first | omega | exact tl_l | exact tT_len | (simp only [List.length_cons, List.length_nil])) only [e242_0, e242_1, e242_2, e242_3, e242_5, e242_6, e242_9, e242_11, e242_12, e242_13, e242_14, e242_16, e242_18, e242_21, e242_22, e242_23, e242_26, e242_29, e242_30, kv_s, kh_s, kr_s, kr_v, kn_s, z0, z1, z2, nI_ltI, nI_leI, nI_eq, nI_add, oN, bz0, bz1, bw0, bw1, ltT, ltF, leT, leF, eqT, eqF, if_true, if_false, kI_n, wI_n, and_true, true_and, and_false, false_and, not_true, not_false_eq_true, mwo, mwr_0, mwr_1, mwr_2, mwg_3, mwp_3, mwr_4, mwg_5, mwp_5, mwg_6, mwp_6, mwr_7, mwr_8, mwg_9, mwp_9, mwg_10, mwp_10, mwg_11, mwp_11, mwr_12, mwg_13, mwp_13, mwr_14, mwr_15, mwr_16, mwr_17, mwr_18, mwr_19, mwg_20, mwp_20, mwr_21, mwr_22, mwr_23, mwa_1, mwu_1, mwa_2, mwu_2, mwa_3, mwu_3, mwa_4, mwu_4, mwa_5, mwu_5, mwa_6, mwu_6, mwa_7, mwu_7, mwa_8, mwu_8, mwa_9, mwu_9, mwa_10, mwu_10, mwa_11, mwu_11, mwa_12, mwu_12, mwa_13, mwu_13, mwa_14, mwu_14, mwa_15, mwu_15, mwa_16, mwu_16, vu_at, vu_ne, pk_us, pk_un, kB_n, wB_n, kL_n, wL_n]
  | succ j ih =>
    intro i v hi
    obtain ⟨x, hx⟩ := ih (i + 1) (nI 10 * v + nI 0) (by omega)
    refine ⟨x, ?_⟩
    rw [← hx]
    have f2 := M_oneOf1 (σ := σ) (m := m) (A := A) (R := R) (I := I) (n := n) (p := p) (q := q) hq (x := nI 48) (y := nI 10)
    rw [e242_4]
    simp (disch := first | omega | exact tl_l | exact tT_len | (simp only [List.length_cons, List.length_nil])) only [e242_0, e242_1, e242_2, e242_3, e242_5, e242_6, e242_9, e242_11, e242_12, e242_13, e242_14, e242_16, e242_18, e242_21, e242_22, e242_23, e242_26, e242_29, e242_30, kv_s, kh_s, kr_s, kr_v, kn_s, z0, z1, z2, nI_ltI, nI_leI, nI_eq, nI_add, oN, bz0, bz1, bw0, bw1, ltT, ltF, leT, leF, eqT, eqF, if_true, if_false, kI_n, wI_n, and_true, true_and, and_false, false_and, not_true, not_false_eq_true, mwo, mwr_0, mwr_1, mwr_2, mwg_3, mwp_3, mwr_4, mwg_5, mwp_5, mwg_6, mwp_6, mwr_7, mwr_8, mwg_9, mwp_9, mwg_10, mwp_10, mwg_11, mwp_11, mwr_12, mwg_13, mwp_13, mwr_14, mwr_15, mwr_16, mwr_17, mwr_18, mwr_19, mwg_20, mwp_20, mwr_21, mwr_22, mwr_23, mwa_1, mwu_1, mwa_2, mwu_2, mwa_3, mwu_3, mwa_4, mwu_4, mwa_5, mwu_5, mwa_6, mwu_6, mwa_7, mwu_7, mwa_8, mwu_8, mwa_9, mwu_9, mwa_10, mwu_10, mwa_11, mwu_11, mwa_12, mwu_12, mwa_13, mwu_13, mwa_14, mwu_14, mwa_15, mwu_15, mwa_16, mwu_16, vu_at, vu_ne, pk_us, pk_un, kB_n, wB_n, kL_n, wL_n, mwo, z10, z48, f2]
theorem M_digits_loop {A : Nat → Nat → Int32} (hB : MB A n B) {k : Nat} (hk : k < 4) : ∀ (j i p v : Nat), i + j = k → p ≤ n → (∀ q, (fx n B j p v).2.2 = some q → ∃ x p', p' ≤ n ∧ den 242 4 [.ref m, .int (nI k), .int (nI v), .int (nI i)] [] (mw σ m A R (mt I n p none)) = some (some (.int x), mw σ m A R (mt I n p' (some q)))) ∧ ((fx n B j p v).2.2 = none → den 242 4 [.ref m, .int (nI k), .int (nI v), .int (nI i)] [] (mw σ m A R (mt I n p none)) = some (some (.int (nI (fx n B j p v).1)), mw σ m A R (mt I n (fx n B j p v).2.1 none))) := by
  have hn := hB.1
  intro j
  induction j with
  | zero =>
    intro i p v hi hp
    have : i = k := by omega
    subst this
    refine ⟨fun q hq => (by rw [fx] at hq; cases hq), fun _ => ?_⟩
    rw [fx]
    rw [e242_4]
    simp (disch := first | omega | exact tl_l | exact tT_len | (simp only [List.length_cons, List.length_nil])) only [e242_0, e242_1, e242_2, e242_3, e242_5, e242_6, e242_9, e242_11, e242_12, e242_13, e242_14, e242_16, e242_18, e242_21, e242_22, e242_23, e242_26, e242_29, e242_30, kv_s, kh_s, kr_s, kr_v, kn_s, z0, z1, z2, nI_ltI, nI_leI, nI_eq, nI_add, oN, bz0, bz1, bw0, bw1, ltT, ltF, leT, leF, eqT, eqF, if_true, if_false, kI_n, wI_n, and_true, true_and, and_false, false_and, not_true, not_false_eq_true, mwo, mwr_0, mwr_1, mwr_2, mwg_3, mwp_3, mwr_4, mwg_5, mwp_5, mwg_6, mwp_6, mwr_7, mwr_8, mwg_9, mwp_9, mwg_10, mwp_10, mwg_11, mwp_11, mwr_12, mwg_13, mwp_13, mwr_14, mwr_15, mwr_16, mwr_17, mwr_18, mwr_19, mwg_20, mwp_20, mwr_21, mwr_22, mwr_23, mwa_1, mwu_1, mwa_2, mwu_2, mwa_3, mwu_3, mwa_4, mwu_4, mwa_5, mwu_5, mwa_6, mwu_6, mwa_7, mwu_7, mwa_8, mwu_8, mwa_9, mwu_9, mwa_10, mwu_10, mwa_11, mwu_11, mwa_12, mwu_12, mwa_13, mwu_13, mwa_14, mwu_14, mwa_15, mwu_15, mwa_16, mwu_16, vu_at, vu_ne, pk_us, pk_un, kB_n, wB_n, kL_n, wL_n]
  | succ j ih =>
    intro i p v hi hp
    have ho := M_oneOf0 (σ := σ) (m := m) (R := R) (I := I) hB hp (s := 48) (k := 10) (by omega) (by omega)
    rw [fx]
    rcases dg_c (n := n) (B := B) (p := p) with ⟨x, e1, e2, e3, e4, e5⟩ | ⟨e1, e2⟩
    · rw [if_pos ⟨e2, e3, by omega⟩, ← e5] at ho
      rw [e1]
      have e : den 242 4 [.ref m, .int (nI k), .int (nI v), .int (nI i)] [] (mw σ m A R (mt I n p none)) = den 242 4 [.ref m, .int (nI k), .int (nI (10 * v + x)), .int (nI (i + 1))] [] (mw σ m A R (mt I n (p + 1) none)) := by
        rw [e242_4]
        simp (disch := first | omega | exact tl_l | exact tT_len | (simp only [List.length_cons, List.length_nil])) only [e242_0, e242_1, e242_2, e242_3, e242_5, e242_6, e242_9, e242_11, e242_12, e242_13, e242_14, e242_16, e242_18, e242_21, e242_22, e242_23, e242_26, e242_29, e242_30, kv_s, kh_s, kr_s, kr_v, kn_s, z0, z1, z2, nI_ltI, nI_leI, nI_eq, nI_add, oN, bz0, bz1, bw0, bw1, ltT, ltF, leT, leF, eqT, eqF, if_true, if_false, kI_n, wI_n, and_true, true_and, and_false, false_and, not_true, not_false_eq_true, mwo, mwr_0, mwr_1, mwr_2, mwg_3, mwp_3, mwr_4, mwg_5, mwp_5, mwg_6, mwp_6, mwr_7, mwr_8, mwg_9, mwp_9, mwg_10, mwp_10, mwg_11, mwp_11, mwr_12, mwg_13, mwp_13, mwr_14, mwr_15, mwr_16, mwr_17, mwr_18, mwr_19, mwg_20, mwp_20, mwr_21, mwr_22, mwr_23, mwa_1, mwu_1, mwa_2, mwu_2, mwa_3, mwu_3, mwa_4, mwu_4, mwa_5, mwu_5, mwa_6, mwu_6, mwa_7, mwu_7, mwa_8, mwu_8, mwa_9, mwu_9, mwa_10, mwu_10, mwa_11, mwu_11, mwa_12, mwu_12, mwa_13, mwu_13, mwa_14, mwu_14, mwa_15, mwu_15, mwa_16, mwu_16, vu_at, vu_ne, pk_us, pk_un, kB_n, wB_n, kL_n, wL_n, mwo, z10, z48, ho, pk_mul]
      rw [e]
      exact ih (i + 1) (p + 1) (10 * v + x) (by omega) (by omega)
    · rw [if_neg (fun z => e2 ⟨z.1, z.2.1, by omega⟩)] at ho
      rw [e1]
      refine ⟨fun q hq => ?_, fun hq => (by cases hq)⟩
      cases hq
      obtain ⟨x, hx⟩ := M_digits1 (σ := σ) (m := m) (A := A) (R := R) (I := I) (n := n) (p := p) (q := p) (by omega) (show k < 100 by omega) j (i + 1) (nI (10 * v) + nI 0) (by omega)
      refine ⟨x, p, hp, ?_⟩
      rw [← hx]
      rw [e242_4]
      simp (disch := first | omega | exact tl_l | exact tT_len | (simp only [List.length_cons, List.length_nil])) only [e242_0, e242_1, e242_2, e242_3, e242_5, e242_6, e242_9, e242_11, e242_12, e242_13, e242_14, e242_16, e242_18, e242_21, e242_22, e242_23, e242_26, e242_29, e242_30, kv_s, kh_s, kr_s, kr_v, kn_s, z0, z1, z2, nI_ltI, nI_leI, nI_eq, nI_add, oN, bz0, bz1, bw0, bw1, ltT, ltF, leT, leF, eqT, eqF, if_true, if_false, kI_n, wI_n, and_true, true_and, and_false, false_and, not_true, not_false_eq_true, mwo, mwr_0, mwr_1, mwr_2, mwg_3, mwp_3, mwr_4, mwg_5, mwp_5, mwg_6, mwp_6, mwr_7, mwr_8, mwg_9, mwp_9, mwg_10, mwp_10, mwg_11, mwp_11, mwr_12, mwg_13, mwp_13, mwr_14, mwr_15, mwr_16, mwr_17, mwr_18, mwr_19, mwg_20, mwp_20, mwr_21, mwr_22, mwr_23, mwa_1, mwu_1, mwa_2, mwu_2, mwa_3, mwu_3, mwa_4, mwu_4, mwa_5, mwu_5, mwa_6, mwu_6, mwa_7, mwu_7, mwa_8, mwu_8, mwa_9, mwu_9, mwa_10, mwu_10, mwa_11, mwu_11, mwa_12, mwu_12, mwa_13, mwu_13, mwa_14, mwu_14, mwa_15, mwu_15, mwa_16, mwu_16, vu_at, vu_ne, pk_us, pk_un, kB_n, wB_n, kL_n, wL_n, mwo, z10, z48, ho, pk_mul]
theorem M_fx1 {A : Nat → Nat → Int32} (hB : MB A n B) (hp : p ≤ n) {k : Nat} (hk : k < 4) : (∀ q, fx1 n B k p = .inl q → ∃ x p', p' ≤ n ∧ dcall 242 [.ref m, .int (nI k)] (mw σ m A R (mt I n p none)) = some (some (.int x), mw σ m A R (mt I n p' (some q)))) ∧ ∀ a, fx1 n B k p = .inr a → dcall 242 [.ref m, .int (nI k)] (mw σ m A R (mt I n p none)) = some (some (.int (nI a)), mw σ m A R (mt I n (p + k) none)) := by
  obtain ⟨g1, g2, g3, g4, g5⟩ := fx_bd (n := n) (B := B) k p 0 hp
  have e : dcall 242 [.ref m, .int (nI k)] (mw σ m A R (mt I n p none)) = den 242 4 [.ref m, .int (nI k), .int (nI 0), .int (nI 0)] [] (mw σ m A R (mt I n p none)) := by
    rw [q242]
    simp (disch := first | omega | exact tl_l | exact tT_len | (simp only [List.length_cons, List.length_nil])) only [e242_0, e242_1, e242_2, e242_3, e242_5, e242_6, e242_9, e242_11, e242_12, e242_13, e242_14, e242_16, e242_18, e242_21, e242_22, e242_23, e242_26, e242_29, e242_30, kv_s, kh_s, kr_s, kr_v, kn_s, z0, z1, z2, nI_ltI, nI_leI, nI_eq, nI_add, oN, bz0, bz1, bw0, bw1, ltT, ltF, leT, leF, eqT, eqF, if_true, if_false, kI_n, wI_n, and_true, true_and, and_false, false_and, not_true, not_false_eq_true, mwo, mwr_0, mwr_1, mwr_2, mwg_3, mwp_3, mwr_4, mwg_5, mwp_5, mwg_6, mwp_6, mwr_7, mwr_8, mwg_9, mwp_9, mwg_10, mwp_10, mwg_11, mwp_11, mwr_12, mwg_13, mwp_13, mwr_14, mwr_15, mwr_16, mwr_17, mwr_18, mwr_19, mwg_20, mwp_20, mwr_21, mwr_22, mwr_23, mwa_1, mwu_1, mwa_2, mwu_2, mwa_3, mwu_3, mwa_4, mwu_4, mwa_5, mwu_5, mwa_6, mwu_6, mwa_7, mwu_7, mwa_8, mwu_8, mwa_9, mwu_9, mwa_10, mwu_10, mwa_11, mwu_11, mwa_12, mwu_12, mwa_13, mwu_13, mwa_14, mwu_14, mwa_15, mwu_15, mwa_16, mwu_16, vu_at, vu_ne, pk_us, pk_un, kB_n, wB_n, kL_n, wL_n]
  obtain ⟨l1, l2⟩ := M_digits_loop (σ := σ) (m := m) (R := R) (I := I) hB hk k 0 p 0 (Nat.zero_add _) hp
  rw [e]
  unfold fx1
  cases h : (fx n B k p 0).2.2 with
  | some q => exact ⟨fun q' z => by cases z; exact l1 q h, fun a z => (by cases z)⟩
  | none =>
    have := l2 h
    rw [g4 h] at this
    exact ⟨fun q' z => (by cases z), fun a z => by cases z; exact this⟩
theorem M_fx1' {A : Nat → Nat → Int32} (hq : q ≤ 80) {k : Nat} (hk : k < 4) : ∃ x, dcall 242 [.ref m, .int (nI k)] (mw σ m A R (mt I n p (some q))) = some (some (.int x), mw σ m A R (mt I n p (some q))) := by
  obtain ⟨x, hx⟩ := M_digits1 (σ := σ) (m := m) (A := A) (R := R) (I := I) (n := n) (p := p) hq (show k < 100 by omega) k 0 (nI 0) (Nat.zero_add _)
  refine ⟨x, ?_⟩
  rw [← hx]
  rw [q242]
  simp (disch := first | omega | exact tl_l | exact tT_len | (simp only [List.length_cons, List.length_nil])) only [e242_0, e242_1, e242_2, e242_3, e242_5, e242_6, e242_9, e242_11, e242_12, e242_13, e242_14, e242_16, e242_18, e242_21, e242_22, e242_23, e242_26, e242_29, e242_30, kv_s, kh_s, kr_s, kr_v, kn_s, z0, z1, z2, nI_ltI, nI_leI, nI_eq, nI_add, oN, bz0, bz1, bw0, bw1, ltT, ltF, leT, leF, eqT, eqF, if_true, if_false, kI_n, wI_n, and_true, true_and, and_false, false_and, not_true, not_false_eq_true, mwo, mwr_0, mwr_1, mwr_2, mwg_3, mwp_3, mwr_4, mwg_5, mwp_5, mwg_6, mwp_6, mwr_7, mwr_8, mwg_9, mwp_9, mwg_10, mwp_10, mwg_11, mwp_11, mwr_12, mwg_13, mwp_13, mwr_14, mwr_15, mwr_16, mwr_17, mwr_18, mwr_19, mwg_20, mwp_20, mwr_21, mwr_22, mwr_23, mwa_1, mwu_1, mwa_2, mwu_2, mwa_3, mwu_3, mwa_4, mwu_4, mwa_5, mwu_5, mwa_6, mwu_6, mwa_7, mwu_7, mwa_8, mwu_8, mwa_9, mwu_9, mwa_10, mwu_10, mwa_11, mwu_11, mwa_12, mwu_12, mwa_13, mwu_13, mwa_14, mwu_14, mwa_15, mwu_15, mwa_16, mwu_16, vu_at, vu_ne, pk_us, pk_un, kB_n, wB_n, kL_n, wL_n]
theorem M_readAct {A : Nat → Nat → Int32} (hB : MB A n B) (hp : p < n) {i : Nat} (hi : 3 * i ≤ p) : (∀ q, ax n B p = .inl q → ∃ A' p', p' ≤ n ∧ dcall 241 [.ref m, .int (nI (3 * i))] (mw σ m A R (mt I n p none)) = some (none, mw σ m A' R (mt I n p' (some q))) ∧ ∀ j, j ≠ 7 → A' j = A j) ∧ ∀ r, ax n B p = .inr r → ∃ N, dcall 241 [.ref m, .int (nI (3 * i))] (mw σ m A R (mt I n p none)) = some (none, mw σ m (va_up A 7 N) R (mt I n r.2 none)) ∧ N (3 * i) = nI r.1.1 ∧ N (3 * i + 1) = nI r.1.2.1 ∧ (r.1.1 ≠ 98 → N (3 * i + 2) = nI r.1.2.2) ∧ ∀ j, j < 3 * i → N j = A 7 j := by
  have hn := hB.1
  obtain ⟨b1, b2⟩ := hB.2 p hp
  have hh := M_here (σ := σ) (m := m) (R := R) (I := I) (e := none) hB (show p ≤ n by omega)
  rw [if_pos hp] at hh
  have hB' : ∀ N, MB (va_up A 7 N) n B := fun N => ⟨hB.1, by rw [vu_ne (by omega)]; exact hB.2⟩
  by_cases h98 : B p = 98
  · have hax : ax n B p = ax1 n B p := if_pos h98
    rw [hax]
    rw [h98] at hh
    obtain ⟨f1, f2⟩ := M_fx1 (σ := σ) (m := m) (R := R) (I := I) (hB' (upd (A 7) (3 * i) (nI 98))) (show p + 1 ≤ n by omega) (k := 2) (by omega)
    obtain ⟨g1, g2⟩ := fx1_bd (n := n) (B := B) (m := 2) (show p + 1 ≤ n by omega)
    unfold ax1
    cases hf : fx1 n B 2 (p + 1) with
    | inl q0 =>
      obtain ⟨x, p', v1, v2⟩ := f1 q0 hf
      refine ⟨fun q z => ?_, fun r z => (by cases z)⟩
      cases z
      refine ⟨va_up A 7 (upd (upd (A 7) (3 * i) (nI 98)) (3 * i + 1) x), p', v1, ?_, fun j hj => vu_ne hj⟩
      rw [q241]
      simp (disch := first | omega | exact tl_l | exact tT_len | (simp only [List.length_cons, List.length_nil])) only [e241_0, e241_1, e241_4, e241_5, e241_6, e241_8, e241_11, e241_12, e241_14, e241_17, e241_18, e241_20, e241_23, e241_24, e241_26, e241_29, e241_30, e241_32, e241_35, e241_36, e241_37, e241_40, e241_43, e241_44, e241_45, e241_46, e241_49, e241_50, e241_51, e241_54, e241_55, e241_58, e241_59, e241_60, e241_61, e241_62, e241_65, e241_66, e241_67, e241_68, e241_69, e241_70, e241_72, e241_75, e241_76, e241_79, e241_80, e241_83, e241_84, e241_85, e241_87, e241_90, e241_91, e241_94, e241_95, e241_96, e241_97, e241_98, e241_99, e241_102, e241_103, kv_s, kh_s, kr_s, kr_v, kn_s, z0, z1, z2, nI_ltI, nI_leI, nI_eq, nI_add, oN, bz0, bz1, bw0, bw1, ltT, ltF, leT, leF, eqT, eqF, if_true, if_false, kI_n, wI_n, and_true, true_and, and_false, false_and, not_true, not_false_eq_true, mwo, mwr_0, mwr_1, mwr_2, mwg_3, mwp_3, mwr_4, mwg_5, mwp_5, mwg_6, mwp_6, mwr_7, mwr_8, mwg_9, mwp_9, mwg_10, mwp_10, mwg_11, mwp_11, mwr_12, mwg_13, mwp_13, mwr_14, mwr_15, mwr_16, mwr_17, mwr_18, mwr_19, mwg_20, mwp_20, mwr_21, mwr_22, mwr_23, mwa_1, mwu_1, mwa_2, mwu_2, mwa_3, mwu_3, mwa_4, mwu_4, mwa_5, mwu_5, mwa_6, mwu_6, mwa_7, mwu_7, mwa_8, mwu_8, mwa_9, mwu_9, mwa_10, mwu_10, mwa_11, mwu_11, mwa_12, mwu_12, mwa_13, mwu_13, mwa_14, mwu_14, mwa_15, mwu_15, mwa_16, mwu_16, vu_at, vu_ne, pk_us, pk_un, kB_n, wB_n, kL_n, wL_n, mwo, z98, z112, z109, z115, z99, hh, mt_10, mt_p, v2, vu_vu]
    | inr a =>
      have v2 := f2 a hf
      have e3 : p + 1 + 2 = p + 3 := rfl
      rw [e3] at v2
      refine ⟨fun q z => (by cases z), fun r z => ?_⟩
      cases z
      refine ⟨upd (upd (A 7) (3 * i) (nI 98)) (3 * i + 1) (nI a), ?_, by rw [pk_un (by omega), pk_us], pk_us, fun e => absurd rfl e, fun j hj => by rw [pk_un (by omega), pk_un (by omega)]⟩
      rw [q241]
      simp (disch := first | omega | exact tl_l | exact tT_len | (simp only [List.length_cons, List.length_nil])) only [e241_0, e241_1, e241_4, e241_5, e241_6, e241_8, e241_11, e241_12, e241_14, e241_17, e241_18, e241_20, e241_23, e241_24, e241_26, e241_29, e241_30, e241_32, e241_35, e241_36, e241_37, e241_40, e241_43, e241_44, e241_45, e241_46, e241_49, e241_50, e241_51, e241_54, e241_55, e241_58, e241_59, e241_60, e241_61, e241_62, e241_65, e241_66, e241_67, e241_68, e241_69, e241_70, e241_72, e241_75, e241_76, e241_79, e241_80, e241_83, e241_84, e241_85, e241_87, e241_90, e241_91, e241_94, e241_95, e241_96, e241_97, e241_98, e241_99, e241_102, e241_103, kv_s, kh_s, kr_s, kr_v, kn_s, z0, z1, z2, nI_ltI, nI_leI, nI_eq, nI_add, oN, bz0, bz1, bw0, bw1, ltT, ltF, leT, leF, eqT, eqF, if_true, if_false, kI_n, wI_n, and_true, true_and, and_false, false_and, not_true, not_false_eq_true, mwo, mwr_0, mwr_1, mwr_2, mwg_3, mwp_3, mwr_4, mwg_5, mwp_5, mwg_6, mwp_6, mwr_7, mwr_8, mwg_9, mwp_9, mwg_10, mwp_10, mwg_11, mwp_11, mwr_12, mwg_13, mwp_13, mwr_14, mwr_15, mwr_16, mwr_17, mwr_18, mwr_19, mwg_20, mwp_20, mwr_21, mwr_22, mwr_23, mwa_1, mwu_1, mwa_2, mwu_2, mwa_3, mwu_3, mwa_4, mwu_4, mwa_5, mwu_5, mwa_6, mwu_6, mwa_7, mwu_7, mwa_8, mwu_8, mwa_9, mwu_9, mwa_10, mwu_10, mwa_11, mwu_11, mwa_12, mwu_12, mwa_13, mwu_13, mwa_14, mwu_14, mwa_15, mwu_15, mwa_16, mwu_16, vu_at, vu_ne, pk_us, pk_un, kB_n, wB_n, kL_n, wL_n, mwo, z98, z112, z109, z115, z99, hh, mt_10, mt_p, v2, vu_vu]
  · by_cases hs : B p = 112 ∨ B p = 109 ∨ B p = 115 ∨ B p = 99
    · have hax : ax n B p = ax2 n B p := (if_neg h98).trans (if_pos hs)
      rw [hax]
      have e44 : dcall 241 [.ref m, .int (nI (3 * i))] (mw σ m A R (mt I n p none)) = den 241 44 [.ref m, .int (nI (3 * i)), .int (nI (B p))] [] (mw σ m A R (mt I n p none)) := by
        rcases hs with e | e | e | e <;> rw [e] at hh ⊢
        · rw [q241]; simp (disch := first | omega | exact tl_l | exact tT_len | (simp only [List.length_cons, List.length_nil])) only [e241_0, e241_1, e241_4, e241_5, e241_6, e241_8, e241_11, e241_12, e241_14, e241_17, e241_18, e241_20, e241_23, e241_24, e241_26, e241_29, e241_30, e241_32, kv_s, kh_s, kr_s, kr_v, kn_s, z0, z1, z2, nI_ltI, nI_leI, nI_eq, nI_add, oN, bz0, bz1, bw0, bw1, ltT, ltF, leT, leF, eqT, eqF, if_true, if_false, kI_n, wI_n, and_true, true_and, and_false, false_and, not_true, not_false_eq_true, mwo, mwr_0, mwr_1, mwr_2, mwg_3, mwp_3, mwr_4, mwg_5, mwp_5, mwg_6, mwp_6, mwr_7, mwr_8, mwg_9, mwp_9, mwg_10, mwp_10, mwg_11, mwp_11, mwr_12, mwg_13, mwp_13, mwr_14, mwr_15, mwr_16, mwr_17, mwr_18, mwr_19, mwg_20, mwp_20, mwr_21, mwr_22, mwr_23, mwa_1, mwu_1, mwa_2, mwu_2, mwa_3, mwu_3, mwa_4, mwu_4, mwa_5, mwu_5, mwa_6, mwu_6, mwa_7, mwu_7, mwa_8, mwu_8, mwa_9, mwu_9, mwa_10, mwu_10, mwa_11, mwu_11, mwa_12, mwu_12, mwa_13, mwu_13, mwa_14, mwu_14, mwa_15, mwu_15, mwa_16, mwu_16, vu_at, vu_ne, pk_us, pk_un, kB_n, wB_n, kL_n, wL_n, mwo, z98, z112, z109, z115, z99, hh]
        · rw [q241]; simp (disch := first | omega | exact tl_l | exact tT_len | (simp only [List.length_cons, List.length_nil])) only [e241_0, e241_1, e241_4, e241_5, e241_6, e241_8, e241_11, e241_12, e241_14, e241_17, e241_18, e241_20, e241_23, e241_24, e241_26, e241_29, e241_30, e241_32, kv_s, kh_s, kr_s, kr_v, kn_s, z0, z1, z2, nI_ltI, nI_leI, nI_eq, nI_add, oN, bz0, bz1, bw0, bw1, ltT, ltF, leT, leF, eqT, eqF, if_true, if_false, kI_n, wI_n, and_true, true_and, and_false, false_and, not_true, not_false_eq_true, mwo, mwr_0, mwr_1, mwr_2, mwg_3, mwp_3, mwr_4, mwg_5, mwp_5, mwg_6, mwp_6, mwr_7, mwr_8, mwg_9, mwp_9, mwg_10, mwp_10, mwg_11, mwp_11, mwr_12, mwg_13, mwp_13, mwr_14, mwr_15, mwr_16, mwr_17, mwr_18, mwr_19, mwg_20, mwp_20, mwr_21, mwr_22, mwr_23, mwa_1, mwu_1, mwa_2, mwu_2, mwa_3, mwu_3, mwa_4, mwu_4, mwa_5, mwu_5, mwa_6, mwu_6, mwa_7, mwu_7, mwa_8, mwu_8, mwa_9, mwu_9, mwa_10, mwu_10, mwa_11, mwu_11, mwa_12, mwu_12, mwa_13, mwu_13, mwa_14, mwu_14, mwa_15, mwu_15, mwa_16, mwu_16, vu_at, vu_ne, pk_us, pk_un, kB_n, wB_n, kL_n, wL_n, mwo, z98, z112, z109, z115, z99, hh]
        · rw [q241]; simp (disch := first | omega | exact tl_l | exact tT_len | (simp only [List.length_cons, List.length_nil])) only [e241_0, e241_1, e241_4, e241_5, e241_6, e241_8, e241_11, e241_12, e241_14, e241_17, e241_18, e241_20, e241_23, e241_24, e241_26, e241_29, e241_30, e241_32, kv_s, kh_s, kr_s, kr_v, kn_s, z0, z1, z2, nI_ltI, nI_leI, nI_eq, nI_add, oN, bz0, bz1, bw0, bw1, ltT, ltF, leT, leF, eqT, eqF, if_true, if_false, kI_n, wI_n, and_true, true_and, and_false, false_and, not_true, not_false_eq_true, mwo, mwr_0, mwr_1, mwr_2, mwg_3, mwp_3, mwr_4, mwg_5, mwp_5, mwg_6, mwp_6, mwr_7, mwr_8, mwg_9, mwp_9, mwg_10, mwp_10, mwg_11, mwp_11, mwr_12, mwg_13, mwp_13, mwr_14, mwr_15, mwr_16, mwr_17, mwr_18, mwr_19, mwg_20, mwp_20, mwr_21, mwr_22, mwr_23, mwa_1, mwu_1, mwa_2, mwu_2, mwa_3, mwu_3, mwa_4, mwu_4, mwa_5, mwu_5, mwa_6, mwu_6, mwa_7, mwu_7, mwa_8, mwu_8, mwa_9, mwu_9, mwa_10, mwu_10, mwa_11, mwu_11, mwa_12, mwu_12, mwa_13, mwu_13, mwa_14, mwu_14, mwa_15, mwu_15, mwa_16, mwu_16, vu_at, vu_ne, pk_us, pk_un, kB_n, wB_n, kL_n, wL_n, mwo, z98, z112, z109, z115, z99, hh]
        · rw [q241]; simp (disch := first | omega | exact tl_l | exact tT_len | (simp only [List.length_cons, List.length_nil])) only [e241_0, e241_1, e241_4, e241_5, e241_6, e241_8, e241_11, e241_12, e241_14, e241_17, e241_18, e241_20, e241_23, e241_24, e241_26, e241_29, e241_30, e241_32, kv_s, kh_s, kr_s, kr_v, kn_s, z0, z1, z2, nI_ltI, nI_leI, nI_eq, nI_add, oN, bz0, bz1, bw0, bw1, ltT, ltF, leT, leF, eqT, eqF, if_true, if_false, kI_n, wI_n, and_true, true_and, and_false, false_and, not_true, not_false_eq_true, mwo, mwr_0, mwr_1, mwr_2, mwg_3, mwp_3, mwr_4, mwg_5, mwp_5, mwg_6, mwp_6, mwr_7, mwr_8, mwg_9, mwp_9, mwg_10, mwp_10, mwg_11, mwp_11, mwr_12, mwg_13, mwp_13, mwr_14, mwr_15, mwr_16, mwr_17, mwr_18, mwr_19, mwg_20, mwp_20, mwr_21, mwr_22, mwr_23, mwa_1, mwu_1, mwa_2, mwu_2, mwa_3, mwu_3, mwa_4, mwu_4, mwa_5, mwu_5, mwa_6, mwu_6, mwa_7, mwu_7, mwa_8, mwu_8, mwa_9, mwu_9, mwa_10, mwu_10, mwa_11, mwu_11, mwa_12, mwu_12, mwa_13, mwu_13, mwa_14, mwu_14, mwa_15, mwu_15, mwa_16, mwu_16, vu_at, vu_ne, pk_us, pk_un, kB_n, wB_n, kL_n, wL_n, mwo, z98, z112, z109, z115, z99, hh]
      obtain ⟨f1, f2⟩ := M_fx1 (σ := σ) (m := m) (R := R) (I := I) (hB' (upd (A 7) (3 * i) (nI (B p)))) (show p + 1 ≤ n by omega) (k := 3) (by omega)
      obtain ⟨g1, g2⟩ := fx1_bd (n := n) (B := B) (m := 3) (show p + 1 ≤ n by omega)
      unfold ax2
      cases hf : fx1 n B 3 (p + 1) with
      | inl q0 =>
        obtain ⟨x, p', v1, v2⟩ := f1 q0 hf
        have hq := g1 q0 hf
        obtain ⟨y, hy⟩ := M_fx1' (σ := σ) (m := m) (A := va_up A 7 (upd (upd (A 7) (3 * i) (nI (B p))) (3 * i + 1) x)) (R := R) (I := I) (n := n) (p := p') (show q0 ≤ 80 by omega) (k := 3) (by omega)
        refine ⟨fun q z => ?_, fun r z => (by cases z)⟩
        cases z
        refine ⟨va_up A 7 (upd (upd (upd (A 7) (3 * i) (nI (B p))) (3 * i + 1) x) (3 * i + 2) y), p', v1, ?_, fun j hj => vu_ne hj⟩
        rw [e44]
        simp (disch := first | omega | exact tl_l | exact tT_len | (simp only [List.length_cons, List.length_nil])) only [e241_44, e241_45, e241_46, e241_49, e241_50, e241_51, e241_54, e241_55, e241_58, e241_59, e241_60, e241_61, e241_62, e241_65, e241_66, e241_67, e241_68, e241_69, e241_70, e241_72, e241_75, e241_76, e241_79, e241_80, e241_83, e241_84, e241_85, e241_87, e241_90, e241_91, e241_94, e241_95, e241_96, e241_97, e241_98, e241_99, e241_102, e241_103, kv_s, kh_s, kr_s, kr_v, kn_s, z0, z1, z2, nI_ltI, nI_leI, nI_eq, nI_add, oN, bz0, bz1, bw0, bw1, ltT, ltF, leT, leF, eqT, eqF, if_true, if_false, kI_n, wI_n, and_true, true_and, and_false, false_and, not_true, not_false_eq_true, mwo, mwr_0, mwr_1, mwr_2, mwg_3, mwp_3, mwr_4, mwg_5, mwp_5, mwg_6, mwp_6, mwr_7, mwr_8, mwg_9, mwp_9, mwg_10, mwp_10, mwg_11, mwp_11, mwr_12, mwg_13, mwp_13, mwr_14, mwr_15, mwr_16, mwr_17, mwr_18, mwr_19, mwg_20, mwp_20, mwr_21, mwr_22, mwr_23, mwa_1, mwu_1, mwa_2, mwu_2, mwa_3, mwu_3, mwa_4, mwu_4, mwa_5, mwu_5, mwa_6, mwu_6, mwa_7, mwu_7, mwa_8, mwu_8, mwa_9, mwu_9, mwa_10, mwu_10, mwa_11, mwu_11, mwa_12, mwu_12, mwa_13, mwu_13, mwa_14, mwu_14, mwa_15, mwu_15, mwa_16, mwu_16, vu_at, vu_ne, pk_us, pk_un, kB_n, wB_n, kL_n, wL_n, mwo, z98, z3, h98, mt_10, mt_p, v2, vu_vu]
        simp (disch := first | omega | exact tl_l | exact tT_len | (simp only [List.length_cons, List.length_nil])) only [e241_44, e241_45, e241_46, e241_49, e241_50, e241_51, e241_54, e241_55, e241_58, e241_59, e241_60, e241_61, e241_62, e241_65, e241_66, e241_67, e241_68, e241_69, e241_70, e241_72, e241_75, e241_76, e241_79, e241_80, e241_83, e241_84, e241_85, e241_87, e241_90, e241_91, e241_94, e241_95, e241_96, e241_97, e241_98, e241_99, e241_102, e241_103, kv_s, kh_s, kr_s, kr_v, kn_s, z0, z1, z2, nI_ltI, nI_leI, nI_eq, nI_add, oN, bz0, bz1, bw0, bw1, ltT, ltF, leT, leF, eqT, eqF, if_true, if_false, kI_n, wI_n, and_true, true_and, and_false, false_and, not_true, not_false_eq_true, mwo, mwr_0, mwr_1, mwr_2, mwg_3, mwp_3, mwr_4, mwg_5, mwp_5, mwg_6, mwp_6, mwr_7, mwr_8, mwg_9, mwp_9, mwg_10, mwp_10, mwg_11, mwp_11, mwr_12, mwg_13, mwp_13, mwr_14, mwr_15, mwr_16, mwr_17, mwr_18, mwr_19, mwg_20, mwp_20, mwr_21, mwr_22, mwr_23, mwa_1, mwu_1, mwa_2, mwu_2, mwa_3, mwu_3, mwa_4, mwu_4, mwa_5, mwu_5, mwa_6, mwu_6, mwa_7, mwu_7, mwa_8, mwu_8, mwa_9, mwu_9, mwa_10, mwu_10, mwa_11, mwu_11, mwa_12, mwu_12, mwa_13, mwu_13, mwa_14, mwu_14, mwa_15, mwu_15, mwa_16, mwu_16, vu_at, vu_ne, pk_us, pk_un, kB_n, wB_n, kL_n, wL_n, mwo, z98, z3, h98, hy, vu_vu]
      | inr a =>
        have v2 := f2 a hf
        have ga := g2 a hf
        have e4 : p + 1 + 3 = p + 4 := rfl
        rw [e4] at v2 ga
        obtain ⟨f1', f2'⟩ := M_fx1 (σ := σ) (m := m) (R := R) (I := I) (hB' (upd (upd (A 7) (3 * i) (nI (B p))) (3 * i + 1) (nI a))) ga.2 (k := 3) (by omega)
        cases hf' : fx1 n B 3 (p + 4) with
        | inl q0 =>
          simp only [hf']
          obtain ⟨y, p', v1', v2'⟩ := f1' q0 hf'
          refine ⟨fun q z => ?_, fun r z => (by cases z)⟩
          cases z
          refine ⟨va_up A 7 (upd (upd (upd (A 7) (3 * i) (nI (B p))) (3 * i + 1) (nI a)) (3 * i + 2) y), p', v1', ?_, fun j hj => vu_ne hj⟩
          rw [e44]
          simp (disch := first | omega | exact tl_l | exact tT_len | (simp only [List.length_cons, List.length_nil])) only [e241_44, e241_45, e241_46, e241_49, e241_50, e241_51, e241_54, e241_55, e241_58, e241_59, e241_60, e241_61, e241_62, e241_65, e241_66, e241_67, e241_68, e241_69, e241_70, e241_72, e241_75, e241_76, e241_79, e241_80, e241_83, e241_84, e241_85, e241_87, e241_90, e241_91, e241_94, e241_95, e241_96, e241_97, e241_98, e241_99, e241_102, e241_103, kv_s, kh_s, kr_s, kr_v, kn_s, z0, z1, z2, nI_ltI, nI_leI, nI_eq, nI_add, oN, bz0, bz1, bw0, bw1, ltT, ltF, leT, leF, eqT, eqF, if_true, if_false, kI_n, wI_n, and_true, true_and, and_false, false_and, not_true, not_false_eq_true, mwo, mwr_0, mwr_1, mwr_2, mwg_3, mwp_3, mwr_4, mwg_5, mwp_5, mwg_6, mwp_6, mwr_7, mwr_8, mwg_9, mwp_9, mwg_10, mwp_10, mwg_11, mwp_11, mwr_12, mwg_13, mwp_13, mwr_14, mwr_15, mwr_16, mwr_17, mwr_18, mwr_19, mwg_20, mwp_20, mwr_21, mwr_22, mwr_23, mwa_1, mwu_1, mwa_2, mwu_2, mwa_3, mwu_3, mwa_4, mwu_4, mwa_5, mwu_5, mwa_6, mwu_6, mwa_7, mwu_7, mwa_8, mwu_8, mwa_9, mwu_9, mwa_10, mwu_10, mwa_11, mwu_11, mwa_12, mwu_12, mwa_13, mwu_13, mwa_14, mwu_14, mwa_15, mwu_15, mwa_16, mwu_16, vu_at, vu_ne, pk_us, pk_un, kB_n, wB_n, kL_n, wL_n, mwo, z98, z3, h98, mt_10, mt_p, v2, vu_vu]
          simp (disch := first | omega | exact tl_l | exact tT_len | (simp only [List.length_cons, List.length_nil])) only [e241_44, e241_45, e241_46, e241_49, e241_50, e241_51, e241_54, e241_55, e241_58, e241_59, e241_60, e241_61, e241_62, e241_65, e241_66, e241_67, e241_68, e241_69, e241_70, e241_72, e241_75, e241_76, e241_79, e241_80, e241_83, e241_84, e241_85, e241_87, e241_90, e241_91, e241_94, e241_95, e241_96, e241_97, e241_98, e241_99, e241_102, e241_103, kv_s, kh_s, kr_s, kr_v, kn_s, z0, z1, z2, nI_ltI, nI_leI, nI_eq, nI_add, oN, bz0, bz1, bw0, bw1, ltT, ltF, leT, leF, eqT, eqF, if_true, if_false, kI_n, wI_n, and_true, true_and, and_false, false_and, not_true, not_false_eq_true, mwo, mwr_0, mwr_1, mwr_2, mwg_3, mwp_3, mwr_4, mwg_5, mwp_5, mwg_6, mwp_6, mwr_7, mwr_8, mwg_9, mwp_9, mwg_10, mwp_10, mwg_11, mwp_11, mwr_12, mwg_13, mwp_13, mwr_14, mwr_15, mwr_16, mwr_17, mwr_18, mwr_19, mwg_20, mwp_20, mwr_21, mwr_22, mwr_23, mwa_1, mwu_1, mwa_2, mwu_2, mwa_3, mwu_3, mwa_4, mwu_4, mwa_5, mwu_5, mwa_6, mwu_6, mwa_7, mwu_7, mwa_8, mwu_8, mwa_9, mwu_9, mwa_10, mwu_10, mwa_11, mwu_11, mwa_12, mwu_12, mwa_13, mwu_13, mwa_14, mwu_14, mwa_15, mwu_15, mwa_16, mwu_16, vu_at, vu_ne, pk_us, pk_un, kB_n, wB_n, kL_n, wL_n, mwo, z98, z3, h98, v2', vu_vu]
        | inr b =>
          simp only [hf']
          have v2' := f2' b hf'
          have e7 : p + 4 + 3 = p + 7 := rfl
          rw [e7] at v2'
          refine ⟨fun q z => (by cases z), fun r z => ?_⟩
          cases z
          refine ⟨upd (upd (upd (A 7) (3 * i) (nI (B p))) (3 * i + 1) (nI a)) (3 * i + 2) (nI b), ?_, by rw [pk_un (by omega), pk_un (by omega), pk_us], by rw [pk_un (by omega), pk_us], fun _ => pk_us, fun j hj => by rw [pk_un (by omega), pk_un (by omega), pk_un (by omega)]⟩
          rw [e44]
          simp (disch := first | omega | exact tl_l | exact tT_len | (simp only [List.length_cons, List.length_nil])) only [e241_44, e241_45, e241_46, e241_49, e241_50, e241_51, e241_54, e241_55, e241_58, e241_59, e241_60, e241_61, e241_62, e241_65, e241_66, e241_67, e241_68, e241_69, e241_70, e241_72, e241_75, e241_76, e241_79, e241_80, e241_83, e241_84, e241_85, e241_87, e241_90, e241_91, e241_94, e241_95, e241_96, e241_97, e241_98, e241_99, e241_102, e241_103, kv_s, kh_s, kr_s, kr_v, kn_s, z0, z1, z2, nI_ltI, nI_leI, nI_eq, nI_add, oN, bz0, bz1, bw0, bw1, ltT, ltF, leT, leF, eqT, eqF, if_true, if_false, kI_n, wI_n, and_true, true_and, and_false, false_and, not_true, not_false_eq_true, mwo, mwr_0, mwr_1, mwr_2, mwg_3, mwp_3, mwr_4, mwg_5, mwp_5, mwg_6, mwp_6, mwr_7, mwr_8, mwg_9, mwp_9, mwg_10, mwp_10, mwg_11, mwp_11, mwr_12, mwg_13, mwp_13, mwr_14, mwr_15, mwr_16, mwr_17, mwr_18, mwr_19, mwg_20, mwp_20, mwr_21, mwr_22, mwr_23, mwa_1, mwu_1, mwa_2, mwu_2, mwa_3, mwu_3, mwa_4, mwu_4, mwa_5, mwu_5, mwa_6, mwu_6, mwa_7, mwu_7, mwa_8, mwu_8, mwa_9, mwu_9, mwa_10, mwu_10, mwa_11, mwu_11, mwa_12, mwu_12, mwa_13, mwu_13, mwa_14, mwu_14, mwa_15, mwu_15, mwa_16, mwu_16, vu_at, vu_ne, pk_us, pk_un, kB_n, wB_n, kL_n, wL_n, mwo, z98, z3, h98, mt_10, mt_p, v2, vu_vu]
          simp (disch := first | omega | exact tl_l | exact tT_len | (simp only [List.length_cons, List.length_nil])) only [e241_44, e241_45, e241_46, e241_49, e241_50, e241_51, e241_54, e241_55, e241_58, e241_59, e241_60, e241_61, e241_62, e241_65, e241_66, e241_67, e241_68, e241_69, e241_70, e241_72, e241_75, e241_76, e241_79, e241_80, e241_83, e241_84, e241_85, e241_87, e241_90, e241_91, e241_94, e241_95, e241_96, e241_97, e241_98, e241_99, e241_102, e241_103, kv_s, kh_s, kr_s, kr_v, kn_s, z0, z1, z2, nI_ltI, nI_leI, nI_eq, nI_add, oN, bz0, bz1, bw0, bw1, ltT, ltF, leT, leF, eqT, eqF, if_true, if_false, kI_n, wI_n, and_true, true_and, and_false, false_and, not_true, not_false_eq_true, mwo, mwr_0, mwr_1, mwr_2, mwg_3, mwp_3, mwr_4, mwg_5, mwp_5, mwg_6, mwp_6, mwr_7, mwr_8, mwg_9, mwp_9, mwg_10, mwp_10, mwg_11, mwp_11, mwr_12, mwg_13, mwp_13, mwr_14, mwr_15, mwr_16, mwr_17, mwr_18, mwr_19, mwg_20, mwp_20, mwr_21, mwr_22, mwr_23, mwa_1, mwu_1, mwa_2, mwu_2, mwa_3, mwu_3, mwa_4, mwu_4, mwa_5, mwu_5, mwa_6, mwu_6, mwa_7, mwu_7, mwa_8, mwu_8, mwa_9, mwu_9, mwa_10, mwu_10, mwa_11, mwu_11, mwa_12, mwu_12, mwa_13, mwu_13, mwa_14, mwu_14, mwa_15, mwu_15, mwa_16, mwu_16, vu_at, vu_ne, pk_us, pk_un, kB_n, wB_n, kL_n, wL_n, mwo, z98, z3, h98, v2', vu_vu]
    · have hax : ax n B p = .inl p := (if_neg h98).trans (if_neg hs)
      rw [hax]
      refine ⟨fun q z => ?_, fun r z => (by cases z)⟩
      cases z
      have s1 : ¬ B p = 112 := fun e => hs (Or.inl e)
      have s2 : ¬ B p = 109 := fun e => hs (Or.inr (Or.inl e))
      have s3 : ¬ B p = 115 := fun e => hs (Or.inr (Or.inr (Or.inl e)))
      have s4 : ¬ B p = 99 := fun e => hs (Or.inr (Or.inr (Or.inr e)))
      refine ⟨A, p, by omega, ?_, fun _ _ => rfl⟩
      rw [q241]
      simp (disch := first | omega | exact tl_l | exact tT_len | (simp only [List.length_cons, List.length_nil])) only [e241_0, e241_1, e241_4, e241_5, e241_6, e241_8, e241_11, e241_12, e241_14, e241_17, e241_18, e241_20, e241_23, e241_24, e241_26, e241_29, e241_30, e241_32, e241_35, e241_36, e241_37, e241_40, e241_43, e241_44, e241_45, e241_46, e241_49, e241_50, e241_51, e241_54, e241_55, e241_58, e241_59, e241_60, e241_61, e241_62, e241_65, e241_66, e241_67, e241_68, e241_69, e241_70, e241_72, e241_75, e241_76, e241_79, e241_80, e241_83, e241_84, e241_85, e241_87, e241_90, e241_91, e241_94, e241_95, e241_96, e241_97, e241_98, e241_99, e241_102, e241_103, kv_s, kh_s, kr_s, kr_v, kn_s, z0, z1, z2, nI_ltI, nI_leI, nI_eq, nI_add, oN, bz0, bz1, bw0, bw1, ltT, ltF, leT, leF, eqT, eqF, if_true, if_false, kI_n, wI_n, and_true, true_and, and_false, false_and, not_true, not_false_eq_true, mwo, mwr_0, mwr_1, mwr_2, mwg_3, mwp_3, mwr_4, mwg_5, mwp_5, mwg_6, mwp_6, mwr_7, mwr_8, mwg_9, mwp_9, mwg_10, mwp_10, mwg_11, mwp_11, mwr_12, mwg_13, mwp_13, mwr_14, mwr_15, mwr_16, mwr_17, mwr_18, mwr_19, mwg_20, mwp_20, mwr_21, mwr_22, mwr_23, mwa_1, mwu_1, mwa_2, mwu_2, mwa_3, mwu_3, mwa_4, mwu_4, mwa_5, mwu_5, mwa_6, mwu_6, mwa_7, mwu_7, mwa_8, mwu_8, mwa_9, mwu_9, mwa_10, mwu_10, mwa_11, mwu_11, mwa_12, mwu_12, mwa_13, mwu_13, mwa_14, mwu_14, mwa_15, mwu_15, mwa_16, mwu_16, vu_at, vu_ne, pk_us, pk_un, kB_n, wB_n, kL_n, wL_n, mwo, z98, z112, z109, z115, z99, h98, s1, s2, s3, s4, hh, mt_10, M_fault0]
theorem Md11 {A : Nat → Nat → Int32} (hp : p ≤ n) (hn : n ≤ 80) (hq : q ≤ 80) {l1 l2 : Value} : den 240 11 [.ref m, l1, l2] [] (mw σ m A R (mt I n p (some q))) = some (some (.int (-nI 1 - nI q)), mw σ m A R (mt I n p (some q))) := by
  rw [e240_11]
  simp (disch := first | omega | exact tl_l | exact tT_len | (simp only [List.length_cons, List.length_nil])) only [e240_12, e240_15, e240_18, e240_19, e240_22, e240_23, e240_26, e240_29, e240_30, e240_31, e240_32, e240_33, e240_36, e240_39, e240_42, e240_43, e240_46, e240_49, e240_50, e240_51, e240_54, e240_55, kv_s, kh_s, kr_s, kr_v, kn_s, z0, z1, z2, nI_ltI, nI_leI, nI_eq, nI_add, oN, bz0, bz1, bw0, bw1, ltT, ltF, leT, leF, eqT, eqF, if_true, if_false, kI_n, wI_n, and_true, true_and, and_false, false_and, not_true, not_false_eq_true, mwo, mwr_0, mwr_1, mwr_2, mwg_3, mwp_3, mwr_4, mwg_5, mwp_5, mwg_6, mwp_6, mwr_7, mwr_8, mwg_9, mwp_9, mwg_10, mwp_10, mwg_11, mwp_11, mwr_12, mwg_13, mwp_13, mwr_14, mwr_15, mwr_16, mwr_17, mwr_18, mwr_19, mwg_20, mwp_20, mwr_21, mwr_22, mwr_23, mwa_1, mwu_1, mwa_2, mwu_2, mwa_3, mwu_3, mwa_4, mwu_4, mwa_5, mwu_5, mwa_6, mwu_6, mwa_7, mwu_7, mwa_8, mwu_8, mwa_9, mwu_9, mwa_10, mwu_10, mwa_11, mwu_11, mwa_12, mwu_12, mwa_13, mwu_13, mwa_14, mwu_14, mwa_15, mwu_15, mwa_16, mwu_16, vu_at, vu_ne, pk_us, pk_un, kB_n, wB_n, kL_n, wL_n, mwo, M_fine1 hq, M_wasRight1 hq hp hn, mt_11, fl]
theorem M_day_read {l2 : Value} : ∀ (k p i : Nat) (A : Nat → Nat → Int32), MB A n B → p ≤ n → 3 * i ≤ p → n < p + k → (∀ q, dy n B k p = .inl q → ∃ A' p', den 240 11 [.ref m, .int (nI i), l2] [] (mw σ m A R (mt I n p none)) = some (some (.int (-nI 1 - nI q)), mw σ m A' R (mt I n p' (some q))) ∧ ∀ j, j ≠ 7 → A' j = A j) ∧ ∀ L, dy n B k p = .inr L → ∃ A', den 240 11 [.ref m, .int (nI i), l2] [] (mw σ m A R (mt I n p none)) = den 240 56 [.ref m, .int (nI (i + L.length)), l2] [] (mw σ m A' R (mt I n n none)) ∧ AC (A' 7) i L ∧ (∀ j, j < 3 * i → A' 7 j = A 7 j) ∧ ∀ j, j ≠ 7 → A' j = A j := by
  intro k
  induction k with
  | zero => intro p i A hB hp hi hk; omega
  | succ k ih =>
    intro p i A hB hp hi hk
    have hn := hB.1
    rw [dy]
    by_cases h1 : p = n
    · rw [if_pos h1]
      refine ⟨fun q z => (by cases z), fun L z => ?_⟩
      cases z
      refine ⟨A, ?_, trivial, fun _ _ => rfl, fun _ _ => rfl⟩
      have hw := M_wasRight0 (σ := σ) (m := m) (A := A) (R := R) (I := I) hp hn
      rw [if_neg (by omega)] at hw
      show _ = den 240 56 [.ref m, .int (nI i), l2] [] (mw σ m A R (mt I n n none))
      rw [h1] at hw
      rw [h1]
      rw [e240_11]
      simp (disch := first | omega | exact tl_l | exact tT_len | (simp only [List.length_cons, List.length_nil])) only [e240_12, e240_15, e240_18, e240_19, e240_22, e240_23, e240_26, e240_29, e240_30, e240_31, e240_32, e240_33, e240_36, e240_39, e240_42, e240_43, e240_46, kv_s, kh_s, kr_s, kr_v, kn_s, z0, z1, z2, nI_ltI, nI_leI, nI_eq, nI_add, oN, bz0, bz1, bw0, bw1, ltT, ltF, leT, leF, eqT, eqF, if_true, if_false, kI_n, wI_n, and_true, true_and, and_false, false_and, not_true, not_false_eq_true, mwo, mwr_0, mwr_1, mwr_2, mwg_3, mwp_3, mwr_4, mwg_5, mwp_5, mwg_6, mwp_6, mwr_7, mwr_8, mwg_9, mwp_9, mwg_10, mwp_10, mwg_11, mwp_11, mwr_12, mwg_13, mwp_13, mwr_14, mwr_15, mwr_16, mwr_17, mwr_18, mwr_19, mwg_20, mwp_20, mwr_21, mwr_22, mwr_23, mwa_1, mwu_1, mwa_2, mwu_2, mwa_3, mwu_3, mwa_4, mwu_4, mwa_5, mwu_5, mwa_6, mwu_6, mwa_7, mwu_7, mwa_8, mwu_8, mwa_9, mwu_9, mwa_10, mwu_10, mwa_11, mwu_11, mwa_12, mwu_12, mwa_13, mwu_13, mwa_14, mwu_14, mwa_15, mwu_15, mwa_16, mwu_16, vu_at, vu_ne, pk_us, pk_un, kB_n, wB_n, kL_n, wL_n, mwo, M_fine0, mt_9, mt_10, hw]
    · rw [if_neg h1]
      have hlt : p < n := by omega
      obtain ⟨r1, r2⟩ := M_readAct (σ := σ) (m := m) (R := R) (I := I) hB hlt hi
      obtain ⟨a1, a2⟩ := ax_bd (n := n) (B := B) hlt
      cases hax : ax n B p with
      | inl q0 =>
        obtain ⟨A', p', w0, w1, w2⟩ := r1 q0 hax
        have hq := a1 q0 hax
        refine ⟨fun q z => ?_, fun L z => (by cases z)⟩
        cases z
        refine ⟨A', p', ?_, w2⟩
        rw [← Md11 (σ := σ) (m := m) (A := A') (R := R) (I := I) w0 hn (show q0 ≤ 80 by omega) (l1 := .int (nI (i + 1))) (l2 := l2)]
        rw [e240_11]
        simp (disch := first | omega | exact tl_l | exact tT_len | (simp only [List.length_cons, List.length_nil])) only [e240_12, e240_15, e240_18, e240_19, e240_22, e240_23, e240_26, e240_29, e240_30, e240_31, e240_32, e240_33, e240_36, e240_39, kv_s, kh_s, kr_s, kr_v, kn_s, z0, z1, z2, nI_ltI, nI_leI, nI_eq, nI_add, oN, bz0, bz1, bw0, bw1, ltT, ltF, leT, leF, eqT, eqF, if_true, if_false, kI_n, wI_n, and_true, true_and, and_false, false_and, not_true, not_false_eq_true, mwo, mwr_0, mwr_1, mwr_2, mwg_3, mwp_3, mwr_4, mwg_5, mwp_5, mwg_6, mwp_6, mwr_7, mwr_8, mwg_9, mwp_9, mwg_10, mwp_10, mwg_11, mwp_11, mwr_12, mwg_13, mwp_13, mwr_14, mwr_15, mwr_16, mwr_17, mwr_18, mwr_19, mwg_20, mwp_20, mwr_21, mwr_22, mwr_23, mwa_1, mwu_1, mwa_2, mwu_2, mwa_3, mwu_3, mwa_4, mwu_4, mwa_5, mwu_5, mwa_6, mwu_6, mwa_7, mwu_7, mwa_8, mwu_8, mwa_9, mwu_9, mwa_10, mwu_10, mwa_11, mwu_11, mwa_12, mwu_12, mwa_13, mwu_13, mwa_14, mwu_14, mwa_15, mwu_15, mwa_16, mwu_16, vu_at, vu_ne, pk_us, pk_un, kB_n, wB_n, kL_n, wL_n, mwo, M_fine0, mt_9, mt_10, z3, pk_mul, w1]
      | inr r =>
        obtain ⟨N, w1, w2, w3, w4, w5⟩ := r2 r hax
        obtain ⟨c1, c2, c3, c4, c5⟩ := a2 r hax
        have e : den 240 11 [.ref m, .int (nI i), l2] [] (mw σ m A R (mt I n p none)) = den 240 11 [.ref m, .int (nI (i + 1)), l2] [] (mw σ m (va_up A 7 N) R (mt I n r.2 none)) := by
          rw [e240_11]
          simp (disch := first | omega | exact tl_l | exact tT_len | (simp only [List.length_cons, List.length_nil])) only [e240_12, e240_15, e240_18, e240_19, e240_22, e240_23, e240_26, e240_29, e240_30, e240_31, e240_32, e240_33, e240_36, e240_39, kv_s, kh_s, kr_s, kr_v, kn_s, z0, z1, z2, nI_ltI, nI_leI, nI_eq, nI_add, oN, bz0, bz1, bw0, bw1, ltT, ltF, leT, leF, eqT, eqF, if_true, if_false, kI_n, wI_n, and_true, true_and, and_false, false_and, not_true, not_false_eq_true, mwo, mwr_0, mwr_1, mwr_2, mwg_3, mwp_3, mwr_4, mwg_5, mwp_5, mwg_6, mwp_6, mwr_7, mwr_8, mwg_9, mwp_9, mwg_10, mwp_10, mwg_11, mwp_11, mwr_12, mwg_13, mwp_13, mwr_14, mwr_15, mwr_16, mwr_17, mwr_18, mwr_19, mwg_20, mwp_20, mwr_21, mwr_22, mwr_23, mwa_1, mwu_1, mwa_2, mwu_2, mwa_3, mwu_3, mwa_4, mwu_4, mwa_5, mwu_5, mwa_6, mwu_6, mwa_7, mwu_7, mwa_8, mwu_8, mwa_9, mwu_9, mwa_10, mwu_10, mwa_11, mwu_11, mwa_12, mwu_12, mwa_13, mwu_13, mwa_14, mwu_14, mwa_15, mwu_15, mwa_16, mwu_16, vu_at, vu_ne, pk_us, pk_un, kB_n, wB_n, kL_n, wL_n, mwo, M_fine0, mt_9, mt_10, z3, pk_mul, w1]
        obtain ⟨i1, i2⟩ := ih r.2 (i + 1) (va_up A 7 N) ⟨hB.1, by rw [vu_ne (by omega)]; exact hB.2⟩ c2 (by omega) (by omega)
        rw [e]
        cases hdy : dy n B k r.2 with
        | inl q0 =>
          simp only [hdy]
          obtain ⟨A', p', y1, y2⟩ := i1 q0 hdy
          exact ⟨fun q z => by cases z; exact ⟨A', p', y1, fun j hj => (y2 j hj).trans (vu_ne hj)⟩, fun L z => (by cases z)⟩
        | inr L0 =>
          simp only [hdy]
          obtain ⟨A', y1, y2, y3, y4⟩ := i2 L0 hdy
          refine ⟨fun q z => (by cases z), fun L z => ?_⟩
          cases z
          have h7 : ∀ j, j < 3 * (i + 1) → A' 7 j = N j := fun j hj => (y3 j hj).trans (by rw [vu_at])
          refine ⟨A', ?_, ⟨⟨(h7 _ (by omega)).trans w2, (h7 _ (by omega)).trans w3, fun e => (h7 _ (by omega)).trans (w4 e), c5, c3, c4⟩, y2⟩, fun j hj => (h7 j (by omega)).trans (w5 j hj), fun j hj => (y4 j hj).trans (vu_ne hj)⟩
          rw [y1]
          have hll : (r.1 :: L0).length = L0.length + 1 := rfl
          rw [hll, show i + 1 + L0.length = i + (L0.length + 1) by omega]
theorem M_act {A : Nat → Nat → Int32} (h : nowM (A 1) z.1 z.2.1 z.2.2.1 z.2.2.2) (ok : okH z) (hl : z.2.2.1 + 1 < 2 ^ 30) {a : Ac} {i : Nat} (hi : i < 100) (h1 : A 7 (3 * i) = nI a.1) (h2 : A 7 (3 * i + 1) = nI a.2.1) (h3 : a.1 ≠ 98 → A 7 (3 * i + 2) = nI a.2.2) (hs : a.1 = 98 ∨ isA a.1) (ha : a.2.1 < 1000) (hb : a.2.2 < 1000) : RA m 243 [.ref m, .int (nI (3 * i))] σ A R I (acF z a) := by
  obtain ⟨s, x, y⟩ := a
  have k98 : ∀ {l0 l1 l2 l3 : Value} {st : List Value} {σ : Hp}, den 243 24 [l0, l1, l2, l3] (.int (nI 98) :: st) σ = den 243 96 [l0, l1, l2, l3] st σ := fun {l0 l1 l2 l3 st σ} => e243_24d (by decide +kernel)
  have k99 : ∀ {l0 l1 l2 l3 : Value} {st : List Value} {σ : Hp}, den 243 24 [l0, l1, l2, l3] (.int (nI 99) :: st) σ = den 243 89 [l0, l1, l2, l3] st σ := fun {l0 l1 l2 l3 st σ} => e243_24c99
  have k109 : ∀ {l0 l1 l2 l3 : Value} {st : List Value} {σ : Hp}, den 243 24 [l0, l1, l2, l3] (.int (nI 109) :: st) σ = den 243 75 [l0, l1, l2, l3] st σ := fun {l0 l1 l2 l3 st σ} => e243_24c109
  have k112 : ∀ {l0 l1 l2 l3 : Value} {st : List Value} {σ : Hp}, den 243 24 [l0, l1, l2, l3] (.int (nI 112) :: st) σ = den 243 68 [l0, l1, l2, l3] st σ := fun {l0 l1 l2 l3 st σ} => e243_24c112
  have k115 : ∀ {l0 l1 l2 l3 : Value} {st : List Value} {σ : Hp}, den 243 24 [l0, l1, l2, l3] (.int (nI 115) :: st) σ = den 243 82 [l0, l1, l2, l3] st σ := fun {l0 l1 l2 l3 st σ} => e243_24c115
  have ha : x < 1000 := ha
  have hb : y < 1000 := hb
  rcases hs with e | e | e | e | e
  · have e : s = 98 := e
    subst e
    obtain ⟨A', f1, f2, f3⟩ := M_goBack (σ := σ) (m := m) (R := R) (I := I) h ok hl (v := x) (by omega)
    refine ⟨A', ?_, f2, f3⟩
    show _ = some (some (Value.int (bckF z x).1), _)
    rw [← f1]
    have h1 : A 7 (3 * i) = nI 98 := h1
    have h2 : A 7 (3 * i + 1) = nI x := h2
    rw [q243]
    simp (disch := first | omega | exact tl_l | exact tT_len | (simp only [List.length_cons, List.length_nil])) only [e243_0, e243_1, e243_4, e243_5, e243_6, e243_7, e243_8, e243_9, e243_10, e243_13, e243_14, e243_15, e243_16, e243_17, e243_18, e243_19, e243_22, e243_23, kv_s, kh_s, kr_s, kr_v, kn_s, z0, z1, z2, nI_ltI, nI_leI, nI_eq, nI_add, oN, bz0, bz1, bw0, bw1, ltT, ltF, leT, leF, eqT, eqF, if_true, if_false, kI_n, wI_n, and_true, true_and, and_false, false_and, not_true, not_false_eq_true, mwo, mwr_0, mwr_1, mwr_2, mwg_3, mwp_3, mwr_4, mwg_5, mwp_5, mwg_6, mwp_6, mwr_7, mwr_8, mwg_9, mwp_9, mwg_10, mwp_10, mwg_11, mwp_11, mwr_12, mwg_13, mwp_13, mwr_14, mwr_15, mwr_16, mwr_17, mwr_18, mwr_19, mwg_20, mwp_20, mwr_21, mwr_22, mwr_23, mwa_1, mwu_1, mwa_2, mwu_2, mwa_3, mwu_3, mwa_4, mwu_4, mwa_5, mwu_5, mwa_6, mwu_6, mwa_7, mwu_7, mwa_8, mwu_8, mwa_9, mwu_9, mwa_10, mwu_10, mwa_11, mwu_11, mwa_12, mwu_12, mwa_13, mwu_13, mwa_14, mwu_14, mwa_15, mwu_15, mwa_16, mwu_16, vu_at, vu_ne, pk_us, pk_un, kB_n, wB_n, kL_n, wL_n, mwo, h1, h2]
    rw [k98]
    simp (disch := first | omega | exact tl_l | exact tT_len | (simp only [List.length_cons, List.length_nil])) only [e243_96, e243_97, e243_98, e243_101, kv_s, kh_s, kr_s, kr_v, kn_s, z0, z1, z2, nI_ltI, nI_leI, nI_eq, nI_add, oN, bz0, bz1, bw0, bw1, ltT, ltF, leT, leF, eqT, eqF, if_true, if_false, kI_n, wI_n, and_true, true_and, and_false, false_and, not_true, not_false_eq_true, mwo, mwr_0, mwr_1, mwr_2, mwg_3, mwp_3, mwr_4, mwg_5, mwp_5, mwg_6, mwp_6, mwr_7, mwr_8, mwg_9, mwp_9, mwg_10, mwp_10, mwg_11, mwp_11, mwr_12, mwg_13, mwp_13, mwr_14, mwr_15, mwr_16, mwr_17, mwr_18, mwr_19, mwg_20, mwp_20, mwr_21, mwr_22, mwr_23, mwa_1, mwu_1, mwa_2, mwu_2, mwa_3, mwu_3, mwa_4, mwu_4, mwa_5, mwu_5, mwa_6, mwu_6, mwa_7, mwu_7, mwa_8, mwu_8, mwa_9, mwu_9, mwa_10, mwu_10, mwa_11, mwu_11, mwa_12, mwu_12, mwa_13, mwu_13, mwa_14, mwu_14, mwa_15, mwu_15, mwa_16, mwu_16, vu_at, vu_ne, pk_us, pk_un, kB_n, wB_n, kL_n, wL_n, mwo, f1]
  · have e : s = 112 := e
    subst e
    obtain ⟨A', f1, f2, f3⟩ := M_goPut (σ := σ) (m := m) (R := R) (I := I) h ok hl (a := x) (b := y) (by omega) (by omega)
    refine ⟨A', ?_, f2, f3⟩
    show _ = some (some (Value.int (putF z x y).1), _)
    rw [← f1]
    have h1 : A 7 (3 * i) = nI 112 := h1
    have h2 : A 7 (3 * i + 1) = nI x := h2
    have h3 : A 7 (3 * i + 2) = nI y := h3 (by show (112 : Nat) ≠ 98; omega)
    rw [q243]
    simp (disch := first | omega | exact tl_l | exact tT_len | (simp only [List.length_cons, List.length_nil])) only [e243_0, e243_1, e243_4, e243_5, e243_6, e243_7, e243_8, e243_9, e243_10, e243_13, e243_14, e243_15, e243_16, e243_17, e243_18, e243_19, e243_22, e243_23, kv_s, kh_s, kr_s, kr_v, kn_s, z0, z1, z2, nI_ltI, nI_leI, nI_eq, nI_add, oN, bz0, bz1, bw0, bw1, ltT, ltF, leT, leF, eqT, eqF, if_true, if_false, kI_n, wI_n, and_true, true_and, and_false, false_and, not_true, not_false_eq_true, mwo, mwr_0, mwr_1, mwr_2, mwg_3, mwp_3, mwr_4, mwg_5, mwp_5, mwg_6, mwp_6, mwr_7, mwr_8, mwg_9, mwp_9, mwg_10, mwp_10, mwg_11, mwp_11, mwr_12, mwg_13, mwp_13, mwr_14, mwr_15, mwr_16, mwr_17, mwr_18, mwr_19, mwg_20, mwp_20, mwr_21, mwr_22, mwr_23, mwa_1, mwu_1, mwa_2, mwu_2, mwa_3, mwu_3, mwa_4, mwu_4, mwa_5, mwu_5, mwa_6, mwu_6, mwa_7, mwu_7, mwa_8, mwu_8, mwa_9, mwu_9, mwa_10, mwu_10, mwa_11, mwu_11, mwa_12, mwu_12, mwa_13, mwu_13, mwa_14, mwu_14, mwa_15, mwu_15, mwa_16, mwu_16, vu_at, vu_ne, pk_us, pk_un, kB_n, wB_n, kL_n, wL_n, mwo, h1, h2, h3]
    rw [k112]
    simp (disch := first | omega | exact tl_l | exact tT_len | (simp only [List.length_cons, List.length_nil])) only [e243_68, e243_69, e243_70, e243_71, e243_74, kv_s, kh_s, kr_s, kr_v, kn_s, z0, z1, z2, nI_ltI, nI_leI, nI_eq, nI_add, oN, bz0, bz1, bw0, bw1, ltT, ltF, leT, leF, eqT, eqF, if_true, if_false, kI_n, wI_n, and_true, true_and, and_false, false_and, not_true, not_false_eq_true, mwo, mwr_0, mwr_1, mwr_2, mwg_3, mwp_3, mwr_4, mwg_5, mwp_5, mwg_6, mwp_6, mwr_7, mwr_8, mwg_9, mwp_9, mwg_10, mwp_10, mwg_11, mwp_11, mwr_12, mwg_13, mwp_13, mwr_14, mwr_15, mwr_16, mwr_17, mwr_18, mwr_19, mwg_20, mwp_20, mwr_21, mwr_22, mwr_23, mwa_1, mwu_1, mwa_2, mwu_2, mwa_3, mwu_3, mwa_4, mwu_4, mwa_5, mwu_5, mwa_6, mwu_6, mwa_7, mwu_7, mwa_8, mwu_8, mwa_9, mwu_9, mwa_10, mwu_10, mwa_11, mwu_11, mwa_12, mwu_12, mwa_13, mwu_13, mwa_14, mwu_14, mwa_15, mwu_15, mwa_16, mwu_16, vu_at, vu_ne, pk_us, pk_un, kB_n, wB_n, kL_n, wL_n, mwo, f1]
  · have e : s = 109 := e
    subst e
    obtain ⟨A', f1, f2, f3⟩ := M_goMove (σ := σ) (m := m) (R := R) (I := I) h ok hl (a := x) (b := y) (by omega) (by omega)
    refine ⟨A', ?_, f2, f3⟩
    show _ = some (some (Value.int (movF z x y).1), _)
    rw [← f1]
    have h1 : A 7 (3 * i) = nI 109 := h1
    have h2 : A 7 (3 * i + 1) = nI x := h2
    have h3 : A 7 (3 * i + 2) = nI y := h3 (by show (109 : Nat) ≠ 98; omega)
    rw [q243]
    simp (disch := first | omega | exact tl_l | exact tT_len | (simp only [List.length_cons, List.length_nil])) only [e243_0, e243_1, e243_4, e243_5, e243_6, e243_7, e243_8, e243_9, e243_10, e243_13, e243_14, e243_15, e243_16, e243_17, e243_18, e243_19, e243_22, e243_23, kv_s, kh_s, kr_s, kr_v, kn_s, z0, z1, z2, nI_ltI, nI_leI, nI_eq, nI_add, oN, bz0, bz1, bw0, bw1, ltT, ltF, leT, leF, eqT, eqF, if_true, if_false, kI_n, wI_n, and_true, true_and, and_false, false_and, not_true, not_false_eq_true, mwo, mwr_0, mwr_1, mwr_2, mwg_3, mwp_3, mwr_4, mwg_5, mwp_5, mwg_6, mwp_6, mwr_7, mwr_8, mwg_9, mwp_9, mwg_10, mwp_10, mwg_11, mwp_11, mwr_12, mwg_13, mwp_13, mwr_14, mwr_15, mwr_16, mwr_17, mwr_18, mwr_19, mwg_20, mwp_20, mwr_21, mwr_22, mwr_23, mwa_1, mwu_1, mwa_2, mwu_2, mwa_3, mwu_3, mwa_4, mwu_4, mwa_5, mwu_5, mwa_6, mwu_6, mwa_7, mwu_7, mwa_8, mwu_8, mwa_9, mwu_9, mwa_10, mwu_10, mwa_11, mwu_11, mwa_12, mwu_12, mwa_13, mwu_13, mwa_14, mwu_14, mwa_15, mwu_15, mwa_16, mwu_16, vu_at, vu_ne, pk_us, pk_un, kB_n, wB_n, kL_n, wL_n, mwo, h1, h2, h3]
    rw [k109]
    simp (disch := first | omega | exact tl_l | exact tT_len | (simp only [List.length_cons, List.length_nil])) only [e243_75, e243_76, e243_77, e243_78, e243_81, kv_s, kh_s, kr_s, kr_v, kn_s, z0, z1, z2, nI_ltI, nI_leI, nI_eq, nI_add, oN, bz0, bz1, bw0, bw1, ltT, ltF, leT, leF, eqT, eqF, if_true, if_false, kI_n, wI_n, and_true, true_and, and_false, false_and, not_true, not_false_eq_true, mwo, mwr_0, mwr_1, mwr_2, mwg_3, mwp_3, mwr_4, mwg_5, mwp_5, mwg_6, mwp_6, mwr_7, mwr_8, mwg_9, mwp_9, mwg_10, mwp_10, mwg_11, mwp_11, mwr_12, mwg_13, mwp_13, mwr_14, mwr_15, mwr_16, mwr_17, mwr_18, mwr_19, mwg_20, mwp_20, mwr_21, mwr_22, mwr_23, mwa_1, mwu_1, mwa_2, mwu_2, mwa_3, mwu_3, mwa_4, mwu_4, mwa_5, mwu_5, mwa_6, mwu_6, mwa_7, mwu_7, mwa_8, mwu_8, mwa_9, mwu_9, mwa_10, mwu_10, mwa_11, mwu_11, mwa_12, mwu_12, mwa_13, mwu_13, mwa_14, mwu_14, mwa_15, mwu_15, mwa_16, mwu_16, vu_at, vu_ne, pk_us, pk_un, kB_n, wB_n, kL_n, wL_n, mwo, f1]
  · have e : s = 115 := e
    subst e
    obtain ⟨A', f1, f2, f3⟩ := M_goSwap (σ := σ) (m := m) (R := R) (I := I) h ok hl (a := x) (b := y) (by omega) (by omega)
    refine ⟨A', ?_, f2, f3⟩
    show _ = some (some (Value.int (swpF z x y).1), _)
    rw [← f1]
    have h1 : A 7 (3 * i) = nI 115 := h1
    have h2 : A 7 (3 * i + 1) = nI x := h2
    have h3 : A 7 (3 * i + 2) = nI y := h3 (by show (115 : Nat) ≠ 98; omega)
    rw [q243]
    simp (disch := first | omega | exact tl_l | exact tT_len | (simp only [List.length_cons, List.length_nil])) only [e243_0, e243_1, e243_4, e243_5, e243_6, e243_7, e243_8, e243_9, e243_10, e243_13, e243_14, e243_15, e243_16, e243_17, e243_18, e243_19, e243_22, e243_23, kv_s, kh_s, kr_s, kr_v, kn_s, z0, z1, z2, nI_ltI, nI_leI, nI_eq, nI_add, oN, bz0, bz1, bw0, bw1, ltT, ltF, leT, leF, eqT, eqF, if_true, if_false, kI_n, wI_n, and_true, true_and, and_false, false_and, not_true, not_false_eq_true, mwo, mwr_0, mwr_1, mwr_2, mwg_3, mwp_3, mwr_4, mwg_5, mwp_5, mwg_6, mwp_6, mwr_7, mwr_8, mwg_9, mwp_9, mwg_10, mwp_10, mwg_11, mwp_11, mwr_12, mwg_13, mwp_13, mwr_14, mwr_15, mwr_16, mwr_17, mwr_18, mwr_19, mwg_20, mwp_20, mwr_21, mwr_22, mwr_23, mwa_1, mwu_1, mwa_2, mwu_2, mwa_3, mwu_3, mwa_4, mwu_4, mwa_5, mwu_5, mwa_6, mwu_6, mwa_7, mwu_7, mwa_8, mwu_8, mwa_9, mwu_9, mwa_10, mwu_10, mwa_11, mwu_11, mwa_12, mwu_12, mwa_13, mwu_13, mwa_14, mwu_14, mwa_15, mwu_15, mwa_16, mwu_16, vu_at, vu_ne, pk_us, pk_un, kB_n, wB_n, kL_n, wL_n, mwo, h1, h2, h3]
    rw [k115]
    simp (disch := first | omega | exact tl_l | exact tT_len | (simp only [List.length_cons, List.length_nil])) only [e243_82, e243_83, e243_84, e243_85, e243_88, kv_s, kh_s, kr_s, kr_v, kn_s, z0, z1, z2, nI_ltI, nI_leI, nI_eq, nI_add, oN, bz0, bz1, bw0, bw1, ltT, ltF, leT, leF, eqT, eqF, if_true, if_false, kI_n, wI_n, and_true, true_and, and_false, false_and, not_true, not_false_eq_true, mwo, mwr_0, mwr_1, mwr_2, mwg_3, mwp_3, mwr_4, mwg_5, mwp_5, mwg_6, mwp_6, mwr_7, mwr_8, mwg_9, mwp_9, mwg_10, mwp_10, mwg_11, mwp_11, mwr_12, mwg_13, mwp_13, mwr_14, mwr_15, mwr_16, mwr_17, mwr_18, mwr_19, mwg_20, mwp_20, mwr_21, mwr_22, mwr_23, mwa_1, mwu_1, mwa_2, mwu_2, mwa_3, mwu_3, mwa_4, mwu_4, mwa_5, mwu_5, mwa_6, mwu_6, mwa_7, mwu_7, mwa_8, mwu_8, mwa_9, mwu_9, mwa_10, mwu_10, mwa_11, mwu_11, mwa_12, mwu_12, mwa_13, mwu_13, mwa_14, mwu_14, mwa_15, mwu_15, mwa_16, mwu_16, vu_at, vu_ne, pk_us, pk_un, kB_n, wB_n, kL_n, wL_n, mwo, f1]
  · have e : s = 99 := e
    subst e
    obtain ⟨A', f1, f2, f3⟩ := M_goClear (σ := σ) (m := m) (R := R) (I := I) h ok hl (a := x) (b := y) (by omega) (by omega)
    refine ⟨A', ?_, f2, f3⟩
    show _ = some (some (Value.int (clrF z x y).1), _)
    rw [← f1]
    have h1 : A 7 (3 * i) = nI 99 := h1
    have h2 : A 7 (3 * i + 1) = nI x := h2
    have h3 : A 7 (3 * i + 2) = nI y := h3 (by show (99 : Nat) ≠ 98; omega)
    rw [q243]
    simp (disch := first | omega | exact tl_l | exact tT_len | (simp only [List.length_cons, List.length_nil])) only [e243_0, e243_1, e243_4, e243_5, e243_6, e243_7, e243_8, e243_9, e243_10, e243_13, e243_14, e243_15, e243_16, e243_17, e243_18, e243_19, e243_22, e243_23, kv_s, kh_s, kr_s, kr_v, kn_s, z0, z1, z2, nI_ltI, nI_leI, nI_eq, nI_add, oN, bz0, bz1, bw0, bw1, ltT, ltF, leT, leF, eqT, eqF, if_true, if_false, kI_n, wI_n, and_true, true_and, and_false, false_and, not_true, not_false_eq_true, mwo, mwr_0, mwr_1, mwr_2, mwg_3, mwp_3, mwr_4, mwg_5, mwp_5, mwg_6, mwp_6, mwr_7, mwr_8, mwg_9, mwp_9, mwg_10, mwp_10, mwg_11, mwp_11, mwr_12, mwg_13, mwp_13, mwr_14, mwr_15, mwr_16, mwr_17, mwr_18, mwr_19, mwg_20, mwp_20, mwr_21, mwr_22, mwr_23, mwa_1, mwu_1, mwa_2, mwu_2, mwa_3, mwu_3, mwa_4, mwu_4, mwa_5, mwu_5, mwa_6, mwu_6, mwa_7, mwu_7, mwa_8, mwu_8, mwa_9, mwu_9, mwa_10, mwu_10, mwa_11, mwu_11, mwa_12, mwu_12, mwa_13, mwu_13, mwa_14, mwu_14, mwa_15, mwu_15, mwa_16, mwu_16, vu_at, vu_ne, pk_us, pk_un, kB_n, wB_n, kL_n, wL_n, mwo, h1, h2, h3]
    rw [k99]
    simp (disch := first | omega | exact tl_l | exact tT_len | (simp only [List.length_cons, List.length_nil])) only [e243_89, e243_90, e243_91, e243_92, e243_95, kv_s, kh_s, kr_s, kr_v, kn_s, z0, z1, z2, nI_ltI, nI_leI, nI_eq, nI_add, oN, bz0, bz1, bw0, bw1, ltT, ltF, leT, leF, eqT, eqF, if_true, if_false, kI_n, wI_n, and_true, true_and, and_false, false_and, not_true, not_false_eq_true, mwo, mwr_0, mwr_1, mwr_2, mwg_3, mwp_3, mwr_4, mwg_5, mwp_5, mwg_6, mwp_6, mwr_7, mwr_8, mwg_9, mwp_9, mwg_10, mwp_10, mwg_11, mwp_11, mwr_12, mwg_13, mwp_13, mwr_14, mwr_15, mwr_16, mwr_17, mwr_18, mwr_19, mwg_20, mwp_20, mwr_21, mwr_22, mwr_23, mwa_1, mwu_1, mwa_2, mwu_2, mwa_3, mwu_3, mwa_4, mwu_4, mwa_5, mwu_5, mwa_6, mwu_6, mwa_7, mwu_7, mwa_8, mwu_8, mwa_9, mwu_9, mwa_10, mwu_10, mwa_11, mwu_11, mwa_12, mwu_12, mwa_13, mwu_13, mwa_14, mwu_14, mwa_15, mwu_15, mwa_16, mwu_16, vu_at, vu_ne, pk_us, pk_un, kB_n, wB_n, kL_n, wL_n, mwo, f1]
theorem M_day_run {t : Nat} (ht : t < 100) : ∀ (L : List Ac) (k : Nat) (z : Hs) (A : Nat → Nat → Int32), nowM (A 1) z.1 z.2.1 z.2.2.1 z.2.2.2 → okH z → z.2.2.1 + L.length + 1 < 2 ^ 30 → AC (A 7) k L → k + L.length = t → ∃ A', den 240 58 [.ref m, .int (nI t), .int (nI k)] [] (mw σ m A R I) = den 240 79 [.ref m, .int (nI t), .int (nI (rn L z k).2.1)] [] (mw σ m A' R I) ∧ nowM (A' 1) (rn L z k).2.2.1 (rn L z k).2.2.2.1 (rn L z k).2.2.2.2.1 (rn L z k).2.2.2.2.2 ∧ (∀ j, j ≠ 1 → j ≠ 8 → A' j = A j) ∧ ((rn L z k).1 = true → (rn L z k).2.1 < t) ∧ ((rn L z k).1 = false → (rn L z k).2.1 = t) ∧ (rn L z k).2.1 ≤ t ∧ okH (rn L z k).2.2 ∧ (rn L z k).2.2.2.2.1 ≤ z.2.2.1 + L.length := by
  intro L
  induction L with
  | nil =>
    intro k z A h ok hl hA hk
    have hk : k = t := hk
    subst hk
    refine ⟨A, ?_, h, fun _ _ _ => rfl, fun e => (by cases e), fun _ => rfl, Nat.le_refl _, ok, Nat.le_add_right _ _⟩
    show _ = den 240 79 [.ref m, .int (nI k), .int (nI k)] [] (mw σ m A R I)
    rw [e240_58]
    simp (disch := first | omega | exact tl_l | exact tT_len | (simp only [List.length_cons, List.length_nil])) only [e240_59, e240_60, e240_63, e240_64, e240_65, e240_66, e240_67, e240_70, e240_73, e240_76, kv_s, kh_s, kr_s, kr_v, kn_s, z0, z1, z2, nI_ltI, nI_leI, nI_eq, nI_add, oN, bz0, bz1, bw0, bw1, ltT, ltF, leT, leF, eqT, eqF, if_true, if_false, kI_n, wI_n, and_true, true_and, and_false, false_and, not_true, not_false_eq_true]
  | cons a L ih =>
    intro k z A h ok hl hA hk
    have hll : (a :: L).length = L.length + 1 := rfl
    obtain ⟨⟨h1, h2, h3, h4, h5, h6⟩, h7⟩ := hA
    have hK := h.K
    have hra := M_act (σ := σ) (m := m) (R := R) (I := I) h ok (by omega) (show k < 100 by omega) h1 h2 h3 h4 h5 h6
    obtain ⟨A1, f1, f2, f3⟩ := hra
    obtain ⟨o1, o2, o3⟩ := acF_ok (a := a) ok hK.2.2.2.1 (by have := h.2.2.2.2.2.1; have := h.2.2.2.2.2.2.1; omega)
    have hkt : k < t := by omega
    rw [rn]
    by_cases hge : nI 0 ≤ (acF z a).1
    · rw [if_pos hge]
      have hnl : ¬ (acF z a).1 < nI 0 := Int32.not_lt.mpr hge
      obtain ⟨A', e1, e2, e3, e4, e5, e6, e7, e8⟩ := ih (k + 1) (acF z a).2 A1 f2 o1 (by omega) (by rw [f3 7 (by omega) (by omega)]; exact h7) (by omega)
      refine ⟨A', ?_, e2, fun j q1 q2 => (e3 j q1 q2).trans (f3 j q1 q2), e4, e5, e6, e7, by omega⟩
      rw [← e1]
      rw [e240_58]
      simp (disch := first | omega | exact tl_l | exact tT_len | (simp only [List.length_cons, List.length_nil])) only [e240_59, e240_60, e240_63, e240_64, e240_65, e240_66, e240_67, e240_70, e240_73, e240_76, kv_s, kh_s, kr_s, kr_v, kn_s, z0, z1, z2, nI_ltI, nI_leI, nI_eq, nI_add, oN, bz0, bz1, bw0, bw1, ltT, ltF, leT, leF, eqT, eqF, if_true, if_false, kI_n, wI_n, and_true, true_and, and_false, false_and, not_true, not_false_eq_true, mwo, mwr_0, mwr_1, mwr_2, mwg_3, mwp_3, mwr_4, mwg_5, mwp_5, mwg_6, mwp_6, mwr_7, mwr_8, mwg_9, mwp_9, mwg_10, mwp_10, mwg_11, mwp_11, mwr_12, mwg_13, mwp_13, mwr_14, mwr_15, mwr_16, mwr_17, mwr_18, mwr_19, mwg_20, mwp_20, mwr_21, mwr_22, mwr_23, mwa_1, mwu_1, mwa_2, mwu_2, mwa_3, mwu_3, mwa_4, mwu_4, mwa_5, mwu_5, mwa_6, mwu_6, mwa_7, mwu_7, mwa_8, mwu_8, mwa_9, mwu_9, mwa_10, mwu_10, mwa_11, mwu_11, mwa_12, mwu_12, mwa_13, mwu_13, mwa_14, mwu_14, mwa_15, mwu_15, mwa_16, mwu_16, vu_at, vu_ne, pk_us, pk_un, kB_n, wB_n, kL_n, wL_n, mwo, z3, pk_mul, f1, hnl]
    · rw [if_neg hge]
      have hlt : (acF z a).1 < nI 0 := Int32.not_le.mp hge
      refine ⟨A1, ?_, f2, f3, fun _ => hkt, fun e => (by cases e), by show k ≤ t; omega, o1, by show (acF z a).2.2.2.1 ≤ _; omega⟩
      show _ = den 240 79 [.ref m, .int (nI t), .int (nI k)] [] (mw σ m A1 R I)
      rw [e240_58]
      simp (disch := first | omega | exact tl_l | exact tT_len | (simp only [List.length_cons, List.length_nil])) only [e240_59, e240_60, e240_63, e240_64, e240_65, e240_66, e240_67, e240_70, e240_73, e240_76, kv_s, kh_s, kr_s, kr_v, kn_s, z0, z1, z2, nI_ltI, nI_leI, nI_eq, nI_add, oN, bz0, bz1, bw0, bw1, ltT, ltF, leT, leF, eqT, eqF, if_true, if_false, kI_n, wI_n, and_true, true_and, and_false, false_and, not_true, not_false_eq_true, mwo, mwr_0, mwr_1, mwr_2, mwg_3, mwp_3, mwr_4, mwg_5, mwp_5, mwg_6, mwp_6, mwr_7, mwr_8, mwg_9, mwp_9, mwg_10, mwp_10, mwg_11, mwp_11, mwr_12, mwg_13, mwp_13, mwr_14, mwr_15, mwr_16, mwr_17, mwr_18, mwr_19, mwg_20, mwp_20, mwr_21, mwr_22, mwr_23, mwa_1, mwu_1, mwa_2, mwu_2, mwa_3, mwu_3, mwa_4, mwu_4, mwa_5, mwu_5, mwa_6, mwu_6, mwa_7, mwu_7, mwa_8, mwu_8, mwa_9, mwu_9, mwa_10, mwu_10, mwa_11, mwu_11, mwa_12, mwu_12, mwa_13, mwu_13, mwa_14, mwu_14, mwa_15, mwu_15, mwa_16, mwu_16, vu_at, vu_ne, pk_us, pk_un, kB_n, wB_n, kL_n, wL_n, mwo, z3, pk_mul, f1, hlt]
end MD
