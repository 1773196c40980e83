/-! the reference reads pairs -/
def RP (N : Nat → Int32) (L : List (Nat × Nat)) : Prop := ∀ i, i < L.length → some (N (2 * i)) = (L[i]?).map (fun s => nI s.1) ∧ some (N (2 * i + 1)) = (L[i]?).map (fun s => nI s.2)
theorem RP.rd {N : Nat → Int32} {L : List (Nat × Nat)} (h : RP N L) : RD N (L.map Prod.fst) := fun i hi => by
  rw [List.length_map] at hi
  rw [(h i hi).1, List.getElem?_map, Option.map_map]
  rfl
theorem RP.push {N : Nat → Int32} {L : List (Nat × Nat)} (h : RP N L) {s : Nat × Nat} : RP (upd (upd N (2 * L.length) (nI s.1)) (2 * L.length + 1) (nI s.2)) (L ++ [s]) := fun i hi => by
  rw [List.length_append] at hi
  have h1 : ([s] : List (Nat × Nat)).length = 1 := rfl
  by_cases hi2 : i = L.length
  · subst hi2
    rw [List.getElem?_append_right (Nat.le_refl _), Nat.sub_self]
    constructor
    · rw [pk_un (by omega), pk_us]; rfl
    · rw [pk_us]; rfl
  · rw [List.getElem?_append_left (by omega)]
    constructor
    · rw [pk_un (by omega), pk_un (by omega)]; exact (h i (by omega)).1
    · rw [pk_un (by omega), pk_un (by omega)]; exact (h i (by omega)).2
/-- pairs, from one on -/
def pr1 (n : Nat) (B : Nat → Nat) (K : Nat) (z : Bool) (cap m : Nat) (L : List (Nat × Nat)) (p : Nat) : Nat ⊕ List (Nat × Nat) := match rp n B K z (L.map Prod.fst) p with
  | .inl q => .inl q
  | .inr s => pt n B K z cap m (L ++ [s.1]) s.2
section MP
variable {σ : Hp} {m : Nat} {R : Nat → Int64} {n : Nat} {B : Nat → Nat} {q d f l : Nat} {V : Nat → Nat → Int32}
theorem MS50 {A : Nat → Nat → Int32} {I : Nat → Int32} {p : Nat} {e : Option Nat} {k : Nat} (hI : I 13 = nI k) (hk : k ≤ 150) {K z l4 : Value} {x y : Int32} : den 148 50 [.ref m, K, z, .int x, l4, .int y] [] (mw σ m A R (mt I n p e)) = some (none, mw σ m (va_up A 7 (upd (upd (A 7) (2 * k) x) (2 * k + 1) y)) R (mt (upd I 13 (nI (k + 1))) n p e)) := by
  have h13 : mt I n p e 13 = nI k := (mt_o (by omega)).trans hI
  have hu : upd (mt I n p e) 13 (nI (k + 1)) = mt (upd I 13 (nI (k + 1))) n p e := mt_u (by omega)
  simp (disch := first | omega | exact tl_l | exact tT_len | (simp only [List.length_cons, List.length_nil])) only [e148_50, e148_51, e148_54, e148_55, e148_56, e148_59, e148_60, e148_61, e148_62, e148_63, e148_66, e148_67, e148_68, e148_71, e148_72, e148_73, e148_74, e148_76, e148_77, e148_78, e148_79, e148_82, e148_83, e148_84, e148_87, kv_s, kh_s, kr_s, kr_v, kn_s, z0, z1, z2, nI_ltI, nI_leI, nI_eq, nI_add, oN, bz0, bz1, bw0, bw1, ltT, ltF, leT, leF, eqT, eqF, if_true, if_false, kI_n, wI_n, and_true, true_and, and_false, false_and, not_true, not_false_eq_true, mwo, mwr_0, mwr_1, mwr_2, mwg_3, mwp_3, mwr_4, mwg_5, mwp_5, mwg_6, mwp_6, mwr_7, mwr_8, mwg_9, mwp_9, mwg_10, mwp_10, mwg_11, mwp_11, mwr_12, mwg_13, mwp_13, mwr_14, mwr_15, mwr_16, mwr_17, mwr_18, mwr_19, mwg_20, mwp_20, mwr_21, mwr_22, mwr_23, mwa_1, mwu_1, mwa_2, mwu_2, mwa_3, mwu_3, mwa_4, mwu_4, mwa_5, mwu_5, mwa_6, mwu_6, mwa_7, mwu_7, mwa_8, mwu_8, mwa_9, mwu_9, mwa_10, mwu_10, mwa_11, mwu_11, mwa_12, mwu_12, mwa_13, mwu_13, mwa_14, mwu_14, mwa_15, mwu_15, mwa_16, mwu_16, vu_at, vu_ne, pk_us, pk_un, kB_n, wB_n, kL_n, wL_n, h13, nI_two, vu_vu, hu]
theorem MS24 {A : Nat → Nat → Int32} {I : Nat → Int32} {p : Nat} (hq : q ≤ 80) {k : Nat} (hI : I 13 = nI k) (hk : k ≤ 150) {K z l4 : Value} {x y : Int32} : den 148 24 [.ref m, K, z, .int x, l4, .int y] [] (mw σ m A R (mt I n p (some q))) = some (none, mw σ m (va_up A 7 (upd (upd (A 7) (2 * k) x) (2 * k + 1) y)) R (mt (upd I 13 (nI (k + 1))) n p (some q))) := by
  rw [← MS50 (A := A) (I := I) hI hk (K := K) (z := z) (l4 := l4) (x := x) (y := y)]
  simp (disch := first | omega | exact tl_l | exact tT_len | (simp only [List.length_cons, List.length_nil])) only [e148_24, e148_25, e148_28, kv_s, kh_s, kr_s, kr_v, kn_s, z0, z1, z2, nI_ltI, nI_leI, nI_eq, nI_add, oN, bz0, bz1, bw0, bw1, ltT, ltF, leT, leF, eqT, eqF, if_true, if_false, kI_n, wI_n, and_true, true_and, and_false, false_and, not_true, not_false_eq_true, mwo, M_fine1 hq]
theorem M_pair {A : Nat → Nat → Int32} {I : Nat → Int32} {p : Nat} (hB : MB A n B) (hp : p ≤ n) {L : List (Nat × Nat)} (hL : RP (A 7) L) (hl : L.length ≤ 150) (hI : I 13 = nI L.length) (hm : ∀ y, y ∈ L → y.1 < 2 ^ 31) {K : Nat} (hK : K ≤ 256) {z : Bool} : (∀ q, rp n B K z (L.map Prod.fst) p = .inl q → ∃ A' p', dcall 148 [.ref m, .int (nI K), .int (bI z)] (mw σ m A R (mt I n p none)) = some (none, mw σ m A' R (mt (upd I 13 (nI (L.length + 1))) n p' (some q))) ∧ p' ≤ n ∧ ∀ j, j ≠ 7 → A' j = A j) ∧ ∀ s, rp n B K z (L.map Prod.fst) p = .inr s → dcall 148 [.ref m, .int (nI K), .int (bI z)] (mw σ m A R (mt I n p none)) = some (none, mw σ m (va_up A 7 (upd (upd (A 7) (2 * L.length) (nI s.1.1)) (2 * L.length + 1) (nI s.1.2))) R (mt (upd I 13 (nI (L.length + 1))) n s.2 none)) := by
  have hn := hB.1
  obtain ⟨r1, r2⟩ := M_readKey (σ := σ) (m := m) (R := R) (I := I) hB hp hL.rd (by rw [List.length_map]; exact hl) (by rw [List.length_map]; exact hI) (fun y hy => by obtain ⟨w, w1, w2⟩ := List.mem_map.mp hy; rw [← w2]; exact hm w w1) hK
  have hbd := rk_bd (n := n) (B := B) (K := K) (L := L.map Prod.fst) hp
  unfold rp
  cases hr : rk n B K (L.map Prod.fst) p with
  | inl q0 =>
    obtain ⟨x, p', w1, w2⟩ := r1 q0 hr
    have hq := hbd.1 q0 hr
    have hq8 : q0 ≤ 80 := by omega
    refine ⟨fun q hq => ?_, fun s hs => (by cases hs)⟩
    cases hq
    refine ⟨va_up A 7 (upd (upd (A 7) (2 * L.length) (x)) (2 * L.length + 1) (nI (0 + 0))), p', ?_, w1, fun j hj => vu_ne hj⟩
    rw [← MS24 (A := A) (I := I) hq8 hI hl (K := .int (nI K)) (z := .int (bI z)) (l4 := .int (nI 0)) (x := x) (y := nI (0 + 0))]
    rw [q148]
    simp (disch := first | omega | exact tl_l | exact tT_len | (simp only [List.length_cons, List.length_nil])) only [e148_0, e148_1, e148_2, e148_5, e148_6, e148_7, e148_9, e148_10, e148_13, e148_15, e148_17, e148_18, e148_21, e148_22, kv_s, kh_s, kr_s, kr_v, kn_s, z0, z1, z2, nI_ltI, nI_leI, nI_eq, nI_add, oN, bz0, bz1, bw0, bw1, ltT, ltF, leT, leF, eqT, eqF, if_true, if_false, kI_n, wI_n, and_true, true_and, and_false, false_and, not_true, not_false_eq_true, mwo, w2, z61, M_oneOf1 hq8, M_number1 hq8]
  | inr r0 =>
    have w2 := r2 r0 hr
    obtain ⟨b1, b2, b3, b4⟩ := hbd.2 r0 hr
    have ho := M_oneOf0 (σ := σ) (m := m) (R := R) (I := I) hB b2 (s := 61) (k := 1) (by omega) (by omega)
    by_cases hc : r0.2 < n ∧ B r0.2 = 61
    · simp only [hc, and_self, if_true]
      rw [if_pos ⟨hc.1, by omega, by omega⟩, hc.2, Nat.sub_self] at ho
      obtain ⟨n1, n2⟩ := M_number (σ := σ) (m := m) (R := R) (I := I) hB (show r0.2 + 1 ≤ n by omega)
      obtain ⟨d1, d2⟩ := nm_bd (n := n) (B := B) (m := 3) (show r0.2 + 1 ≤ n by omega)
      cases h2 : nm n B 3 (r0.2 + 1) with
      | inl q0 =>
        obtain ⟨x, p', v1, v2⟩ := n1 q0 h2
        have hq := d1 q0 h2
        have hq8 : q0 ≤ 80 := by omega
        refine ⟨fun q hq => ?_, fun s hs => (by cases hs)⟩
        cases hq
        refine ⟨va_up A 7 (upd (upd (A 7) (2 * L.length) (nI r0.1)) (2 * L.length + 1) (nI 0 + x)), p', ?_, v1, fun j hj => vu_ne hj⟩
        rw [← MS24 (A := A) (I := I) hq8 hI hl (K := .int (nI K)) (z := .int (bI z)) (l4 := .int (nI 0)) (x := nI r0.1) (y := nI 0 + x)]
        rw [q148]
        simp (disch := first | omega | exact tl_l | exact tT_len | (simp only [List.length_cons, List.length_nil])) only [e148_0, e148_1, e148_2, e148_5, e148_6, e148_7, e148_9, e148_10, e148_13, e148_15, e148_17, e148_18, e148_21, e148_22, kv_s, kh_s, kr_s, kr_v, kn_s, z0, z1, z2, nI_ltI, nI_leI, nI_eq, nI_add, oN, bz0, bz1, bw0, bw1, ltT, ltF, leT, leF, eqT, eqF, if_true, if_false, kI_n, wI_n, and_true, true_and, and_false, false_and, not_true, not_false_eq_true, mwo, w2, z61, ho, v2]
      | inr s0 =>
        have v2 := n2 s0 h2
        obtain ⟨e1, e2, e3⟩ := d2 s0 h2
        by_cases hz0 : s0.1 = 0 ∧ z = false
        · simp only [hz0, and_self, if_true]
          refine ⟨fun q hq => ?_, fun s hs => (by cases hs)⟩
          cases hq
          have e4 : nI s0.2 - nI 1 = nI (s0.2 - 1) := pk_sub (by omega)
          refine ⟨va_up A 7 (upd (upd (A 7) (2 * L.length) (nI r0.1)) (2 * L.length + 1) (nI 0)), s0.2, ?_, e2, fun j hj => vu_ne hj⟩
          rw [← MS50 (A := A) (I := I) hI hl (K := .int (nI K)) (z := .int (nI 0)) (l4 := .int (nI 0)) (x := nI r0.1) (y := nI 0)]
          rw [q148]
          simp (disch := first | omega | exact tl_l | exact tT_len | (simp only [List.length_cons, List.length_nil])) only [e148_0, e148_1, e148_2, e148_5, e148_6, e148_7, e148_9, e148_10, e148_13, e148_15, e148_17, e148_18, e148_21, e148_22, e148_24, e148_25, e148_28, e148_31, e148_33, e148_36, e148_37, e148_40, e148_41, e148_42, e148_45, e148_46, e148_47, kv_s, kh_s, kr_s, kr_v, kn_s, z0, z1, z2, nI_ltI, nI_leI, nI_eq, nI_add, oN, bz0, bz1, bw0, bw1, ltT, ltF, leT, leF, eqT, eqF, if_true, if_false, kI_n, wI_n, and_true, true_and, and_false, false_and, not_true, not_false_eq_true, mwo, mwr_0, mwr_1, mwr_2, mwg_3, mwp_3, mwr_4, mwg_5, mwp_5, mwg_6, mwp_6, mwr_7, mwr_8, mwg_9, mwp_9, mwg_10, mwp_10, mwg_11, mwp_11, mwr_12, mwg_13, mwp_13, mwr_14, mwr_15, mwr_16, mwr_17, mwr_18, mwr_19, mwg_20, mwp_20, mwr_21, mwr_22, mwr_23, mwa_1, mwu_1, mwa_2, mwu_2, mwa_3, mwu_3, mwa_4, mwu_4, mwa_5, mwu_5, mwa_6, mwu_6, mwa_7, mwu_7, mwa_8, mwu_8, mwa_9, mwu_9, mwa_10, mwu_10, mwa_11, mwu_11, mwa_12, mwu_12, mwa_13, mwu_13, mwa_14, mwu_14, mwa_15, mwu_15, mwa_16, mwu_16, vu_at, vu_ne, pk_us, pk_un, kB_n, wB_n, kL_n, wL_n, w2, z61, ho, v2, hz0.1, M_fine0, n01, bI, Bool.false_eq_true, mt_10, e4, M_fault0, Nat.add_zero]
        · simp only [hz0, if_false]
          refine ⟨fun q hq => (by cases hq), fun s hs => ?_⟩
          cases hs
          rw [← MS50 (A := A) (I := I) hI hl (K := .int (nI K)) (z := .int (bI z)) (l4 := .int (nI 0)) (x := nI r0.1) (y := nI s0.1)]
          rw [q148]
          by_cases hv0 : s0.1 = 0
          · have hzt : z = true := by
              cases z with
              | true => rfl
              | false => exact absurd ⟨hv0, rfl⟩ hz0
            simp (disch := first | omega | exact tl_l | exact tT_len | (simp only [List.length_cons, List.length_nil])) only [e148_0, e148_1, e148_2, e148_5, e148_6, e148_7, e148_9, e148_10, e148_13, e148_15, e148_17, e148_18, e148_21, e148_22, e148_24, e148_25, e148_28, e148_31, e148_33, e148_36, e148_37, e148_40, e148_41, e148_42, e148_45, e148_46, e148_47, kv_s, kh_s, kr_s, kr_v, kn_s, z0, z1, z2, nI_ltI, nI_leI, nI_eq, nI_add, oN, bz0, bz1, bw0, bw1, ltT, ltF, leT, leF, eqT, eqF, if_true, if_false, kI_n, wI_n, and_true, true_and, and_false, false_and, not_true, not_false_eq_true, mwo, w2, z61, ho, v2, hv0, hzt, M_fine0, n01, bI, Nat.add_zero]
          · simp (disch := first | omega | exact tl_l | exact tT_len | (simp only [List.length_cons, List.length_nil])) only [e148_0, e148_1, e148_2, e148_5, e148_6, e148_7, e148_9, e148_10, e148_13, e148_15, e148_17, e148_18, e148_21, e148_22, e148_24, e148_25, e148_28, e148_31, e148_33, e148_36, e148_37, e148_40, e148_41, e148_42, e148_45, e148_46, e148_47, kv_s, kh_s, kr_s, kr_v, kn_s, z0, z1, z2, nI_ltI, nI_leI, nI_eq, nI_add, oN, bz0, bz1, bw0, bw1, ltT, ltF, leT, leF, eqT, eqF, if_true, if_false, kI_n, wI_n, and_true, true_and, and_false, false_and, not_true, not_false_eq_true, mwo, w2, z61, ho, v2, hv0, M_fine0, n01, Nat.zero_add]
    · simp only [hc, if_false]
      rw [if_neg (fun z => hc ⟨z.1, by omega⟩)] at ho
      have hq8 : r0.2 ≤ 80 := by omega
      refine ⟨fun q hq => ?_, fun s hs => (by cases hs)⟩
      cases hq
      refine ⟨va_up A 7 (upd (upd (A 7) (2 * L.length) (nI r0.1)) (2 * L.length + 1) (nI (0 + 0))), r0.2, ?_, b2, fun j hj => vu_ne hj⟩
      rw [← MS24 (A := A) (I := I) hq8 hI hl (K := .int (nI K)) (z := .int (bI z)) (l4 := .int (nI 0)) (x := nI r0.1) (y := nI (0 + 0))]
      rw [q148]
      simp (disch := first | omega | exact tl_l | exact tT_len | (simp only [List.length_cons, List.length_nil])) only [e148_0, e148_1, e148_2, e148_5, e148_6, e148_7, e148_9, e148_10, e148_13, e148_15, e148_17, e148_18, e148_21, e148_22, kv_s, kh_s, kr_s, kr_v, kn_s, z0, z1, z2, nI_ltI, nI_leI, nI_eq, nI_add, oN, bz0, bz1, bw0, bw1, ltT, ltF, leT, leF, eqT, eqF, if_true, if_false, kI_n, wI_n, and_true, true_and, and_false, false_and, not_true, not_false_eq_true, mwo, w2, z61, ho, M_number1 hq8]
theorem M_batch_loop {l2 : Value} : ∀ (k : Nat) (L : List (Nat × Nat)) (p : Nat) (A : Nat → Nat → Int32) (I : Nat → Int32), MB A n B → nowM (A 1) d f l V → RP (A 7) L → I 13 = nI L.length → PI (2 ^ d) true L → L.length ≤ p → p ≤ n → n < p + k → (∀ q, pr1 n B (2 ^ d) true 1000 k L p = .inl q → ∃ A' I' p', den 157 16 [.ref m, .int (nI 1), l2] [] (mw σ m A R (mt I n p none)) = some (some (.int (-nI 1 - nI q)), mw σ m A' R (mt I' n p' (some q))) ∧ (∀ j, j ≠ 7 → A' j = A j) ∧ ∀ j, j ≠ 13 → I' j = I j) ∧ ∀ L', pr1 n B (2 ^ d) true 1000 k L p = .inr L' → ∃ A' I', den 157 16 [.ref m, .int (nI 1), l2] [] (mw σ m A R (mt I n p none)) = den 157 53 [.ref m, .int (nI 0), l2] [] (mw σ m A' R (mt I' n n none)) ∧ RP (A' 7) L' ∧ I' 13 = nI L'.length ∧ L'.length ≤ n ∧ PI (2 ^ d) true L' ∧ (∀ j, j ≠ 7 → A' j = A j) ∧ ∀ j, j ≠ 13 → I' j = I j := by
  intro k
  induction k with
  | zero => intro L p A I hB h hL hI hm hl hp hk; omega
  | succ k ih =>
    intro L p A I hB h hL hI hm hl hp hk
    have hn := hB.1
    have hK := h.K
    obtain ⟨r1, r2⟩ := M_pair (σ := σ) (m := m) (R := R) (I := I) hB hp hL (by omega) hI (fun y hy => by have := (hm.2 y hy).1; omega) hK.1 (z := true)
    have hbd := rp_bd (n := n) (B := B) (K := 2 ^ d) (z := true) (L := L.map Prod.fst) hp
    have h44 : ∀ A I p, MB A n B → p ≤ n → dcall 156 [.ref m, .int (nI 44)] (mw σ m A R (mt I n p none)) = if p < n ∧ B p = 44 then some (some (.int (nI 1)), mw σ m A R (mt I n (p + 1) none)) else some (some (.int (nI 0)), mw σ m A R (mt I n p none)) := fun A I p hB hp => M_passes0 hB hp (by omega)
    unfold pr1
    cases hr : rp n B (2 ^ d) true (L.map Prod.fst) p with
    | inl q0 =>
      obtain ⟨A', p', w1, w2, w3⟩ := r1 q0 hr
      have hq := hbd.1 q0 hr
      have hq8 : q0 ≤ 80 := by omega
      have w1 : dcall 148 [.ref m, .int (nI (2 ^ d)), .int (nI 1)] (mw σ m A R (mt I n p none)) = some (none, mw σ m A' R (mt (upd I 13 (nI (L.length + 1))) n p' (some q0))) := w1
      refine ⟨fun q z => ?_, fun L' z => (by cases z)⟩
      cases z
      refine ⟨A', upd I 13 (nI (L.length + 1)), p', ?_, w3, fun j hj => pk_un hj⟩
      rw [e157_16]
      simp (disch := first | omega | exact tl_l | exact tT_len | (simp only [List.length_cons, List.length_nil])) only [e157_0, e157_1, e157_2, e157_5, e157_6, e157_9, e157_10, e157_11, e157_14, e157_15, e157_17, e157_20, e157_21, e157_22, e157_25, e157_26, e157_29, e157_30, e157_32, e157_35, e157_36, e157_39, e157_40, e157_43, e157_46, e157_47, e157_48, e157_51, e157_52, e157_53, e157_54, e157_55, e157_58, e157_61, e157_62, e157_65, e157_66, e157_68, e157_69, e157_72, e157_75, e157_76, e157_79, e157_80, e157_83, e157_84, e157_85, e157_86, e157_87, e157_88, e157_91, e157_92, e157_93, e157_94, e157_95, e157_96, e157_97, e157_98, e157_99, e157_100, e157_103, e157_104, e157_105, e157_106, e157_107, e157_110, e157_113, e157_116, e157_117, e157_120, e157_122, e157_125, e157_128, e157_129, e157_130, e157_133, e157_136, e157_139, e157_140, e157_141, e157_142, e157_145, e157_146, e157_147, e157_150, e157_151, e157_154, e157_155, e157_156, e157_159, e157_160, e157_163, e157_164, e157_165, e157_166, e157_167, e157_170, e157_171, e157_174, kv_s, kh_s, kr_s, kr_v, kn_s, z0, z1, z2, nI_ltI, nI_leI, nI_eq, nI_add, oN, bz0, bz1, bw0, bw1, ltT, ltF, leT, leF, eqT, eqF, if_true, if_false, kI_n, wI_n, and_true, true_and, and_false, false_and, not_true, not_false_eq_true, mwo, mwr_0, mwr_1, mwr_2, mwg_3, mwp_3, mwr_4, mwg_5, mwp_5, mwg_6, mwp_6, mwr_7, mwr_8, mwg_9, mwp_9, mwg_10, mwp_10, mwg_11, mwp_11, mwr_12, mwg_13, mwp_13, mwr_14, mwr_15, mwr_16, mwr_17, mwr_18, mwr_19, mwg_20, mwp_20, mwr_21, mwr_22, mwr_23, mwa_1, mwu_1, mwa_2, mwu_2, mwa_3, mwu_3, mwa_4, mwu_4, mwa_5, mwu_5, mwa_6, mwu_6, mwa_7, mwu_7, mwa_8, mwu_8, mwa_9, mwu_9, mwa_10, mwu_10, mwa_11, mwu_11, mwa_12, mwu_12, mwa_13, mwu_13, mwa_14, mwu_14, mwa_15, mwu_15, mwa_16, mwu_16, vu_at, vu_ne, pk_us, pk_un, kB_n, wB_n, kL_n, wL_n, n01, mwo, M_keys h, w1, z44, M_passes1 hq8]
      rw [e157_16]
      simp (disch := first | omega | exact tl_l | exact tT_len | (simp only [List.length_cons, List.length_nil])) only [e157_0, e157_1, e157_2, e157_5, e157_6, e157_9, e157_10, e157_11, e157_14, e157_15, e157_17, e157_20, e157_21, e157_22, e157_25, e157_26, e157_29, e157_30, e157_32, e157_35, e157_36, e157_39, e157_40, e157_43, e157_46, e157_47, e157_48, e157_51, e157_52, e157_53, e157_54, e157_55, e157_58, e157_61, e157_62, e157_65, e157_66, e157_68, e157_69, e157_72, e157_75, e157_76, e157_79, e157_80, e157_83, e157_84, e157_85, e157_86, e157_87, e157_88, e157_91, e157_92, e157_93, e157_94, e157_95, e157_96, e157_97, e157_98, e157_99, e157_100, e157_103, e157_104, e157_105, e157_106, e157_107, e157_110, e157_113, e157_116, e157_117, e157_120, e157_122, e157_125, e157_128, e157_129, e157_130, e157_133, e157_136, e157_139, e157_140, e157_141, e157_142, e157_145, e157_146, e157_147, e157_150, e157_151, e157_154, e157_155, e157_156, e157_159, e157_160, e157_163, e157_164, e157_165, e157_166, e157_167, e157_170, e157_171, e157_174, kv_s, kh_s, kr_s, kr_v, kn_s, z0, z1, z2, nI_ltI, nI_leI, nI_eq, nI_add, oN, bz0, bz1, bw0, bw1, ltT, ltF, leT, leF, eqT, eqF, if_true, if_false, kI_n, wI_n, and_true, true_and, and_false, false_and, not_true, not_false_eq_true, mwo, mwr_0, mwr_1, mwr_2, mwg_3, mwp_3, mwr_4, mwg_5, mwp_5, mwg_6, mwp_6, mwr_7, mwr_8, mwg_9, mwp_9, mwg_10, mwp_10, mwg_11, mwp_11, mwr_12, mwg_13, mwp_13, mwr_14, mwr_15, mwr_16, mwr_17, mwr_18, mwr_19, mwg_20, mwp_20, mwr_21, mwr_22, mwr_23, mwa_1, mwu_1, mwa_2, mwu_2, mwa_3, mwu_3, mwa_4, mwu_4, mwa_5, mwu_5, mwa_6, mwu_6, mwa_7, mwu_7, mwa_8, mwu_8, mwa_9, mwu_9, mwa_10, mwu_10, mwa_11, mwu_11, mwa_12, mwu_12, mwa_13, mwu_13, mwa_14, mwu_14, mwa_15, mwu_15, mwa_16, mwu_16, vu_at, vu_ne, pk_us, pk_un, kB_n, wB_n, kL_n, wL_n, M_wasRight1 hq8 w2 hn, mt_11, fl]
    | inr s0 =>
      have w1 := r2 s0 hr
      obtain ⟨c1, c2, c3⟩ := hbd.2 s0 hr
      have w1 : dcall 148 [.ref m, .int (nI (2 ^ d)), .int (nI 1)] (mw σ m A R (mt I n p none)) = some (none, mw σ m (va_up A 7 (upd (upd (A 7) (2 * L.length) (nI s0.1.1)) (2 * L.length + 1) (nI s0.1.2))) R (mt (upd I 13 (nI (L.length + 1))) n s0.2 none)) := w1
      have hB' : MB (va_up A 7 (upd (upd (A 7) (2 * L.length) (nI s0.1.1)) (2 * L.length + 1) (nI s0.1.2))) n B := ⟨hB.1, by rw [vu_ne (by omega)]; exact hB.2⟩
      have hps := h44 _ (upd I 13 (nI (L.length + 1))) s0.2 hB' c2
      have hll : (L ++ [s0.1]).length = L.length + 1 := by rw [List.length_append]; rfl
      have hPI := hm.add hp hr
      show (∀ q, pt n B (2 ^ d) true 1000 (k + 1) (L ++ [s0.1]) s0.2 = .inl q → _) ∧ ∀ L', pt n B (2 ^ d) true 1000 (k + 1) (L ++ [s0.1]) s0.2 = .inr L' → _
      rw [pt]
      have hwr := M_wasRight0 (σ := σ) (m := m) (A := va_up A 7 (upd (upd (A 7) (2 * L.length) (nI s0.1.1)) (2 * L.length + 1) (nI s0.1.2))) (R := R) (I := upd I 13 (nI (L.length + 1))) c2 hn
      by_cases h1 : s0.2 = n
      · rw [if_pos h1]
        rw [if_neg (fun z => by omega)] at hps hwr
        refine ⟨fun q z => (by cases z), fun L' z => ?_⟩
        cases z
        refine ⟨va_up A 7 (upd (upd (A 7) (2 * L.length) (nI s0.1.1)) (2 * L.length + 1) (nI s0.1.2)), upd I 13 (nI (L.length + 1)), ?_, by rw [vu_at]; exact hL.push, by rw [pk_us, hll], by omega, hPI, fun j hj => vu_ne hj, fun j hj => pk_un hj⟩
        rw [h1] at hps hwr w1
        rw [e157_16]
        simp (disch := first | omega | exact tl_l | exact tT_len | (simp only [List.length_cons, List.length_nil])) only [e157_0, e157_1, e157_2, e157_5, e157_6, e157_9, e157_10, e157_11, e157_14, e157_15, e157_17, e157_20, e157_21, e157_22, e157_25, e157_26, e157_29, e157_30, e157_32, e157_35, e157_36, e157_39, e157_40, e157_43, e157_46, e157_47, e157_48, e157_51, e157_52, e157_53, e157_54, e157_55, e157_58, e157_61, e157_62, e157_65, e157_66, e157_68, e157_69, e157_72, e157_75, e157_76, e157_79, e157_80, e157_83, e157_84, e157_85, e157_86, e157_87, e157_88, e157_91, e157_92, e157_93, e157_94, e157_95, e157_96, e157_97, e157_98, e157_99, e157_100, e157_103, e157_104, e157_105, e157_106, e157_107, e157_110, e157_113, e157_116, e157_117, e157_120, e157_122, e157_125, e157_128, e157_129, e157_130, e157_133, e157_136, e157_139, e157_140, e157_141, e157_142, e157_145, e157_146, e157_147, e157_150, e157_151, e157_154, e157_155, e157_156, e157_159, e157_160, e157_163, e157_164, e157_165, e157_166, e157_167, e157_170, e157_171, e157_174, kv_s, kh_s, kr_s, kr_v, kn_s, z0, z1, z2, nI_ltI, nI_leI, nI_eq, nI_add, oN, bz0, bz1, bw0, bw1, ltT, ltF, leT, leF, eqT, eqF, if_true, if_false, kI_n, wI_n, and_true, true_and, and_false, false_and, not_true, not_false_eq_true, mwo, mwr_0, mwr_1, mwr_2, mwg_3, mwp_3, mwr_4, mwg_5, mwp_5, mwg_6, mwp_6, mwr_7, mwr_8, mwg_9, mwp_9, mwg_10, mwp_10, mwg_11, mwp_11, mwr_12, mwg_13, mwp_13, mwr_14, mwr_15, mwr_16, mwr_17, mwr_18, mwr_19, mwg_20, mwp_20, mwr_21, mwr_22, mwr_23, mwa_1, mwu_1, mwa_2, mwu_2, mwa_3, mwu_3, mwa_4, mwu_4, mwa_5, mwu_5, mwa_6, mwu_6, mwa_7, mwu_7, mwa_8, mwu_8, mwa_9, mwu_9, mwa_10, mwu_10, mwa_11, mwu_11, mwa_12, mwu_12, mwa_13, mwu_13, mwa_14, mwu_14, mwa_15, mwu_15, mwa_16, mwu_16, vu_at, vu_ne, pk_us, pk_un, kB_n, wB_n, kL_n, wL_n, n01, mwo, M_keys h, w1, z44, hps]
        rw [e157_16]
        simp (disch := first | omega | exact tl_l | exact tT_len | (simp only [List.length_cons, List.length_nil])) only [e157_0, e157_1, e157_2, e157_5, e157_6, e157_9, e157_10, e157_11, e157_14, e157_15, e157_17, e157_20, e157_21, e157_22, e157_25, e157_26, e157_29, e157_30, e157_32, e157_35, e157_36, e157_39, e157_40, e157_43, e157_46, e157_47, e157_48, e157_51, e157_52, e157_53, e157_54, e157_55, e157_58, e157_61, e157_62, e157_65, e157_66, e157_68, e157_69, e157_72, e157_75, e157_76, e157_79, e157_80, e157_83, e157_84, e157_85, e157_86, e157_87, e157_88, e157_91, e157_92, e157_93, e157_94, e157_95, e157_96, e157_97, e157_98, e157_99, e157_100, e157_103, e157_104, e157_105, e157_106, e157_107, e157_110, e157_113, e157_116, e157_117, e157_120, e157_122, e157_125, e157_128, e157_129, e157_130, e157_133, e157_136, e157_139, e157_140, e157_141, e157_142, e157_145, e157_146, e157_147, e157_150, e157_151, e157_154, e157_155, e157_156, e157_159, e157_160, e157_163, e157_164, e157_165, e157_166, e157_167, e157_170, e157_171, e157_174, kv_s, kh_s, kr_s, kr_v, kn_s, z0, z1, z2, nI_ltI, nI_leI, nI_eq, nI_add, oN, bz0, bz1, bw0, bw1, ltT, ltF, leT, leF, eqT, eqF, if_true, if_false, kI_n, wI_n, and_true, true_and, and_false, false_and, not_true, not_false_eq_true, mwo, mwr_0, mwr_1, mwr_2, mwg_3, mwp_3, mwr_4, mwg_5, mwp_5, mwg_6, mwp_6, mwr_7, mwr_8, mwg_9, mwp_9, mwg_10, mwp_10, mwg_11, mwp_11, mwr_12, mwg_13, mwp_13, mwr_14, mwr_15, mwr_16, mwr_17, mwr_18, mwr_19, mwg_20, mwp_20, mwr_21, mwr_22, mwr_23, mwa_1, mwu_1, mwa_2, mwu_2, mwa_3, mwu_3, mwa_4, mwu_4, mwa_5, mwu_5, mwa_6, mwu_6, mwa_7, mwu_7, mwa_8, mwu_8, mwa_9, mwu_9, mwa_10, mwu_10, mwa_11, mwu_11, mwa_12, mwu_12, mwa_13, mwu_13, mwa_14, mwu_14, mwa_15, mwu_15, mwa_16, mwu_16, vu_at, vu_ne, pk_us, pk_un, kB_n, wB_n, kL_n, wL_n, mwo, hwr, n01]
      · rw [if_neg h1, if_neg (show ¬ (L ++ [s0.1]).length = 1000 by omega)]
        by_cases h2 : B s0.2 = 44
        · rw [if_pos h2]
          rw [if_pos ⟨by omega, h2⟩] at hps
          have e : den 157 16 [.ref m, .int (nI 1), l2] [] (mw σ m A R (mt I n p none)) = den 157 16 [.ref m, .int (nI 1), l2] [] (mw σ m (va_up A 7 (upd (upd (A 7) (2 * L.length) (nI s0.1.1)) (2 * L.length + 1) (nI s0.1.2))) R (mt (upd I 13 (nI (L.length + 1))) n (s0.2 + 1) none)) := by
            rw [e157_16]
            simp (disch := first | omega | exact tl_l | exact tT_len | (simp only [List.length_cons, List.length_nil])) only [e157_0, e157_1, e157_2, e157_5, e157_6, e157_9, e157_10, e157_11, e157_14, e157_15, e157_17, e157_20, e157_21, e157_22, e157_25, e157_26, e157_29, e157_30, e157_32, e157_35, e157_36, e157_39, e157_40, e157_43, e157_46, e157_47, e157_48, e157_51, e157_52, e157_53, e157_54, e157_55, e157_58, e157_61, e157_62, e157_65, e157_66, e157_68, e157_69, e157_72, e157_75, e157_76, e157_79, e157_80, e157_83, e157_84, e157_85, e157_86, e157_87, e157_88, e157_91, e157_92, e157_93, e157_94, e157_95, e157_96, e157_97, e157_98, e157_99, e157_100, e157_103, e157_104, e157_105, e157_106, e157_107, e157_110, e157_113, e157_116, e157_117, e157_120, e157_122, e157_125, e157_128, e157_129, e157_130, e157_133, e157_136, e157_139, e157_140, e157_141, e157_142, e157_145, e157_146, e157_147, e157_150, e157_151, e157_154, e157_155, e157_156, e157_159, e157_160, e157_163, e157_164, e157_165, e157_166, e157_167, e157_170, e157_171, e157_174, kv_s, kh_s, kr_s, kr_v, kn_s, z0, z1, z2, nI_ltI, nI_leI, nI_eq, nI_add, oN, bz0, bz1, bw0, bw1, ltT, ltF, leT, leF, eqT, eqF, if_true, if_false, kI_n, wI_n, and_true, true_and, and_false, false_and, not_true, not_false_eq_true, mwo, mwr_0, mwr_1, mwr_2, mwg_3, mwp_3, mwr_4, mwg_5, mwp_5, mwg_6, mwp_6, mwr_7, mwr_8, mwg_9, mwp_9, mwg_10, mwp_10, mwg_11, mwp_11, mwr_12, mwg_13, mwp_13, mwr_14, mwr_15, mwr_16, mwr_17, mwr_18, mwr_19, mwg_20, mwp_20, mwr_21, mwr_22, mwr_23, mwa_1, mwu_1, mwa_2, mwu_2, mwa_3, mwu_3, mwa_4, mwu_4, mwa_5, mwu_5, mwa_6, mwu_6, mwa_7, mwu_7, mwa_8, mwu_8, mwa_9, mwu_9, mwa_10, mwu_10, mwa_11, mwu_11, mwa_12, mwu_12, mwa_13, mwu_13, mwa_14, mwu_14, mwa_15, mwu_15, mwa_16, mwu_16, vu_at, vu_ne, pk_us, pk_un, kB_n, wB_n, kL_n, wL_n, n01, mwo, M_keys h, w1, z44, hps]
          obtain ⟨i1, i2⟩ := ih (L ++ [s0.1]) (s0.2 + 1) (va_up A 7 (upd (upd (A 7) (2 * L.length) (nI s0.1.1)) (2 * L.length + 1) (nI s0.1.2))) (upd I 13 (nI (L.length + 1))) hB' (by rw [vu_ne (by omega)]; exact h) (by rw [vu_at]; exact hL.push) (by rw [pk_us, hll]) hPI (by omega) (by omega) (by omega)
          rw [e]
          refine ⟨fun q z => ?_, fun L' z => ?_⟩
          · obtain ⟨A', I', p', v1, v2, v3⟩ := i1 q z
            exact ⟨A', I', p', v1, fun j hj => (v2 j hj).trans (vu_ne hj), fun j hj => (v3 j hj).trans (pk_un hj)⟩
          · obtain ⟨A', I', v1, v2, v3, v4, v5, v6, v7⟩ := i2 L' z
            exact ⟨A', I', v1, v2, v3, v4, v5, fun j hj => (v6 j hj).trans (vu_ne hj), fun j hj => (v7 j hj).trans (pk_un hj)⟩
        · rw [if_neg h2]
          rw [if_neg (fun z => h2 z.2)] at hps
          rw [if_pos (by omega)] at hwr
          refine ⟨fun q z => ?_, fun L' z => (by cases z)⟩
          cases z
          refine ⟨va_up A 7 (upd (upd (A 7) (2 * L.length) (nI s0.1.1)) (2 * L.length + 1) (nI s0.1.2)), upd I 13 (nI (L.length + 1)), s0.2, ?_, fun j hj => vu_ne hj, fun j hj => pk_un hj⟩
          rw [e157_16]
          simp (disch := first | omega | exact tl_l | exact tT_len | (simp only [List.length_cons, List.length_nil])) only [e157_0, e157_1, e157_2, e157_5, e157_6, e157_9, e157_10, e157_11, e157_14, e157_15, e157_17, e157_20, e157_21, e157_22, e157_25, e157_26, e157_29, e157_30, e157_32, e157_35, e157_36, e157_39, e157_40, e157_43, e157_46, e157_47, e157_48, e157_51, e157_52, e157_53, e157_54, e157_55, e157_58, e157_61, e157_62, e157_65, e157_66, e157_68, e157_69, e157_72, e157_75, e157_76, e157_79, e157_80, e157_83, e157_84, e157_85, e157_86, e157_87, e157_88, e157_91, e157_92, e157_93, e157_94, e157_95, e157_96, e157_97, e157_98, e157_99, e157_100, e157_103, e157_104, e157_105, e157_106, e157_107, e157_110, e157_113, e157_116, e157_117, e157_120, e157_122, e157_125, e157_128, e157_129, e157_130, e157_133, e157_136, e157_139, e157_140, e157_141, e157_142, e157_145, e157_146, e157_147, e157_150, e157_151, e157_154, e157_155, e157_156, e157_159, e157_160, e157_163, e157_164, e157_165, e157_166, e157_167, e157_170, e157_171, e157_174, kv_s, kh_s, kr_s, kr_v, kn_s, z0, z1, z2, nI_ltI, nI_leI, nI_eq, nI_add, oN, bz0, bz1, bw0, bw1, ltT, ltF, leT, leF, eqT, eqF, if_true, if_false, kI_n, wI_n, and_true, true_and, and_false, false_and, not_true, not_false_eq_true, mwo, mwr_0, mwr_1, mwr_2, mwg_3, mwp_3, mwr_4, mwg_5, mwp_5, mwg_6, mwp_6, mwr_7, mwr_8, mwg_9, mwp_9, mwg_10, mwp_10, mwg_11, mwp_11, mwr_12, mwg_13, mwp_13, mwr_14, mwr_15, mwr_16, mwr_17, mwr_18, mwr_19, mwg_20, mwp_20, mwr_21, mwr_22, mwr_23, mwa_1, mwu_1, mwa_2, mwu_2, mwa_3, mwu_3, mwa_4, mwu_4, mwa_5, mwu_5, mwa_6, mwu_6, mwa_7, mwu_7, mwa_8, mwu_8, mwa_9, mwu_9, mwa_10, mwu_10, mwa_11, mwu_11, mwa_12, mwu_12, mwa_13, mwu_13, mwa_14, mwu_14, mwa_15, mwu_15, mwa_16, mwu_16, vu_at, vu_ne, pk_us, pk_un, kB_n, wB_n, kL_n, wL_n, n01, mwo, M_keys h, w1, z44, hps]
          rw [e157_16]
          simp (disch := first | omega | exact tl_l | exact tT_len | (simp only [List.length_cons, List.length_nil])) only [e157_0, e157_1, e157_2, e157_5, e157_6, e157_9, e157_10, e157_11, e157_14, e157_15, e157_17, e157_20, e157_21, e157_22, e157_25, e157_26, e157_29, e157_30, e157_32, e157_35, e157_36, e157_39, e157_40, e157_43, e157_46, e157_47, e157_48, e157_51, e157_52, e157_53, e157_54, e157_55, e157_58, e157_61, e157_62, e157_65, e157_66, e157_68, e157_69, e157_72, e157_75, e157_76, e157_79, e157_80, e157_83, e157_84, e157_85, e157_86, e157_87, e157_88, e157_91, e157_92, e157_93, e157_94, e157_95, e157_96, e157_97, e157_98, e157_99, e157_100, e157_103, e157_104, e157_105, e157_106, e157_107, e157_110, e157_113, e157_116, e157_117, e157_120, e157_122, e157_125, e157_128, e157_129, e157_130, e157_133, e157_136, e157_139, e157_140, e157_141, e157_142, e157_145, e157_146, e157_147, e157_150, e157_151, e157_154, e157_155, e157_156, e157_159, e157_160, e157_163, e157_164, e157_165, e157_166, e157_167, e157_170, e157_171, e157_174, kv_s, kh_s, kr_s, kr_v, kn_s, z0, z1, z2, nI_ltI, nI_leI, nI_eq, nI_add, oN, bz0, bz1, bw0, bw1, ltT, ltF, leT, leF, eqT, eqF, if_true, if_false, kI_n, wI_n, and_true, true_and, and_false, false_and, not_true, not_false_eq_true, mwo, mwr_0, mwr_1, mwr_2, mwg_3, mwp_3, mwr_4, mwg_5, mwp_5, mwg_6, mwp_6, mwr_7, mwr_8, mwg_9, mwp_9, mwg_10, mwp_10, mwg_11, mwp_11, mwr_12, mwg_13, mwp_13, mwr_14, mwr_15, mwr_16, mwr_17, mwr_18, mwr_19, mwg_20, mwp_20, mwr_21, mwr_22, mwr_23, mwa_1, mwu_1, mwa_2, mwu_2, mwa_3, mwu_3, mwa_4, mwu_4, mwa_5, mwu_5, mwa_6, mwu_6, mwa_7, mwu_7, mwa_8, mwu_8, mwa_9, mwu_9, mwa_10, mwu_10, mwa_11, mwu_11, mwa_12, mwu_12, mwa_13, mwu_13, mwa_14, mwu_14, mwa_15, mwu_15, mwa_16, mwu_16, vu_at, vu_ne, pk_us, pk_un, kB_n, wB_n, kL_n, wL_n, mwo, hwr, mt_11, fl]
theorem M_map_loop {e : Nat} (he : e ≤ 8) {l2 : Value} : ∀ (k : Nat) (L : List (Nat × Nat)) (p : Nat) (A : Nat → Nat → Int32) (I : Nat → Int32), MB A n B → RP (A 7) L → I 13 = nI L.length → PI (2 ^ e) false L → L.length ≤ p → p ≤ n → n < p + k → (∀ q, pt n B (2 ^ e) false 40 k L p = .inl q → ∃ A' I' p', den 142 25 [.ref m, .int (nI e), l2] [] (mw σ m A R (mt I n p none)) = some (some (.int (-nI 1 - nI q)), mw σ m A' R (mt I' n p' (some q))) ∧ (∀ j, j ≠ 7 → A' j = A j) ∧ ∀ j, j ≠ 13 → I' j = I j) ∧ ∀ L', pt n B (2 ^ e) false 40 k L p = .inr L' → ∃ A' I', den 142 25 [.ref m, .int (nI e), l2] [] (mw σ m A R (mt I n p none)) = den 142 100 [.ref m, .int (nI e), l2] [] (mw σ m A' R (mt I' n n none)) ∧ RP (A' 7) L' ∧ I' 13 = nI L'.length ∧ L'.length ≤ n ∧ PI (2 ^ e) false L' ∧ (∀ j, j ≠ 7 → A' j = A j) ∧ ∀ j, j ≠ 13 → I' j = I j := by
  have hK : 2 ^ e ≤ 256 := Nat.pow_le_pow_right (by omega) he
  intro k
  induction k with
  | zero => intro L p A I hB hL hI hm hl hp hk; omega
  | succ k ih =>
    intro L p A I hB hL hI hm hl hp hk
    have hn := hB.1
    have hh := M_here (σ := σ) (m := m) (R := R) (I := I) (e := none) hB hp
    have hwr := M_wasRight0 (σ := σ) (m := m) (A := A) (R := R) (I := I) hp hn
    have h13 : ∀ p e, mt I n p e 13 = nI L.length := fun p e => (mt_o (by omega)).trans hI
    rw [pt]
    by_cases h1 : p = n
    · rw [if_pos h1]
      rw [if_neg (fun z => by omega)] at hh hwr
      refine ⟨fun q z => (by cases z), fun L' z => ?_⟩
      cases z
      refine ⟨A, I, ?_, hL, hI, by omega, hm, fun _ _ => rfl, fun _ _ => rfl⟩
      rw [h1] at hh hwr ⊢
      rw [e142_25]
      simp (disch := first | omega | exact tl_l | exact tT_len | (simp only [List.length_cons, List.length_nil])) only [e142_0, e142_1, e142_2, e142_5, e142_6, e142_9, e142_10, e142_11, e142_14, e142_15, e142_17, e142_19, e142_22, e142_23, e142_24, e142_26, e142_29, e142_32, e142_33, e142_36, e142_38, e142_41, e142_42, e142_45, e142_47, e142_50, e142_51, e142_52, e142_55, e142_58, e142_59, e142_60, e142_63, e142_64, e142_65, e142_68, e142_69, e142_72, e142_75, e142_76, e142_77, e142_78, e142_79, e142_80, e142_83, e142_86, e142_87, e142_90, e142_93, e142_94, e142_95, e142_98, e142_99, e142_100, e142_101, e142_103, e142_106, e142_109, e142_110, e142_113, e142_114, e142_115, e142_116, e142_119, e142_122, e142_123, e142_126, e142_127, e142_128, e142_129, e142_130, e142_133, e142_134, e142_135, e142_136, e142_137, e142_139, e142_140, e142_143, e142_146, e142_147, e142_150, e142_151, e142_152, e142_155, e142_156, e142_157, e142_158, e142_159, e142_160, e142_161, e142_164, e142_165, e142_166, e142_167, e142_168, e142_169, e142_170, e142_171, e142_174, e142_177, e142_178, e142_181, e142_182, e142_183, e142_184, e142_185, e142_188, kv_s, kh_s, kr_s, kr_v, kn_s, z0, z1, z2, nI_ltI, nI_leI, nI_eq, nI_add, oN, bz0, bz1, bw0, bw1, ltT, ltF, leT, leF, eqT, eqF, if_true, if_false, kI_n, wI_n, and_true, true_and, and_false, false_and, not_true, not_false_eq_true, mwo, mwr_0, mwr_1, mwr_2, mwg_3, mwp_3, mwr_4, mwg_5, mwp_5, mwg_6, mwp_6, mwr_7, mwr_8, mwg_9, mwp_9, mwg_10, mwp_10, mwg_11, mwp_11, mwr_12, mwg_13, mwp_13, mwr_14, mwr_15, mwr_16, mwr_17, mwr_18, mwr_19, mwg_20, mwp_20, mwr_21, mwr_22, mwr_23, mwa_1, mwu_1, mwa_2, mwu_2, mwa_3, mwu_3, mwa_4, mwu_4, mwa_5, mwu_5, mwa_6, mwu_6, mwa_7, mwu_7, mwa_8, mwu_8, mwa_9, mwu_9, mwa_10, mwu_10, mwa_11, mwu_11, mwa_12, mwu_12, mwa_13, mwu_13, mwa_14, mwu_14, mwa_15, mwu_15, mwa_16, mwu_16, vu_at, vu_ne, pk_us, pk_un, kB_n, wB_n, kL_n, wL_n, mwo, M_fine0, n01, hh, z44, n1_nI, hwr]
    · rw [if_neg h1]
      have hlt : p < n := by omega
      rw [if_pos hlt] at hh hwr
      have hb2 := (hB.2 p hlt).2
      by_cases h2 : B p = 44
      · rw [h2] at hh
        by_cases hcap : L.length = 40
        · rw [if_pos hcap]
          refine ⟨fun q z => ?_, fun L' z => (by cases z)⟩
          cases z
          refine ⟨A, I, p + 1, ?_, fun _ _ => rfl, fun _ _ => rfl⟩
          have f1 := M_fine1 (σ := σ) (m := m) (A := A) (R := R) (I := I) (n := n) (p := p + 1) (q := p) (by omega)
          have w1 := M_wasRight1 (σ := σ) (m := m) (A := A) (R := R) (I := I) (n := n) (p := p + 1) (q := p) (by omega) (by omega) hn
          have h13' := h13 p none
          rw [hcap] at h13'
          rw [e142_25]
          simp (disch := first | omega | exact tl_l | exact tT_len | (simp only [List.length_cons, List.length_nil])) only [e142_0, e142_1, e142_2, e142_5, e142_6, e142_9, e142_10, e142_11, e142_14, e142_15, e142_17, e142_19, e142_22, e142_23, e142_24, e142_26, e142_29, e142_32, e142_33, e142_36, e142_38, e142_41, e142_42, e142_45, e142_47, e142_50, e142_51, e142_52, e142_55, e142_58, e142_59, e142_60, e142_63, e142_64, e142_65, e142_68, e142_69, e142_72, e142_75, e142_76, e142_77, e142_78, e142_79, e142_80, e142_83, e142_86, e142_87, e142_90, e142_93, e142_94, e142_95, e142_98, e142_99, e142_100, e142_101, e142_103, e142_106, e142_109, e142_110, e142_113, e142_114, e142_115, e142_116, e142_119, e142_122, e142_123, e142_126, e142_127, e142_128, e142_129, e142_130, e142_133, e142_134, e142_135, e142_136, e142_137, e142_139, e142_140, e142_143, e142_146, e142_147, e142_150, e142_151, e142_152, e142_155, e142_156, e142_157, e142_158, e142_159, e142_160, e142_161, e142_164, e142_165, e142_166, e142_167, e142_168, e142_169, e142_170, e142_171, e142_174, e142_177, e142_178, e142_181, e142_182, e142_183, e142_184, e142_185, e142_188, kv_s, kh_s, kr_s, kr_v, kn_s, z0, z1, z2, nI_ltI, nI_leI, nI_eq, nI_add, oN, bz0, bz1, bw0, bw1, ltT, ltF, leT, leF, eqT, eqF, if_true, if_false, kI_n, wI_n, and_true, true_and, and_false, false_and, not_true, not_false_eq_true, mwo, mwr_0, mwr_1, mwr_2, mwg_3, mwp_3, mwr_4, mwg_5, mwp_5, mwg_6, mwp_6, mwr_7, mwr_8, mwg_9, mwp_9, mwg_10, mwp_10, mwg_11, mwp_11, mwr_12, mwg_13, mwp_13, mwr_14, mwr_15, mwr_16, mwr_17, mwr_18, mwr_19, mwg_20, mwp_20, mwr_21, mwr_22, mwr_23, mwa_1, mwu_1, mwa_2, mwu_2, mwa_3, mwu_3, mwa_4, mwu_4, mwa_5, mwu_5, mwa_6, mwu_6, mwa_7, mwu_7, mwa_8, mwu_8, mwa_9, mwu_9, mwa_10, mwu_10, mwa_11, mwu_11, mwa_12, mwu_12, mwa_13, mwu_13, mwa_14, mwu_14, mwa_15, mwu_15, mwa_16, mwu_16, vu_at, vu_ne, pk_us, pk_un, kB_n, wB_n, kL_n, wL_n, M_fine0, n01, hh, z44, z40, h13', mt_10, M_fault0, mt_p, f1]
          rw [e142_25]
          simp (disch := first | omega | exact tl_l | exact tT_len | (simp only [List.length_cons, List.length_nil])) only [e142_0, e142_1, e142_2, e142_5, e142_6, e142_9, e142_10, e142_11, e142_14, e142_15, e142_17, e142_19, e142_22, e142_23, e142_24, e142_26, e142_29, e142_32, e142_33, e142_36, e142_38, e142_41, e142_42, e142_45, e142_47, e142_50, e142_51, e142_52, e142_55, e142_58, e142_59, e142_60, e142_63, e142_64, e142_65, e142_68, e142_69, e142_72, e142_75, e142_76, e142_77, e142_78, e142_79, e142_80, e142_83, e142_86, e142_87, e142_90, e142_93, e142_94, e142_95, e142_98, e142_99, e142_100, e142_101, e142_103, e142_106, e142_109, e142_110, e142_113, e142_114, e142_115, e142_116, e142_119, e142_122, e142_123, e142_126, e142_127, e142_128, e142_129, e142_130, e142_133, e142_134, e142_135, e142_136, e142_137, e142_139, e142_140, e142_143, e142_146, e142_147, e142_150, e142_151, e142_152, e142_155, e142_156, e142_157, e142_158, e142_159, e142_160, e142_161, e142_164, e142_165, e142_166, e142_167, e142_168, e142_169, e142_170, e142_171, e142_174, e142_177, e142_178, e142_181, e142_182, e142_183, e142_184, e142_185, e142_188, kv_s, kh_s, kr_s, kr_v, kn_s, z0, z1, z2, nI_ltI, nI_leI, nI_eq, nI_add, oN, bz0, bz1, bw0, bw1, ltT, ltF, leT, leF, eqT, eqF, if_true, if_false, kI_n, wI_n, and_true, true_and, and_false, false_and, not_true, not_false_eq_true, mwo, mwr_0, mwr_1, mwr_2, mwg_3, mwp_3, mwr_4, mwg_5, mwp_5, mwg_6, mwp_6, mwr_7, mwr_8, mwg_9, mwp_9, mwg_10, mwp_10, mwg_11, mwp_11, mwr_12, mwg_13, mwp_13, mwr_14, mwr_15, mwr_16, mwr_17, mwr_18, mwr_19, mwg_20, mwp_20, mwr_21, mwr_22, mwr_23, mwa_1, mwu_1, mwa_2, mwu_2, mwa_3, mwu_3, mwa_4, mwu_4, mwa_5, mwu_5, mwa_6, mwu_6, mwa_7, mwu_7, mwa_8, mwu_8, mwa_9, mwu_9, mwa_10, mwu_10, mwa_11, mwu_11, mwa_12, mwu_12, mwa_13, mwu_13, mwa_14, mwu_14, mwa_15, mwu_15, mwa_16, mwu_16, vu_at, vu_ne, pk_us, pk_un, kB_n, wB_n, kL_n, wL_n, f1, w1, mt_11, fl]
        · rw [if_neg hcap, if_pos h2]
          obtain ⟨r1, r2⟩ := M_pair (σ := σ) (m := m) (R := R) (I := I) hB (show p + 1 ≤ n by omega) hL (by omega) hI (fun y hy => by have := (hm.2 y hy).1; omega) hK (z := false)
          have hbd := rp_bd (n := n) (B := B) (K := 2 ^ e) (z := false) (L := L.map Prod.fst) (show p + 1 ≤ n by omega)
          have h13' := h13 p none
          cases hr : rp n B (2 ^ e) false (L.map Prod.fst) (p + 1) with
          | inl q0 =>
            obtain ⟨A', p', w1, w2, w3⟩ := r1 q0 hr
            have hq := hbd.1 q0 hr
            have hq8 : q0 ≤ 80 := by omega
            have w1 : dcall 148 [.ref m, .int (nI (2 ^ e)), .int (nI 0)] (mw σ m A R (mt I n (p + 1) none)) = some (none, mw σ m A' R (mt (upd I 13 (nI (L.length + 1))) n p' (some q0))) := w1
            refine ⟨fun q z => ?_, fun L' z => (by cases z)⟩
            cases z
            refine ⟨A', upd I 13 (nI (L.length + 1)), p', ?_, w3, fun j hj => pk_un hj⟩
            rw [e142_25]
            simp (disch := first | omega | exact tl_l | exact tT_len | (simp only [List.length_cons, List.length_nil])) only [e142_0, e142_1, e142_2, e142_5, e142_6, e142_9, e142_10, e142_11, e142_14, e142_15, e142_17, e142_19, e142_22, e142_23, e142_24, e142_26, e142_29, e142_32, e142_33, e142_36, e142_38, e142_41, e142_42, e142_45, e142_47, e142_50, e142_51, e142_52, e142_55, e142_58, e142_59, e142_60, e142_63, e142_64, e142_65, e142_68, e142_69, e142_72, e142_75, e142_76, e142_77, e142_78, e142_79, e142_80, e142_83, e142_86, e142_87, e142_90, e142_93, e142_94, e142_95, e142_98, e142_99, e142_100, e142_101, e142_103, e142_106, e142_109, e142_110, e142_113, e142_114, e142_115, e142_116, e142_119, e142_122, e142_123, e142_126, e142_127, e142_128, e142_129, e142_130, e142_133, e142_134, e142_135, e142_136, e142_137, e142_139, e142_140, e142_143, e142_146, e142_147, e142_150, e142_151, e142_152, e142_155, e142_156, e142_157, e142_158, e142_159, e142_160, e142_161, e142_164, e142_165, e142_166, e142_167, e142_168, e142_169, e142_170, e142_171, e142_174, e142_177, e142_178, e142_181, e142_182, e142_183, e142_184, e142_185, e142_188, kv_s, kh_s, kr_s, kr_v, kn_s, z0, z1, z2, nI_ltI, nI_leI, nI_eq, nI_add, oN, bz0, bz1, bw0, bw1, ltT, ltF, leT, leF, eqT, eqF, if_true, if_false, kI_n, wI_n, and_true, true_and, and_false, false_and, not_true, not_false_eq_true, mwo, mwr_0, mwr_1, mwr_2, mwg_3, mwp_3, mwr_4, mwg_5, mwp_5, mwg_6, mwp_6, mwr_7, mwr_8, mwg_9, mwp_9, mwg_10, mwp_10, mwg_11, mwp_11, mwr_12, mwg_13, mwp_13, mwr_14, mwr_15, mwr_16, mwr_17, mwr_18, mwr_19, mwg_20, mwp_20, mwr_21, mwr_22, mwr_23, mwa_1, mwu_1, mwa_2, mwu_2, mwa_3, mwu_3, mwa_4, mwu_4, mwa_5, mwu_5, mwa_6, mwu_6, mwa_7, mwu_7, mwa_8, mwu_8, mwa_9, mwu_9, mwa_10, mwu_10, mwa_11, mwu_11, mwa_12, mwu_12, mwa_13, mwu_13, mwa_14, mwu_14, mwa_15, mwu_15, mwa_16, mwu_16, vu_at, vu_ne, pk_us, pk_un, kB_n, wB_n, kL_n, wL_n, M_fine0, n01, hh, z44, z40, h13', hcap, mt_10, mt_p, shl_nI, w1]
            rw [e142_25]
            simp (disch := first | omega | exact tl_l | exact tT_len | (simp only [List.length_cons, List.length_nil])) only [e142_0, e142_1, e142_2, e142_5, e142_6, e142_9, e142_10, e142_11, e142_14, e142_15, e142_17, e142_19, e142_22, e142_23, e142_24, e142_26, e142_29, e142_32, e142_33, e142_36, e142_38, e142_41, e142_42, e142_45, e142_47, e142_50, e142_51, e142_52, e142_55, e142_58, e142_59, e142_60, e142_63, e142_64, e142_65, e142_68, e142_69, e142_72, e142_75, e142_76, e142_77, e142_78, e142_79, e142_80, e142_83, e142_86, e142_87, e142_90, e142_93, e142_94, e142_95, e142_98, e142_99, e142_100, e142_101, e142_103, e142_106, e142_109, e142_110, e142_113, e142_114, e142_115, e142_116, e142_119, e142_122, e142_123, e142_126, e142_127, e142_128, e142_129, e142_130, e142_133, e142_134, e142_135, e142_136, e142_137, e142_139, e142_140, e142_143, e142_146, e142_147, e142_150, e142_151, e142_152, e142_155, e142_156, e142_157, e142_158, e142_159, e142_160, e142_161, e142_164, e142_165, e142_166, e142_167, e142_168, e142_169, e142_170, e142_171, e142_174, e142_177, e142_178, e142_181, e142_182, e142_183, e142_184, e142_185, e142_188, kv_s, kh_s, kr_s, kr_v, kn_s, z0, z1, z2, nI_ltI, nI_leI, nI_eq, nI_add, oN, bz0, bz1, bw0, bw1, ltT, ltF, leT, leF, eqT, eqF, if_true, if_false, kI_n, wI_n, and_true, true_and, and_false, false_and, not_true, not_false_eq_true, mwo, mwr_0, mwr_1, mwr_2, mwg_3, mwp_3, mwr_4, mwg_5, mwp_5, mwg_6, mwp_6, mwr_7, mwr_8, mwg_9, mwp_9, mwg_10, mwp_10, mwg_11, mwp_11, mwr_12, mwg_13, mwp_13, mwr_14, mwr_15, mwr_16, mwr_17, mwr_18, mwr_19, mwg_20, mwp_20, mwr_21, mwr_22, mwr_23, mwa_1, mwu_1, mwa_2, mwu_2, mwa_3, mwu_3, mwa_4, mwu_4, mwa_5, mwu_5, mwa_6, mwu_6, mwa_7, mwu_7, mwa_8, mwu_8, mwa_9, mwu_9, mwa_10, mwu_10, mwa_11, mwu_11, mwa_12, mwu_12, mwa_13, mwu_13, mwa_14, mwu_14, mwa_15, mwu_15, mwa_16, mwu_16, vu_at, vu_ne, pk_us, pk_un, kB_n, wB_n, kL_n, wL_n, mwo, M_fine1 hq8, M_wasRight1 hq8 w2 hn, mt_11, fl]
          | inr s0 =>
            have w1 := r2 s0 hr
            obtain ⟨c1, c2, c3⟩ := hbd.2 s0 hr
            have w1 : dcall 148 [.ref m, .int (nI (2 ^ e)), .int (nI 0)] (mw σ m A R (mt I n (p + 1) none)) = some (none, mw σ m (va_up A 7 (upd (upd (A 7) (2 * L.length) (nI s0.1.1)) (2 * L.length + 1) (nI s0.1.2))) R (mt (upd I 13 (nI (L.length + 1))) n s0.2 none)) := w1
            have hB' : MB (va_up A 7 (upd (upd (A 7) (2 * L.length) (nI s0.1.1)) (2 * L.length + 1) (nI s0.1.2))) n B := ⟨hB.1, by rw [vu_ne (by omega)]; exact hB.2⟩
            have hll : (L ++ [s0.1]).length = L.length + 1 := by rw [List.length_append]; rfl
            have hPI := hm.add (show p + 1 ≤ n by omega) hr
            have e : den 142 25 [.ref m, .int (nI e), l2] [] (mw σ m A R (mt I n p none)) = den 142 25 [.ref m, .int (nI e), l2] [] (mw σ m (va_up A 7 (upd (upd (A 7) (2 * L.length) (nI s0.1.1)) (2 * L.length + 1) (nI s0.1.2))) R (mt (upd I 13 (nI (L.length + 1))) n s0.2 none)) := by
              rw [e142_25]
              simp (disch := first | omega | exact tl_l | exact tT_len | (simp only [List.length_cons, List.length_nil])) only [e142_0, e142_1, e142_2, e142_5, e142_6, e142_9, e142_10, e142_11, e142_14, e142_15, e142_17, e142_19, e142_22, e142_23, e142_24, e142_26, e142_29, e142_32, e142_33, e142_36, e142_38, e142_41, e142_42, e142_45, e142_47, e142_50, e142_51, e142_52, e142_55, e142_58, e142_59, e142_60, e142_63, e142_64, e142_65, e142_68, e142_69, e142_72, e142_75, e142_76, e142_77, e142_78, e142_79, e142_80, e142_83, e142_86, e142_87, e142_90, e142_93, e142_94, e142_95, e142_98, e142_99, e142_100, e142_101, e142_103, e142_106, e142_109, e142_110, e142_113, e142_114, e142_115, e142_116, e142_119, e142_122, e142_123, e142_126, e142_127, e142_128, e142_129, e142_130, e142_133, e142_134, e142_135, e142_136, e142_137, e142_139, e142_140, e142_143, e142_146, e142_147, e142_150, e142_151, e142_152, e142_155, e142_156, e142_157, e142_158, e142_159, e142_160, e142_161, e142_164, e142_165, e142_166, e142_167, e142_168, e142_169, e142_170, e142_171, e142_174, e142_177, e142_178, e142_181, e142_182, e142_183, e142_184, e142_185, e142_188, kv_s, kh_s, kr_s, kr_v, kn_s, z0, z1, z2, nI_ltI, nI_leI, nI_eq, nI_add, oN, bz0, bz1, bw0, bw1, ltT, ltF, leT, leF, eqT, eqF, if_true, if_false, kI_n, wI_n, and_true, true_and, and_false, false_and, not_true, not_false_eq_true, mwo, mwr_0, mwr_1, mwr_2, mwg_3, mwp_3, mwr_4, mwg_5, mwp_5, mwg_6, mwp_6, mwr_7, mwr_8, mwg_9, mwp_9, mwg_10, mwp_10, mwg_11, mwp_11, mwr_12, mwg_13, mwp_13, mwr_14, mwr_15, mwr_16, mwr_17, mwr_18, mwr_19, mwg_20, mwp_20, mwr_21, mwr_22, mwr_23, mwa_1, mwu_1, mwa_2, mwu_2, mwa_3, mwu_3, mwa_4, mwu_4, mwa_5, mwu_5, mwa_6, mwu_6, mwa_7, mwu_7, mwa_8, mwu_8, mwa_9, mwu_9, mwa_10, mwu_10, mwa_11, mwu_11, mwa_12, mwu_12, mwa_13, mwu_13, mwa_14, mwu_14, mwa_15, mwu_15, mwa_16, mwu_16, vu_at, vu_ne, pk_us, pk_un, kB_n, wB_n, kL_n, wL_n, M_fine0, n01, hh, z44, z40, h13', hcap, mt_10, mt_p, shl_nI, w1]
            obtain ⟨i1, i2⟩ := ih (L ++ [s0.1]) s0.2 (va_up A 7 (upd (upd (A 7) (2 * L.length) (nI s0.1.1)) (2 * L.length + 1) (nI s0.1.2))) (upd I 13 (nI (L.length + 1))) hB' (by rw [vu_at]; exact hL.push) (by rw [pk_us, hll]) hPI (by omega) c2 (by omega)
            rw [e]
            refine ⟨fun q z => ?_, fun L' z => ?_⟩
            · obtain ⟨A', I', p', v1, v2, v3⟩ := i1 q z
              exact ⟨A', I', p', v1, fun j hj => (v2 j hj).trans (vu_ne hj), fun j hj => (v3 j hj).trans (pk_un hj)⟩
            · obtain ⟨A', I', v1, v2, v3, v4, v5, v6, v7⟩ := i2 L' z
              exact ⟨A', I', v1, v2, v3, v4, v5, fun j hj => (v6 j hj).trans (vu_ne hj), fun j hj => (v7 j hj).trans (pk_un hj)⟩
      · have hfin : ∃ A' I' p', den 142 25 [.ref m, .int (nI e), l2] [] (mw σ m A R (mt I n p none)) = some (some (.int (-nI 1 - nI p)), mw σ m A' R (mt I' n p' (some p))) ∧ (∀ j, j ≠ 7 → A' j = A j) ∧ ∀ j, j ≠ 13 → I' j = I j := by
          refine ⟨A, I, p, ?_, fun _ _ => rfl, fun _ _ => rfl⟩
          rw [e142_25]
          simp (disch := first | omega | exact tl_l | exact tT_len | (simp only [List.length_cons, List.length_nil])) only [e142_0, e142_1, e142_2, e142_5, e142_6, e142_9, e142_10, e142_11, e142_14, e142_15, e142_17, e142_19, e142_22, e142_23, e142_24, e142_26, e142_29, e142_32, e142_33, e142_36, e142_38, e142_41, e142_42, e142_45, e142_47, e142_50, e142_51, e142_52, e142_55, e142_58, e142_59, e142_60, e142_63, e142_64, e142_65, e142_68, e142_69, e142_72, e142_75, e142_76, e142_77, e142_78, e142_79, e142_80, e142_83, e142_86, e142_87, e142_90, e142_93, e142_94, e142_95, e142_98, e142_99, e142_100, e142_101, e142_103, e142_106, e142_109, e142_110, e142_113, e142_114, e142_115, e142_116, e142_119, e142_122, e142_123, e142_126, e142_127, e142_128, e142_129, e142_130, e142_133, e142_134, e142_135, e142_136, e142_137, e142_139, e142_140, e142_143, e142_146, e142_147, e142_150, e142_151, e142_152, e142_155, e142_156, e142_157, e142_158, e142_159, e142_160, e142_161, e142_164, e142_165, e142_166, e142_167, e142_168, e142_169, e142_170, e142_171, e142_174, e142_177, e142_178, e142_181, e142_182, e142_183, e142_184, e142_185, e142_188, kv_s, kh_s, kr_s, kr_v, kn_s, z0, z1, z2, nI_ltI, nI_leI, nI_eq, nI_add, oN, bz0, bz1, bw0, bw1, ltT, ltF, leT, leF, eqT, eqF, if_true, if_false, kI_n, wI_n, and_true, true_and, and_false, false_and, not_true, not_false_eq_true, mwo, mwr_0, mwr_1, mwr_2, mwg_3, mwp_3, mwr_4, mwg_5, mwp_5, mwg_6, mwp_6, mwr_7, mwr_8, mwg_9, mwp_9, mwg_10, mwp_10, mwg_11, mwp_11, mwr_12, mwg_13, mwp_13, mwr_14, mwr_15, mwr_16, mwr_17, mwr_18, mwr_19, mwg_20, mwp_20, mwr_21, mwr_22, mwr_23, mwa_1, mwu_1, mwa_2, mwu_2, mwa_3, mwu_3, mwa_4, mwu_4, mwa_5, mwu_5, mwa_6, mwu_6, mwa_7, mwu_7, mwa_8, mwu_8, mwa_9, mwu_9, mwa_10, mwu_10, mwa_11, mwu_11, mwa_12, mwu_12, mwa_13, mwu_13, mwa_14, mwu_14, mwa_15, mwu_15, mwa_16, mwu_16, vu_at, vu_ne, pk_us, pk_un, kB_n, wB_n, kL_n, wL_n, mwo, M_fine0, n01, hh, z44, h2, hwr, mt_11, fl]
        by_cases hcap : L.length = 40
        · rw [if_pos hcap]
          refine ⟨fun q z => ?_, fun L' z => (by cases z)⟩
          cases z
          exact hfin
        · rw [if_neg hcap, if_neg h2]
          refine ⟨fun q z => ?_, fun L' z => (by cases z)⟩
          cases z
          exact hfin
end MP
