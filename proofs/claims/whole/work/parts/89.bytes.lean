/-! reading bytes and marks -/
theorem lN_toIntB {n : Nat} (h : n < 2 ^ 63) : (lN n).toInt = (n : Int) := by
  unfold lN
  exact Int64.toInt_ofNat_of_lt h
theorem lN_negB {n : Nat} (h : n < 2 ^ 62) : (-(lN n)).toInt = -(n : Int) := by
  rw [Int64.toInt_neg, lN_toIntB (by omega)]
  apply Int.bmod_eq_of_le <;> omega
theorem fit32 {y : Int64} : (y.toInt32.toInt64 = y) ↔ (-2 ^ 31 ≤ y.toInt ∧ y.toInt < 2 ^ 31) := by
  constructor
  · intro h
    have h1 := Int32.le_toInt y.toInt32
    have h2 := Int32.toInt_lt y.toInt32
    have h3 : y.toInt32.toInt64.toInt = y.toInt32.toInt := Int32.toInt_toInt64 _
    rw [h] at h3
    omega
  · rintro ⟨h1, h2⟩
    apply Int64.toInt_inj.mp
    rw [Int32.toInt_toInt64, Int64.toInt_toInt32]
    apply Int.bmod_eq_of_le <;> omega
/-- a mark as it is told -/
def mkv (g : Bool) (v : Nat) : Int64 := if g = true then -(lN v) else lN v
def fits (g : Bool) (v : Nat) : Bool := if g = true then decide (v ≤ 2 ^ 31) else decide (v < 2 ^ 31)
theorem fits_c {g : Bool} {v : Nat} (hv : v < 2 ^ 62) : (lg_cmp (mkv g v) (mkv g v).toInt32.toInt64 = 0) ↔ fits g v = true := by
  rw [lg_cmp_eq]
  have : (mkv g v = (mkv g v).toInt32.toInt64) ↔ ((mkv g v).toInt32.toInt64 = mkv g v) := ⟨Eq.symm, Eq.symm⟩
  rw [this, fit32]
  unfold mkv fits
  cases g with
  | true => simp only [if_true, decide_eq_true_eq]; rw [lN_negB hv]; omega
  | false => simp only [Bool.false_eq_true, if_false, decide_eq_true_eq]; rw [lN_toIntB (by omega)]; omega
theorem fits_t {v : Nat} (hv : v < 2 ^ 62) : (0 ≤ lg_cmp (-(lN v)) (-2147483648)) ↔ fits true v = true := by
  rw [lg_cmp_ge, Int64.le_iff_toInt_le, lN_negB hv]
  unfold fits
  have : ((-2147483648 : Int64)).toInt = -2147483648 := by decide
  rw [this]
  simp only [if_true, decide_eq_true_eq]
  omega
theorem fits_f {v : Nat} (hv : v < 2 ^ 62) : (lg_cmp (lN v) 2147483647 ≤ 0) ↔ fits false v = true := by
  rw [lg_cmp_le, Int64.le_iff_toInt_le, lN_toIntB (by omega)]
  unfold fits
  have : ((2147483647 : Int64)).toInt = 2147483647 := by decide
  rw [this]
  simp only [Bool.false_eq_true, if_false, decide_eq_true_eq]
  omega
/-- a byte, a mark: read, or the place of a fault -/
def by1 (n : Nat) (B : Nat → Nat) (p : Nat) : Nat ⊕ (Nat × Nat) := match nm n B 3 p with
  | .inl q => .inl q
  | .inr r => if 255 < r.1 then .inl (r.2 - 1) else .inr r
def sgn (n : Nat) (B : Nat → Nat) (p : Nat) : Bool := decide (p < n ∧ B p = 45)
def mk1 (n : Nat) (B : Nat → Nat) (p : Nat) : Nat ⊕ (Nat × Nat) := match nm n B 10 (if sgn n B p = true then p + 1 else p) with
  | .inl q => .inl q
  | .inr r => if fits (sgn n B p) r.1 = true then .inr r else .inl (r.2 - 1)
theorem by1_bd {n p : Nat} {B : Nat → Nat} (hp : p ≤ n) : (∀ q, by1 n B p = .inl q → q ≤ n) ∧ ∀ r, by1 n B p = .inr r → p < r.2 ∧ r.2 ≤ n ∧ r.1 ≤ 255 := by
  obtain ⟨g1, g2⟩ := nm_bd (n := n) (B := B) (m := 3) hp
  unfold by1
  cases h : nm n B 3 p with
  | inl q => exact ⟨fun q hq => by cases hq; exact g1 _ h, fun r hr => by cases hr⟩
  | inr r =>
    obtain ⟨b1, b2, b3⟩ := g2 r h
    by_cases hc : 255 < r.1
    · simp only [hc, if_true]
      exact ⟨fun q hq => by cases hq; omega, fun r hr => by cases hr⟩
    · simp only [hc, if_false]
      exact ⟨fun q hq => (by cases hq), fun r' hr => by cases hr; exact ⟨b1, b2, by omega⟩⟩
theorem sg_bd {n p : Nat} {B : Nat → Nat} (hp : p ≤ n) : p ≤ (if sgn n B p = true then p + 1 else p) ∧ (if sgn n B p = true then p + 1 else p) ≤ n := by
  unfold sgn
  by_cases h : p < n ∧ B p = 45
  · rw [if_pos (decide_eq_true h)]; omega
  · rw [if_neg (fun z => h (of_decide_eq_true z))]; omega
theorem mk1_bd {n p : Nat} {B : Nat → Nat} (hp : p ≤ n) : (∀ q, mk1 n B p = .inl q → q ≤ n) ∧ ∀ r, mk1 n B p = .inr r → p < r.2 ∧ r.2 ≤ n := by
  obtain ⟨s1, s2⟩ := sg_bd (n := n) (B := B) hp
  obtain ⟨g1, g2⟩ := nm_bd (n := n) (B := B) (m := 10) s2
  unfold mk1
  cases h : nm n B 10 (if sgn n B p = true then p + 1 else p) with
  | inl q => exact ⟨fun q hq => by cases hq; exact g1 _ h, fun r hr => by cases hr⟩
  | inr r =>
    obtain ⟨b1, b2, b3⟩ := g2 r h
    by_cases hc : fits (sgn n B p) r.1 = true
    · simp only [hc, if_true]
      exact ⟨fun q hq => (by cases hq), fun r' hr => by cases hr; exact ⟨by omega, b2⟩⟩
    · simp only [hc, if_false]
      exact ⟨fun q hq => by cases hq; omega, fun r hr => by cases hr⟩
section BY
variable {c : Nat} {σ : Hp} {d f l : Nat} {V : Nat → Nat → Int32} {T : Nat → Option Nat} {A : Nat → Nat → Int32} {R : Nat → Int64} {I : Nat → Int32} {n : Nat} {B : Nat → Nat} {p q : Nat}
theorem nm_dig {m : Nat} (hB : isB A I n B) (hp : p ≤ n) (hm : m ≤ 10) : (∀ q, nm n B m p = .inl q → ∃ v, v < 10 ^ m ∧ dcall 34 [.ref (c + 1), .int (nI m)] (cw σ c A R (ti I p none)) = some (some (.long (lN v)), cw σ c A R (ti I q (some q)))) ∧ (∀ r, nm n B m p = .inr r → dcall 34 [.ref (c + 1), .int (nI m)] (cw σ c A R (ti I p none)) = some (some (.long (lN r.1)), cw σ c A R (ti I r.2 none))) ∧ ∀ q, q ≤ n → ∃ v p', v < 10 ^ m ∧ p' ≤ n ∧ dcall 34 [.ref (c + 1), .int (nI m)] (cw σ c A R (ti I p (some q))) = some (some (.long (lN v)), cw σ c A R (ti I p' (some q))) := by
  have hn := hB.1
  obtain ⟨g1, g2, g3⟩ := dgs_bd (n := n) (B := B) m p 0 hp
  have h1 := Tx_digits (σ := σ) (c := c) (R := R) (e := none) hB hp (fun r z => by cases z) hm
  unfold nm
  refine ⟨fun q hq => ?_, fun r hr => ?_, fun q hq => ?_⟩
  · by_cases hb : bad n B m p = true
    · rw [if_pos hb] at hq h1
      cases hq
      exact ⟨_, by omega, h1⟩
    · rw [if_neg hb] at hq; cases hq
  · by_cases hb : bad n B m p = true
    · rw [if_pos hb] at hr; cases hr
    · rw [if_neg hb] at hr h1
      cases hr
      exact h1
  · have h2 := Tx_digits (σ := σ) (c := c) (R := R) (e := some q) hB hp (fun r z => by cases z; omega) hm
    have he : (if bad n B m p = true then (some q).or (some (dgs n B m p 0).2) else some q) = some q := by split <;> rfl
    rw [he] at h2
    exact ⟨_, _, by omega, g2, h2⟩
theorem Tx_fail0 : dcall 27 [.ref (c + 1), .int (nI q)] (cw σ c A R (ti I p none)) = some (none, cw σ c A R (ti I p (some q))) := Tx_fail (fun r z => by cases z)
theorem A_byte (h : RB c σ T d f l V) (hB : isB A I n B) (hp : p ≤ n) : (∀ q, by1 n B p = .inl q → ∃ x p', p' ≤ n ∧ dcall 80 [.ref c] (cw σ c A R (ti I p none)) = some (some (.int x), cw σ c A R (ti I p' (some q)))) ∧ (∀ r, by1 n B p = .inr r → dcall 80 [.ref c] (cw σ c A R (ti I p none)) = some (some (.int (nI r.1)), cw σ c A R (ti I r.2 none))) ∧ ∀ q, q ≤ n → ∃ x p', p' ≤ n ∧ dcall 80 [.ref c] (cw σ c A R (ti I p (some q))) = some (some (.int x), cw σ c A R (ti I p' (some q))) := by
  have hn := hB.1
  obtain ⟨a1, a2, a3⟩ := nm_dig (σ := σ) (c := c) (R := R) (m := 3) hB hp (by omega)
  obtain ⟨d1, d2⟩ := nm_bd (n := n) (B := B) (m := 3) hp
  have flt : ∀ q p v, q ≤ n → v < 10 ^ 3 → den 80 10 [.ref c, .int (nI v)] [] (cw σ c A R (ti I p (some q))) = some (some (.int (nI v)), cw σ c A R (ti I p (some q))) := fun q p v hq hv => by
    by_cases hc : 255 < v
    · simp (disch := first | omega | exact tl_l | exact tT_len | (simp only [List.length_cons, List.length_nil])) only [e80_10, e80_11, e80_14, e80_17, e80_18, e80_21, e80_22, e80_25, e80_28, e80_29, e80_30, e80_33, e80_34, kv_s, kh_s, kr_s, kr_v, kn_s, z0, z1, z2, nI_ltI, nI_leI, nI_eq, nI_add, oN, bz0, bz1, bw0, bw1, ltT, ltF, leT, leF, eqT, eqF, if_true, if_false, kI_n, wI_n, and_true, true_and, and_false, false_and, not_true, not_false_eq_true, cwo_1, cwr_1, cwg_0, cwg_1, cwg_2, cwa_0, cwl_0, cwo_3, cwr_3, cwg_3, cwa_R, cwl_R, cwo_5, cwr_5, cwg_4, cwg_5, cwg_6, cwg_7, cwg_8, cwa_1, cwl_1, cwo_7, cwr_7, cwg_9, cwg_10, cwg_11, cwg_12, cwg_13, cwa_2, cwl_2, cwo_17, cwr_17, cwg_14, cwa_3, cwl_3, cwp_0, cwp_1, cwp_2, cwp_3, cwp_4, cwp_5, cwp_6, cwp_7, cwp_8, cwp_9, cwp_10, cwp_11, cwp_12, cwp_13, cwp_14, cwu_0, cwu_R, cwu_1, cwu_2, cwu_3, vu_at, vu_ne, pk_us, pk_un, h.x.f0, h.x.f1, h.x.f2, h.x.f3, h.x.f4, h.x.f5, h.x.f6, h.x.f7, h.x.o, h.hi.o, h.hi.gd, h.hi.gf, h.hi.gl, Hi_keys h.hi h.d8, Hi_hasKey h.hi h.d8, Rw_empty, Rw_add, List.nil_append, List.cons_append, upd_upd, cwo_1, cwo_3, cwo_5, cwo_7, cwo_17, Bool.false_eq_true, n01, z255, hc, ti_1, Tx_fail_some (show q < 2 ^ 31 by omega)]
    · simp (disch := first | omega | exact tl_l | exact tT_len | (simp only [List.length_cons, List.length_nil])) only [e80_10, e80_11, e80_14, e80_17, e80_18, e80_21, e80_22, e80_25, e80_28, e80_29, e80_30, e80_33, e80_34, kv_s, kh_s, kr_s, kr_v, kn_s, z0, z1, z2, nI_ltI, nI_leI, nI_eq, nI_add, oN, bz0, bz1, bw0, bw1, ltT, ltF, leT, leF, eqT, eqF, if_true, if_false, kI_n, wI_n, and_true, true_and, and_false, false_and, not_true, not_false_eq_true, z255, hc]
  unfold by1
  refine ⟨?_, ?_, fun q hq => ?_⟩
  · cases hnm : nm n B 3 p with
    | inl q0 =>
      intro q hq
      cases hq
      obtain ⟨v, v1, v2⟩ := a1 q0 hnm
      have hq := d1 q0 hnm
      refine ⟨nI v, q0, hq, ?_⟩
      rw [← flt q0 q0 v hq v1]
      rw [q80]
      simp (disch := first | omega | exact tl_l | exact tT_len | (simp only [List.length_cons, List.length_nil])) only [e80_0, e80_1, e80_4, e80_5, e80_8, e80_9, kv_s, kh_s, kr_s, kr_v, kn_s, z0, z1, z2, nI_ltI, nI_leI, nI_eq, nI_add, oN, bz0, bz1, bw0, bw1, ltT, ltF, leT, leF, eqT, eqF, if_true, if_false, kI_n, wI_n, and_true, true_and, and_false, false_and, not_true, not_false_eq_true, h.x.f0, h.x.f1, h.x.f2, h.x.f3, h.x.f4, h.x.f5, h.x.f6, h.x.f7, h.x.o, h.hi.o, h.hi.gd, h.hi.gf, h.hi.gl, Hi_keys h.hi h.d8, Hi_hasKey h.hi h.d8, Rw_empty, Rw_add, List.nil_append, List.cons_append, upd_upd, cwo_1, cwo_3, cwo_5, cwo_7, cwo_17, Bool.false_eq_true, n01, z3, v2, lN_i]
    | inr r0 =>
      intro q hq
      obtain ⟨b1, b2, b3⟩ := d2 r0 hnm
      by_cases hc : 255 < r0.1
      · simp only [hc, if_true] at hq
        cases hq
        have e1 : nI r0.2 - nI 1 = nI (r0.2 - 1) := pk_sub (by omega)
        refine ⟨nI r0.1, r0.2, b2, ?_⟩
        rw [q80]
        simp (disch := first | omega | exact tl_l | exact tT_len | (simp only [List.length_cons, List.length_nil])) only [e80_0, e80_1, e80_4, e80_5, e80_8, e80_9, e80_10, e80_11, e80_14, e80_17, e80_18, e80_21, e80_22, e80_25, e80_28, e80_29, e80_30, e80_33, e80_34, kv_s, kh_s, kr_s, kr_v, kn_s, z0, z1, z2, nI_ltI, nI_leI, nI_eq, nI_add, oN, bz0, bz1, bw0, bw1, ltT, ltF, leT, leF, eqT, eqF, if_true, if_false, kI_n, wI_n, and_true, true_and, and_false, false_and, not_true, not_false_eq_true, cwo_1, cwr_1, cwg_0, cwg_1, cwg_2, cwa_0, cwl_0, cwo_3, cwr_3, cwg_3, cwa_R, cwl_R, cwo_5, cwr_5, cwg_4, cwg_5, cwg_6, cwg_7, cwg_8, cwa_1, cwl_1, cwo_7, cwr_7, cwg_9, cwg_10, cwg_11, cwg_12, cwg_13, cwa_2, cwl_2, cwo_17, cwr_17, cwg_14, cwa_3, cwl_3, cwp_0, cwp_1, cwp_2, cwp_3, cwp_4, cwp_5, cwp_6, cwp_7, cwp_8, cwp_9, cwp_10, cwp_11, cwp_12, cwp_13, cwp_14, cwu_0, cwu_R, cwu_1, cwu_2, cwu_3, vu_at, vu_ne, pk_us, pk_un, h.x.f0, h.x.f1, h.x.f2, h.x.f3, h.x.f4, h.x.f5, h.x.f6, h.x.f7, h.x.o, h.hi.o, h.hi.gd, h.hi.gf, h.hi.gl, Hi_keys h.hi h.d8, Hi_hasKey h.hi h.d8, Rw_empty, Rw_add, List.nil_append, List.cons_append, upd_upd, cwo_1, cwo_3, cwo_5, cwo_7, cwo_17, Bool.false_eq_true, n01, z3, a2 r0 hnm, lN_i, z255, hc, ti_1, e1, Tx_fail0]
      · simp only [hc, if_false] at hq; cases hq
  · cases hnm : nm n B 3 p with
    | inl q0 => intro r hr; cases hr
    | inr r0 =>
      intro r hr
      obtain ⟨b1, b2, b3⟩ := d2 r0 hnm
      by_cases hc : 255 < r0.1
      · simp only [hc, if_true] at hr; cases hr
      · simp only [hc, if_false] at hr
        cases hr
        rw [q80]
        simp (disch := first | omega | exact tl_l | exact tT_len | (simp only [List.length_cons, List.length_nil])) only [e80_0, e80_1, e80_4, e80_5, e80_8, e80_9, e80_10, e80_11, e80_14, e80_17, e80_18, e80_21, e80_22, e80_25, e80_28, e80_29, e80_30, e80_33, e80_34, kv_s, kh_s, kr_s, kr_v, kn_s, z0, z1, z2, nI_ltI, nI_leI, nI_eq, nI_add, oN, bz0, bz1, bw0, bw1, ltT, ltF, leT, leF, eqT, eqF, if_true, if_false, kI_n, wI_n, and_true, true_and, and_false, false_and, not_true, not_false_eq_true, cwo_1, cwr_1, cwg_0, cwg_1, cwg_2, cwa_0, cwl_0, cwo_3, cwr_3, cwg_3, cwa_R, cwl_R, cwo_5, cwr_5, cwg_4, cwg_5, cwg_6, cwg_7, cwg_8, cwa_1, cwl_1, cwo_7, cwr_7, cwg_9, cwg_10, cwg_11, cwg_12, cwg_13, cwa_2, cwl_2, cwo_17, cwr_17, cwg_14, cwa_3, cwl_3, cwp_0, cwp_1, cwp_2, cwp_3, cwp_4, cwp_5, cwp_6, cwp_7, cwp_8, cwp_9, cwp_10, cwp_11, cwp_12, cwp_13, cwp_14, cwu_0, cwu_R, cwu_1, cwu_2, cwu_3, vu_at, vu_ne, pk_us, pk_un, h.x.f0, h.x.f1, h.x.f2, h.x.f3, h.x.f4, h.x.f5, h.x.f6, h.x.f7, h.x.o, h.hi.o, h.hi.gd, h.hi.gf, h.hi.gl, Hi_keys h.hi h.d8, Hi_hasKey h.hi h.d8, Rw_empty, Rw_add, List.nil_append, List.cons_append, upd_upd, cwo_1, cwo_3, cwo_5, cwo_7, cwo_17, Bool.false_eq_true, n01, z3, a2 r0 hnm, lN_i, z255, hc]
  · obtain ⟨v, p', v1, v2, v3⟩ := a3 q hq
    refine ⟨nI v, p', v2, ?_⟩
    rw [← flt q p' v hq v1]
    rw [q80]
    simp (disch := first | omega | exact tl_l | exact tT_len | (simp only [List.length_cons, List.length_nil])) only [e80_0, e80_1, e80_4, e80_5, e80_8, e80_9, kv_s, kh_s, kr_s, kr_v, kn_s, z0, z1, z2, nI_ltI, nI_leI, nI_eq, nI_add, oN, bz0, bz1, bw0, bw1, ltT, ltF, leT, leF, eqT, eqF, if_true, if_false, kI_n, wI_n, and_true, true_and, and_false, false_and, not_true, not_false_eq_true, h.x.f0, h.x.f1, h.x.f2, h.x.f3, h.x.f4, h.x.f5, h.x.f6, h.x.f7, h.x.o, h.hi.o, h.hi.gd, h.hi.gf, h.hi.gl, Hi_keys h.hi h.d8, Hi_hasKey h.hi h.d8, Rw_empty, Rw_add, List.nil_append, List.cons_append, upd_upd, cwo_1, cwo_3, cwo_5, cwo_7, cwo_17, Bool.false_eq_true, n01, z3, v3, lN_i]
theorem A_mark (h : RB c σ T d f l V) (hB : isB A I n B) (hp : p ≤ n) : (∀ q, mk1 n B p = .inl q → ∃ x p', p' ≤ n ∧ dcall 81 [.ref c] (cw σ c A R (ti I p none)) = some (some (.int x), cw σ c A R (ti I p' (some q)))) ∧ (∀ r, mk1 n B p = .inr r → dcall 81 [.ref c] (cw σ c A R (ti I p none)) = some (some (.int (mkv (sgn n B p) r.1).toInt32), cw σ c A R (ti I r.2 none))) ∧ ∀ q, q ≤ n → ∃ x p', p' ≤ n ∧ dcall 81 [.ref c] (cw σ c A R (ti I p (some q))) = some (some (.int x), cw σ c A R (ti I p' (some q))) := by
  have hn := hB.1
  obtain ⟨s1, s2⟩ := sg_bd (n := n) (B := B) hp
  obtain ⟨a1, a2, a3⟩ := nm_dig (σ := σ) (c := c) (R := R) (m := 10) hB s2 (by omega)
  obtain ⟨d1, d2⟩ := nm_bd (n := n) (B := B) (m := 10) s2
  have hps : ∀ e, dcall 31 [.ref (c + 1), .int (nI 45)] (cw σ c A R (ti I p e)) = some (some (.int (bI (sgn n B p))), cw σ c A R (ti I (if sgn n B p = true then p + 1 else p) e)) := fun e => by
    rw [Tx_pass hB hp (by omega)]
    unfold sgn bI
    by_cases hc : p < n ∧ B p = 45
    · rw [if_pos hc, if_pos hc, if_pos (decide_eq_true hc), if_pos (decide_eq_true hc)]
    · rw [if_neg hc, if_neg hc, if_neg (fun z => hc (of_decide_eq_true z)), if_neg (fun z => hc (of_decide_eq_true z))]
  have mid : ∀ v e p', den 81 20 [.ref c, .int (bI (sgn n B p)), .long (lN v), secd, junk, junk] [] (cw σ c A R (ti I p' e)) = den 81 32 [.ref c, .int (bI (sgn n B p)), .long (lN v), secd, .long (mkv (sgn n B p) v), secd] [] (cw σ c A R (ti I p' e)) := fun v e p' => by
    cases hs : sgn n B p with
    | true => simp (disch := first | omega | exact tl_l | exact tT_len | (simp only [List.length_cons, List.length_nil])) only [e81_20, e81_21, e81_24, e81_25, e81_26, e81_29, e81_30, kv_s, kh_s, kr_s, kr_v, kn_s, z0, z1, z2, nI_ltI, nI_leI, nI_eq, nI_add, oN, bz0, bz1, bw0, bw1, ltT, ltF, leT, leF, eqT, eqF, if_true, if_false, kI_n, wI_n, and_true, true_and, and_false, false_and, not_true, not_false_eq_true, bI, n01, mkv]
    | false => simp (disch := first | omega | exact tl_l | exact tT_len | (simp only [List.length_cons, List.length_nil])) only [e81_20, e81_21, e81_24, e81_25, e81_26, e81_29, e81_30, kv_s, kh_s, kr_s, kr_v, kn_s, z0, z1, z2, nI_ltI, nI_leI, nI_eq, nI_add, oN, bz0, bz1, bw0, bw1, ltT, ltF, leT, leF, eqT, eqF, if_true, if_false, kI_n, wI_n, and_true, true_and, and_false, false_and, not_true, not_false_eq_true, bI, Bool.false_eq_true, mkv]
  have flt : ∀ q p' v, q ≤ n → v < 10 ^ 10 → den 81 32 [.ref c, .int (bI (sgn n B p)), .long (lN v), secd, .long (mkv (sgn n B p) v), secd] [] (cw σ c A R (ti I p' (some q))) = some (some (.int (mkv (sgn n B p) v).toInt32), cw σ c A R (ti I p' (some q))) := fun q p' v hq hv => by
    have hcm := fits_c (g := sgn n B p) (v := v) (by omega)
    by_cases hc : fits (sgn n B p) v = true
    · have hc' := hcm.mpr hc
      simp (disch := first | omega | exact tl_l | exact tT_len | (simp only [List.length_cons, List.length_nil])) only [e81_32, e81_34, e81_36, e81_37, e81_38, e81_39, e81_42, e81_43, e81_46, e81_47, e81_50, e81_53, e81_54, e81_55, e81_58, e81_60, e81_61, hc', if_true]
    · have hc' : ¬ lg_cmp (mkv (sgn n B p) v) (mkv (sgn n B p) v).toInt32.toInt64 = 0 := fun z => hc (hcm.mp z)
      simp (disch := first | omega | exact tl_l | exact tT_len | (simp only [List.length_cons, List.length_nil])) only [e81_32, e81_34, e81_36, e81_37, e81_38, e81_39, e81_42, e81_43, e81_46, e81_47, e81_50, e81_53, e81_54, e81_55, e81_58, e81_60, e81_61, kv_s, kh_s, kr_s, kr_v, kn_s, z1, cwo_1, cwr_1, cwg_0, cwg_1, cwg_2, cwa_0, cwl_0, cwo_3, cwr_3, cwg_3, cwa_R, cwl_R, cwo_5, cwr_5, cwg_4, cwg_5, cwg_6, cwg_7, cwg_8, cwa_1, cwl_1, cwo_7, cwr_7, cwg_9, cwg_10, cwg_11, cwg_12, cwg_13, cwa_2, cwl_2, cwo_17, cwr_17, cwg_14, cwa_3, cwl_3, cwp_0, cwp_1, cwp_2, cwp_3, cwp_4, cwp_5, cwp_6, cwp_7, cwp_8, cwp_9, cwp_10, cwp_11, cwp_12, cwp_13, cwp_14, cwu_0, cwu_R, cwu_1, cwu_2, cwu_3, vu_at, vu_ne, pk_us, pk_un, h.x.f0, h.x.f1, h.x.f2, h.x.f3, h.x.f4, h.x.f5, h.x.f6, h.x.f7, h.x.o, h.hi.o, h.hi.gd, h.hi.gf, h.hi.gl, Hi_keys h.hi h.d8, Hi_hasKey h.hi h.d8, Rw_empty, Rw_add, List.nil_append, List.cons_append, upd_upd, cwo_1, cwo_3, cwo_5, cwo_7, cwo_17, Bool.false_eq_true, n01, hc', if_false, if_true, ti_1, Tx_fail_some (show q < 2 ^ 31 by omega)]
  have pre : ∀ e v e' p', dcall 34 [.ref (c + 1), .int (nI 10)] (cw σ c A R (ti I (if sgn n B p = true then p + 1 else p) e)) = some (some (.long (lN v)), cw σ c A R (ti I p' e')) → dcall 81 [.ref c] (cw σ c A R (ti I p e)) = den 81 32 [.ref c, .int (bI (sgn n B p)), .long (lN v), secd, .long (mkv (sgn n B p) v), secd] [] (cw σ c A R (ti I p' e')) := fun e v e' p' hd => by
    rw [← mid]
    rw [q81]
    simp (disch := first | omega | exact tl_l | exact tT_len | (simp only [List.length_cons, List.length_nil])) only [e81_0, e81_1, e81_4, e81_6, e81_9, e81_10, e81_11, e81_14, e81_16, e81_19, kv_s, kh_s, kr_s, kr_v, kn_s, z0, z1, z2, nI_ltI, nI_leI, nI_eq, nI_add, oN, bz0, bz1, bw0, bw1, ltT, ltF, leT, leF, eqT, eqF, if_true, if_false, kI_n, wI_n, and_true, true_and, and_false, false_and, not_true, not_false_eq_true, h.x.f0, h.x.f1, h.x.f2, h.x.f3, h.x.f4, h.x.f5, h.x.f6, h.x.f7, h.x.o, h.hi.o, h.hi.gd, h.hi.gf, h.hi.gl, Hi_keys h.hi h.d8, Hi_hasKey h.hi h.d8, Rw_empty, Rw_add, List.nil_append, List.cons_append, upd_upd, cwo_1, cwo_3, cwo_5, cwo_7, cwo_17, Bool.false_eq_true, n01, z45, z10, hps, hd]
  unfold mk1
  refine ⟨?_, ?_, fun q hq => ?_⟩
  · cases hnm : nm n B 10 (if sgn n B p = true then p + 1 else p) with
    | inl q0 =>
      intro q hq
      cases hq
      obtain ⟨v, v1, v2⟩ := a1 q0 hnm
      have hq := d1 q0 hnm
      exact ⟨_, q0, hq, (pre _ _ _ _ v2).trans (flt q0 q0 v hq v1)⟩
    | inr r0 =>
      intro q hq
      obtain ⟨b1, b2, b3⟩ := d2 r0 hnm
      by_cases hc : fits (sgn n B p) r0.1 = true
      · simp only [hc, if_true] at hq; cases hq
      · simp only [hc, if_false] at hq
        cases hq
        have e1 : nI r0.2 - nI 1 = nI (r0.2 - 1) := pk_sub (by omega)
        have hcm := fits_c (g := sgn n B p) (v := r0.1) (by omega)
        have hc' : ¬ lg_cmp (mkv (sgn n B p) r0.1) (mkv (sgn n B p) r0.1).toInt32.toInt64 = 0 := fun z => hc (hcm.mp z)
        refine ⟨(mkv (sgn n B p) r0.1).toInt32, r0.2, b2, (pre _ _ _ _ (a2 r0 hnm)).trans ?_⟩
        simp (disch := first | omega | exact tl_l | exact tT_len | (simp only [List.length_cons, List.length_nil])) only [e81_32, e81_34, e81_36, e81_37, e81_38, e81_39, e81_42, e81_43, e81_46, e81_47, e81_50, e81_53, e81_54, e81_55, e81_58, e81_60, e81_61, kv_s, kh_s, kr_s, kr_v, kn_s, z1, cwo_1, cwr_1, cwg_0, cwg_1, cwg_2, cwa_0, cwl_0, cwo_3, cwr_3, cwg_3, cwa_R, cwl_R, cwo_5, cwr_5, cwg_4, cwg_5, cwg_6, cwg_7, cwg_8, cwa_1, cwl_1, cwo_7, cwr_7, cwg_9, cwg_10, cwg_11, cwg_12, cwg_13, cwa_2, cwl_2, cwo_17, cwr_17, cwg_14, cwa_3, cwl_3, cwp_0, cwp_1, cwp_2, cwp_3, cwp_4, cwp_5, cwp_6, cwp_7, cwp_8, cwp_9, cwp_10, cwp_11, cwp_12, cwp_13, cwp_14, cwu_0, cwu_R, cwu_1, cwu_2, cwu_3, vu_at, vu_ne, pk_us, pk_un, h.x.f0, h.x.f1, h.x.f2, h.x.f3, h.x.f4, h.x.f5, h.x.f6, h.x.f7, h.x.o, h.hi.o, h.hi.gd, h.hi.gf, h.hi.gl, Hi_keys h.hi h.d8, Hi_hasKey h.hi h.d8, Rw_empty, Rw_add, List.nil_append, List.cons_append, upd_upd, cwo_1, cwo_3, cwo_5, cwo_7, cwo_17, Bool.false_eq_true, n01, hc', if_false, if_true, ti_1, e1, Tx_fail0]
  · cases hnm : nm n B 10 (if sgn n B p = true then p + 1 else p) with
    | inl q0 => intro r hr; cases hr
    | inr r0 =>
      intro r hr
      obtain ⟨b1, b2, b3⟩ := d2 r0 hnm
      by_cases hc : fits (sgn n B p) r0.1 = true
      · simp only [hc, if_true] at hr
        cases hr
        have hc' := (fits_c (g := sgn n B p) (v := r0.1) (by omega)).mpr hc
        refine (pre _ _ _ _ (a2 r0 hnm)).trans ?_
        simp (disch := first | omega | exact tl_l | exact tT_len | (simp only [List.length_cons, List.length_nil])) only [e81_32, e81_34, e81_36, e81_37, e81_38, e81_39, e81_42, e81_43, e81_46, e81_47, e81_50, e81_53, e81_54, e81_55, e81_58, e81_60, e81_61, hc', if_true]
      · simp only [hc, if_false] at hr; cases hr
  · obtain ⟨v, p', v1, v2, v3⟩ := a3 q hq
    exact ⟨_, p', v2, (pre _ _ _ _ v3).trans (flt q p' v hq v1)⟩
end BY
