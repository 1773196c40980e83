/-! calls: sign -/
theorem m255 : ∀ i, i < 32 → 8 ≤ i → (255#32).getLsbD i = false := by decide
theorem sgs (v : Int32) (s : Int32) (k : Nat) (hk : k ≤ 24) (e1 : ((s &&& 31).toBitVec.smod 32).toNat = k) (e2 : ((s.toUInt32 &&& Int32.toUInt32 31).toBitVec % 32).toNat = k) : (v >>> (s &&& 31)).toInt8.toInt32 &&& 255 = (v.toUInt32 >>> (s.toUInt32 &&& Int32.toUInt32 31)).toInt32 &&& 255 := by
  apply Int32.toBitVec_inj.mp
  apply BitVec.eq_of_getLsbD_eq
  intro i hi
  by_cases h8 : i < 8
  · rw [Int32.toBitVec_and] at e1
    simp only [Int32.toBitVec_and, Int32.toBitVec_shiftRight, BitVec.getLsbD_and, Int8.toBitVec_toInt32, Int32.toBitVec_toInt8, BitVec.getLsbD_signExtend, BitVec.sshiftRight_eq', e1, BitVec.getLsbD_sshiftRight, UInt32.toBitVec_toInt32, UInt32.toBitVec_shiftRight, BitVec.ushiftRight_eq', e2, BitVec.getLsbD_ushiftRight, h8, hi, decide_true, Bool.true_and, if_true, show ¬ 32 ≤ i by omega, decide_false, Bool.not_false, show k + i < 32 by omega]
    rfl
  · simp only [Int32.toBitVec_and, BitVec.getLsbD_and]
    have : Int32.toBitVec 255 = 255#32 := rfl
    rw [this, m255 i hi (by omega), Bool.and_false, Bool.and_false]
theorem sg (v : Int32) {s : Int32} (hs : s = 24 ∨ s = 16 ∨ s = 8 ∨ s = 0) : (v >>> (s &&& 31)).toInt8.toInt32 &&& 255 = (v.toUInt32 >>> (s.toUInt32 &&& Int32.toUInt32 31)).toInt32 &&& 255 := by
  rcases hs with rfl | rfl | rfl | rfl
  · exact sgs v _ 24 (by omega) (by decide) (by decide)
  · exact sgs v _ 16 (by omega) (by decide) (by decide)
  · exact sgs v _ 8 (by omega) (by decide) (by decide)
  · exact sgs v _ 0 (by omega) (by decide) (by decide)
theorem m255' : ∀ i, i < 32 → 8 ≤ i → (255 : Nat).testBit i = false := by decide
theorem byt (x : Int32) : (x &&& 255) = Int32.ofNat (x.toBitVec.toNat % 256) := by
  apply Int32.toBitVec_inj.mp
  apply BitVec.eq_of_toNat_eq
  rw [Int32.toBitVec_and, BitVec.toNat_and]
  have e : (Int32.toBitVec 255).toNat = 2 ^ 8 - 1 := by decide
  rw [e, Nat.and_two_pow_sub_one_eq_mod]
  have : x.toBitVec.toNat % 256 < 256 := Nat.mod_lt _ (by omega)
  show _ = (BitVec.ofNat 32 (x.toBitVec.toNat % 256)).toNat
  rw [BitVec.toNat_ofNat, Nat.mod_eq_of_lt (a := x.toBitVec.toNat % 256) (by omega)]
theorem m255t : ∀ i, i < 8 → (255#32).getLsbD i = true := by decide
theorem to8 (y : Int32) : (y &&& 255).toInt8 = y.toInt8 := by
  apply Int8.toBitVec_inj.mp
  apply BitVec.eq_of_getLsbD_eq
  intro i hi
  simp only [Int32.toBitVec_toInt8, Int32.toBitVec_and, BitVec.getLsbD_signExtend, BitVec.getLsbD_and, hi, decide_true, Bool.true_and, show i < 32 by omega, if_true]
  have : Int32.toBitVec 255 = 255#32 := rfl
  rw [this, m255t i hi, Bool.and_true]
theorem i8i8 (z : Int8) : z.toInt32.toInt8 = z := by simp
theorem i2cN {b : Nat} (h : b < 256) : ((nI b).toUInt32 % 65536).toInt32 = nI b := by
  have key : ∀ b, b < 256 → ((nI b).toUInt32 % 65536).toInt32 = nI b := by decide +kernel
  exact key b h
theorem narC {b : Nat} (h : b < 256) : vp_nar .char (nI b) = nI b := by
  have key : ∀ b, b < 256 → vp_nar .char (nI b) = nI b := by decide +kernel
  exact key b h
theorem narB {z : Int32} : vp_nar (zG 2) z.toInt8.toInt32 = z.toInt8.toInt32 := pk_vb z
/-- a sign of four -/
def sgB (v s : Int32) : Nat := (v.toUInt32 >>> (s.toUInt32 &&& Int32.toUInt32 31)).toInt32.toBitVec.toNat % 256
theorem sgB_lt {v s : Int32} : sgB v s < 256 := Nat.mod_lt _ (by omega)
theorem sgB_c {v s : Int32} : (v.toUInt32 >>> (s.toUInt32 &&& Int32.toUInt32 31)).toInt32 &&& 255 = nI (sgB v s) := byt _
theorem sgB_m {v s : Int32} (hs : s = 24 ∨ s = 16 ∨ s = 8 ∨ s = 0) : (v >>> (s &&& 31)).toInt8.toInt32 &&& nI 255 = nI (sgB v s) := (sg v hs).trans sgB_c
theorem sgB_x {v s : Int32} (hs : s = 24 ∨ s = 16 ∨ s = 8 ∨ s = 0) : (v >>> (s &&& 31)).toInt8.toInt32 = sx (sgB v s) := by
  have h := sgB_m (v := v) hs
  unfold sx
  rw [← h, show (nI 255 : Int32) = 255 from rfl, to8, i8i8]
def upN (B : Nat → Nat) (n b : Nat) : Nat → Nat := fun i => if i = n then b else B i
section SG
variable {c i : Nat} {σ : Hp} {m d f l : Nat} {V : Nat → Nat → Int32} {T : Nat → Option Nat} {A : Nat → Nat → Int32} {R : Nat → Int64} {I : Nat → Int32} {n : Nat} {B : Nat → Nat}
theorem isB.push (h : isB A I n B) (hn : n < 80) {b : Nat} (hb : b < 256) : isB (va_up A 0 (upd (A 0) n (nI b))) (upd I 0 (nI (n + 1))) (n + 1) (upN B n b) := by
  obtain ⟨h1, h2, h3⟩ := h
  refine ⟨by omega, pk_us, fun j hj => ?_⟩
  rw [vu_at]
  unfold upN
  by_cases hjn : j = n
  · subst hjn; rw [pk_us, if_pos rfl]; exact ⟨rfl, hb⟩
  · rw [pk_un hjn, if_neg hjn]; exact h3 j (by omega)
theorem Tx_append (h : isB A I n B) (hn : n < 80) {b : Nat} (hb : b < 256) : dcall 20 [.ref (c + 1), .int (nI b)] (cw σ c A R I) = some (none, cw σ c (va_up A 0 (upd (A 0) n (nI b))) R (upd I 0 (nI (n + 1)))) := by
  obtain ⟨h1, h2, h3⟩ := h
  rw [q20]
  simp (disch := first | omega | exact tl_l | exact tT_len | (simp only [List.length_cons, List.length_nil])) only [e20_0, e20_1, e20_4, e20_7, e20_8, e20_11, e20_12, e20_15, e20_16, e20_19, e20_20, e20_23, e20_24, e20_27, e20_28, e20_29, e20_30, e20_31, e20_34, e20_35, e20_36, e20_39, kv_s, kh_s, kr_s, kr_v, kn_s, z0, z1, z2, nI_ltI, nI_leI, nI_eq, nI_add, oN, bz0, bz1, bw0, bw1, ltT, ltF, leT, leF, eqT, eqF, if_true, if_false, kI_n, wI_n, and_true, true_and, and_false, false_and, not_true, not_false_eq_true, cwo_1, cwr_1, cwg_0, cwg_1, cwg_2, cwa_0, cwl_0, cwo_3, cwr_3, cwg_3, cwa_R, cwl_R, cwo_5, cwr_5, cwg_4, cwg_5, cwg_6, cwg_7, cwg_8, cwa_1, cwl_1, cwo_7, cwr_7, cwg_9, cwg_10, cwg_11, cwg_12, cwg_13, cwa_2, cwl_2, cwo_17, cwr_17, cwg_14, cwa_3, cwl_3, cwp_0, cwp_1, cwp_2, cwp_3, cwp_4, cwp_5, cwp_6, cwp_7, cwp_8, cwp_9, cwp_10, cwp_11, cwp_12, cwp_13, cwp_14, cwu_0, cwu_R, cwu_1, cwu_2, cwu_3, vu_at, vu_ne, pk_us, pk_un, h2, narC]
theorem C_sign_step (h : RB c σ T d f l V) (hB : isB A I n B) (hn : n < 80) {v s : Int32} (hs : ¬ s < nI 0) : den 19 19 [.ref c, .int v, .int s] [] (cw σ c A R I) = den 19 19 [.ref c, .int v, .int (s + -8)] [] (cw σ c (va_up A 0 (upd (A 0) n (nI (sgB v s)))) R (upd I 0 (nI (n + 1)))) := by
  have hb := sgB_lt (v := v) (s := s)
  have := Tx_append (σ := σ) (c := c) (R := R) hB hn hb
  rw [e19_19]
  simp (disch := first | omega | exact tl_l | exact tT_len | (simp only [List.length_cons, List.length_nil])) only [e19_20, e19_23, e19_24, e19_27, e19_28, e19_29, e19_30, e19_33, e19_34, e19_35, e19_38, e19_41, kv_s, kh_s, kr_s, kr_v, kn_s, z0, z1, z2, nI_ltI, nI_leI, nI_eq, nI_add, oN, bz0, bz1, bw0, bw1, ltT, ltF, leT, leF, eqT, eqF, if_true, if_false, kI_n, wI_n, and_true, true_and, and_false, false_and, not_true, not_false_eq_true, cwo_1, cwr_1, cwg_0, cwg_1, cwg_2, cwa_0, cwl_0, cwo_3, cwr_3, cwg_3, cwa_R, cwl_R, cwo_5, cwr_5, cwg_4, cwg_5, cwg_6, cwg_7, cwg_8, cwa_1, cwl_1, cwo_7, cwr_7, cwg_9, cwg_10, cwg_11, cwg_12, cwg_13, cwa_2, cwl_2, cwo_17, cwr_17, cwg_14, cwa_3, cwl_3, cwp_0, cwp_1, cwp_2, cwp_3, cwp_4, cwp_5, cwp_6, cwp_7, cwp_8, cwp_9, cwp_10, cwp_11, cwp_12, cwp_13, cwp_14, cwu_0, cwu_R, cwu_1, cwu_2, cwu_3, vu_at, vu_ne, pk_us, pk_un, h.x.f0, h.x.o, hs, sgB_c, i2cN, this]
theorem M_sign_step {A' : Nat → Nat → Int32} (hI : I 3 = nI n) (hn : n < 80) {v : Int32} {k : Nat} (hk : k < 4) : den 139 20 [.ref m, .int v, .int (nI k)] [] (mw σ m A R I) = den 139 20 [.ref m, .int v, .int (nI k + -nI 1)] [] (mw σ m (va_up A 3 (upd (A 3) n (v >>> (nI 8 * nI k &&& 31)).toInt8.toInt32)) R (upd I 3 (nI (n + 1)))) := by
  have hk0 : ¬ k < 0 := by omega
  rw [e139_20]
  simp (disch := first | omega | exact tl_l | exact tT_len | (simp only [List.length_cons, List.length_nil])) only [e139_21, e139_24, e139_25, e139_28, e139_29, e139_30, e139_33, e139_34, e139_35, e139_36, e139_39, e139_40, e139_42, e139_43, e139_44, e139_45, e139_46, e139_47, e139_50, kv_s, kh_s, kr_s, kr_v, kn_s, z0, z1, z2, nI_ltI, nI_leI, nI_eq, nI_add, oN, bz0, bz1, bw0, bw1, ltT, ltF, leT, leF, eqT, eqF, if_true, if_false, kI_n, wI_n, and_true, true_and, and_false, false_and, not_true, not_false_eq_true, mwo, mwr_0, mwr_1, mwr_2, mwg_3, mwp_3, mwr_4, mwg_5, mwp_5, mwg_6, mwp_6, mwr_7, mwr_8, mwg_9, mwp_9, mwg_10, mwp_10, mwg_11, mwp_11, mwr_12, mwg_13, mwp_13, mwr_14, mwr_15, mwr_16, mwr_17, mwr_18, mwr_19, mwg_20, mwp_20, mwr_21, mwr_22, mwr_23, mwa_1, mwu_1, mwa_2, mwu_2, mwa_3, mwu_3, mwa_4, mwu_4, mwa_5, mwu_5, mwa_6, mwu_6, mwa_7, mwu_7, mwa_8, mwu_8, mwa_9, mwu_9, mwa_10, mwu_10, mwa_11, mwu_11, mwa_12, mwu_12, mwa_13, mwu_13, mwa_14, mwu_14, mwa_15, mwu_15, mwa_16, mwu_16, vu_at, vu_ne, pk_us, pk_un, kB_n, wB_n, kL_n, wL_n, hI, z8, narB]
end SG
theorem RC.text {A A' : Nat → Nat → Int32} {R : Nat → Int64} {I I' : Nat → Int32} {n n' : Nat} {B B' : Nat → Nat} {L : List Int64} {q : Option Hn} (h : RC A R I n B L q) (hB : isB A' I' n' B') (hA1 : A' 1 = A 1) (hI : ∀ j, j = 3 ∨ (4 ≤ j ∧ j ≤ 8) ∨ j = 14 → I' j = I j) : RC A' R I' n' B' L q := by
  obtain ⟨_, b1, b2, b3, dc, b4, b5⟩ := h
  refine ⟨hB, (hI 3 (by omega)).trans b1, b2, ?_, dc, b4, (hI 14 (by omega)).trans b5⟩
  cases q with
  | none => exact (hI 4 (by omega)).trans b3
  | some q => exact ⟨(hI 4 (by omega)).trans b3.1, (hI 5 (by omega)).trans b3.2.1, (hI 6 (by omega)).trans b3.2.2.1, (hI 7 (by omega)).trans b3.2.2.2.1, (hI 8 (by omega)).trans b3.2.2.2.2.1, by rw [hA1]; exact b3.2.2.2.2.2⟩
/-- the reference's text -/
def tB (A : Nat → Nat → Int32) (n : Nat) (B : Nat → Nat) : Prop := ∀ i, i < n → A 3 i = sx (B i)
theorem tB.push {A : Nat → Nat → Int32} {n : Nat} {B : Nat → Nat} (h : tB A n B) {y : Int32} {b : Nat} (hy : y = sx b) : tB (va_up A 3 (upd (A 3) n y)) (n + 1) (upN B n b) := fun j hj => by
  rw [vu_at]
  unfold upN
  by_cases hjn : j = n
  · subst hjn; rw [pk_us, if_pos rfl]; exact hy
  · rw [pk_un hjn, if_neg hjn]; exact h j (by omega)
theorem RMk_stay' {A2 A2' : Nat → Nat → Int32} {j : Nat} {y : Option Hs} (s : ∀ k, k = 15 ∨ k = 16 → A2' k = A2 k) (h : RMk A2 j y) : RMk A2' j y := by
  cases y with
  | none => exact (by rw [s 16 (by omega)]; exact h : A2' 16 j = nI 0)
  | some y => exact ⟨by rw [s 16 (by omega)]; exact h.1, by rw [s 15 (by omega)]; exact h.2⟩
theorem J_sign (x : Int32) : Jn 19 139 [.int x] := by
  rintro c i σ hi ⟨z, n, B, L, q, K, A, R, I, A2, R2, I2, h⟩
  obtain ⟨T, hb⟩ := h.rb
  have hB := h.2.2.2.1.1
  have hM3 := h.2.2.2.2.1.2.2.1
  have hMB : tB A2 n B := h.2.2.2.2.1.2.2.2.1
  have hB1 := hB.1
  have hB2 := hB.2.1
  by_cases hn : 80 < n + 4
  · refine Inv_same h hi (b := .int (-nI 1)) ?_ ?_
    · have h := hb
      rw [q19]
      simp (disch := first | omega | exact tl_l | exact tT_len | (simp only [List.length_cons, List.length_nil])) only [e19_0, e19_1, e19_4, e19_7, e19_8, e19_9, e19_11, e19_14, e19_15, e19_16, e19_18, e19_20, e19_23, e19_24, e19_27, e19_28, e19_29, e19_30, e19_33, e19_34, e19_35, e19_38, e19_41, e19_44, e19_45, e19_48, e19_51, kv_s, kh_s, kr_s, kr_v, kn_s, z0, z1, z2, nI_ltI, nI_leI, nI_eq, nI_add, oN, bz0, bz1, bw0, bw1, ltT, ltF, leT, leF, eqT, eqF, if_true, if_false, kI_n, wI_n, and_true, true_and, and_false, false_and, not_true, not_false_eq_true, cwo_1, cwr_1, cwg_0, cwg_1, cwg_2, cwa_0, cwl_0, cwo_3, cwr_3, cwg_3, cwa_R, cwl_R, cwo_5, cwr_5, cwg_4, cwg_5, cwg_6, cwg_7, cwg_8, cwa_1, cwl_1, cwo_7, cwr_7, cwg_9, cwg_10, cwg_11, cwg_12, cwg_13, cwa_2, cwl_2, cwo_17, cwr_17, cwg_14, cwa_3, cwl_3, cwp_0, cwp_1, cwp_2, cwp_3, cwp_4, cwp_5, cwp_6, cwp_7, cwp_8, cwp_9, cwp_10, cwp_11, cwp_12, cwp_13, cwp_14, cwu_0, cwu_R, cwu_1, cwu_2, cwu_3, vu_at, vu_ne, pk_us, pk_un, h.x.f0, h.x.f1, h.x.f2, h.x.f3, h.x.f4, h.x.f5, h.x.f6, h.x.f7, h.x.o, h.hi.o, h.hi.gd, h.hi.gf, h.hi.gl, Hi_keys h.hi h.d8, Hi_hasKey h.hi h.d8, Rw_empty, Rw_add, List.nil_append, List.cons_append, upd_upd, cwo_1, cwo_3, cwo_5, cwo_7, cwo_17, Bool.false_eq_true, n01, hB2, z4, z80]
    · intro τ
      refine ⟨A2, upd I2 6 (nI 0), ?_, stay.rf, pk_un (by omega), pk_un (by omega)⟩
      rw [q139]
      simp (disch := first | omega | exact tl_l | exact tT_len | (simp only [List.length_cons, List.length_nil])) only [e139_0, e139_1, e139_2, e139_5, e139_6, e139_9, e139_10, e139_11, e139_13, e139_16, e139_17, e139_18, e139_19, e139_21, e139_24, e139_25, e139_28, e139_29, e139_30, e139_33, e139_34, e139_35, e139_36, e139_39, e139_40, e139_42, e139_43, e139_44, e139_45, e139_46, e139_47, e139_50, e139_53, e139_54, e139_57, kv_s, kh_s, kr_s, kr_v, kn_s, z0, z1, z2, nI_ltI, nI_leI, nI_eq, nI_add, oN, bz0, bz1, bw0, bw1, ltT, ltF, leT, leF, eqT, eqF, if_true, if_false, kI_n, wI_n, and_true, true_and, and_false, false_and, not_true, not_false_eq_true, mwo, mwr_0, mwr_1, mwr_2, mwg_3, mwp_3, mwr_4, mwg_5, mwp_5, mwg_6, mwp_6, mwr_7, mwr_8, mwg_9, mwp_9, mwg_10, mwp_10, mwg_11, mwp_11, mwr_12, mwg_13, mwp_13, mwr_14, mwr_15, mwr_16, mwr_17, mwr_18, mwr_19, mwg_20, mwp_20, mwr_21, mwr_22, mwr_23, mwa_1, mwu_1, mwa_2, mwu_2, mwa_3, mwu_3, mwa_4, mwu_4, mwa_5, mwu_5, mwa_6, mwu_6, mwa_7, mwu_7, mwa_8, mwu_8, mwa_9, mwu_9, mwa_10, mwu_10, mwa_11, mwu_11, mwa_12, mwu_12, mwa_13, mwu_13, mwa_14, mwu_14, mwa_15, mwu_15, mwa_16, mwu_16, vu_at, vu_ne, pk_us, pk_un, kB_n, wB_n, kL_n, wL_n, hM3, z4, z80]
  · have b1 := sgB_lt (v := x) (s := 24)
    have b2 := sgB_lt (v := x) (s := 16)
    have b3 := sgB_lt (v := x) (s := 8)
    have b4 := sgB_lt (v := x) (s := 0)
    have k1 := hB.push (show n < 80 by omega) b1
    have k2 := k1.push (show n + 1 < 80 by omega) b2
    have k3 := k2.push (show n + 1 + 1 < 80 by omega) b3
    have k4 := k3.push (show n + 1 + 1 + 1 < 80 by omega) b4
    have t1 := hMB.push (sgB_x (v := x) (s := 24) (Or.inl rfl))
    have t2 := t1.push (sgB_x (v := x) (s := 16) (Or.inr (Or.inl rfl)))
    have t3 := t2.push (sgB_x (v := x) (s := 8) (Or.inr (Or.inr (Or.inl rfl))))
    have t4 := t3.push (sgB_x (v := x) (s := 0) (Or.inr (Or.inr (Or.inr rfl))))
    have e1 := C_sign_step (σ := σ) (R := R) hb hB (show n < 80 by omega) (v := x) (s := 24) (by decide)
    have e2 := C_sign_step (σ := σ) (R := R) hb k1 (show n + 1 < 80 by omega) (v := x) (s := 16) (by decide)
    have e3 := C_sign_step (σ := σ) (R := R) hb k2 (show n + 1 + 1 < 80 by omega) (v := x) (s := 8) (by decide)
    have e4 := C_sign_step (σ := σ) (R := R) hb k3 (show n + 1 + 1 + 1 < 80 by omega) (v := x) (s := 0) (by decide)
    rw [show (24 : Int32) + -8 = 16 by decide] at e1
    rw [show (16 : Int32) + -8 = 8 by decide] at e2
    rw [show (8 : Int32) + -8 = 0 by decide] at e3
    rw [show (0 : Int32) + -8 = -8 by decide] at e4
    have hneg : (-8 : Int32) < nI 0 := by decide
    have hneg1 : nI 0 + -nI 1 < nI 0 := by decide
    have m1 := fun τ => M_sign_step (σ := τ) (m := c + 24) (A' := A2) (A := A2) (R := R2) (I := upd I2 6 (nI 0)) (n := n) ((pk_un (by omega)).trans hM3) (by omega) (v := x) (k := 3) (by omega)
    have m2 := fun τ => M_sign_step (σ := τ) (m := c + 24) (A' := A2) (A := va_up A2 3 (upd (A2 3) n (x >>> (nI 8 * nI 3 &&& 31)).toInt8.toInt32)) (R := R2) (I := upd (upd I2 6 (nI 0)) 3 (nI (n + 1))) (n := n + 1) pk_us (by omega) (v := x) (k := 2) (by omega)
    have m3 := fun τ => M_sign_step (σ := τ) (m := c + 24) (A' := A2) (A := va_up (va_up A2 3 (upd (A2 3) n (x >>> (nI 8 * nI 3 &&& 31)).toInt8.toInt32)) 3 (upd (va_up A2 3 (upd (A2 3) n (x >>> (nI 8 * nI 3 &&& 31)).toInt8.toInt32) 3) (n + 1) (x >>> (nI 8 * nI 2 &&& 31)).toInt8.toInt32)) (R := R2) (I := upd (upd (upd I2 6 (nI 0)) 3 (nI (n + 1))) 3 (nI (n + 1 + 1))) (n := n + 1 + 1) pk_us (by omega) (v := x) (k := 1) (by omega)
    have m4 := fun τ => M_sign_step (σ := τ) (m := c + 24) (A' := A2) (A := va_up (va_up (va_up A2 3 (upd (A2 3) n (x >>> (nI 8 * nI 3 &&& 31)).toInt8.toInt32)) 3 (upd (va_up A2 3 (upd (A2 3) n (x >>> (nI 8 * nI 3 &&& 31)).toInt8.toInt32) 3) (n + 1) (x >>> (nI 8 * nI 2 &&& 31)).toInt8.toInt32)) 3 (upd (va_up (va_up A2 3 (upd (A2 3) n (x >>> (nI 8 * nI 3 &&& 31)).toInt8.toInt32)) 3 (upd (va_up A2 3 (upd (A2 3) n (x >>> (nI 8 * nI 3 &&& 31)).toInt8.toInt32) 3) (n + 1) (x >>> (nI 8 * nI 2 &&& 31)).toInt8.toInt32) 3) (n + 1 + 1) (x >>> (nI 8 * nI 1 &&& 31)).toInt8.toInt32)) (R := R2) (I := upd (upd (upd (upd I2 6 (nI 0)) 3 (nI (n + 1))) 3 (nI (n + 1 + 1))) 3 (nI (n + 1 + 1 + 1))) (n := n + 1 + 1 + 1) pk_us (by omega) (v := x) (k := 0) (by omega)
    rw [show (nI 3 + -nI 1) = nI 2 by decide] at m1
    rw [show (nI 2 + -nI 1) = nI 1 by decide] at m2
    rw [show (nI 1 + -nI 1) = nI 0 by decide] at m3
    have w3 : nI 8 * nI 3 = (24 : Int32) := by decide
    have w2 : nI 8 * nI 2 = (16 : Int32) := by decide
    have w1 : nI 8 * nI 1 = (8 : Int32) := by decide
    have w0 : nI 8 * nI 0 = (0 : Int32) := by decide
    simp only [w0, w1, w2, w3] at m1 m2 m3 m4
    have hok : okZ (i + 1) z (n + 1 + 1 + 1 + 1) q K := by
      obtain ⟨o1, o2, o3, o4, o5⟩ := h.2.2.2.2.2
      exact ⟨o1, fun j y j1 j2 => ⟨(o2 j y j1 j2).1, by have := (o2 j y j1 j2).2; omega⟩, by omega, o4, by omega⟩
    have hn4 : n + 1 + 1 + 1 + 1 = n + 4 := by omega
    obtain ⟨A2', I2', f1, f2, f3, f4, f5⟩ : ∃ A2' I2', (∀ τ, dcall 139 [.ref (c + 24), .int x] (mw τ (c + 24) A2 R2 I2) = some (some (.int (nI (n + 4))), mw τ (c + 24) A2' R2 I2')) ∧ tB A2' (n + 1 + 1 + 1 + 1) (upN (upN (upN (upN B n (sgB x 24)) (n + 1) (sgB x 16)) (n + 1 + 1) (sgB x 8)) (n + 1 + 1 + 1) (sgB x 0)) ∧ (∀ k, k ≠ 3 → A2' k = A2 k) ∧ I2' 3 = nI (n + 1 + 1 + 1 + 1) ∧ I2' 5 = I2 5 := by
      refine ⟨_, upd (upd (upd (upd (upd I2 6 (nI 0)) 3 (nI (n + 1))) 3 (nI (n + 1 + 1))) 3 (nI (n + 1 + 1 + 1))) 3 (nI (n + 1 + 1 + 1 + 1)), fun τ => ?_, t4, fun k hk => ?_, pk_us, ?_⟩
      · rw [q139]
        simp (disch := first | omega | exact tl_l | exact tT_len | (simp only [List.length_cons, List.length_nil])) only [e139_0, e139_1, e139_2, e139_5, e139_6, e139_9, e139_10, e139_11, e139_13, e139_16, e139_17, e139_18, e139_19, e139_21, e139_24, e139_25, e139_28, e139_29, e139_30, e139_33, e139_34, e139_35, e139_36, e139_39, e139_40, e139_42, e139_43, e139_44, e139_45, e139_46, e139_47, e139_50, e139_53, e139_54, e139_57, kv_s, kh_s, kr_s, kr_v, kn_s, z0, z1, z2, nI_ltI, nI_leI, nI_eq, nI_add, oN, bz0, bz1, bw0, bw1, ltT, ltF, leT, leF, eqT, eqF, if_true, if_false, kI_n, wI_n, and_true, true_and, and_false, false_and, not_true, not_false_eq_true, mwo, mwr_0, mwr_1, mwr_2, mwg_3, mwp_3, mwr_4, mwg_5, mwp_5, mwg_6, mwp_6, mwr_7, mwr_8, mwg_9, mwp_9, mwg_10, mwp_10, mwg_11, mwp_11, mwr_12, mwg_13, mwp_13, mwr_14, mwr_15, mwr_16, mwr_17, mwr_18, mwr_19, mwg_20, mwp_20, mwr_21, mwr_22, mwr_23, mwa_1, mwu_1, mwa_2, mwu_2, mwa_3, mwu_3, mwa_4, mwu_4, mwa_5, mwu_5, mwa_6, mwu_6, mwa_7, mwu_7, mwa_8, mwu_8, mwa_9, mwu_9, mwa_10, mwu_10, mwa_11, mwu_11, mwa_12, mwu_12, mwa_13, mwu_13, mwa_14, mwu_14, mwa_15, mwu_15, mwa_16, mwu_16, vu_at, vu_ne, pk_us, pk_un, kB_n, wB_n, kL_n, wL_n, hM3, z4, z80]
        rw [show (3 : Int32) = nI 3 from rfl]
        rw [m1, m2, m3, m4]
        rw [e139_20]
        simp (disch := first | omega | exact tl_l | exact tT_len | (simp only [List.length_cons, List.length_nil])) only [e139_0, e139_1, e139_2, e139_5, e139_6, e139_9, e139_10, e139_11, e139_13, e139_16, e139_17, e139_18, e139_19, e139_21, e139_24, e139_25, e139_28, e139_29, e139_30, e139_33, e139_34, e139_35, e139_36, e139_39, e139_40, e139_42, e139_43, e139_44, e139_45, e139_46, e139_47, e139_50, e139_53, e139_54, e139_57, kv_s, kh_s, kr_s, kr_v, kn_s, z0, z1, z2, nI_ltI, nI_leI, nI_eq, nI_add, oN, bz0, bz1, bw0, bw1, ltT, ltF, leT, leF, eqT, eqF, if_true, if_false, kI_n, wI_n, and_true, true_and, and_false, false_and, not_true, not_false_eq_true, mwo, mwr_0, mwr_1, mwr_2, mwg_3, mwp_3, mwr_4, mwg_5, mwp_5, mwg_6, mwp_6, mwr_7, mwr_8, mwg_9, mwp_9, mwg_10, mwp_10, mwg_11, mwp_11, mwr_12, mwg_13, mwp_13, mwr_14, mwr_15, mwr_16, mwr_17, mwr_18, mwr_19, mwg_20, mwp_20, mwr_21, mwr_22, mwr_23, mwa_1, mwu_1, mwa_2, mwu_2, mwa_3, mwu_3, mwa_4, mwu_4, mwa_5, mwu_5, mwa_6, mwu_6, mwa_7, mwu_7, mwa_8, mwu_8, mwa_9, mwu_9, mwa_10, mwu_10, mwa_11, mwu_11, mwa_12, mwu_12, mwa_13, mwu_13, mwa_14, mwu_14, mwa_15, mwu_15, mwa_16, mwu_16, vu_at, vu_ne, pk_us, pk_un, kB_n, wB_n, kL_n, wL_n, hneg1, hn4]
        try rfl
      · rw [vu_ne hk, vu_ne hk, vu_ne hk, vu_ne hk]
      · rw [pk_un (by omega), pk_un (by omega), pk_un (by omega), pk_un (by omega), pk_un (by omega)]
    obtain ⟨A', I', c1, c2, c3, c4⟩ : ∃ A' I', dcall 19 [.ref c, .int x] (cw σ c A R I) = some (some (.int (nI (n + 4))), cw σ c A' R I') ∧ isB A' I' (n + 1 + 1 + 1 + 1) (upN (upN (upN (upN B n (sgB x 24)) (n + 1) (sgB x 16)) (n + 1 + 1) (sgB x 8)) (n + 1 + 1 + 1) (sgB x 0)) ∧ A' 1 = A 1 ∧ ∀ j, j = 3 ∨ (4 ≤ j ∧ j ≤ 8) ∨ j = 14 → I' j = I j := by
      refine ⟨_, _, ?_, k4, ?_, fun j hj => ?_⟩
      · have h := hb
        rw [q19]
        simp (disch := first | omega | exact tl_l | exact tT_len | (simp only [List.length_cons, List.length_nil])) only [e19_0, e19_1, e19_4, e19_7, e19_8, e19_9, e19_11, e19_14, e19_15, e19_16, e19_18, e19_20, e19_23, e19_24, e19_27, e19_28, e19_29, e19_30, e19_33, e19_34, e19_35, e19_38, e19_41, e19_44, e19_45, e19_48, e19_51, kv_s, kh_s, kr_s, kr_v, kn_s, z0, z1, z2, nI_ltI, nI_leI, nI_eq, nI_add, oN, bz0, bz1, bw0, bw1, ltT, ltF, leT, leF, eqT, eqF, if_true, if_false, kI_n, wI_n, and_true, true_and, and_false, false_and, not_true, not_false_eq_true, cwo_1, cwr_1, cwg_0, cwg_1, cwg_2, cwa_0, cwl_0, cwo_3, cwr_3, cwg_3, cwa_R, cwl_R, cwo_5, cwr_5, cwg_4, cwg_5, cwg_6, cwg_7, cwg_8, cwa_1, cwl_1, cwo_7, cwr_7, cwg_9, cwg_10, cwg_11, cwg_12, cwg_13, cwa_2, cwl_2, cwo_17, cwr_17, cwg_14, cwa_3, cwl_3, cwp_0, cwp_1, cwp_2, cwp_3, cwp_4, cwp_5, cwp_6, cwp_7, cwp_8, cwp_9, cwp_10, cwp_11, cwp_12, cwp_13, cwp_14, cwu_0, cwu_R, cwu_1, cwu_2, cwu_3, vu_at, vu_ne, pk_us, pk_un, h.x.f0, h.x.f1, h.x.f2, h.x.f3, h.x.f4, h.x.f5, h.x.f6, h.x.f7, h.x.o, h.hi.o, h.hi.gd, h.hi.gf, h.hi.gl, Hi_keys h.hi h.d8, Hi_hasKey h.hi h.d8, Rw_empty, Rw_add, List.nil_append, List.cons_append, upd_upd, cwo_1, cwo_3, cwo_5, cwo_7, cwo_17, Bool.false_eq_true, n01, hB2, z4, z80]
        rw [e1, e2, e3, e4]
        rw [e19_19]
        simp (disch := first | omega | exact tl_l | exact tT_len | (simp only [List.length_cons, List.length_nil])) only [e19_0, e19_1, e19_4, e19_7, e19_8, e19_9, e19_11, e19_14, e19_15, e19_16, e19_18, e19_20, e19_23, e19_24, e19_27, e19_28, e19_29, e19_30, e19_33, e19_34, e19_35, e19_38, e19_41, e19_44, e19_45, e19_48, e19_51, kv_s, kh_s, kr_s, kr_v, kn_s, z0, z1, z2, nI_ltI, nI_leI, nI_eq, nI_add, oN, bz0, bz1, bw0, bw1, ltT, ltF, leT, leF, eqT, eqF, if_true, if_false, kI_n, wI_n, and_true, true_and, and_false, false_and, not_true, not_false_eq_true, cwo_1, cwr_1, cwg_0, cwg_1, cwg_2, cwa_0, cwl_0, cwo_3, cwr_3, cwg_3, cwa_R, cwl_R, cwo_5, cwr_5, cwg_4, cwg_5, cwg_6, cwg_7, cwg_8, cwa_1, cwl_1, cwo_7, cwr_7, cwg_9, cwg_10, cwg_11, cwg_12, cwg_13, cwa_2, cwl_2, cwo_17, cwr_17, cwg_14, cwa_3, cwl_3, cwp_0, cwp_1, cwp_2, cwp_3, cwp_4, cwp_5, cwp_6, cwp_7, cwp_8, cwp_9, cwp_10, cwp_11, cwp_12, cwp_13, cwp_14, cwu_0, cwu_R, cwu_1, cwu_2, cwu_3, vu_at, vu_ne, pk_us, pk_un, h.x.f0, h.x.f1, h.x.f2, h.x.f3, h.x.f4, h.x.f5, h.x.f6, h.x.f7, h.x.o, h.hi.o, h.hi.gd, h.hi.gf, h.hi.gl, Hi_keys h.hi h.d8, Hi_hasKey h.hi h.d8, Rw_empty, Rw_add, List.nil_append, List.cons_append, upd_upd, cwo_1, cwo_3, cwo_5, cwo_7, cwo_17, Bool.false_eq_true, n01, hneg, hn4]
      · rw [vu_ne (by omega), vu_ne (by omega), vu_ne (by omega), vu_ne (by omega)]
      · rw [pk_un (by omega), pk_un (by omega), pk_un (by omega), pk_un (by omega)]
    obtain ⟨g1, g2, g3, g4, g5, g6, g7⟩ := h.2.2.2.2.1
    exact Inv_regs h c1 (f1 _) (h.2.2.2.1.text c2 c3 c4) ⟨by rw [f3 1 (by omega)]; exact g1, by rw [f3 2 (by omega)]; exact g2, f4, f2, f5.trans g5, g6, fun j hj => RMk_stay' (fun k hk => f3 k (by omega)) (g7 j hj)⟩ hok
