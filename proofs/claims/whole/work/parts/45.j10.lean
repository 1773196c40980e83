/-! calls: since, history -/
/-- the last version of a stretch with P -/
def dn (P : Nat → Bool) (f : Nat) : Nat → Option Nat
  | 0 => none
  | j + 1 => if P (f + j) = true then some (f + j) else dn P f j
theorem dn_bd {P : Nat → Bool} {f v : Nat} : ∀ {j}, dn P f j = some v → f ≤ v ∧ v < f + j := by
  intro j
  induction j with
  | zero => intro h; cases h
  | succ j ih =>
    intro h
    rw [dn] at h
    split at h
    · cases h; omega
    · have := ih h; omega
/-- is a key's value another one than now? -/
def onP (V : Nat → Nat → Int32) (k l v : Nat) : Bool := !decide (V v k = V l k)
theorem under0 {f : Nat} (h : f < 2 ^ 30) : nI f - nI 1 < nI f := by
  by_cases h0 : f = 0
  · subst h0; decide
  · rw [pk_sub (by omega)]; exact nI_lt (by omega) (by omega)
section JS
variable {c i : Nat} {σ : Hp} {m d f l : Nat} {V : Nat → Nat → Int32} {T : Nat → Option Nat} {A : Nat → Nat → Int32} {R : Nat → Int64} {I : Nat → Int32}
theorem C_since_loop (h : RB c σ T d f l V) {k : Nat} (hk : k < 2 ^ d) : ∀ (j : Nat) {l4 : Value}, f + j ≤ l → den 114 35 [.ref c, .int (nI k), .int (V l k), .int (nI (f + j) - nI 1), l4] [] (cw σ c A R I) = match dn (onP V k l) f j with
    | none => some (some (.int (-nI 2)), cw σ c A R I)
    | some v => some (some (.int (nI v)), cw σ c A (rl R [(V v k).toInt64]) (upd I 3 (nI 1))) := by
  have hK := h.K
  have hl := h.fl
  intro j
  induction j with
  | zero =>
    intro l4 hj
    have e := under0 (f := f) (by omega)
    rw [e114_35]
    simp (disch := first | omega | exact tl_l | exact tT_len | (simp only [List.length_cons, List.length_nil])) only [e114_0, e114_1, e114_4, e114_5, e114_8, e114_11, e114_12, e114_13, e114_14, e114_17, e114_20, e114_21, e114_24, e114_25, e114_26, e114_29, e114_32, e114_33, e114_34, e114_36, e114_37, e114_40, e114_43, e114_46, e114_47, e114_50, e114_51, e114_54, e114_55, e114_58, e114_60, e114_62, e114_63, e114_66, e114_67, e114_70, e114_73, e114_74, e114_77, e114_79, e114_80, e114_83, e114_84, e114_85, e114_88, e114_91, e114_93, kv_s, kh_s, kr_s, kr_v, kn_s, z0, z1, z2, nI_ltI, nI_leI, nI_eq, nI_add, oN, bz0, bz1, bw0, bw1, ltT, ltF, leT, leF, eqT, eqF, if_true, if_false, kI_n, wI_n, and_true, true_and, and_false, false_and, not_true, not_false_eq_true, cwo_1, cwr_1, cwg_0, cwg_1, cwg_2, cwa_0, cwl_0, cwo_3, cwr_3, cwg_3, cwa_R, cwl_R, cwo_5, cwr_5, cwg_4, cwg_5, cwg_6, cwg_7, cwg_8, cwa_1, cwl_1, cwo_7, cwr_7, cwg_9, cwg_10, cwg_11, cwg_12, cwg_13, cwa_2, cwl_2, cwo_17, cwr_17, cwg_14, cwa_3, cwl_3, cwp_0, cwp_1, cwp_2, cwp_3, cwp_4, cwp_5, cwp_6, cwp_7, cwp_8, cwp_9, cwp_10, cwp_11, cwp_12, cwp_13, cwp_14, cwu_0, cwu_R, cwu_1, cwu_2, cwu_3, vu_at, vu_ne, pk_us, pk_un, h.x.f0, h.x.f1, h.x.f2, h.x.f3, h.x.f4, h.x.f5, h.x.f6, h.x.f7, h.x.o, h.hi.o, h.hi.gd, h.hi.gf, h.hi.gl, Hi_keys h.hi h.d8, Hi_hasKey h.hi h.d8, Rw_empty, Rw_add, List.nil_append, List.cons_append, upd_upd, cwo_1, cwo_3, cwo_5, cwo_7, cwo_17, Bool.false_eq_true, n01, Nat.add_zero, e, dn]
  | succ j ih =>
    intro l4 hj
    obtain ⟨t, t1, t2⟩ := h.t (v := f + j) (by omega) (by omega)
    have e1 : nI (f + (j + 1)) - nI 1 = nI (f + j) := by rw [pk_sub (by omega)]; rfl
    have e2 : nI (f + j) + -nI 1 = nI (f + j) - nI 1 := (Int32.sub_eq_add_neg ..).symm
    rw [dn]
    by_cases hv : V (f + j) k = V l k
    · have hP : onP V k l (f + j) = false := by unfold onP; rw [decide_eq_true hv]; rfl
      rw [hP, if_neg Bool.false_ne_true, ← ih (l4 := .int (V (f + j) k)) (by omega)]
      rw [e114_35]
      simp (disch := first | omega | exact tl_l | exact tT_len | (simp only [List.length_cons, List.length_nil])) only [e114_0, e114_1, e114_4, e114_5, e114_8, e114_11, e114_12, e114_13, e114_14, e114_17, e114_20, e114_21, e114_24, e114_25, e114_26, e114_29, e114_32, e114_33, e114_34, e114_36, e114_37, e114_40, e114_43, e114_46, e114_47, e114_50, e114_51, e114_54, e114_55, e114_58, e114_60, e114_62, e114_63, e114_66, e114_67, e114_70, e114_73, e114_74, e114_77, e114_79, e114_80, e114_83, e114_84, e114_85, e114_88, e114_91, e114_93, kv_s, kh_s, kr_s, kr_v, kn_s, z0, z1, z2, nI_ltI, nI_leI, nI_eq, nI_add, oN, bz0, bz1, bw0, bw1, ltT, ltF, leT, leF, eqT, eqF, if_true, if_false, kI_n, wI_n, and_true, true_and, and_false, false_and, not_true, not_false_eq_true, cwo_1, cwr_1, cwg_0, cwg_1, cwg_2, cwa_0, cwl_0, cwo_3, cwr_3, cwg_3, cwa_R, cwl_R, cwo_5, cwr_5, cwg_4, cwg_5, cwg_6, cwg_7, cwg_8, cwa_1, cwl_1, cwo_7, cwr_7, cwg_9, cwg_10, cwg_11, cwg_12, cwg_13, cwa_2, cwl_2, cwo_17, cwr_17, cwg_14, cwa_3, cwl_3, cwp_0, cwp_1, cwp_2, cwp_3, cwp_4, cwp_5, cwp_6, cwp_7, cwp_8, cwp_9, cwp_10, cwp_11, cwp_12, cwp_13, cwp_14, cwu_0, cwu_R, cwu_1, cwu_2, cwu_3, vu_at, vu_ne, pk_us, pk_un, h.x.f0, h.x.f1, h.x.f2, h.x.f3, h.x.f4, h.x.f5, h.x.f6, h.x.f7, h.x.o, h.hi.o, h.hi.gd, h.hi.gf, h.hi.gl, Hi_keys h.hi h.d8, Hi_hasKey h.hi h.d8, Rw_empty, Rw_add, List.nil_append, List.cons_append, upd_upd, cwo_1, cwo_3, cwo_5, cwo_7, cwo_17, Bool.false_eq_true, n01, e1, Hi_hold_is h.hi (show f + j < 2 ^ 31 by omega) t1, t2.o, T_val t2, hv, e2]
    · have hP : onP V k l (f + j) = true := by unfold onP; rw [decide_eq_false hv]; rfl
      rw [hP]
      rw [e114_35]
      simp (disch := first | omega | exact tl_l | exact tT_len | (simp only [List.length_cons, List.length_nil])) only [e114_0, e114_1, e114_4, e114_5, e114_8, e114_11, e114_12, e114_13, e114_14, e114_17, e114_20, e114_21, e114_24, e114_25, e114_26, e114_29, e114_32, e114_33, e114_34, e114_36, e114_37, e114_40, e114_43, e114_46, e114_47, e114_50, e114_51, e114_54, e114_55, e114_58, e114_60, e114_62, e114_63, e114_66, e114_67, e114_70, e114_73, e114_74, e114_77, e114_79, e114_80, e114_83, e114_84, e114_85, e114_88, e114_91, e114_93, kv_s, kh_s, kr_s, kr_v, kn_s, z0, z1, z2, nI_ltI, nI_leI, nI_eq, nI_add, oN, bz0, bz1, bw0, bw1, ltT, ltF, leT, leF, eqT, eqF, if_true, if_false, kI_n, wI_n, and_true, true_and, and_false, false_and, not_true, not_false_eq_true, cwo_1, cwr_1, cwg_0, cwg_1, cwg_2, cwa_0, cwl_0, cwo_3, cwr_3, cwg_3, cwa_R, cwl_R, cwo_5, cwr_5, cwg_4, cwg_5, cwg_6, cwg_7, cwg_8, cwa_1, cwl_1, cwo_7, cwr_7, cwg_9, cwg_10, cwg_11, cwg_12, cwg_13, cwa_2, cwl_2, cwo_17, cwr_17, cwg_14, cwa_3, cwl_3, cwp_0, cwp_1, cwp_2, cwp_3, cwp_4, cwp_5, cwp_6, cwp_7, cwp_8, cwp_9, cwp_10, cwp_11, cwp_12, cwp_13, cwp_14, cwu_0, cwu_R, cwu_1, cwu_2, cwu_3, vu_at, vu_ne, pk_us, pk_un, h.x.f0, h.x.f1, h.x.f2, h.x.f3, h.x.f4, h.x.f5, h.x.f6, h.x.f7, h.x.o, h.hi.o, h.hi.gd, h.hi.gf, h.hi.gl, Hi_keys h.hi h.d8, Hi_hasKey h.hi h.d8, Rw_empty, Rw_add, List.nil_append, List.cons_append, upd_upd, cwo_1, cwo_3, cwo_5, cwo_7, cwo_17, Bool.false_eq_true, n01, e1, Hi_hold_is h.hi (show f + j < 2 ^ 31 by omega) t1, t2.o, T_val t2, hv]
theorem M_since_loop (h : nowM (A 1) d f l V) {k : Nat} (hk : k < 2 ^ d) : ∀ (j : Nat), f + j ≤ l + 1 → den 216 20 [.ref m, .int (nI k), .int (nI (f + j) - nI 1)] [] (mw σ m A R I) = match dn (onP V k l) f j with
    | none => some (some (.int (-nI 2)), mw σ m A R I)
    | some v => some (some (.int (nI v)), mw σ m A (rl R [(V v k).toInt64]) (upd I 5 (nI 1))) := by
  have hK := h.K
  intro j
  induction j with
  | zero =>
    intro hj
    have e := under0 (f := f) (by omega)
    have e' : ¬ nI f ≤ nI f - nI 1 := Int32.not_le.mpr e
    rw [e216_20]
    simp (disch := first | omega | exact tl_l | exact tT_len | (simp only [List.length_cons, List.length_nil])) only [e216_0, e216_1, e216_2, e216_5, e216_6, e216_7, e216_10, e216_13, e216_14, e216_15, e216_16, e216_19, e216_21, e216_22, e216_25, e216_26, e216_27, e216_30, e216_31, e216_32, e216_33, e216_36, e216_37, e216_38, e216_41, e216_42, e216_45, e216_48, e216_51, e216_54, e216_55, e216_56, e216_59, e216_60, e216_61, e216_64, e216_66, e216_67, e216_68, e216_69, e216_72, e216_73, e216_74, e216_75, e216_76, e216_79, e216_80, e216_83, e216_84, kv_s, kh_s, kr_s, kr_v, kn_s, z0, z1, z2, nI_ltI, nI_leI, nI_eq, nI_add, oN, bz0, bz1, bw0, bw1, ltT, ltF, leT, leF, eqT, eqF, if_true, if_false, kI_n, wI_n, and_true, true_and, and_false, false_and, not_true, not_false_eq_true, mwo, mwr_0, mwr_1, mwr_2, mwg_3, mwp_3, mwr_4, mwg_5, mwp_5, mwg_6, mwp_6, mwr_7, mwr_8, mwg_9, mwp_9, mwg_10, mwp_10, mwg_11, mwp_11, mwr_12, mwg_13, mwp_13, mwr_14, mwr_15, mwr_16, mwr_17, mwr_18, mwr_19, mwg_20, mwp_20, mwr_21, mwr_22, mwr_23, mwa_1, mwu_1, mwa_2, mwu_2, mwa_3, mwu_3, mwa_4, mwu_4, mwa_5, mwu_5, mwa_6, mwu_6, mwa_7, mwu_7, mwa_8, mwu_8, mwa_9, mwu_9, mwa_10, mwu_10, mwa_11, mwu_11, mwa_12, mwu_12, mwa_13, mwu_13, mwa_14, mwu_14, mwa_15, mwu_15, mwa_16, mwu_16, vu_at, vu_ne, pk_us, pk_un, kB_n, wB_n, kL_n, wL_n, Nat.add_zero, e, e', dn, h.2.1]
  | succ j ih =>
    intro hj
    have e1 : nI (f + (j + 1)) - nI 1 = nI (f + j) := by rw [pk_sub (by omega)]; rfl
    have e2 : nI (f + j) + -nI 1 = nI (f + j) - nI 1 := (Int32.sub_eq_add_neg ..).symm
    rw [dn]
    by_cases hv : V (f + j) k = V l k
    · have hP : onP V k l (f + j) = false := by unfold onP; rw [decide_eq_true hv]; rfl
      rw [hP, if_neg Bool.false_ne_true, ← ih (by omega)]
      rw [e216_20]
      simp (disch := first | omega | exact tl_l | exact tT_len | (simp only [List.length_cons, List.length_nil])) only [e216_0, e216_1, e216_2, e216_5, e216_6, e216_7, e216_10, e216_13, e216_14, e216_15, e216_16, e216_19, e216_21, e216_22, e216_25, e216_26, e216_27, e216_30, e216_31, e216_32, e216_33, e216_36, e216_37, e216_38, e216_41, e216_42, e216_45, e216_48, e216_51, e216_54, e216_55, e216_56, e216_59, e216_60, e216_61, e216_64, e216_66, e216_67, e216_68, e216_69, e216_72, e216_73, e216_74, e216_75, e216_76, e216_79, e216_80, e216_83, e216_84, kv_s, kh_s, kr_s, kr_v, kn_s, z0, z1, z2, nI_ltI, nI_leI, nI_eq, nI_add, oN, bz0, bz1, bw0, bw1, ltT, ltF, leT, leF, eqT, eqF, if_true, if_false, kI_n, wI_n, and_true, true_and, and_false, false_and, not_true, not_false_eq_true, mwo, mwr_0, mwr_1, mwr_2, mwg_3, mwp_3, mwr_4, mwg_5, mwp_5, mwg_6, mwp_6, mwr_7, mwr_8, mwg_9, mwp_9, mwg_10, mwp_10, mwg_11, mwp_11, mwr_12, mwg_13, mwp_13, mwr_14, mwr_15, mwr_16, mwr_17, mwr_18, mwr_19, mwg_20, mwp_20, mwr_21, mwr_22, mwr_23, mwa_1, mwu_1, mwa_2, mwu_2, mwa_3, mwu_3, mwa_4, mwu_4, mwa_5, mwu_5, mwa_6, mwu_6, mwa_7, mwu_7, mwa_8, mwu_8, mwa_9, mwu_9, mwa_10, mwu_10, mwa_11, mwu_11, mwa_12, mwu_12, mwa_13, mwu_13, mwa_14, mwu_14, mwa_15, mwu_15, mwa_16, mwu_16, vu_at, vu_ne, pk_us, pk_un, kB_n, wB_n, kL_n, wL_n, mwo, e1, h.2.1, M_latest h, M_value h (show f ≤ f + j by omega) (show f + j ≤ l by omega), M_value h (show f ≤ l by omega) (Nat.le_refl l), hv, e2]
    · have hP : onP V k l (f + j) = true := by unfold onP; rw [decide_eq_false hv]; rfl
      rw [hP]
      rw [e216_20]
      simp (disch := first | omega | exact tl_l | exact tT_len | (simp only [List.length_cons, List.length_nil])) only [e216_0, e216_1, e216_2, e216_5, e216_6, e216_7, e216_10, e216_13, e216_14, e216_15, e216_16, e216_19, e216_21, e216_22, e216_25, e216_26, e216_27, e216_30, e216_31, e216_32, e216_33, e216_36, e216_37, e216_38, e216_41, e216_42, e216_45, e216_48, e216_51, e216_54, e216_55, e216_56, e216_59, e216_60, e216_61, e216_64, e216_66, e216_67, e216_68, e216_69, e216_72, e216_73, e216_74, e216_75, e216_76, e216_79, e216_80, e216_83, e216_84, kv_s, kh_s, kr_s, kr_v, kn_s, z0, z1, z2, nI_ltI, nI_leI, nI_eq, nI_add, oN, bz0, bz1, bw0, bw1, ltT, ltF, leT, leF, eqT, eqF, if_true, if_false, kI_n, wI_n, and_true, true_and, and_false, false_and, not_true, not_false_eq_true, mwo, mwr_0, mwr_1, mwr_2, mwg_3, mwp_3, mwr_4, mwg_5, mwp_5, mwg_6, mwp_6, mwr_7, mwr_8, mwg_9, mwp_9, mwg_10, mwp_10, mwg_11, mwp_11, mwr_12, mwg_13, mwp_13, mwr_14, mwr_15, mwr_16, mwr_17, mwr_18, mwr_19, mwg_20, mwp_20, mwr_21, mwr_22, mwr_23, mwa_1, mwu_1, mwa_2, mwu_2, mwa_3, mwu_3, mwa_4, mwu_4, mwa_5, mwu_5, mwa_6, mwu_6, mwa_7, mwu_7, mwa_8, mwu_8, mwa_9, mwu_9, mwa_10, mwu_10, mwa_11, mwu_11, mwa_12, mwu_12, mwa_13, mwu_13, mwa_14, mwu_14, mwa_15, mwu_15, mwa_16, mwu_16, vu_at, vu_ne, pk_us, pk_un, kB_n, wB_n, kL_n, wL_n, mwo, e1, h.2.1, M_latest h, M_value h (show f ≤ f + j by omega) (show f + j ≤ l by omega), M_value h (show f ≤ l by omega) (Nat.le_refl l), hv, M_tell0]
theorem C_key_no (h : RB c σ T d f l V) {y : Int32} (hy : isK d y = false) : dcall 114 [.ref c, .int y] (cw σ c A R I) = some (some (.int (-nI 1)), cw σ c A R I) ∧ dcall 106 [.ref c, .int y] (cw σ c A R I) = some (some (.int (-nI 1)), cw σ c A R I) := by
  constructor
  · rw [q114]
    simp (disch := first | omega | exact tl_l | exact tT_len | (simp only [List.length_cons, List.length_nil])) only [e114_0, e114_1, e114_4, e114_5, e114_8, e114_11, e114_12, e114_13, e114_14, e114_17, e114_20, e114_21, e114_24, e114_25, e114_26, e114_29, e114_32, e114_33, e114_34, e114_36, e114_37, e114_40, e114_43, e114_46, e114_47, e114_50, e114_51, e114_54, e114_55, e114_58, e114_60, e114_62, e114_63, e114_66, e114_67, e114_70, e114_73, e114_74, e114_77, e114_79, e114_80, e114_83, e114_84, e114_85, e114_88, e114_91, e114_93, kv_s, kh_s, kr_s, kr_v, kn_s, z0, z1, z2, nI_ltI, nI_leI, nI_eq, nI_add, oN, bz0, bz1, bw0, bw1, ltT, ltF, leT, leF, eqT, eqF, if_true, if_false, kI_n, wI_n, and_true, true_and, and_false, false_and, not_true, not_false_eq_true, cwo_1, cwr_1, cwg_0, cwg_1, cwg_2, cwa_0, cwl_0, cwo_3, cwr_3, cwg_3, cwa_R, cwl_R, cwo_5, cwr_5, cwg_4, cwg_5, cwg_6, cwg_7, cwg_8, cwa_1, cwl_1, cwo_7, cwr_7, cwg_9, cwg_10, cwg_11, cwg_12, cwg_13, cwa_2, cwl_2, cwo_17, cwr_17, cwg_14, cwa_3, cwl_3, cwp_0, cwp_1, cwp_2, cwp_3, cwp_4, cwp_5, cwp_6, cwp_7, cwp_8, cwp_9, cwp_10, cwp_11, cwp_12, cwp_13, cwp_14, cwu_0, cwu_R, cwu_1, cwu_2, cwu_3, vu_at, vu_ne, pk_us, pk_un, h.x.f0, h.x.f1, h.x.f2, h.x.f3, h.x.f4, h.x.f5, h.x.f6, h.x.f7, h.x.o, h.hi.o, h.hi.gd, h.hi.gf, h.hi.gl, Hi_keys h.hi h.d8, Hi_hasKey h.hi h.d8, Rw_empty, Rw_add, List.nil_append, List.cons_append, upd_upd, cwo_1, cwo_3, cwo_5, cwo_7, cwo_17, Bool.false_eq_true, n01, hy]
  · rw [q106]
    simp (disch := first | omega | exact tl_l | exact tT_len | (simp only [List.length_cons, List.length_nil])) only [e106_0, e106_1, e106_4, e106_5, e106_8, e106_11, e106_12, e106_13, e106_14, e106_17, e106_18, e106_21, e106_24, e106_27, e106_28, e106_31, e106_32, e106_33, e106_36, e106_39, e106_40, e106_43, e106_44, e106_47, e106_50, e106_51, e106_54, e106_55, e106_58, e106_59, e106_60, e106_63, e106_64, e106_65, e106_66, e106_69, e106_72, e106_73, e106_74, e106_78, e106_79, e106_82, e106_85, e106_88, e106_89, e106_92, e106_94, e106_97, e106_98, e106_101, e106_103, e106_105, e106_106, e106_109, e106_110, e106_113, e106_115, e106_116, e106_119, e106_120, e106_123, e106_125, e106_126, e106_129, e106_132, e106_134, e106_135, e106_138, e106_141, e106_142, kv_s, kh_s, kr_s, kr_v, kn_s, z0, z1, z2, nI_ltI, nI_leI, nI_eq, nI_add, oN, bz0, bz1, bw0, bw1, ltT, ltF, leT, leF, eqT, eqF, if_true, if_false, kI_n, wI_n, and_true, true_and, and_false, false_and, not_true, not_false_eq_true, cwo_1, cwr_1, cwg_0, cwg_1, cwg_2, cwa_0, cwl_0, cwo_3, cwr_3, cwg_3, cwa_R, cwl_R, cwo_5, cwr_5, cwg_4, cwg_5, cwg_6, cwg_7, cwg_8, cwa_1, cwl_1, cwo_7, cwr_7, cwg_9, cwg_10, cwg_11, cwg_12, cwg_13, cwa_2, cwl_2, cwo_17, cwr_17, cwg_14, cwa_3, cwl_3, cwp_0, cwp_1, cwp_2, cwp_3, cwp_4, cwp_5, cwp_6, cwp_7, cwp_8, cwp_9, cwp_10, cwp_11, cwp_12, cwp_13, cwp_14, cwu_0, cwu_R, cwu_1, cwu_2, cwu_3, vu_at, vu_ne, pk_us, pk_un, h.x.f0, h.x.f1, h.x.f2, h.x.f3, h.x.f4, h.x.f5, h.x.f6, h.x.f7, h.x.o, h.hi.o, h.hi.gd, h.hi.gf, h.hi.gl, Hi_keys h.hi h.d8, Hi_hasKey h.hi h.d8, Rw_empty, Rw_add, List.nil_append, List.cons_append, upd_upd, cwo_1, cwo_3, cwo_5, cwo_7, cwo_17, Bool.false_eq_true, n01, hy]
theorem Ms_key_no (h : nowM (A 1) d f l V) {y : Int32} (hy : isK d y = false) : Ms 216 [.ref m, .int y] σ m A R I (.int (-nI 1)) ∧ Ms 221 [.ref m, .int y] σ m A R I (.int (-nI 1)) := by
  constructor
  · refine ⟨A, upd I 6 (nI 0), ?_, stay.rf, pk_un (by omega), pk_un (by omega)⟩
    rw [q216]
    simp (disch := first | omega | exact tl_l | exact tT_len | (simp only [List.length_cons, List.length_nil])) only [e216_0, e216_1, e216_2, e216_5, e216_6, e216_7, e216_10, e216_13, e216_14, e216_15, e216_16, e216_19, e216_21, e216_22, e216_25, e216_26, e216_27, e216_30, e216_31, e216_32, e216_33, e216_36, e216_37, e216_38, e216_41, e216_42, e216_45, e216_48, e216_51, e216_54, e216_55, e216_56, e216_59, e216_60, e216_61, e216_64, e216_66, e216_67, e216_68, e216_69, e216_72, e216_73, e216_74, e216_75, e216_76, e216_79, e216_80, e216_83, e216_84, kv_s, kh_s, kr_s, kr_v, kn_s, z0, z1, z2, nI_ltI, nI_leI, nI_eq, nI_add, oN, bz0, bz1, bw0, bw1, ltT, ltF, leT, leF, eqT, eqF, if_true, if_false, kI_n, wI_n, and_true, true_and, and_false, false_and, not_true, not_false_eq_true, mwo, mwr_0, mwr_1, mwr_2, mwg_3, mwp_3, mwr_4, mwg_5, mwp_5, mwg_6, mwp_6, mwr_7, mwr_8, mwg_9, mwp_9, mwg_10, mwp_10, mwg_11, mwp_11, mwr_12, mwg_13, mwp_13, mwr_14, mwr_15, mwr_16, mwr_17, mwr_18, mwr_19, mwg_20, mwp_20, mwr_21, mwr_22, mwr_23, mwa_1, mwu_1, mwa_2, mwu_2, mwa_3, mwu_3, mwa_4, mwu_4, mwa_5, mwu_5, mwa_6, mwu_6, mwa_7, mwu_7, mwa_8, mwu_8, mwa_9, mwu_9, mwa_10, mwu_10, mwa_11, mwu_11, mwa_12, mwu_12, mwa_13, mwu_13, mwa_14, mwu_14, mwa_15, mwu_15, mwa_16, mwu_16, vu_at, vu_ne, pk_us, pk_un, kB_n, wB_n, kL_n, wL_n, M_isKey h, hy, Bool.false_eq_true]
  · refine ⟨A, upd I 6 (nI 0), ?_, stay.rf, pk_un (by omega), pk_un (by omega)⟩
    rw [q221]
    simp (disch := first | omega | exact tl_l | exact tT_len | (simp only [List.length_cons, List.length_nil])) only [e221_0, e221_1, e221_2, e221_5, e221_6, e221_7, e221_10, e221_13, e221_14, e221_15, e221_16, e221_17, e221_18, e221_19, e221_22, e221_23, e221_26, e221_27, e221_28, e221_30, e221_31, e221_34, e221_37, e221_38, e221_39, e221_42, e221_43, e221_44, e221_47, e221_48, e221_49, e221_50, e221_53, e221_54, e221_55, e221_56, e221_57, e221_58, e221_61, e221_64, e221_67, e221_68, e221_69, e221_70, e221_73, e221_74, e221_75, e221_78, e221_79, e221_82, e221_83, e221_84, e221_85, e221_86, e221_87, e221_88, e221_91, e221_92, e221_93, e221_94, e221_95, e221_98, e221_99, e221_102, e221_105, e221_108, e221_109, kv_s, kh_s, kr_s, kr_v, kn_s, z0, z1, z2, nI_ltI, nI_leI, nI_eq, nI_add, oN, bz0, bz1, bw0, bw1, ltT, ltF, leT, leF, eqT, eqF, if_true, if_false, kI_n, wI_n, and_true, true_and, and_false, false_and, not_true, not_false_eq_true, mwo, mwr_0, mwr_1, mwr_2, mwg_3, mwp_3, mwr_4, mwg_5, mwp_5, mwg_6, mwp_6, mwr_7, mwr_8, mwg_9, mwp_9, mwg_10, mwp_10, mwg_11, mwp_11, mwr_12, mwg_13, mwp_13, mwr_14, mwr_15, mwr_16, mwr_17, mwr_18, mwr_19, mwg_20, mwp_20, mwr_21, mwr_22, mwr_23, mwa_1, mwu_1, mwa_2, mwu_2, mwa_3, mwu_3, mwa_4, mwu_4, mwa_5, mwu_5, mwa_6, mwu_6, mwa_7, mwu_7, mwa_8, mwu_8, mwa_9, mwu_9, mwa_10, mwu_10, mwa_11, mwu_11, mwa_12, mwu_12, mwa_13, mwu_13, mwa_14, mwu_14, mwa_15, mwu_15, mwa_16, mwu_16, vu_at, vu_ne, pk_us, pk_un, kB_n, wB_n, kL_n, wL_n, M_isKey h, hy, Bool.false_eq_true]
theorem J_since (y : Int32) : Jn 114 216 [.int y] := by
  rintro c i σ hi ⟨z, n, B, L, q, K, A, R, I, A2, R2, I2, h⟩
  obtain ⟨T, hb⟩ := h.rb
  have hl := hb.fl
  have hK := hb.K
  have hN := h.nm
  cases hs : isK z.1 y with
  | false => exact Inv_same h hi (C_key_no hb hs).1 (Ms_key_no hN hs).1
  | true =>
    obtain ⟨k, hk, rfl⟩ := isK_of hb.d8 hs
    obtain ⟨t, t1, t2⟩ := hb.t (v := z.2.2.1) hl.1 (Nat.le_refl _)
    have f1 : z.2.1 + (z.2.2.1 - z.2.1) = z.2.2.1 := by omega
    have f2 : z.2.1 + (z.2.2.1 - z.2.1 + 1) = z.2.2.1 + 1 := by omega
    have e1 := C_since_loop (A := A) (R := R) (I := I) hb hk (z.2.2.1 - z.2.1) (l4 := junk) (by omega)
    have e2 := fun τ => M_since_loop (σ := τ) (m := c + 24) (A := A2) (R := R2) (I := upd I2 6 (nI 0)) hN hk (z.2.2.1 - z.2.1 + 1) (by omega)
    have ed : dn (onP z.2.2.2 k z.2.2.1) z.2.1 (z.2.2.1 - z.2.1 + 1) = dn (onP z.2.2.2 k z.2.2.1) z.2.1 (z.2.2.1 - z.2.1) := by
      rw [dn, f1, onP, decide_eq_true rfl]; rfl
    have g3 : nI (z.2.2.1 + 1) - nI 1 = nI z.2.2.1 := by rw [pk_sub (by omega)]; rfl
    rw [f1] at e1
    simp only [f2, ed, g3] at e2
    have c1 : dcall 114 [.ref c, .int (nI k)] (cw σ c A R I) = den 114 35 [.ref c, .int (nI k), .int (z.2.2.2 z.2.2.1 k), .int (nI z.2.2.1 - nI 1), junk] [] (cw σ c A R I) := by
      have h := hb
      rw [q114]
      simp (disch := first | omega | exact tl_l | exact tT_len | (simp only [List.length_cons, List.length_nil])) only [e114_0, e114_1, e114_4, e114_5, e114_8, e114_11, e114_12, e114_13, e114_14, e114_17, e114_20, e114_21, e114_24, e114_25, e114_26, e114_29, e114_32, e114_33, e114_34, e114_36, e114_37, e114_40, e114_43, e114_46, e114_47, e114_50, e114_51, e114_54, e114_55, e114_58, e114_60, e114_62, e114_63, e114_66, e114_67, e114_70, e114_73, e114_74, e114_77, e114_79, e114_80, e114_83, e114_84, e114_85, e114_88, e114_91, e114_93, kv_s, kh_s, kr_s, kr_v, kn_s, z0, z1, z2, nI_ltI, nI_leI, nI_eq, nI_add, oN, bz0, bz1, bw0, bw1, ltT, ltF, leT, leF, eqT, eqF, if_true, if_false, kI_n, wI_n, and_true, true_and, and_false, false_and, not_true, not_false_eq_true, cwo_1, cwr_1, cwg_0, cwg_1, cwg_2, cwa_0, cwl_0, cwo_3, cwr_3, cwg_3, cwa_R, cwl_R, cwo_5, cwr_5, cwg_4, cwg_5, cwg_6, cwg_7, cwg_8, cwa_1, cwl_1, cwo_7, cwr_7, cwg_9, cwg_10, cwg_11, cwg_12, cwg_13, cwa_2, cwl_2, cwo_17, cwr_17, cwg_14, cwa_3, cwl_3, cwp_0, cwp_1, cwp_2, cwp_3, cwp_4, cwp_5, cwp_6, cwp_7, cwp_8, cwp_9, cwp_10, cwp_11, cwp_12, cwp_13, cwp_14, cwu_0, cwu_R, cwu_1, cwu_2, cwu_3, vu_at, vu_ne, pk_us, pk_un, h.x.f0, h.x.f1, h.x.f2, h.x.f3, h.x.f4, h.x.f5, h.x.f6, h.x.f7, h.x.o, h.hi.o, h.hi.gd, h.hi.gf, h.hi.gl, Hi_keys h.hi h.d8, Hi_hasKey h.hi h.d8, Rw_empty, Rw_add, List.nil_append, List.cons_append, upd_upd, cwo_1, cwo_3, cwo_5, cwo_7, cwo_17, Bool.false_eq_true, n01, hs, Hi_newest_is h.hi (show z.2.2.1 < 2 ^ 31 by omega) t1, t2.o, T_val t2]
    have c2 : ∀ τ, dcall 216 [.ref (c + 24), .int (nI k)] (mw τ (c + 24) A2 R2 I2) = den 216 20 [.ref (c + 24), .int (nI k), .int (nI z.2.2.1)] [] (mw τ (c + 24) A2 R2 (upd I2 6 (nI 0))) := by
      intro τ
      rw [q216]
      simp (disch := first | omega | exact tl_l | exact tT_len | (simp only [List.length_cons, List.length_nil])) only [e216_0, e216_1, e216_2, e216_5, e216_6, e216_7, e216_10, e216_13, e216_14, e216_15, e216_16, e216_19, e216_21, e216_22, e216_25, e216_26, e216_27, e216_30, e216_31, e216_32, e216_33, e216_36, e216_37, e216_38, e216_41, e216_42, e216_45, e216_48, e216_51, e216_54, e216_55, e216_56, e216_59, e216_60, e216_61, e216_64, e216_66, e216_67, e216_68, e216_69, e216_72, e216_73, e216_74, e216_75, e216_76, e216_79, e216_80, e216_83, e216_84, kv_s, kh_s, kr_s, kr_v, kn_s, z0, z1, z2, nI_ltI, nI_leI, nI_eq, nI_add, oN, bz0, bz1, bw0, bw1, ltT, ltF, leT, leF, eqT, eqF, if_true, if_false, kI_n, wI_n, and_true, true_and, and_false, false_and, not_true, not_false_eq_true, mwo, mwr_0, mwr_1, mwr_2, mwg_3, mwp_3, mwr_4, mwg_5, mwp_5, mwg_6, mwp_6, mwr_7, mwr_8, mwg_9, mwp_9, mwg_10, mwp_10, mwg_11, mwp_11, mwr_12, mwg_13, mwp_13, mwr_14, mwr_15, mwr_16, mwr_17, mwr_18, mwr_19, mwg_20, mwp_20, mwr_21, mwr_22, mwr_23, mwa_1, mwu_1, mwa_2, mwu_2, mwa_3, mwu_3, mwa_4, mwu_4, mwa_5, mwu_5, mwa_6, mwu_6, mwa_7, mwu_7, mwa_8, mwu_8, mwa_9, mwu_9, mwa_10, mwu_10, mwa_11, mwu_11, mwa_12, mwu_12, mwa_13, mwu_13, mwa_14, mwu_14, mwa_15, mwu_15, mwa_16, mwu_16, vu_at, vu_ne, pk_us, pk_un, kB_n, wB_n, kL_n, wL_n, M_isKey hN, hs, n01, M_latest hN]
    rw [e1] at c1
    simp only [e2] at c2
    cases hd : dn (onP z.2.2.2 k z.2.2.1) z.2.1 (z.2.2.1 - z.2.1) with
    | none =>
      rw [hd] at c1
      simp only [hd] at c2
      exact Inv_same h hi c1 (fun {τ} => ⟨_, _, c2 τ, stay.rf, pk_un (by omega), pk_un (by omega)⟩)
    | some v =>
      rw [hd] at c1
      simp only [hd] at c2
      exact Inv_tell h hi c1 (fun {τ} => ⟨_, _, c2 τ, stay.rf, by rw [pk_un (by omega), pk_un (by omega)], pk_us⟩) rfl (by omega)
/-- the changes of a key, told -/
def hiL (V : Nat → Nat → Int32) (k f : Nat) : Nat → List Int64
  | 0 => [lN f, (V f k).toInt64]
  | j + 1 => if cgP V k (f + 1 + j) = true then hiL V k f j ++ [lN (f + 1 + j)] ++ [(V (f + 1 + j) k).toInt64] else hiL V k f j
theorem hiL_len {k j : Nat} : (hiL V k f j).length = 2 + 2 * cnt (cgP V k) (f + 1) j := by
  induction j with
  | zero => rfl
  | succ j ih =>
    rw [hiL]
    show _ = 2 + 2 * (cnt (cgP V k) (f + 1) j + if cgP V k (f + 1 + j) = true then 1 else 0)
    by_cases h : cgP V k (f + 1 + j) = true
    · rw [if_pos h, if_pos h, List.length_append, List.length_append, ih]; simp only [List.length_cons, List.length_nil]; omega
    · rw [if_neg h, if_neg h, ih]; rfl
theorem C_hist_loop (h : RB c σ T d f l V) {k : Nat} (hk : k < 2 ^ d) : ∀ (n j : Nat) {l5 : Value}, f + j + n = l → den 106 76 [.ref c, .int (nI k), .int (V (f + j) k), .int (nI (cnt (cgP V k) (f + 1) j)), .int (nI (f + 1 + j)), l5] [] (cw σ c A (rl R (hiL V k f j)) (upd I 3 (nI (2 + 2 * cnt (cgP V k) (f + 1) j)))) = some (some (.int (nI (chg1 V f l k))), cw σ c A (rl R (hiL V k f (l - f))) (upd I 3 (nI (2 + 2 * chg1 V f l k)))) := by
  have hK := h.K
  have hl := h.fl
  intro n
  induction n with
  | zero =>
    intro j l5 hj
    have : j = l - f := by omega
    subst this
    unfold chg1
    rw [e106_76]
    simp (disch := first | omega | exact tl_l | exact tT_len | (simp only [List.length_cons, List.length_nil])) only [e106_0, e106_1, e106_4, e106_5, e106_8, e106_11, e106_12, e106_13, e106_14, e106_17, e106_18, e106_21, e106_24, e106_27, e106_28, e106_31, e106_32, e106_33, e106_36, e106_39, e106_40, e106_43, e106_44, e106_47, e106_50, e106_51, e106_54, e106_55, e106_58, e106_59, e106_60, e106_63, e106_64, e106_65, e106_66, e106_69, e106_72, e106_73, e106_74, e106_78, e106_79, e106_82, e106_85, e106_88, e106_89, e106_92, e106_94, e106_97, e106_98, e106_101, e106_103, e106_105, e106_106, e106_109, e106_110, e106_113, e106_115, e106_116, e106_119, e106_120, e106_123, e106_125, e106_126, e106_129, e106_132, e106_134, e106_135, e106_138, e106_141, e106_142, kv_s, kh_s, kr_s, kr_v, kn_s, z0, z1, z2, nI_ltI, nI_leI, nI_eq, nI_add, oN, bz0, bz1, bw0, bw1, ltT, ltF, leT, leF, eqT, eqF, if_true, if_false, kI_n, wI_n, and_true, true_and, and_false, false_and, not_true, not_false_eq_true, cwo_1, cwr_1, cwg_0, cwg_1, cwg_2, cwa_0, cwl_0, cwo_3, cwr_3, cwg_3, cwa_R, cwl_R, cwo_5, cwr_5, cwg_4, cwg_5, cwg_6, cwg_7, cwg_8, cwa_1, cwl_1, cwo_7, cwr_7, cwg_9, cwg_10, cwg_11, cwg_12, cwg_13, cwa_2, cwl_2, cwo_17, cwr_17, cwg_14, cwa_3, cwl_3, cwp_0, cwp_1, cwp_2, cwp_3, cwp_4, cwp_5, cwp_6, cwp_7, cwp_8, cwp_9, cwp_10, cwp_11, cwp_12, cwp_13, cwp_14, cwu_0, cwu_R, cwu_1, cwu_2, cwu_3, vu_at, vu_ne, pk_us, pk_un, h.x.f0, h.x.f1, h.x.f2, h.x.f3, h.x.f4, h.x.f5, h.x.f6, h.x.f7, h.x.o, h.hi.o, h.hi.gd, h.hi.gf, h.hi.gl, Hi_keys h.hi h.d8, Hi_hasKey h.hi h.d8, Rw_empty, Rw_add, List.nil_append, List.cons_append, upd_upd, cwo_1, cwo_3, cwo_5, cwo_7, cwo_17, Bool.false_eq_true, n01]
  | succ n ih =>
    intro j l5 hj
    obtain ⟨t, t1, t2⟩ := h.t (v := f + 1 + j) (by omega) (by omega)
    have hc := cnt_le (cgP V k) (f + 1) j
    have hlen := hiL_len (V := V) (f := f) (k := k) (j := j)
    have hlen2 : (hiL V k f j ++ [lN (f + 1 + j)]).length = 2 + 2 * cnt (cgP V k) (f + 1) j + 1 := by rw [List.length_append, hlen]; rfl
    rw [← ih (j + 1) (l5 := .int (V (f + 1 + j) k)) (by omega), cg_s, hiL, show f + (j + 1) = f + 1 + j by omega, show f + 1 + (j + 1) = f + 1 + j + 1 from rfl]
    by_cases hv : V (f + 1 + j) k = V (f + j) k
    · have hP : cgP V k (f + 1 + j) = false := by unfold cgP; rw [show f + 1 + j - 1 = f + j by omega, decide_eq_true hv]; rfl
      rw [e106_76]
      simp (disch := first | omega | exact tl_l | exact tT_len | (simp only [List.length_cons, List.length_nil])) only [e106_0, e106_1, e106_4, e106_5, e106_8, e106_11, e106_12, e106_13, e106_14, e106_17, e106_18, e106_21, e106_24, e106_27, e106_28, e106_31, e106_32, e106_33, e106_36, e106_39, e106_40, e106_43, e106_44, e106_47, e106_50, e106_51, e106_54, e106_55, e106_58, e106_59, e106_60, e106_63, e106_64, e106_65, e106_66, e106_69, e106_72, e106_73, e106_74, e106_78, e106_79, e106_82, e106_85, e106_88, e106_89, e106_92, e106_94, e106_97, e106_98, e106_101, e106_103, e106_105, e106_106, e106_109, e106_110, e106_113, e106_115, e106_116, e106_119, e106_120, e106_123, e106_125, e106_126, e106_129, e106_132, e106_134, e106_135, e106_138, e106_141, e106_142, kv_s, kh_s, kr_s, kr_v, kn_s, z0, z1, z2, nI_ltI, nI_leI, nI_eq, nI_add, oN, bz0, bz1, bw0, bw1, ltT, ltF, leT, leF, eqT, eqF, if_true, if_false, kI_n, wI_n, and_true, true_and, and_false, false_and, not_true, not_false_eq_true, cwo_1, cwr_1, cwg_0, cwg_1, cwg_2, cwa_0, cwl_0, cwo_3, cwr_3, cwg_3, cwa_R, cwl_R, cwo_5, cwr_5, cwg_4, cwg_5, cwg_6, cwg_7, cwg_8, cwa_1, cwl_1, cwo_7, cwr_7, cwg_9, cwg_10, cwg_11, cwg_12, cwg_13, cwa_2, cwl_2, cwo_17, cwr_17, cwg_14, cwa_3, cwl_3, cwp_0, cwp_1, cwp_2, cwp_3, cwp_4, cwp_5, cwp_6, cwp_7, cwp_8, cwp_9, cwp_10, cwp_11, cwp_12, cwp_13, cwp_14, cwu_0, cwu_R, cwu_1, cwu_2, cwu_3, vu_at, vu_ne, pk_us, pk_un, h.x.f0, h.x.f1, h.x.f2, h.x.f3, h.x.f4, h.x.f5, h.x.f6, h.x.f7, h.x.o, h.hi.o, h.hi.gd, h.hi.gf, h.hi.gl, Hi_keys h.hi h.d8, Hi_hasKey h.hi h.d8, Rw_empty, Rw_add, List.nil_append, List.cons_append, upd_upd, cwo_1, cwo_3, cwo_5, cwo_7, cwo_17, Bool.false_eq_true, n01, Hi_hold_is h.hi (show f + 1 + j < 2 ^ 31 by omega) t1, t2.o, T_val t2, hv, Nat.add_zero, hP]
    · have hP : cgP V k (f + 1 + j) = true := by unfold cgP; rw [show f + 1 + j - 1 = f + j by omega, decide_eq_false hv]; rfl
      rw [e106_76]
      simp (disch := first | omega | exact tl_l | exact tT_len | (simp only [List.length_cons, List.length_nil])) only [e106_0, e106_1, e106_4, e106_5, e106_8, e106_11, e106_12, e106_13, e106_14, e106_17, e106_18, e106_21, e106_24, e106_27, e106_28, e106_31, e106_32, e106_33, e106_36, e106_39, e106_40, e106_43, e106_44, e106_47, e106_50, e106_51, e106_54, e106_55, e106_58, e106_59, e106_60, e106_63, e106_64, e106_65, e106_66, e106_69, e106_72, e106_73, e106_74, e106_78, e106_79, e106_82, e106_85, e106_88, e106_89, e106_92, e106_94, e106_97, e106_98, e106_101, e106_103, e106_105, e106_106, e106_109, e106_110, e106_113, e106_115, e106_116, e106_119, e106_120, e106_123, e106_125, e106_126, e106_129, e106_132, e106_134, e106_135, e106_138, e106_141, e106_142, kv_s, kh_s, kr_s, kr_v, kn_s, z0, z1, z2, nI_ltI, nI_leI, nI_eq, nI_add, oN, bz0, bz1, bw0, bw1, ltT, ltF, leT, leF, eqT, eqF, if_true, if_false, kI_n, wI_n, and_true, true_and, and_false, false_and, not_true, not_false_eq_true, cwo_1, cwr_1, cwg_0, cwg_1, cwg_2, cwa_0, cwl_0, cwo_3, cwr_3, cwg_3, cwa_R, cwl_R, cwo_5, cwr_5, cwg_4, cwg_5, cwg_6, cwg_7, cwg_8, cwa_1, cwl_1, cwo_7, cwr_7, cwg_9, cwg_10, cwg_11, cwg_12, cwg_13, cwa_2, cwl_2, cwo_17, cwr_17, cwg_14, cwa_3, cwl_3, cwp_0, cwp_1, cwp_2, cwp_3, cwp_4, cwp_5, cwp_6, cwp_7, cwp_8, cwp_9, cwp_10, cwp_11, cwp_12, cwp_13, cwp_14, cwu_0, cwu_R, cwu_1, cwu_2, cwu_3, vu_at, vu_ne, pk_us, pk_un, h.x.f0, h.x.f1, h.x.f2, h.x.f3, h.x.f4, h.x.f5, h.x.f6, h.x.f7, h.x.o, h.hi.o, h.hi.gd, h.hi.gf, h.hi.gl, Hi_keys h.hi h.d8, Hi_hasKey h.hi h.d8, Rw_empty, Rw_add, List.nil_append, List.cons_append, upd_upd, cwo_1, cwo_3, cwo_5, cwo_7, cwo_17, Bool.false_eq_true, n01, Hi_hold_is h.hi (show f + 1 + j < 2 ^ 31 by omega) t1, t2.o, T_val t2, hv, hP, nI_l]
      rw [show 2 + 2 * (cnt (cgP V k) (f + 1) j + 1) = 2 + 2 * cnt (cgP V k) (f + 1) j + 1 + 1 by omega]
theorem M_hist_loop (h : nowM (A 1) d f l V) {k : Nat} (hk : k < 2 ^ d) : ∀ (n j : Nat), f + j + n = l → den 221 29 [.ref m, .int (nI k), .int (nI (cnt (cgP V k) (f + 1) j)), .int (nI (f + 1 + j))] [] (mw σ m A (rl R (hiL V k f j)) (upd I 5 (nI (2 + 2 * cnt (cgP V k) (f + 1) j)))) = some (some (.int (nI (chg1 V f l k))), mw σ m A (rl R (hiL V k f (l - f))) (upd I 5 (nI (2 + 2 * chg1 V f l k)))) := by
  have hK := h.K
  intro n
  induction n with
  | zero =>
    intro j hj
    have : j = l - f := by omega
    subst this
    unfold chg1
    rw [e221_29]
    simp (disch := first | omega | exact tl_l | exact tT_len | (simp only [List.length_cons, List.length_nil])) only [e221_0, e221_1, e221_2, e221_5, e221_6, e221_7, e221_10, e221_13, e221_14, e221_15, e221_16, e221_17, e221_18, e221_19, e221_22, e221_23, e221_26, e221_27, e221_28, e221_30, e221_31, e221_34, e221_37, e221_38, e221_39, e221_42, e221_43, e221_44, e221_47, e221_48, e221_49, e221_50, e221_53, e221_54, e221_55, e221_56, e221_57, e221_58, e221_61, e221_64, e221_67, e221_68, e221_69, e221_70, e221_73, e221_74, e221_75, e221_78, e221_79, e221_82, e221_83, e221_84, e221_85, e221_86, e221_87, e221_88, e221_91, e221_92, e221_93, e221_94, e221_95, e221_98, e221_99, e221_102, e221_105, e221_108, e221_109, kv_s, kh_s, kr_s, kr_v, kn_s, z0, z1, z2, nI_ltI, nI_leI, nI_eq, nI_add, oN, bz0, bz1, bw0, bw1, ltT, ltF, leT, leF, eqT, eqF, if_true, if_false, kI_n, wI_n, and_true, true_and, and_false, false_and, not_true, not_false_eq_true, mwo, mwr_0, mwr_1, mwr_2, mwg_3, mwp_3, mwr_4, mwg_5, mwp_5, mwg_6, mwp_6, mwr_7, mwr_8, mwg_9, mwp_9, mwg_10, mwp_10, mwg_11, mwp_11, mwr_12, mwg_13, mwp_13, mwr_14, mwr_15, mwr_16, mwr_17, mwr_18, mwr_19, mwg_20, mwp_20, mwr_21, mwr_22, mwr_23, mwa_1, mwu_1, mwa_2, mwu_2, mwa_3, mwu_3, mwa_4, mwu_4, mwa_5, mwu_5, mwa_6, mwu_6, mwa_7, mwu_7, mwa_8, mwu_8, mwa_9, mwu_9, mwa_10, mwu_10, mwa_11, mwu_11, mwa_12, mwu_12, mwa_13, mwu_13, mwa_14, mwu_14, mwa_15, mwu_15, mwa_16, mwu_16, vu_at, vu_ne, pk_us, pk_un, kB_n, wB_n, kL_n, wL_n, mwo, M_latest h]
  | succ n ih =>
    intro j hj
    have hc := cnt_le (cgP V k) (f + 1) j
    have hlen := hiL_len (V := V) (f := f) (k := k) (j := j)
    have hlen2 : (hiL V k f j ++ [lN (f + 1 + j)]).length = 2 + 2 * cnt (cgP V k) (f + 1) j + 1 := by rw [List.length_append, hlen]; rfl
    have e1 : nI (f + 1 + j) - nI 1 = nI (f + j) := by rw [pk_sub (by omega), show f + 1 + j - 1 = f + j by omega]
    have b0 : ¬ nI (f + 1 + j) ≤ nI f := nI_ge (by omega) (by omega)
    rw [← ih (j + 1) (by omega), cg_s, hiL, show f + 1 + (j + 1) = f + 1 + j + 1 from rfl]
    by_cases hv : V (f + 1 + j) k = V (f + j) k
    · have hP : cgP V k (f + 1 + j) = false := by unfold cgP; rw [show f + 1 + j - 1 = f + j by omega, decide_eq_true hv]; rfl
      rw [e221_29]
      simp (disch := first | omega | exact tl_l | exact tT_len | (simp only [List.length_cons, List.length_nil])) only [e221_0, e221_1, e221_2, e221_5, e221_6, e221_7, e221_10, e221_13, e221_14, e221_15, e221_16, e221_17, e221_18, e221_19, e221_22, e221_23, e221_26, e221_27, e221_28, e221_30, e221_31, e221_34, e221_37, e221_38, e221_39, e221_42, e221_43, e221_44, e221_47, e221_48, e221_49, e221_50, e221_53, e221_54, e221_55, e221_56, e221_57, e221_58, e221_61, e221_64, e221_67, e221_68, e221_69, e221_70, e221_73, e221_74, e221_75, e221_78, e221_79, e221_82, e221_83, e221_84, e221_85, e221_86, e221_87, e221_88, e221_91, e221_92, e221_93, e221_94, e221_95, e221_98, e221_99, e221_102, e221_105, e221_108, e221_109, kv_s, kh_s, kr_s, kr_v, kn_s, z0, z1, z2, nI_ltI, nI_leI, nI_eq, nI_add, oN, bz0, bz1, bw0, bw1, ltT, ltF, leT, leF, eqT, eqF, if_true, if_false, kI_n, wI_n, and_true, true_and, and_false, false_and, not_true, not_false_eq_true, mwo, mwr_0, mwr_1, mwr_2, mwg_3, mwp_3, mwr_4, mwg_5, mwp_5, mwg_6, mwp_6, mwr_7, mwr_8, mwg_9, mwp_9, mwg_10, mwp_10, mwg_11, mwp_11, mwr_12, mwg_13, mwp_13, mwr_14, mwr_15, mwr_16, mwr_17, mwr_18, mwr_19, mwg_20, mwp_20, mwr_21, mwr_22, mwr_23, mwa_1, mwu_1, mwa_2, mwu_2, mwa_3, mwu_3, mwa_4, mwu_4, mwa_5, mwu_5, mwa_6, mwu_6, mwa_7, mwu_7, mwa_8, mwu_8, mwa_9, mwu_9, mwa_10, mwu_10, mwa_11, mwu_11, mwa_12, mwu_12, mwa_13, mwu_13, mwa_14, mwu_14, mwa_15, mwu_15, mwa_16, mwu_16, vu_at, vu_ne, pk_us, pk_un, kB_n, wB_n, kL_n, wL_n, mwo, M_latest h, h.2.1, b0, e1, M_value h (show f ≤ f + 1 + j by omega) (show f + 1 + j ≤ l by omega), M_value h (show f ≤ f + j by omega) (show f + j ≤ l by omega), hv, Nat.add_zero, hP, Bool.false_eq_true]
    · have hP : cgP V k (f + 1 + j) = true := by unfold cgP; rw [show f + 1 + j - 1 = f + j by omega, decide_eq_false hv]; rfl
      rw [e221_29]
      simp (disch := first | omega | exact tl_l | exact tT_len | (simp only [List.length_cons, List.length_nil])) only [e221_0, e221_1, e221_2, e221_5, e221_6, e221_7, e221_10, e221_13, e221_14, e221_15, e221_16, e221_17, e221_18, e221_19, e221_22, e221_23, e221_26, e221_27, e221_28, e221_30, e221_31, e221_34, e221_37, e221_38, e221_39, e221_42, e221_43, e221_44, e221_47, e221_48, e221_49, e221_50, e221_53, e221_54, e221_55, e221_56, e221_57, e221_58, e221_61, e221_64, e221_67, e221_68, e221_69, e221_70, e221_73, e221_74, e221_75, e221_78, e221_79, e221_82, e221_83, e221_84, e221_85, e221_86, e221_87, e221_88, e221_91, e221_92, e221_93, e221_94, e221_95, e221_98, e221_99, e221_102, e221_105, e221_108, e221_109, kv_s, kh_s, kr_s, kr_v, kn_s, z0, z1, z2, nI_ltI, nI_leI, nI_eq, nI_add, oN, bz0, bz1, bw0, bw1, ltT, ltF, leT, leF, eqT, eqF, if_true, if_false, kI_n, wI_n, and_true, true_and, and_false, false_and, not_true, not_false_eq_true, mwo, mwr_0, mwr_1, mwr_2, mwg_3, mwp_3, mwr_4, mwg_5, mwp_5, mwg_6, mwp_6, mwr_7, mwr_8, mwg_9, mwp_9, mwg_10, mwp_10, mwg_11, mwp_11, mwr_12, mwg_13, mwp_13, mwr_14, mwr_15, mwr_16, mwr_17, mwr_18, mwr_19, mwg_20, mwp_20, mwr_21, mwr_22, mwr_23, mwa_1, mwu_1, mwa_2, mwu_2, mwa_3, mwu_3, mwa_4, mwu_4, mwa_5, mwu_5, mwa_6, mwu_6, mwa_7, mwu_7, mwa_8, mwu_8, mwa_9, mwu_9, mwa_10, mwu_10, mwa_11, mwu_11, mwa_12, mwu_12, mwa_13, mwu_13, mwa_14, mwu_14, mwa_15, mwu_15, mwa_16, mwu_16, vu_at, vu_ne, pk_us, pk_un, kB_n, wB_n, kL_n, wL_n, mwo, M_latest h, h.2.1, b0, e1, M_value h (show f ≤ f + 1 + j by omega) (show f + 1 + j ≤ l by omega), M_value h (show f ≤ f + j by omega) (show f + j ≤ l by omega), hv, hP, nI_l, M_tell]
      rw [show 2 + 2 * (cnt (cgP V k) (f + 1) j + 1) = 2 + 2 * cnt (cgP V k) (f + 1) j + 1 + 1 by omega]
theorem J_history (y : Int32) : Jn 106 221 [.int y] := by
  rintro c i σ hi ⟨z, n, B, L, q, K, A, R, I, A2, R2, I2, h⟩
  obtain ⟨T, hb⟩ := h.rb
  have hl := hb.fl
  have hK := hb.K
  have hN := h.nm
  cases hs : isK z.1 y with
  | false => exact Inv_same h hi (C_key_no hb hs).2 (Ms_key_no hN hs).2
  | true =>
    obtain ⟨k, hk, rfl⟩ := isK_of hb.d8 hs
    obtain ⟨t, t1, t2⟩ := hb.t (v := z.2.1) (Nat.le_refl _) hl.1
    have hch := chg1_lt (V := z.2.2.2) (k := k) hl.2.1
    refine Inv_tell h hi (L' := hiL z.2.2.2 k z.2.1 (z.2.2.1 - z.2.1)) (k := 2 + 2 * chg1 z.2.2.2 z.2.1 z.2.2.1 k) (b := .int (nI (chg1 z.2.2.2 z.2.1 z.2.2.1 k))) ?_ ?_ hiL_len (by omega)
    · rw [← C_hist_loop (A := A) (R := R) (I := I) hb hk (z.2.2.1 - z.2.1) 0 (l5 := junk) (by omega)]
      have h := hb
      rw [q106]
      simp (disch := first | omega | exact tl_l | exact tT_len | (simp only [List.length_cons, List.length_nil])) only [e106_0, e106_1, e106_4, e106_5, e106_8, e106_11, e106_12, e106_13, e106_14, e106_17, e106_18, e106_21, e106_24, e106_27, e106_28, e106_31, e106_32, e106_33, e106_36, e106_39, e106_40, e106_43, e106_44, e106_47, e106_50, e106_51, e106_54, e106_55, e106_58, e106_59, e106_60, e106_63, e106_64, e106_65, e106_66, e106_69, e106_72, e106_73, e106_74, e106_78, e106_79, e106_82, e106_85, e106_88, e106_89, e106_92, e106_94, e106_97, e106_98, e106_101, e106_103, e106_105, e106_106, e106_109, e106_110, e106_113, e106_115, e106_116, e106_119, e106_120, e106_123, e106_125, e106_126, e106_129, e106_132, e106_134, e106_135, e106_138, e106_141, e106_142, kv_s, kh_s, kr_s, kr_v, kn_s, z0, z1, z2, nI_ltI, nI_leI, nI_eq, nI_add, oN, bz0, bz1, bw0, bw1, ltT, ltF, leT, leF, eqT, eqF, if_true, if_false, kI_n, wI_n, and_true, true_and, and_false, false_and, not_true, not_false_eq_true, cwo_1, cwr_1, cwg_0, cwg_1, cwg_2, cwa_0, cwl_0, cwo_3, cwr_3, cwg_3, cwa_R, cwl_R, cwo_5, cwr_5, cwg_4, cwg_5, cwg_6, cwg_7, cwg_8, cwa_1, cwl_1, cwo_7, cwr_7, cwg_9, cwg_10, cwg_11, cwg_12, cwg_13, cwa_2, cwl_2, cwo_17, cwr_17, cwg_14, cwa_3, cwl_3, cwp_0, cwp_1, cwp_2, cwp_3, cwp_4, cwp_5, cwp_6, cwp_7, cwp_8, cwp_9, cwp_10, cwp_11, cwp_12, cwp_13, cwp_14, cwu_0, cwu_R, cwu_1, cwu_2, cwu_3, vu_at, vu_ne, pk_us, pk_un, h.x.f0, h.x.f1, h.x.f2, h.x.f3, h.x.f4, h.x.f5, h.x.f6, h.x.f7, h.x.o, h.hi.o, h.hi.gd, h.hi.gf, h.hi.gl, Hi_keys h.hi h.d8, Hi_hasKey h.hi h.d8, Rw_empty, Rw_add, List.nil_append, List.cons_append, upd_upd, cwo_1, cwo_3, cwo_5, cwo_7, cwo_17, Bool.false_eq_true, n01, hs, Hi_hold_is h.hi (show z.2.1 < 2 ^ 31 by omega) t1, t2.o, T_val t2, nI_l, cnt, hiL, Nat.add_zero, Nat.mul_zero]
    · intro τ
      refine ⟨A2, upd (upd I2 6 (nI 0)) 5 (nI (2 + 2 * chg1 z.2.2.2 z.2.1 z.2.2.1 k)), ?_, stay.rf, by rw [pk_un (by omega), pk_un (by omega)], pk_us⟩
      rw [← M_hist_loop (σ := τ) (m := c + 24) (A := A2) (R := R2) (I := upd I2 6 (nI 0)) hN hk (z.2.2.1 - z.2.1) 0 (by omega)]
      rw [q221]
      simp (disch := first | omega | exact tl_l | exact tT_len | (simp only [List.length_cons, List.length_nil])) only [e221_0, e221_1, e221_2, e221_5, e221_6, e221_7, e221_10, e221_13, e221_14, e221_15, e221_16, e221_17, e221_18, e221_19, e221_22, e221_23, e221_26, e221_27, e221_28, e221_30, e221_31, e221_34, e221_37, e221_38, e221_39, e221_42, e221_43, e221_44, e221_47, e221_48, e221_49, e221_50, e221_53, e221_54, e221_55, e221_56, e221_57, e221_58, e221_61, e221_64, e221_67, e221_68, e221_69, e221_70, e221_73, e221_74, e221_75, e221_78, e221_79, e221_82, e221_83, e221_84, e221_85, e221_86, e221_87, e221_88, e221_91, e221_92, e221_93, e221_94, e221_95, e221_98, e221_99, e221_102, e221_105, e221_108, e221_109, kv_s, kh_s, kr_s, kr_v, kn_s, z0, z1, z2, nI_ltI, nI_leI, nI_eq, nI_add, oN, bz0, bz1, bw0, bw1, ltT, ltF, leT, leF, eqT, eqF, if_true, if_false, kI_n, wI_n, and_true, true_and, and_false, false_and, not_true, not_false_eq_true, mwo, mwr_0, mwr_1, mwr_2, mwg_3, mwp_3, mwr_4, mwg_5, mwp_5, mwg_6, mwp_6, mwr_7, mwr_8, mwg_9, mwp_9, mwg_10, mwp_10, mwg_11, mwp_11, mwr_12, mwg_13, mwp_13, mwr_14, mwr_15, mwr_16, mwr_17, mwr_18, mwr_19, mwg_20, mwp_20, mwr_21, mwr_22, mwr_23, mwa_1, mwu_1, mwa_2, mwu_2, mwa_3, mwu_3, mwa_4, mwu_4, mwa_5, mwu_5, mwa_6, mwu_6, mwa_7, mwu_7, mwa_8, mwu_8, mwa_9, mwu_9, mwa_10, mwu_10, mwa_11, mwu_11, mwa_12, mwu_12, mwa_13, mwu_13, mwa_14, mwu_14, mwa_15, mwu_15, mwa_16, mwu_16, vu_at, vu_ne, pk_us, pk_un, kB_n, wB_n, kL_n, wL_n, M_isKey hN, hs, n01, hN.2.1]
      rw [e221_29]
      simp (disch := first | omega | exact tl_l | exact tT_len | (simp only [List.length_cons, List.length_nil])) only [e221_0, e221_1, e221_2, e221_5, e221_6, e221_7, e221_10, e221_13, e221_14, e221_15, e221_16, e221_17, e221_18, e221_19, e221_22, e221_23, e221_26, e221_27, e221_28, e221_30, e221_31, e221_34, e221_37, e221_38, e221_39, e221_42, e221_43, e221_44, e221_47, e221_48, e221_49, e221_50, e221_53, e221_54, e221_55, e221_56, e221_57, e221_58, e221_61, e221_64, e221_67, e221_68, e221_69, e221_70, e221_73, e221_74, e221_75, e221_78, e221_79, e221_82, e221_83, e221_84, e221_85, e221_86, e221_87, e221_88, e221_91, e221_92, e221_93, e221_94, e221_95, e221_98, e221_99, e221_102, e221_105, e221_108, e221_109, kv_s, kh_s, kr_s, kr_v, kn_s, z0, z1, z2, nI_ltI, nI_leI, nI_eq, nI_add, oN, bz0, bz1, bw0, bw1, ltT, ltF, leT, leF, eqT, eqF, if_true, if_false, kI_n, wI_n, and_true, true_and, and_false, false_and, not_true, not_false_eq_true, mwo, mwr_0, mwr_1, mwr_2, mwg_3, mwp_3, mwr_4, mwg_5, mwp_5, mwg_6, mwp_6, mwr_7, mwr_8, mwg_9, mwp_9, mwg_10, mwp_10, mwg_11, mwp_11, mwr_12, mwg_13, mwp_13, mwr_14, mwr_15, mwr_16, mwr_17, mwr_18, mwr_19, mwg_20, mwp_20, mwr_21, mwr_22, mwr_23, mwa_1, mwu_1, mwa_2, mwu_2, mwa_3, mwu_3, mwa_4, mwu_4, mwa_5, mwu_5, mwa_6, mwu_6, mwa_7, mwu_7, mwa_8, mwu_8, mwa_9, mwu_9, mwa_10, mwu_10, mwa_11, mwu_11, mwa_12, mwu_12, mwa_13, mwu_13, mwa_14, mwu_14, mwa_15, mwu_15, mwa_16, mwu_16, vu_at, vu_ne, pk_us, pk_un, kB_n, wB_n, kL_n, wL_n, mwo, M_latest hN, hN.2.1, nI_l, M_tell0, M_tell, M_value hN (Nat.le_refl z.2.1) hl.1, List.nil_append, List.cons_append, cnt, hiL, Nat.add_zero, Nat.mul_zero]
end JS
