/-! calls: since, hot, history -/
/-- is a key's value another one than a version ahead? -/
def cgP (V : Nat → Nat → Int32) (k v : Nat) : Bool := !decide (V v k = V (v - 1) k)
/-- changes of a key -/
def chg1 (V : Nat → Nat → Int32) (f l k : Nat) : Nat := cnt (cgP V k) (f + 1) (l - f)
theorem cg_s {V : Nat → Nat → Int32} {f k j : Nat} : cnt (cgP V k) (f + 1) (j + 1) = cnt (cgP V k) (f + 1) j + if V (f + 1 + j) k = V (f + j) k then 0 else 1 := by
  show _ + (if cgP V k (f + 1 + j) = true then 1 else 0) = _
  unfold cgP
  rw [show f + 1 + j - 1 = f + j by omega]
  by_cases h : V (f + 1 + j) k = V (f + j) k
  · rw [if_pos h, decide_eq_true h]; rfl
  · rw [if_neg h, decide_eq_false h]; rfl
def bst (ch : Nat → Nat) : Nat → Nat
  | 0 => 0
  | n + 1 => if ch (bst ch n) < ch n then n else bst ch n
theorem bst_lt {ch : Nat → Nat} : ∀ n, bst ch n < n + 1 := by
  intro n
  induction n with
  | zero => exact Nat.lt_succ_self _
  | succ n ih => rw [bst]; split <;> omega
section JR
variable {c i : Nat} {σ : Hp} {m d f l : Nat} {V : Nat → Nat → Int32} {T : Nat → Option Nat} {A : Nat → Nat → Int32} {R : Nat → Int64} {I : Nat → Int32}
theorem C_chg_loop (h : RB c σ T d f l V) {k : Nat} (hk : k < 2 ^ d) : ∀ (n j : Nat) {l5 : Value}, f + j + n = l → den 108 32 [.ref c, .int (nI k), .int (nI (cnt (cgP V k) (f + 1) j)), .int (V (f + j) k), .int (nI (f + 1 + j)), l5] [] (cw σ c A R I) = some (some (.int (nI (chg1 V f l k))), cw σ c A R I) := by
  have hK := h.K
  have hl := h.fl
  intro n
  induction n with
  | zero =>
    intro j l5 hj
    have : j = l - f := by omega
    subst this
    unfold chg1
    rw [e108_32]
    simp (disch := first | omega | exact tl_l | exact tT_len | (simp only [List.length_cons, List.length_nil])) only [e108_0, e108_1, e108_2, e108_3, e108_6, e108_7, e108_10, e108_13, e108_16, e108_17, e108_20, e108_21, e108_22, e108_25, e108_28, e108_29, e108_30, e108_34, e108_35, e108_38, e108_41, e108_44, e108_45, e108_48, e108_50, e108_53, e108_54, e108_57, e108_59, e108_61, e108_62, e108_65, e108_68, e108_70, e108_71, e108_74, e108_77, e108_78, kv_s, kh_s, kr_s, kr_v, kn_s, z0, z1, z2, nI_ltI, nI_leI, nI_eq, nI_add, oN, bz0, bz1, bw0, bw1, ltT, ltF, leT, leF, eqT, eqF, if_true, if_false, kI_n, wI_n, and_true, true_and, and_false, false_and, not_true, not_false_eq_true, cwo_1, cwr_1, cwg_0, cwg_1, cwg_2, cwa_0, cwl_0, cwo_3, cwr_3, cwg_3, cwa_R, cwl_R, cwo_5, cwr_5, cwg_4, cwg_5, cwg_6, cwg_7, cwg_8, cwa_1, cwl_1, cwo_7, cwr_7, cwg_9, cwg_10, cwg_11, cwg_12, cwg_13, cwa_2, cwl_2, cwo_17, cwr_17, cwg_14, cwa_3, cwl_3, cwp_0, cwp_1, cwp_2, cwp_3, cwp_4, cwp_5, cwp_6, cwp_7, cwp_8, cwp_9, cwp_10, cwp_11, cwp_12, cwp_13, cwp_14, cwu_0, cwu_R, cwu_1, cwu_2, cwu_3, vu_at, vu_ne, pk_us, pk_un, h.x.f0, h.x.f1, h.x.f2, h.x.f3, h.x.f4, h.x.f5, h.x.f6, h.x.f7, h.x.o, h.hi.o, h.hi.gd, h.hi.gf, h.hi.gl, Hi_keys h.hi h.d8, Hi_hasKey h.hi h.d8, Rw_empty, Rw_add, List.nil_append, List.cons_append, upd_upd, cwo_1, cwo_3, cwo_5, cwo_7, cwo_17, Bool.false_eq_true, n01]
  | succ n ih =>
    intro j l5 hj
    obtain ⟨t, t1, t2⟩ := h.t (v := f + 1 + j) (by omega) (by omega)
    rw [← ih (j + 1) (l5 := .int (V (f + 1 + j) k)) (by omega), cg_s, show f + (j + 1) = f + 1 + j by omega, show f + 1 + (j + 1) = f + 1 + j + 1 from rfl]
    by_cases hv : V (f + 1 + j) k = V (f + j) k
    · rw [e108_32]
      simp (disch := first | omega | exact tl_l | exact tT_len | (simp only [List.length_cons, List.length_nil])) only [e108_0, e108_1, e108_2, e108_3, e108_6, e108_7, e108_10, e108_13, e108_16, e108_17, e108_20, e108_21, e108_22, e108_25, e108_28, e108_29, e108_30, e108_34, e108_35, e108_38, e108_41, e108_44, e108_45, e108_48, e108_50, e108_53, e108_54, e108_57, e108_59, e108_61, e108_62, e108_65, e108_68, e108_70, e108_71, e108_74, e108_77, e108_78, kv_s, kh_s, kr_s, kr_v, kn_s, z0, z1, z2, nI_ltI, nI_leI, nI_eq, nI_add, oN, bz0, bz1, bw0, bw1, ltT, ltF, leT, leF, eqT, eqF, if_true, if_false, kI_n, wI_n, and_true, true_and, and_false, false_and, not_true, not_false_eq_true, cwo_1, cwr_1, cwg_0, cwg_1, cwg_2, cwa_0, cwl_0, cwo_3, cwr_3, cwg_3, cwa_R, cwl_R, cwo_5, cwr_5, cwg_4, cwg_5, cwg_6, cwg_7, cwg_8, cwa_1, cwl_1, cwo_7, cwr_7, cwg_9, cwg_10, cwg_11, cwg_12, cwg_13, cwa_2, cwl_2, cwo_17, cwr_17, cwg_14, cwa_3, cwl_3, cwp_0, cwp_1, cwp_2, cwp_3, cwp_4, cwp_5, cwp_6, cwp_7, cwp_8, cwp_9, cwp_10, cwp_11, cwp_12, cwp_13, cwp_14, cwu_0, cwu_R, cwu_1, cwu_2, cwu_3, vu_at, vu_ne, pk_us, pk_un, h.x.f0, h.x.f1, h.x.f2, h.x.f3, h.x.f4, h.x.f5, h.x.f6, h.x.f7, h.x.o, h.hi.o, h.hi.gd, h.hi.gf, h.hi.gl, Hi_keys h.hi h.d8, Hi_hasKey h.hi h.d8, Rw_empty, Rw_add, List.nil_append, List.cons_append, upd_upd, cwo_1, cwo_3, cwo_5, cwo_7, cwo_17, Bool.false_eq_true, n01, Hi_hold_is h.hi (show f + 1 + j < 2 ^ 31 by omega) t1, t2.o, T_val t2, hv, Nat.add_zero]
    · rw [e108_32]
      simp (disch := first | omega | exact tl_l | exact tT_len | (simp only [List.length_cons, List.length_nil])) only [e108_0, e108_1, e108_2, e108_3, e108_6, e108_7, e108_10, e108_13, e108_16, e108_17, e108_20, e108_21, e108_22, e108_25, e108_28, e108_29, e108_30, e108_34, e108_35, e108_38, e108_41, e108_44, e108_45, e108_48, e108_50, e108_53, e108_54, e108_57, e108_59, e108_61, e108_62, e108_65, e108_68, e108_70, e108_71, e108_74, e108_77, e108_78, kv_s, kh_s, kr_s, kr_v, kn_s, z0, z1, z2, nI_ltI, nI_leI, nI_eq, nI_add, oN, bz0, bz1, bw0, bw1, ltT, ltF, leT, leF, eqT, eqF, if_true, if_false, kI_n, wI_n, and_true, true_and, and_false, false_and, not_true, not_false_eq_true, cwo_1, cwr_1, cwg_0, cwg_1, cwg_2, cwa_0, cwl_0, cwo_3, cwr_3, cwg_3, cwa_R, cwl_R, cwo_5, cwr_5, cwg_4, cwg_5, cwg_6, cwg_7, cwg_8, cwa_1, cwl_1, cwo_7, cwr_7, cwg_9, cwg_10, cwg_11, cwg_12, cwg_13, cwa_2, cwl_2, cwo_17, cwr_17, cwg_14, cwa_3, cwl_3, cwp_0, cwp_1, cwp_2, cwp_3, cwp_4, cwp_5, cwp_6, cwp_7, cwp_8, cwp_9, cwp_10, cwp_11, cwp_12, cwp_13, cwp_14, cwu_0, cwu_R, cwu_1, cwu_2, cwu_3, vu_at, vu_ne, pk_us, pk_un, h.x.f0, h.x.f1, h.x.f2, h.x.f3, h.x.f4, h.x.f5, h.x.f6, h.x.f7, h.x.o, h.hi.o, h.hi.gd, h.hi.gf, h.hi.gl, Hi_keys h.hi h.d8, Hi_hasKey h.hi h.d8, Rw_empty, Rw_add, List.nil_append, List.cons_append, upd_upd, cwo_1, cwo_3, cwo_5, cwo_7, cwo_17, Bool.false_eq_true, n01, Hi_hold_is h.hi (show f + 1 + j < 2 ^ 31 by omega) t1, t2.o, T_val t2, hv]
theorem C_chg (h : RB c σ T d f l V) {k : Nat} (hk : k < 2 ^ d) : dcall 108 [.ref c, .int (nI k)] (cw σ c A R I) = some (some (.int (nI (chg1 V f l k))), cw σ c A R I) := by
  have hl := h.fl
  obtain ⟨t, t1, t2⟩ := h.t (v := f) (by omega) (by omega)
  rw [← C_chg_loop (A := A) (R := R) (I := I) h hk (l - f) 0 (l5 := junk) (by omega)]
  rw [q108]
  simp (disch := first | omega | exact tl_l | exact tT_len | (simp only [List.length_cons, List.length_nil])) only [e108_0, e108_1, e108_2, e108_3, e108_6, e108_7, e108_10, e108_13, e108_16, e108_17, e108_20, e108_21, e108_22, e108_25, e108_28, e108_29, e108_30, e108_34, e108_35, e108_38, e108_41, e108_44, e108_45, e108_48, e108_50, e108_53, e108_54, e108_57, e108_59, e108_61, e108_62, e108_65, e108_68, e108_70, e108_71, e108_74, e108_77, e108_78, kv_s, kh_s, kr_s, kr_v, kn_s, z0, z1, z2, nI_ltI, nI_leI, nI_eq, nI_add, oN, bz0, bz1, bw0, bw1, ltT, ltF, leT, leF, eqT, eqF, if_true, if_false, kI_n, wI_n, and_true, true_and, and_false, false_and, not_true, not_false_eq_true, cwo_1, cwr_1, cwg_0, cwg_1, cwg_2, cwa_0, cwl_0, cwo_3, cwr_3, cwg_3, cwa_R, cwl_R, cwo_5, cwr_5, cwg_4, cwg_5, cwg_6, cwg_7, cwg_8, cwa_1, cwl_1, cwo_7, cwr_7, cwg_9, cwg_10, cwg_11, cwg_12, cwg_13, cwa_2, cwl_2, cwo_17, cwr_17, cwg_14, cwa_3, cwl_3, cwp_0, cwp_1, cwp_2, cwp_3, cwp_4, cwp_5, cwp_6, cwp_7, cwp_8, cwp_9, cwp_10, cwp_11, cwp_12, cwp_13, cwp_14, cwu_0, cwu_R, cwu_1, cwu_2, cwu_3, vu_at, vu_ne, pk_us, pk_un, h.x.f0, h.x.f1, h.x.f2, h.x.f3, h.x.f4, h.x.f5, h.x.f6, h.x.f7, h.x.o, h.hi.o, h.hi.gd, h.hi.gf, h.hi.gl, Hi_keys h.hi h.d8, Hi_hasKey h.hi h.d8, Rw_empty, Rw_add, List.nil_append, List.cons_append, upd_upd, cwo_1, cwo_3, cwo_5, cwo_7, cwo_17, Bool.false_eq_true, n01, Hi_hold_is h.hi (show f < 2 ^ 31 by omega) t1, t2.o, T_val t2, cnt, Nat.add_zero]
theorem M_chg_loop (h : nowM (A 1) d f l V) {k : Nat} (hk : k < 2 ^ d) : ∀ (n j : Nat), f + j + n = l → den 223 11 [.ref m, .int (nI k), .int (nI (cnt (cgP V k) (f + 1) j)), .int (nI (f + 1 + j))] [] (mw σ m A R I) = some (some (.int (nI (chg1 V f l k))), mw σ m A R I) := by
  have hK := h.K
  intro n
  induction n with
  | zero =>
    intro j hj
    have : j = l - f := by omega
    subst this
    unfold chg1
    rw [e223_11]
    simp (disch := first | omega | exact tl_l | exact tT_len | (simp only [List.length_cons, List.length_nil])) only [e223_0, e223_1, e223_2, e223_3, e223_6, e223_7, e223_8, e223_9, e223_10, e223_12, e223_13, e223_16, e223_19, e223_20, e223_21, e223_22, e223_23, e223_26, e223_27, e223_28, e223_29, e223_30, e223_31, e223_34, e223_37, e223_38, e223_41, e223_42, e223_43, e223_44, e223_47, e223_50, e223_51, kv_s, kh_s, kr_s, kr_v, kn_s, z0, z1, z2, nI_ltI, nI_leI, nI_eq, nI_add, oN, bz0, bz1, bw0, bw1, ltT, ltF, leT, leF, eqT, eqF, if_true, if_false, kI_n, wI_n, and_true, true_and, and_false, false_and, not_true, not_false_eq_true, mwo, mwr_0, mwr_1, mwr_2, mwg_3, mwp_3, mwr_4, mwg_5, mwp_5, mwg_6, mwp_6, mwr_7, mwr_8, mwg_9, mwp_9, mwg_10, mwp_10, mwg_11, mwp_11, mwr_12, mwg_13, mwp_13, mwr_14, mwr_15, mwr_16, mwr_17, mwr_18, mwr_19, mwg_20, mwp_20, mwr_21, mwr_22, mwr_23, mwa_1, mwu_1, mwa_2, mwu_2, mwa_3, mwu_3, mwa_4, mwu_4, mwa_5, mwu_5, mwa_6, mwu_6, mwa_7, mwu_7, mwa_8, mwu_8, mwa_9, mwu_9, mwa_10, mwu_10, mwa_11, mwu_11, mwa_12, mwu_12, mwa_13, mwu_13, mwa_14, mwu_14, mwa_15, mwu_15, mwa_16, mwu_16, vu_at, vu_ne, pk_us, pk_un, kB_n, wB_n, kL_n, wL_n, mwo, M_latest h]
  | succ n ih =>
    intro j hj
    rw [← ih (j + 1) (by omega), cg_s, show f + 1 + (j + 1) = f + 1 + j + 1 from rfl]
    have e1 : nI (f + 1 + j) - nI 1 = nI (f + j) := by rw [pk_sub (by omega), show f + 1 + j - 1 = f + j by omega]
    by_cases hv : V (f + 1 + j) k = V (f + j) k
    · rw [e223_11]
      simp (disch := first | omega | exact tl_l | exact tT_len | (simp only [List.length_cons, List.length_nil])) only [e223_0, e223_1, e223_2, e223_3, e223_6, e223_7, e223_8, e223_9, e223_10, e223_12, e223_13, e223_16, e223_19, e223_20, e223_21, e223_22, e223_23, e223_26, e223_27, e223_28, e223_29, e223_30, e223_31, e223_34, e223_37, e223_38, e223_41, e223_42, e223_43, e223_44, e223_47, e223_50, e223_51, kv_s, kh_s, kr_s, kr_v, kn_s, z0, z1, z2, nI_ltI, nI_leI, nI_eq, nI_add, oN, bz0, bz1, bw0, bw1, ltT, ltF, leT, leF, eqT, eqF, if_true, if_false, kI_n, wI_n, and_true, true_and, and_false, false_and, not_true, not_false_eq_true, mwo, mwr_0, mwr_1, mwr_2, mwg_3, mwp_3, mwr_4, mwg_5, mwp_5, mwg_6, mwp_6, mwr_7, mwr_8, mwg_9, mwp_9, mwg_10, mwp_10, mwg_11, mwp_11, mwr_12, mwg_13, mwp_13, mwr_14, mwr_15, mwr_16, mwr_17, mwr_18, mwr_19, mwg_20, mwp_20, mwr_21, mwr_22, mwr_23, mwa_1, mwu_1, mwa_2, mwu_2, mwa_3, mwu_3, mwa_4, mwu_4, mwa_5, mwu_5, mwa_6, mwu_6, mwa_7, mwu_7, mwa_8, mwu_8, mwa_9, mwu_9, mwa_10, mwu_10, mwa_11, mwu_11, mwa_12, mwu_12, mwa_13, mwu_13, mwa_14, mwu_14, mwa_15, mwu_15, mwa_16, mwu_16, vu_at, vu_ne, pk_us, pk_un, kB_n, wB_n, kL_n, wL_n, M_latest h, M_value h (show f ≤ f + 1 + j by omega) (show f + 1 + j ≤ l by omega), e1, M_value h (show f ≤ f + j by omega) (show f + j ≤ l by omega), hv, Nat.add_zero]
    · rw [e223_11]
      simp (disch := first | omega | exact tl_l | exact tT_len | (simp only [List.length_cons, List.length_nil])) only [e223_0, e223_1, e223_2, e223_3, e223_6, e223_7, e223_8, e223_9, e223_10, e223_12, e223_13, e223_16, e223_19, e223_20, e223_21, e223_22, e223_23, e223_26, e223_27, e223_28, e223_29, e223_30, e223_31, e223_34, e223_37, e223_38, e223_41, e223_42, e223_43, e223_44, e223_47, e223_50, e223_51, kv_s, kh_s, kr_s, kr_v, kn_s, z0, z1, z2, nI_ltI, nI_leI, nI_eq, nI_add, oN, bz0, bz1, bw0, bw1, ltT, ltF, leT, leF, eqT, eqF, if_true, if_false, kI_n, wI_n, and_true, true_and, and_false, false_and, not_true, not_false_eq_true, mwo, mwr_0, mwr_1, mwr_2, mwg_3, mwp_3, mwr_4, mwg_5, mwp_5, mwg_6, mwp_6, mwr_7, mwr_8, mwg_9, mwp_9, mwg_10, mwp_10, mwg_11, mwp_11, mwr_12, mwg_13, mwp_13, mwr_14, mwr_15, mwr_16, mwr_17, mwr_18, mwr_19, mwg_20, mwp_20, mwr_21, mwr_22, mwr_23, mwa_1, mwu_1, mwa_2, mwu_2, mwa_3, mwu_3, mwa_4, mwu_4, mwa_5, mwu_5, mwa_6, mwu_6, mwa_7, mwu_7, mwa_8, mwu_8, mwa_9, mwu_9, mwa_10, mwu_10, mwa_11, mwu_11, mwa_12, mwu_12, mwa_13, mwu_13, mwa_14, mwu_14, mwa_15, mwu_15, mwa_16, mwu_16, vu_at, vu_ne, pk_us, pk_un, kB_n, wB_n, kL_n, wL_n, M_latest h, M_value h (show f ≤ f + 1 + j by omega) (show f + 1 + j ≤ l by omega), e1, M_value h (show f ≤ f + j by omega) (show f + j ≤ l by omega), hv]
theorem M_chg (h : nowM (A 1) d f l V) {k : Nat} (hk : k < 2 ^ d) : dcall 223 [.ref m, .int (nI k)] (mw σ m A R I) = some (some (.int (nI (chg1 V f l k))), mw σ m A R I) := by
  have hK := h.K
  rw [← M_chg_loop (A := A) (R := R) (I := I) h hk (l - f) 0 (by omega)]
  rw [q223]
  simp (disch := first | omega | exact tl_l | exact tT_len | (simp only [List.length_cons, List.length_nil])) only [e223_0, e223_1, e223_2, e223_3, e223_6, e223_7, e223_8, e223_9, e223_10, e223_12, e223_13, e223_16, e223_19, e223_20, e223_21, e223_22, e223_23, e223_26, e223_27, e223_28, e223_29, e223_30, e223_31, e223_34, e223_37, e223_38, e223_41, e223_42, e223_43, e223_44, e223_47, e223_50, e223_51, kv_s, kh_s, kr_s, kr_v, kn_s, z0, z1, z2, nI_ltI, nI_leI, nI_eq, nI_add, oN, bz0, bz1, bw0, bw1, ltT, ltF, leT, leF, eqT, eqF, if_true, if_false, kI_n, wI_n, and_true, true_and, and_false, false_and, not_true, not_false_eq_true, mwo, mwr_0, mwr_1, mwr_2, mwg_3, mwp_3, mwr_4, mwg_5, mwp_5, mwg_6, mwp_6, mwr_7, mwr_8, mwg_9, mwp_9, mwg_10, mwp_10, mwg_11, mwp_11, mwr_12, mwg_13, mwp_13, mwr_14, mwr_15, mwr_16, mwr_17, mwr_18, mwr_19, mwg_20, mwp_20, mwr_21, mwr_22, mwr_23, mwa_1, mwu_1, mwa_2, mwu_2, mwa_3, mwu_3, mwa_4, mwu_4, mwa_5, mwu_5, mwa_6, mwu_6, mwa_7, mwu_7, mwa_8, mwu_8, mwa_9, mwu_9, mwa_10, mwu_10, mwa_11, mwu_11, mwa_12, mwu_12, mwa_13, mwu_13, mwa_14, mwu_14, mwa_15, mwu_15, mwa_16, mwu_16, vu_at, vu_ne, pk_us, pk_un, kB_n, wB_n, kL_n, wL_n, h.2.1, cnt, Nat.add_zero]
theorem chg1_lt {k : Nat} (h : l < f + 12) : chg1 V f l k < 12 := by
  have := cnt_le (cgP V k) (f + 1) (l - f)
  unfold chg1
  omega
theorem C_hot_loop (h : RB c σ T d f l V) : ∀ (n k : Nat) {l4 : Value}, k + n = 2 ^ d → 1 ≤ k → den 107 6 [.ref c, .int (if chg1 V f l (bst (chg1 V f l) k) = 0 then -nI 1 else nI (bst (chg1 V f l) k)), .int (nI (chg1 V f l (bst (chg1 V f l) k))), .int (nI k), l4] [] (cw σ c A R I) = if chg1 V f l (bst (chg1 V f l) (2 ^ d)) = 0 then some (some (.int (-nI 2)), cw σ c A R I) else some (some (.int (nI (bst (chg1 V f l) (2 ^ d)))), cw σ c A (rl R [lN (chg1 V f l (bst (chg1 V f l) (2 ^ d)))]) (upd I 3 (nI 1))) := by
  have hK := h.K
  have hl := h.fl
  have hb : ∀ k, chg1 V f l k < 12 := fun k => chg1_lt hl.2.1
  intro n
  induction n with
  | zero =>
    intro k l4 hk _
    have : k = 2 ^ d := by omega
    subst this
    have b1 := hb (bst (chg1 V f l) (2 ^ d))
    have b2 := bst_lt (ch := chg1 V f l) (2 ^ d)
    by_cases h0 : chg1 V f l (bst (chg1 V f l) (2 ^ d)) = 0
    · rw [e107_6]
      simp (disch := first | omega | exact tl_l | exact tT_len | (simp only [List.length_cons, List.length_nil])) only [e107_0, e107_1, e107_2, e107_3, e107_4, e107_5, e107_7, e107_8, e107_11, e107_14, e107_17, e107_18, e107_19, e107_22, e107_24, e107_26, e107_27, e107_30, e107_31, e107_32, e107_34, e107_35, e107_38, e107_41, e107_42, e107_43, e107_46, e107_48, e107_49, e107_50, e107_53, e107_56, e107_57, e107_60, e107_61, e107_62, e107_65, e107_66, kv_s, kh_s, kr_s, kr_v, kn_s, z0, z1, z2, nI_ltI, nI_leI, nI_eq, nI_add, oN, bz0, bz1, bw0, bw1, ltT, ltF, leT, leF, eqT, eqF, if_true, if_false, kI_n, wI_n, and_true, true_and, and_false, false_and, not_true, not_false_eq_true, cwo_1, cwr_1, cwg_0, cwg_1, cwg_2, cwa_0, cwl_0, cwo_3, cwr_3, cwg_3, cwa_R, cwl_R, cwo_5, cwr_5, cwg_4, cwg_5, cwg_6, cwg_7, cwg_8, cwa_1, cwl_1, cwo_7, cwr_7, cwg_9, cwg_10, cwg_11, cwg_12, cwg_13, cwa_2, cwl_2, cwo_17, cwr_17, cwg_14, cwa_3, cwl_3, cwp_0, cwp_1, cwp_2, cwp_3, cwp_4, cwp_5, cwp_6, cwp_7, cwp_8, cwp_9, cwp_10, cwp_11, cwp_12, cwp_13, cwp_14, cwu_0, cwu_R, cwu_1, cwu_2, cwu_3, vu_at, vu_ne, pk_us, pk_un, h.x.f0, h.x.f1, h.x.f2, h.x.f3, h.x.f4, h.x.f5, h.x.f6, h.x.f7, h.x.o, h.hi.o, h.hi.gd, h.hi.gf, h.hi.gl, Hi_keys h.hi h.d8, Hi_hasKey h.hi h.d8, Rw_empty, Rw_add, List.nil_append, List.cons_append, upd_upd, cwo_1, cwo_3, cwo_5, cwo_7, cwo_17, Bool.false_eq_true, n01, h0, n1_n1]
    · rw [e107_6]
      simp (disch := first | omega | exact tl_l | exact tT_len | (simp only [List.length_cons, List.length_nil])) only [e107_0, e107_1, e107_2, e107_3, e107_4, e107_5, e107_7, e107_8, e107_11, e107_14, e107_17, e107_18, e107_19, e107_22, e107_24, e107_26, e107_27, e107_30, e107_31, e107_32, e107_34, e107_35, e107_38, e107_41, e107_42, e107_43, e107_46, e107_48, e107_49, e107_50, e107_53, e107_56, e107_57, e107_60, e107_61, e107_62, e107_65, e107_66, kv_s, kh_s, kr_s, kr_v, kn_s, z0, z1, z2, nI_ltI, nI_leI, nI_eq, nI_add, oN, bz0, bz1, bw0, bw1, ltT, ltF, leT, leF, eqT, eqF, if_true, if_false, kI_n, wI_n, and_true, true_and, and_false, false_and, not_true, not_false_eq_true, cwo_1, cwr_1, cwg_0, cwg_1, cwg_2, cwa_0, cwl_0, cwo_3, cwr_3, cwg_3, cwa_R, cwl_R, cwo_5, cwr_5, cwg_4, cwg_5, cwg_6, cwg_7, cwg_8, cwa_1, cwl_1, cwo_7, cwr_7, cwg_9, cwg_10, cwg_11, cwg_12, cwg_13, cwa_2, cwl_2, cwo_17, cwr_17, cwg_14, cwa_3, cwl_3, cwp_0, cwp_1, cwp_2, cwp_3, cwp_4, cwp_5, cwp_6, cwp_7, cwp_8, cwp_9, cwp_10, cwp_11, cwp_12, cwp_13, cwp_14, cwu_0, cwu_R, cwu_1, cwu_2, cwu_3, vu_at, vu_ne, pk_us, pk_un, h.x.f0, h.x.f1, h.x.f2, h.x.f3, h.x.f4, h.x.f5, h.x.f6, h.x.f7, h.x.o, h.hi.o, h.hi.gd, h.hi.gf, h.hi.gl, Hi_keys h.hi h.d8, Hi_hasKey h.hi h.d8, Rw_empty, Rw_add, List.nil_append, List.cons_append, upd_upd, cwo_1, cwo_3, cwo_5, cwo_7, cwo_17, Bool.false_eq_true, n01, h0, nI_n1, nI_l]
  | succ n ih =>
    intro k l4 hk h1
    have b1 := hb (bst (chg1 V f l) k)
    have b2 := hb k
    rw [← ih (k + 1) (l4 := .int (nI (chg1 V f l k))) (by omega) (by omega), bst]
    by_cases h2 : chg1 V f l (bst (chg1 V f l) k) < chg1 V f l k
    · have h3 : ¬ chg1 V f l k = 0 := by omega
      have h4 : ¬ chg1 V f l k ≤ chg1 V f l (bst (chg1 V f l) k) := by omega
      rw [e107_6]
      simp (disch := first | omega | exact tl_l | exact tT_len | (simp only [List.length_cons, List.length_nil])) only [e107_0, e107_1, e107_2, e107_3, e107_4, e107_5, e107_7, e107_8, e107_11, e107_14, e107_17, e107_18, e107_19, e107_22, e107_24, e107_26, e107_27, e107_30, e107_31, e107_32, e107_34, e107_35, e107_38, e107_41, e107_42, e107_43, e107_46, e107_48, e107_49, e107_50, e107_53, e107_56, e107_57, e107_60, e107_61, e107_62, e107_65, e107_66, kv_s, kh_s, kr_s, kr_v, kn_s, z0, z1, z2, nI_ltI, nI_leI, nI_eq, nI_add, oN, bz0, bz1, bw0, bw1, ltT, ltF, leT, leF, eqT, eqF, if_true, if_false, kI_n, wI_n, and_true, true_and, and_false, false_and, not_true, not_false_eq_true, cwo_1, cwr_1, cwg_0, cwg_1, cwg_2, cwa_0, cwl_0, cwo_3, cwr_3, cwg_3, cwa_R, cwl_R, cwo_5, cwr_5, cwg_4, cwg_5, cwg_6, cwg_7, cwg_8, cwa_1, cwl_1, cwo_7, cwr_7, cwg_9, cwg_10, cwg_11, cwg_12, cwg_13, cwa_2, cwl_2, cwo_17, cwr_17, cwg_14, cwa_3, cwl_3, cwp_0, cwp_1, cwp_2, cwp_3, cwp_4, cwp_5, cwp_6, cwp_7, cwp_8, cwp_9, cwp_10, cwp_11, cwp_12, cwp_13, cwp_14, cwu_0, cwu_R, cwu_1, cwu_2, cwu_3, vu_at, vu_ne, pk_us, pk_un, h.x.f0, h.x.f1, h.x.f2, h.x.f3, h.x.f4, h.x.f5, h.x.f6, h.x.f7, h.x.o, h.hi.o, h.hi.gd, h.hi.gf, h.hi.gl, Hi_keys h.hi h.d8, Hi_hasKey h.hi h.d8, Rw_empty, Rw_add, List.nil_append, List.cons_append, upd_upd, cwo_1, cwo_3, cwo_5, cwo_7, cwo_17, Bool.false_eq_true, n01, C_chg h, h2, h3, h4]
    · have h4 : chg1 V f l k ≤ chg1 V f l (bst (chg1 V f l) k) := by omega
      rw [e107_6]
      simp (disch := first | omega | exact tl_l | exact tT_len | (simp only [List.length_cons, List.length_nil])) only [e107_0, e107_1, e107_2, e107_3, e107_4, e107_5, e107_7, e107_8, e107_11, e107_14, e107_17, e107_18, e107_19, e107_22, e107_24, e107_26, e107_27, e107_30, e107_31, e107_32, e107_34, e107_35, e107_38, e107_41, e107_42, e107_43, e107_46, e107_48, e107_49, e107_50, e107_53, e107_56, e107_57, e107_60, e107_61, e107_62, e107_65, e107_66, kv_s, kh_s, kr_s, kr_v, kn_s, z0, z1, z2, nI_ltI, nI_leI, nI_eq, nI_add, oN, bz0, bz1, bw0, bw1, ltT, ltF, leT, leF, eqT, eqF, if_true, if_false, kI_n, wI_n, and_true, true_and, and_false, false_and, not_true, not_false_eq_true, cwo_1, cwr_1, cwg_0, cwg_1, cwg_2, cwa_0, cwl_0, cwo_3, cwr_3, cwg_3, cwa_R, cwl_R, cwo_5, cwr_5, cwg_4, cwg_5, cwg_6, cwg_7, cwg_8, cwa_1, cwl_1, cwo_7, cwr_7, cwg_9, cwg_10, cwg_11, cwg_12, cwg_13, cwa_2, cwl_2, cwo_17, cwr_17, cwg_14, cwa_3, cwl_3, cwp_0, cwp_1, cwp_2, cwp_3, cwp_4, cwp_5, cwp_6, cwp_7, cwp_8, cwp_9, cwp_10, cwp_11, cwp_12, cwp_13, cwp_14, cwu_0, cwu_R, cwu_1, cwu_2, cwu_3, vu_at, vu_ne, pk_us, pk_un, h.x.f0, h.x.f1, h.x.f2, h.x.f3, h.x.f4, h.x.f5, h.x.f6, h.x.f7, h.x.o, h.hi.o, h.hi.gd, h.hi.gf, h.hi.gl, Hi_keys h.hi h.d8, Hi_hasKey h.hi h.d8, Rw_empty, Rw_add, List.nil_append, List.cons_append, upd_upd, cwo_1, cwo_3, cwo_5, cwo_7, cwo_17, Bool.false_eq_true, n01, C_chg h, h2, h4]
theorem M_hot_loop (h : nowM (A 1) d f l V) : ∀ (n k : Nat), k + n = 2 ^ d → 1 ≤ k → den 222 9 [.ref m, .int (nI (bst (chg1 V f l) k)), .int (nI k)] [] (mw σ m A R I) = if chg1 V f l (bst (chg1 V f l) (2 ^ d)) = 0 then some (some (.int (-nI 2)), mw σ m A R I) else some (some (.int (nI (bst (chg1 V f l) (2 ^ d)))), mw σ m A (rl R [lN (chg1 V f l (bst (chg1 V f l) (2 ^ d)))]) (upd I 5 (nI 1))) := by
  have hK := h.K
  have hb : ∀ k, chg1 V f l k < 12 := fun k => chg1_lt hK.2.2.2.2.1
  have b3 : bst (chg1 V f l) (2 ^ d) < 2 ^ d := by
    obtain ⟨e, he⟩ : ∃ e, 2 ^ d = e + 1 := ⟨2 ^ d - 1, by omega⟩
    rw [he, bst]
    have := bst_lt (ch := chg1 V f l) e
    split <;> omega
  intro n
  induction n with
  | zero =>
    intro k hk _
    have : k = 2 ^ d := by omega
    subst this
    have b1 := hb (bst (chg1 V f l) (2 ^ d))
    by_cases h0 : chg1 V f l (bst (chg1 V f l) (2 ^ d)) = 0
    · rw [e222_9]
      simp (disch := first | omega | exact tl_l | exact tT_len | (simp only [List.length_cons, List.length_nil])) only [e222_0, e222_1, e222_2, e222_5, e222_6, e222_7, e222_8, e222_10, e222_11, e222_14, e222_17, e222_18, e222_19, e222_22, e222_23, e222_24, e222_27, e222_30, e222_31, e222_34, e222_35, e222_36, e222_39, e222_42, e222_43, e222_44, e222_47, e222_50, e222_52, e222_53, e222_54, e222_55, e222_58, e222_59, e222_60, e222_61, e222_64, e222_65, e222_68, e222_69, kv_s, kh_s, kr_s, kr_v, kn_s, z0, z1, z2, nI_ltI, nI_leI, nI_eq, nI_add, oN, bz0, bz1, bw0, bw1, ltT, ltF, leT, leF, eqT, eqF, if_true, if_false, kI_n, wI_n, and_true, true_and, and_false, false_and, not_true, not_false_eq_true, mwo, mwr_0, mwr_1, mwr_2, mwg_3, mwp_3, mwr_4, mwg_5, mwp_5, mwg_6, mwp_6, mwr_7, mwr_8, mwg_9, mwp_9, mwg_10, mwp_10, mwg_11, mwp_11, mwr_12, mwg_13, mwp_13, mwr_14, mwr_15, mwr_16, mwr_17, mwr_18, mwr_19, mwg_20, mwp_20, mwr_21, mwr_22, mwr_23, mwa_1, mwu_1, mwa_2, mwu_2, mwa_3, mwu_3, mwa_4, mwu_4, mwa_5, mwu_5, mwa_6, mwu_6, mwa_7, mwu_7, mwa_8, mwu_8, mwa_9, mwu_9, mwa_10, mwu_10, mwa_11, mwu_11, mwa_12, mwu_12, mwa_13, mwu_13, mwa_14, mwu_14, mwa_15, mwu_15, mwa_16, mwu_16, vu_at, vu_ne, pk_us, pk_un, kB_n, wB_n, kL_n, wL_n, mwo, M_keys h, M_chg h, h0]
    · rw [e222_9]
      simp (disch := first | omega | exact tl_l | exact tT_len | (simp only [List.length_cons, List.length_nil])) only [e222_0, e222_1, e222_2, e222_5, e222_6, e222_7, e222_8, e222_10, e222_11, e222_14, e222_17, e222_18, e222_19, e222_22, e222_23, e222_24, e222_27, e222_30, e222_31, e222_34, e222_35, e222_36, e222_39, e222_42, e222_43, e222_44, e222_47, e222_50, e222_52, e222_53, e222_54, e222_55, e222_58, e222_59, e222_60, e222_61, e222_64, e222_65, e222_68, e222_69, kv_s, kh_s, kr_s, kr_v, kn_s, z0, z1, z2, nI_ltI, nI_leI, nI_eq, nI_add, oN, bz0, bz1, bw0, bw1, ltT, ltF, leT, leF, eqT, eqF, if_true, if_false, kI_n, wI_n, and_true, true_and, and_false, false_and, not_true, not_false_eq_true, mwo, mwr_0, mwr_1, mwr_2, mwg_3, mwp_3, mwr_4, mwg_5, mwp_5, mwg_6, mwp_6, mwr_7, mwr_8, mwg_9, mwp_9, mwg_10, mwp_10, mwg_11, mwp_11, mwr_12, mwg_13, mwp_13, mwr_14, mwr_15, mwr_16, mwr_17, mwr_18, mwr_19, mwg_20, mwp_20, mwr_21, mwr_22, mwr_23, mwa_1, mwu_1, mwa_2, mwu_2, mwa_3, mwu_3, mwa_4, mwu_4, mwa_5, mwu_5, mwa_6, mwu_6, mwa_7, mwu_7, mwa_8, mwu_8, mwa_9, mwu_9, mwa_10, mwu_10, mwa_11, mwu_11, mwa_12, mwu_12, mwa_13, mwu_13, mwa_14, mwu_14, mwa_15, mwu_15, mwa_16, mwu_16, vu_at, vu_ne, pk_us, pk_un, kB_n, wB_n, kL_n, wL_n, mwo, M_keys h, M_chg h, h0, nI_l, M_tell0]
  | succ n ih =>
    intro k hk h1
    have b1 := hb (bst (chg1 V f l) k)
    have b2 := hb k
    have b4 := bst_lt (ch := chg1 V f l) k
    have b5 : bst (chg1 V f l) k < 2 ^ d := by omega
    rw [← ih (k + 1) (by omega) (by omega), bst]
    by_cases h2 : chg1 V f l (bst (chg1 V f l) k) < chg1 V f l k
    · have h4 : ¬ chg1 V f l k ≤ chg1 V f l (bst (chg1 V f l) k) := by omega
      rw [e222_9]
      simp (disch := first | omega | exact tl_l | exact tT_len | (simp only [List.length_cons, List.length_nil])) only [e222_0, e222_1, e222_2, e222_5, e222_6, e222_7, e222_8, e222_10, e222_11, e222_14, e222_17, e222_18, e222_19, e222_22, e222_23, e222_24, e222_27, e222_30, e222_31, e222_34, e222_35, e222_36, e222_39, e222_42, e222_43, e222_44, e222_47, e222_50, e222_52, e222_53, e222_54, e222_55, e222_58, e222_59, e222_60, e222_61, e222_64, e222_65, e222_68, e222_69, kv_s, kh_s, kr_s, kr_v, kn_s, z0, z1, z2, nI_ltI, nI_leI, nI_eq, nI_add, oN, bz0, bz1, bw0, bw1, ltT, ltF, leT, leF, eqT, eqF, if_true, if_false, kI_n, wI_n, and_true, true_and, and_false, false_and, not_true, not_false_eq_true, mwo, mwr_0, mwr_1, mwr_2, mwg_3, mwp_3, mwr_4, mwg_5, mwp_5, mwg_6, mwp_6, mwr_7, mwr_8, mwg_9, mwp_9, mwg_10, mwp_10, mwg_11, mwp_11, mwr_12, mwg_13, mwp_13, mwr_14, mwr_15, mwr_16, mwr_17, mwr_18, mwr_19, mwg_20, mwp_20, mwr_21, mwr_22, mwr_23, mwa_1, mwu_1, mwa_2, mwu_2, mwa_3, mwu_3, mwa_4, mwu_4, mwa_5, mwu_5, mwa_6, mwu_6, mwa_7, mwu_7, mwa_8, mwu_8, mwa_9, mwu_9, mwa_10, mwu_10, mwa_11, mwu_11, mwa_12, mwu_12, mwa_13, mwu_13, mwa_14, mwu_14, mwa_15, mwu_15, mwa_16, mwu_16, vu_at, vu_ne, pk_us, pk_un, kB_n, wB_n, kL_n, wL_n, M_keys h, M_chg h, h2, h4]
    · have h4 : chg1 V f l k ≤ chg1 V f l (bst (chg1 V f l) k) := by omega
      rw [e222_9]
      simp (disch := first | omega | exact tl_l | exact tT_len | (simp only [List.length_cons, List.length_nil])) only [e222_0, e222_1, e222_2, e222_5, e222_6, e222_7, e222_8, e222_10, e222_11, e222_14, e222_17, e222_18, e222_19, e222_22, e222_23, e222_24, e222_27, e222_30, e222_31, e222_34, e222_35, e222_36, e222_39, e222_42, e222_43, e222_44, e222_47, e222_50, e222_52, e222_53, e222_54, e222_55, e222_58, e222_59, e222_60, e222_61, e222_64, e222_65, e222_68, e222_69, kv_s, kh_s, kr_s, kr_v, kn_s, z0, z1, z2, nI_ltI, nI_leI, nI_eq, nI_add, oN, bz0, bz1, bw0, bw1, ltT, ltF, leT, leF, eqT, eqF, if_true, if_false, kI_n, wI_n, and_true, true_and, and_false, false_and, not_true, not_false_eq_true, mwo, mwr_0, mwr_1, mwr_2, mwg_3, mwp_3, mwr_4, mwg_5, mwp_5, mwg_6, mwp_6, mwr_7, mwr_8, mwg_9, mwp_9, mwg_10, mwp_10, mwg_11, mwp_11, mwr_12, mwg_13, mwp_13, mwr_14, mwr_15, mwr_16, mwr_17, mwr_18, mwr_19, mwg_20, mwp_20, mwr_21, mwr_22, mwr_23, mwa_1, mwu_1, mwa_2, mwu_2, mwa_3, mwu_3, mwa_4, mwu_4, mwa_5, mwu_5, mwa_6, mwu_6, mwa_7, mwu_7, mwa_8, mwu_8, mwa_9, mwu_9, mwa_10, mwu_10, mwa_11, mwu_11, mwa_12, mwu_12, mwa_13, mwu_13, mwa_14, mwu_14, mwa_15, mwu_15, mwa_16, mwu_16, vu_at, vu_ne, pk_us, pk_un, kB_n, wB_n, kL_n, wL_n, M_keys h, M_chg h, h2, h4]
theorem J_hot : Jn 107 222 [] := by
  rintro c i σ hi ⟨z, n, B, L, q, K, A, R, I, A2, R2, I2, h⟩
  obtain ⟨T, hb⟩ := h.rb
  have hK := hb.K
  have hl := hb.fl
  have hN := h.nm
  have b1 : chg1 z.2.2.2 z.2.1 z.2.2.1 0 < 12 := chg1_lt hl.2.1
  have e1 : dcall 107 [.ref c] (cw σ c A R I) = if chg1 z.2.2.2 z.2.1 z.2.2.1 (bst (chg1 z.2.2.2 z.2.1 z.2.2.1) (2 ^ z.1)) = 0 then some (some (.int (-nI 2)), cw σ c A R I) else some (some (.int (nI (bst (chg1 z.2.2.2 z.2.1 z.2.2.1) (2 ^ z.1)))), cw σ c A (rl R [lN (chg1 z.2.2.2 z.2.1 z.2.2.1 (bst (chg1 z.2.2.2 z.2.1 z.2.2.1) (2 ^ z.1)))]) (upd I 3 (nI 1))) := by
    have e := C_hot_loop (A := A) (R := R) (I := I) hb (2 ^ z.1 - 1) 1 (l4 := .int (nI (chg1 z.2.2.2 z.2.1 z.2.2.1 0))) (by omega) (by omega)
    rw [← e]
    have h := hb
    rw [q107]
    simp (disch := first | omega | exact tl_l | exact tT_len | (simp only [List.length_cons, List.length_nil])) only [e107_0, e107_1, e107_2, e107_3, e107_4, e107_5, e107_7, e107_8, e107_11, e107_14, e107_17, e107_18, e107_19, e107_22, e107_24, e107_26, e107_27, e107_30, e107_31, e107_32, e107_34, e107_35, e107_38, e107_41, e107_42, e107_43, e107_46, e107_48, e107_49, e107_50, e107_53, e107_56, e107_57, e107_60, e107_61, e107_62, e107_65, e107_66, kv_s, kh_s, kr_s, kr_v, kn_s, z0, z1, z2, nI_ltI, nI_leI, nI_eq, nI_add, oN, bz0, bz1, bw0, bw1, ltT, ltF, leT, leF, eqT, eqF, if_true, if_false, kI_n, wI_n, and_true, true_and, and_false, false_and, not_true, not_false_eq_true]
    have eb : bst (chg1 z.2.2.2 z.2.1 z.2.2.1) 1 = 0 := by rw [bst, bst, if_neg (by omega)]
    rw [eb]
    by_cases h0 : chg1 z.2.2.2 z.2.1 z.2.2.1 0 = 0
    · rw [e107_6]
      simp (disch := first | omega | exact tl_l | exact tT_len | (simp only [List.length_cons, List.length_nil])) only [e107_0, e107_1, e107_2, e107_3, e107_4, e107_5, e107_7, e107_8, e107_11, e107_14, e107_17, e107_18, e107_19, e107_22, e107_24, e107_26, e107_27, e107_30, e107_31, e107_32, e107_34, e107_35, e107_38, e107_41, e107_42, e107_43, e107_46, e107_48, e107_49, e107_50, e107_53, e107_56, e107_57, e107_60, e107_61, e107_62, e107_65, e107_66, kv_s, kh_s, kr_s, kr_v, kn_s, z0, z1, z2, nI_ltI, nI_leI, nI_eq, nI_add, oN, bz0, bz1, bw0, bw1, ltT, ltF, leT, leF, eqT, eqF, if_true, if_false, kI_n, wI_n, and_true, true_and, and_false, false_and, not_true, not_false_eq_true, cwo_1, cwr_1, cwg_0, cwg_1, cwg_2, cwa_0, cwl_0, cwo_3, cwr_3, cwg_3, cwa_R, cwl_R, cwo_5, cwr_5, cwg_4, cwg_5, cwg_6, cwg_7, cwg_8, cwa_1, cwl_1, cwo_7, cwr_7, cwg_9, cwg_10, cwg_11, cwg_12, cwg_13, cwa_2, cwl_2, cwo_17, cwr_17, cwg_14, cwa_3, cwl_3, cwp_0, cwp_1, cwp_2, cwp_3, cwp_4, cwp_5, cwp_6, cwp_7, cwp_8, cwp_9, cwp_10, cwp_11, cwp_12, cwp_13, cwp_14, cwu_0, cwu_R, cwu_1, cwu_2, cwu_3, vu_at, vu_ne, pk_us, pk_un, h.x.f0, h.x.f1, h.x.f2, h.x.f3, h.x.f4, h.x.f5, h.x.f6, h.x.f7, h.x.o, h.hi.o, h.hi.gd, h.hi.gf, h.hi.gl, Hi_keys h.hi h.d8, Hi_hasKey h.hi h.d8, Rw_empty, Rw_add, List.nil_append, List.cons_append, upd_upd, cwo_1, cwo_3, cwo_5, cwo_7, cwo_17, Bool.false_eq_true, n01, C_chg h, h0]
    · have h4 : ¬ chg1 z.2.2.2 z.2.1 z.2.2.1 0 ≤ 0 := by omega
      rw [e107_6]
      simp (disch := first | omega | exact tl_l | exact tT_len | (simp only [List.length_cons, List.length_nil])) only [e107_0, e107_1, e107_2, e107_3, e107_4, e107_5, e107_7, e107_8, e107_11, e107_14, e107_17, e107_18, e107_19, e107_22, e107_24, e107_26, e107_27, e107_30, e107_31, e107_32, e107_34, e107_35, e107_38, e107_41, e107_42, e107_43, e107_46, e107_48, e107_49, e107_50, e107_53, e107_56, e107_57, e107_60, e107_61, e107_62, e107_65, e107_66, kv_s, kh_s, kr_s, kr_v, kn_s, z0, z1, z2, nI_ltI, nI_leI, nI_eq, nI_add, oN, bz0, bz1, bw0, bw1, ltT, ltF, leT, leF, eqT, eqF, if_true, if_false, kI_n, wI_n, and_true, true_and, and_false, false_and, not_true, not_false_eq_true, cwo_1, cwr_1, cwg_0, cwg_1, cwg_2, cwa_0, cwl_0, cwo_3, cwr_3, cwg_3, cwa_R, cwl_R, cwo_5, cwr_5, cwg_4, cwg_5, cwg_6, cwg_7, cwg_8, cwa_1, cwl_1, cwo_7, cwr_7, cwg_9, cwg_10, cwg_11, cwg_12, cwg_13, cwa_2, cwl_2, cwo_17, cwr_17, cwg_14, cwa_3, cwl_3, cwp_0, cwp_1, cwp_2, cwp_3, cwp_4, cwp_5, cwp_6, cwp_7, cwp_8, cwp_9, cwp_10, cwp_11, cwp_12, cwp_13, cwp_14, cwu_0, cwu_R, cwu_1, cwu_2, cwu_3, vu_at, vu_ne, pk_us, pk_un, h.x.f0, h.x.f1, h.x.f2, h.x.f3, h.x.f4, h.x.f5, h.x.f6, h.x.f7, h.x.o, h.hi.o, h.hi.gd, h.hi.gf, h.hi.gl, Hi_keys h.hi h.d8, Hi_hasKey h.hi h.d8, Rw_empty, Rw_add, List.nil_append, List.cons_append, upd_upd, cwo_1, cwo_3, cwo_5, cwo_7, cwo_17, Bool.false_eq_true, n01, C_chg h, h0, h4]
  have e2 : ∀ {τ}, dcall 222 [.ref (c + 24)] (mw τ (c + 24) A2 R2 I2) = if chg1 z.2.2.2 z.2.1 z.2.2.1 (bst (chg1 z.2.2.2 z.2.1 z.2.2.1) (2 ^ z.1)) = 0 then some (some (.int (-nI 2)), mw τ (c + 24) A2 R2 (upd I2 6 (nI 0))) else some (some (.int (nI (bst (chg1 z.2.2.2 z.2.1 z.2.2.1) (2 ^ z.1)))), mw τ (c + 24) A2 (rl R2 [lN (chg1 z.2.2.2 z.2.1 z.2.2.1 (bst (chg1 z.2.2.2 z.2.1 z.2.2.1) (2 ^ z.1)))]) (upd (upd I2 6 (nI 0)) 5 (nI 1))) := by
    intro τ
    have e := M_hot_loop (σ := τ) (m := c + 24) (A := A2) (R := R2) (I := upd I2 6 (nI 0)) hN (2 ^ z.1 - 1) 1 (by omega) (by omega)
    rw [← e]
    have eb : bst (chg1 z.2.2.2 z.2.1 z.2.2.1) 1 = 0 := by rw [bst, bst, if_neg (by omega)]
    rw [eb]
    rw [q222]
    simp (disch := first | omega | exact tl_l | exact tT_len | (simp only [List.length_cons, List.length_nil])) only [e222_0, e222_1, e222_2, e222_5, e222_6, e222_7, e222_8, e222_10, e222_11, e222_14, e222_17, e222_18, e222_19, e222_22, e222_23, e222_24, e222_27, e222_30, e222_31, e222_34, e222_35, e222_36, e222_39, e222_42, e222_43, e222_44, e222_47, e222_50, e222_52, e222_53, e222_54, e222_55, e222_58, e222_59, e222_60, e222_61, e222_64, e222_65, e222_68, e222_69, kv_s, kh_s, kr_s, kr_v, kn_s, z0, z1, z2, nI_ltI, nI_leI, nI_eq, nI_add, oN, bz0, bz1, bw0, bw1, ltT, ltF, leT, leF, eqT, eqF, if_true, if_false, kI_n, wI_n, and_true, true_and, and_false, false_and, not_true, not_false_eq_true, mwo, mwr_0, mwr_1, mwr_2, mwg_3, mwp_3, mwr_4, mwg_5, mwp_5, mwg_6, mwp_6, mwr_7, mwr_8, mwg_9, mwp_9, mwg_10, mwp_10, mwg_11, mwp_11, mwr_12, mwg_13, mwp_13, mwr_14, mwr_15, mwr_16, mwr_17, mwr_18, mwr_19, mwg_20, mwp_20, mwr_21, mwr_22, mwr_23, mwa_1, mwu_1, mwa_2, mwu_2, mwa_3, mwu_3, mwa_4, mwu_4, mwa_5, mwu_5, mwa_6, mwu_6, mwa_7, mwu_7, mwa_8, mwu_8, mwa_9, mwu_9, mwa_10, mwu_10, mwa_11, mwu_11, mwa_12, mwu_12, mwa_13, mwu_13, mwa_14, mwu_14, mwa_15, mwu_15, mwa_16, mwu_16, vu_at, vu_ne, pk_us, pk_un, kB_n, wB_n, kL_n, wL_n]
  by_cases h0 : chg1 z.2.2.2 z.2.1 z.2.2.1 (bst (chg1 z.2.2.2 z.2.1 z.2.2.1) (2 ^ z.1)) = 0
  · rw [if_pos h0] at e1
    refine Inv_same h hi e1 ?_
    intro τ
    have := e2 (τ := τ)
    rw [if_pos h0] at this
    exact ⟨_, _, this, stay.rf, pk_un (by omega), pk_un (by omega)⟩
  · rw [if_neg h0] at e1
    refine Inv_tell h hi e1 ?_ rfl (by omega)
    intro τ
    have := e2 (τ := τ)
    rw [if_neg h0] at this
    exact ⟨_, _, this, stay.rf, by rw [pk_un (by omega), pk_un (by omega)], pk_us⟩
end JR
