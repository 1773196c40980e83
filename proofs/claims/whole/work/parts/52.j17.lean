/-! calls: nodes -/
/-- nodes of a level that are not bare -/
def fc (d : Nat) (W : Nat → Int32) (j : Nat) : Nat := cnt (nz d W) (2 ^ (d - j)) (2 ^ (d - j))
def fcs (d : Nat) (W : Nat → Int32) : Nat → Nat
  | 0 => 0
  | j + 1 => fcs d W j + fc d W j
theorem fcs_cnt {d : Nat} {W : Nat → Int32} : ∀ j, j ≤ d + 1 → fcs d W j = cnt (nz d W) (2 ^ (d + 1 - j)) (2 * 2 ^ d - 2 ^ (d + 1 - j)) := by
  intro j
  induction j with
  | zero =>
    intro _
    rw [Nat.sub_zero, show 2 * 2 ^ d - 2 ^ (d + 1) = 0 by rw [Nat.pow_succ]; omega]
    rfl
  | succ j ih =>
    intro hj
    have h1 : 2 ^ (d + 1 - j) = 2 * 2 ^ (d - j) := by rw [show d + 1 - j = d - j + 1 by omega, Nat.pow_succ]; omega
    have h2 : 2 ^ (d - j) ≤ 2 ^ d := Nat.pow_le_pow_right (by omega) (by omega)
    rw [fcs, ih (by omega), fc, h1, show d + 1 - (j + 1) = d - j by omega, show 2 * 2 ^ d - 2 ^ (d - j) = 2 ^ (d - j) + (2 * 2 ^ d - 2 * 2 ^ (d - j)) by omega, cnt_add, show 2 ^ (d - j) + 2 ^ (d - j) = 2 * 2 ^ (d - j) by omega]
    omega
theorem fcs_all {d : Nat} {W : Nat → Int32} : fcs d W (d + 1) = cnt (nz d W) 1 (2 * 2 ^ d - 1) := by
  rw [fcs_cnt (d + 1) (Nat.le_refl _), Nat.sub_self, Nat.pow_zero]
theorem nz_br {d : Nat} {W : Nat → Int32} {p : Nat} : nz d W p = !br d W p := by
  unfold nz br
  by_cases h : un d W p = 0
  · rw [decide_eq_true h, decide_eq_false (by omega)]; rfl
  · rw [decide_eq_false h, decide_eq_true (by omega)]; rfl
section NA
variable {c i : Nat} {σ : Hp} {m d f l : Nat} {V : Nat → Nat → Int32} {T : Nat → Option Nat} {A : Nat → Nat → Int32} {R : Nat → Int64} {I : Nat → Int32}
theorem C_nodes_loop (h : RB c σ T d f l V) {W : Nat → Int32} {t : Nat} (t2 : ∀ {A R I}, isT (cw σ c A R I) t d W) {l1 : Value} : ∀ (n j : Nat) {l4 : Value}, j + n = d + 1 → den 66 24 [.ref c, l1, .ref t, .int (nI j), l4] [] (cw σ c A (rl R (tT (fun j => lN (fc d W j)) j)) (upd I 3 (nI j))) = some (some (.int (nI (cnt (nz d W) 1 (2 * 2 ^ d - 1)))), cw σ c A (rl R (tT (fun j => lN (fc d W j)) (d + 1))) (upd I 3 (nI (d + 1)))) := by
  have hK := h.K
  have hd := h.d8
  intro n
  induction n with
  | zero =>
    intro j l4 hj
    have : j = d + 1 := by omega
    subst this
    rw [e66_24]
    simp (disch := first | omega | exact tl_l | exact tT_len | (simp only [List.length_cons, List.length_nil])) only [e66_0, e66_1, e66_4, e66_5, e66_8, e66_8n, e66_9, e66_9n, e66_10, e66_10n, e66_13, e66_14, e66_15, e66_16, e66_19, e66_22, e66_23, e66_25, e66_26, e66_29, e66_32, e66_35, e66_36, e66_37, e66_40, e66_43, e66_44, e66_45, e66_46, e66_48, e66_49, e66_52, e66_52n, e66_53, e66_56, e66_58, e66_59, e66_61, e66_62, e66_65, e66_66, e66_69, e66_72, e66_75, e66_75n, e66_76, e66_79, e66_80, e66_81, e66_82, e66_85, e66_88, e66_89, e66_92, kv_s, kh_s, kr_s, kr_v, kn_s, z0, z1, z2, nI_ltI, nI_leI, nI_eq, nI_add, oN, bz0, bz1, bw0, bw1, ltT, ltF, leT, leF, eqT, eqF, if_true, if_false, kI_n, wI_n, and_true, true_and, and_false, false_and, not_true, not_false_eq_true, cwo_1, cwr_1, cwg_0, cwg_1, cwg_2, cwa_0, cwl_0, cwo_3, cwr_3, cwg_3, cwa_R, cwl_R, cwo_5, cwr_5, cwg_4, cwg_5, cwg_6, cwg_7, cwg_8, cwa_1, cwl_1, cwo_7, cwr_7, cwg_9, cwg_10, cwg_11, cwg_12, cwg_13, cwa_2, cwl_2, cwo_17, cwr_17, cwg_14, cwa_3, cwl_3, cwp_0, cwp_1, cwp_2, cwp_3, cwp_4, cwp_5, cwp_6, cwp_7, cwp_8, cwp_9, cwp_10, cwp_11, cwp_12, cwp_13, cwp_14, cwu_0, cwu_R, cwu_1, cwu_2, cwu_3, vu_at, vu_ne, pk_us, pk_un, h.x.f0, h.x.f1, h.x.f2, h.x.f3, h.x.f4, h.x.f5, h.x.f6, h.x.f7, h.x.o, h.hi.o, h.hi.gd, h.hi.gf, h.hi.gl, Hi_keys h.hi h.d8, Hi_hasKey h.hi h.d8, Rw_empty, Rw_add, List.nil_append, List.cons_append, upd_upd, cwo_1, cwo_3, cwo_5, cwo_7, cwo_17, Bool.false_eq_true, n01, t2.f, t2.fo, pk_mul, T_nodesIn t2 (Nat.le_refl 1) (Nat.le_refl (2 * 2 ^ d)) (show 1 ≤ 2 * 2 ^ d by omega)]
  | succ n ih =>
    intro j l4 hj
    have e1 : nI d - nI j = nI (d - j) := pk_sub (by omega)
    have h2 : 2 ^ (d - j) ≤ 2 ^ d := Nat.pow_le_pow_right (by omega) (by omega)
    have h3 := Nat.one_le_two_pow (n := d - j)
    have e2 : 2 * 2 ^ (d - j) - 2 ^ (d - j) = 2 ^ (d - j) := by omega
    have hc : fc d W j ≤ 256 := Nat.le_trans (cnt_le _ _ _) (by omega)
    have e3 : cnt (nz d W) (2 ^ (d - j)) (2 ^ (d - j)) = fc d W j := rfl
    rw [← ih (j + 1) (l4 := .int (nI (2 ^ (d - j)))) (by omega), tT]
    rw [e66_24]
    simp (disch := first | omega | exact tl_l | exact tT_len | (simp only [List.length_cons, List.length_nil])) only [e66_0, e66_1, e66_4, e66_5, e66_8, e66_8n, e66_9, e66_9n, e66_10, e66_10n, e66_13, e66_14, e66_15, e66_16, e66_19, e66_22, e66_23, e66_25, e66_26, e66_29, e66_32, e66_35, e66_36, e66_37, e66_40, e66_43, e66_44, e66_45, e66_46, e66_48, e66_49, e66_52, e66_52n, e66_53, e66_56, e66_58, e66_59, e66_61, e66_62, e66_65, e66_66, e66_69, e66_72, e66_75, e66_75n, e66_76, e66_79, e66_80, e66_81, e66_82, e66_85, e66_88, e66_89, e66_92, kv_s, kh_s, kr_s, kr_v, kn_s, z0, z1, z2, nI_ltI, nI_leI, nI_eq, nI_add, oN, bz0, bz1, bw0, bw1, ltT, ltF, leT, leF, eqT, eqF, if_true, if_false, kI_n, wI_n, and_true, true_and, and_false, false_and, not_true, not_false_eq_true, cwo_1, cwr_1, cwg_0, cwg_1, cwg_2, cwa_0, cwl_0, cwo_3, cwr_3, cwg_3, cwa_R, cwl_R, cwo_5, cwr_5, cwg_4, cwg_5, cwg_6, cwg_7, cwg_8, cwa_1, cwl_1, cwo_7, cwr_7, cwg_9, cwg_10, cwg_11, cwg_12, cwg_13, cwa_2, cwl_2, cwo_17, cwr_17, cwg_14, cwa_3, cwl_3, cwp_0, cwp_1, cwp_2, cwp_3, cwp_4, cwp_5, cwp_6, cwp_7, cwp_8, cwp_9, cwp_10, cwp_11, cwp_12, cwp_13, cwp_14, cwu_0, cwu_R, cwu_1, cwu_2, cwu_3, vu_at, vu_ne, pk_us, pk_un, h.x.f0, h.x.f1, h.x.f2, h.x.f3, h.x.f4, h.x.f5, h.x.f6, h.x.f7, h.x.o, h.hi.o, h.hi.gd, h.hi.gf, h.hi.gl, Hi_keys h.hi h.d8, Hi_hasKey h.hi h.d8, Rw_empty, Rw_add, List.nil_append, List.cons_append, upd_upd, cwo_1, cwo_3, cwo_5, cwo_7, cwo_17, Bool.false_eq_true, n01, e1, shl_nI, t2.f, t2.fo, pk_mul, T_nodesIn t2 h3 (show 2 * 2 ^ (d - j) ≤ 2 * 2 ^ d by omega) (show 2 ^ (d - j) ≤ 2 * 2 ^ (d - j) by omega), e2, e3, nI_l]
theorem M_filled_loop (h : nowM (A 1) d f l V) {W : Nat → Int32} {M' B' : Nat → Int32} (e2 : laid d W M' B' 1) {j : Nat} (hj : j ≤ d) : ∀ (n k : Nat), k + n = 2 ^ (d - j) → den 189 4 [.ref m, .int (nI j), .int (nI (cnt (nz d W) (2 ^ (d - j)) k)), .int (nI k)] [] (mw σ m (lA A M' B') R I) = some (some (.int (nI (fc d W j))), mw σ m (lA A M' B') R I) := by
  have hK := h.K
  have hh : ∀ {M B}, nowM (lA A M B 1) d f l V := h
  have h2 : 2 ^ (d - j) ≤ 2 ^ d := Nat.pow_le_pow_right (by omega) (by omega)
  have h3 := Nat.one_le_two_pow (n := d - j)
  have e1 : nI d - nI j = nI (d - j) := pk_sub (by omega)
  intro n
  induction n with
  | zero =>
    intro k hk
    have : k = 2 ^ (d - j) := by omega
    subst this
    rw [e189_4]
    simp (disch := first | omega | exact tl_l | exact tT_len | (simp only [List.length_cons, List.length_nil])) only [e189_0, e189_1, e189_2, e189_3, e189_5, e189_6, e189_7, e189_10, e189_11, e189_12, e189_13, e189_16, e189_17, e189_18, e189_21, e189_22, e189_23, e189_24, e189_27, e189_28, e189_31, e189_32, e189_35, e189_36, e189_37, e189_38, e189_41, e189_44, e189_45, kv_s, kh_s, kr_s, kr_v, kn_s, z0, z1, z2, nI_ltI, nI_leI, nI_eq, nI_add, oN, bz0, bz1, bw0, bw1, ltT, ltF, leT, leF, eqT, eqF, if_true, if_false, kI_n, wI_n, and_true, true_and, and_false, false_and, not_true, not_false_eq_true, mwo, mwr_0, mwr_1, mwr_2, mwg_3, mwp_3, mwr_4, mwg_5, mwp_5, mwg_6, mwp_6, mwr_7, mwr_8, mwg_9, mwp_9, mwg_10, mwp_10, mwg_11, mwp_11, mwr_12, mwg_13, mwp_13, mwr_14, mwr_15, mwr_16, mwr_17, mwr_18, mwr_19, mwg_20, mwp_20, mwr_21, mwr_22, mwr_23, mwa_1, mwu_1, mwa_2, mwu_2, mwa_3, mwu_3, mwa_4, mwu_4, mwa_5, mwu_5, mwa_6, mwu_6, mwa_7, mwu_7, mwa_8, mwu_8, mwa_9, mwu_9, mwa_10, mwu_10, mwa_11, mwu_11, mwa_12, mwu_12, mwa_13, mwu_13, mwa_14, mwu_14, mwa_15, mwu_15, mwa_16, mwu_16, vu_at, vu_ne, pk_us, pk_un, kB_n, wB_n, kL_n, wL_n, mwo, M_depth hh, e1, shl_nI, fc]
  | succ n ih =>
    intro k hk
    rw [← ih (k + 1) (by omega)]
    have g := (e2 (2 ^ (d - j) + k) (by omega) (by omega)).2
    have es : cnt (nz d W) (2 ^ (d - j)) (k + 1) = cnt (nz d W) (2 ^ (d - j)) k + if nz d W (2 ^ (d - j) + k) = true then 1 else 0 := rfl
    rw [es, nz_br]
    cases hb : br d W (2 ^ (d - j) + k) with
    | true =>
      rw [hb] at g
      rw [e189_4]
      simp (disch := first | omega | exact tl_l | exact tT_len | (simp only [List.length_cons, List.length_nil])) only [e189_0, e189_1, e189_2, e189_3, e189_5, e189_6, e189_7, e189_10, e189_11, e189_12, e189_13, e189_16, e189_17, e189_18, e189_21, e189_22, e189_23, e189_24, e189_27, e189_28, e189_31, e189_32, e189_35, e189_36, e189_37, e189_38, e189_41, e189_44, e189_45, kv_s, kh_s, kr_s, kr_v, kn_s, z0, z1, z2, nI_ltI, nI_leI, nI_eq, nI_add, oN, bz0, bz1, bw0, bw1, ltT, ltF, leT, leF, eqT, eqF, if_true, if_false, kI_n, wI_n, and_true, true_and, and_false, false_and, not_true, not_false_eq_true, mwo, mwr_0, mwr_1, mwr_2, mwg_3, mwp_3, mwr_4, mwg_5, mwp_5, mwg_6, mwp_6, mwr_7, mwr_8, mwg_9, mwp_9, mwg_10, mwp_10, mwg_11, mwp_11, mwr_12, mwg_13, mwp_13, mwr_14, mwr_15, mwr_16, mwr_17, mwr_18, mwr_19, mwg_20, mwp_20, mwr_21, mwr_22, mwr_23, mwa_1, mwu_1, mwa_2, mwu_2, mwa_3, mwu_3, mwa_4, mwu_4, mwa_5, mwu_5, mwa_6, mwu_6, mwa_7, mwu_7, mwa_8, mwu_8, mwa_9, mwu_9, mwa_10, mwu_10, mwa_11, mwu_11, mwa_12, mwu_12, mwa_13, mwu_13, mwa_14, mwu_14, mwa_15, mwu_15, mwa_16, mwu_16, vu_at, vu_ne, pk_us, pk_un, kB_n, wB_n, kL_n, wL_n, mwo, M_depth hh, e1, shl_nI, M_place hh hj, lA_6, g, bI, n01, Bool.not_true, Bool.false_eq_true, Nat.add_zero]
    | false =>
      rw [hb] at g
      rw [e189_4]
      simp (disch := first | omega | exact tl_l | exact tT_len | (simp only [List.length_cons, List.length_nil])) only [e189_0, e189_1, e189_2, e189_3, e189_5, e189_6, e189_7, e189_10, e189_11, e189_12, e189_13, e189_16, e189_17, e189_18, e189_21, e189_22, e189_23, e189_24, e189_27, e189_28, e189_31, e189_32, e189_35, e189_36, e189_37, e189_38, e189_41, e189_44, e189_45, kv_s, kh_s, kr_s, kr_v, kn_s, z0, z1, z2, nI_ltI, nI_leI, nI_eq, nI_add, oN, bz0, bz1, bw0, bw1, ltT, ltF, leT, leF, eqT, eqF, if_true, if_false, kI_n, wI_n, and_true, true_and, and_false, false_and, not_true, not_false_eq_true, mwo, mwr_0, mwr_1, mwr_2, mwg_3, mwp_3, mwr_4, mwg_5, mwp_5, mwg_6, mwp_6, mwr_7, mwr_8, mwg_9, mwp_9, mwg_10, mwp_10, mwg_11, mwp_11, mwr_12, mwg_13, mwp_13, mwr_14, mwr_15, mwr_16, mwr_17, mwr_18, mwr_19, mwg_20, mwp_20, mwr_21, mwr_22, mwr_23, mwa_1, mwu_1, mwa_2, mwu_2, mwa_3, mwu_3, mwa_4, mwu_4, mwa_5, mwu_5, mwa_6, mwu_6, mwa_7, mwu_7, mwa_8, mwu_8, mwa_9, mwu_9, mwa_10, mwu_10, mwa_11, mwu_11, mwa_12, mwu_12, mwa_13, mwu_13, mwa_14, mwu_14, mwa_15, mwu_15, mwa_16, mwu_16, vu_at, vu_ne, pk_us, pk_un, kB_n, wB_n, kL_n, wL_n, mwo, M_depth hh, e1, shl_nI, M_place hh hj, lA_6, g, bI, Bool.false_eq_true, Bool.not_false]
theorem M_filled (h : nowM (A 1) d f l V) {W : Nat → Int32} {M' B' : Nat → Int32} (e2 : laid d W M' B' 1) {j : Nat} (hj : j ≤ d) : dcall 189 [.ref m, .int (nI j)] (mw σ m (lA A M' B') R I) = some (some (.int (nI (fc d W j))), mw σ m (lA A M' B') R I) := by
  rw [← M_filled_loop (σ := σ) (m := m) (A := A) (R := R) (I := I) h e2 hj _ 0 (Nat.zero_add _)]
  rw [q189]
  simp (disch := first | omega | exact tl_l | exact tT_len | (simp only [List.length_cons, List.length_nil])) only [e189_0, e189_1, e189_2, e189_3, e189_5, e189_6, e189_7, e189_10, e189_11, e189_12, e189_13, e189_16, e189_17, e189_18, e189_21, e189_22, e189_23, e189_24, e189_27, e189_28, e189_31, e189_32, e189_35, e189_36, e189_37, e189_38, e189_41, e189_44, e189_45, kv_s, kh_s, kr_s, kr_v, kn_s, z0, z1, z2, nI_ltI, nI_leI, nI_eq, nI_add, oN, bz0, bz1, bw0, bw1, ltT, ltF, leT, leF, eqT, eqF, if_true, if_false, kI_n, wI_n, and_true, true_and, and_false, false_and, not_true, not_false_eq_true, mwo, mwr_0, mwr_1, mwr_2, mwg_3, mwp_3, mwr_4, mwg_5, mwp_5, mwg_6, mwp_6, mwr_7, mwr_8, mwg_9, mwp_9, mwg_10, mwp_10, mwg_11, mwp_11, mwr_12, mwg_13, mwp_13, mwr_14, mwr_15, mwr_16, mwr_17, mwr_18, mwr_19, mwg_20, mwp_20, mwr_21, mwr_22, mwr_23, mwa_1, mwu_1, mwa_2, mwu_2, mwa_3, mwu_3, mwa_4, mwu_4, mwa_5, mwu_5, mwa_6, mwu_6, mwa_7, mwu_7, mwa_8, mwu_8, mwa_9, mwu_9, mwa_10, mwu_10, mwa_11, mwu_11, mwa_12, mwu_12, mwa_13, mwu_13, mwa_14, mwu_14, mwa_15, mwu_15, mwa_16, mwu_16, vu_at, vu_ne, pk_us, pk_un, kB_n, wB_n, kL_n, wL_n, cnt]
theorem M_filledAll_loop (h : nowM (A 1) d f l V) {W : Nat → Int32} {M' B' : Nat → Int32} (e2 : laid d W M' B' 1) {l1 : Value} : ∀ (n j : Nat), j + n = d + 1 → den 188 9 [.ref m, l1, .int (nI (fcs d W j)), .int (nI j)] [] (mw σ m (lA A M' B') R I) = some (some (.int (nI (fcs d W (d + 1)))), mw σ m (lA A M' B') R I) := by
  have hK := h.K
  have hh : ∀ {M B}, nowM (lA A M B 1) d f l V := h
  intro n
  induction n with
  | zero =>
    intro j hj
    have : j = d + 1 := by omega
    subst this
    rw [e188_9]
    simp (disch := first | omega | exact tl_l | exact tT_len | (simp only [List.length_cons, List.length_nil])) only [e188_0, e188_1, e188_2, e188_5, e188_6, e188_7, e188_8, e188_10, e188_11, e188_14, e188_17, e188_18, e188_19, e188_20, e188_23, e188_24, e188_25, e188_28, e188_31, e188_32, kv_s, kh_s, kr_s, kr_v, kn_s, z0, z1, z2, nI_ltI, nI_leI, nI_eq, nI_add, oN, bz0, bz1, bw0, bw1, ltT, ltF, leT, leF, eqT, eqF, if_true, if_false, kI_n, wI_n, and_true, true_and, and_false, false_and, not_true, not_false_eq_true, mwo, mwr_0, mwr_1, mwr_2, mwg_3, mwp_3, mwr_4, mwg_5, mwp_5, mwg_6, mwp_6, mwr_7, mwr_8, mwg_9, mwp_9, mwg_10, mwp_10, mwg_11, mwp_11, mwr_12, mwg_13, mwp_13, mwr_14, mwr_15, mwr_16, mwr_17, mwr_18, mwr_19, mwg_20, mwp_20, mwr_21, mwr_22, mwr_23, mwa_1, mwu_1, mwa_2, mwu_2, mwa_3, mwu_3, mwa_4, mwu_4, mwa_5, mwu_5, mwa_6, mwu_6, mwa_7, mwu_7, mwa_8, mwu_8, mwa_9, mwu_9, mwa_10, mwu_10, mwa_11, mwu_11, mwa_12, mwu_12, mwa_13, mwu_13, mwa_14, mwu_14, mwa_15, mwu_15, mwa_16, mwu_16, vu_at, vu_ne, pk_us, pk_un, kB_n, wB_n, kL_n, wL_n, mwo, M_depth hh]
  | succ n ih =>
    intro j hj
    rw [← ih (j + 1) (by omega), fcs]
    rw [e188_9]
    simp (disch := first | omega | exact tl_l | exact tT_len | (simp only [List.length_cons, List.length_nil])) only [e188_0, e188_1, e188_2, e188_5, e188_6, e188_7, e188_8, e188_10, e188_11, e188_14, e188_17, e188_18, e188_19, e188_20, e188_23, e188_24, e188_25, e188_28, e188_31, e188_32, kv_s, kh_s, kr_s, kr_v, kn_s, z0, z1, z2, nI_ltI, nI_leI, nI_eq, nI_add, oN, bz0, bz1, bw0, bw1, ltT, ltF, leT, leF, eqT, eqF, if_true, if_false, kI_n, wI_n, and_true, true_and, and_false, false_and, not_true, not_false_eq_true, mwo, mwr_0, mwr_1, mwr_2, mwg_3, mwp_3, mwr_4, mwg_5, mwp_5, mwg_6, mwp_6, mwr_7, mwr_8, mwg_9, mwp_9, mwg_10, mwp_10, mwg_11, mwp_11, mwr_12, mwg_13, mwp_13, mwr_14, mwr_15, mwr_16, mwr_17, mwr_18, mwr_19, mwg_20, mwp_20, mwr_21, mwr_22, mwr_23, mwa_1, mwu_1, mwa_2, mwu_2, mwa_3, mwu_3, mwa_4, mwu_4, mwa_5, mwu_5, mwa_6, mwu_6, mwa_7, mwu_7, mwa_8, mwu_8, mwa_9, mwu_9, mwa_10, mwu_10, mwa_11, mwu_11, mwa_12, mwu_12, mwa_13, mwu_13, mwa_14, mwu_14, mwa_15, mwu_15, mwa_16, mwu_16, vu_at, vu_ne, pk_us, pk_un, kB_n, wB_n, kL_n, wL_n, mwo, M_depth hh, M_filled h e2 (show j ≤ d by omega)]
theorem M_filledAll (h : nowM (A 1) d f l V) {v : Nat} (h1 : f ≤ v) (h2 : v ≤ l) (hW : plW d (V v)) : ∃ M' B', dcall 188 [.ref m, .int (nI v)] (mw σ m A R I) = some (some (.int (nI (cnt (nz d (V v)) 1 (2 * 2 ^ d - 1)))), mw σ m (lA A M' B') R I) ∧ laid d (V v) M' B' 1 := by
  obtain ⟨M', B', e1, e2⟩ := M_lay (σ := σ) (m := m) (R := R) (I := I) h h1 h2 hW
  refine ⟨M', B', ?_, e2⟩
  rw [← fcs_all, ← M_filledAll_loop (σ := σ) (m := m) (A := A) (R := R) (I := I) h e2 (l1 := .int (nI v)) (d + 1) 0 (Nat.zero_add _)]
  rw [q188]
  simp (disch := first | omega | exact tl_l | exact tT_len | (simp only [List.length_cons, List.length_nil])) only [e188_0, e188_1, e188_2, e188_5, e188_6, e188_7, e188_8, e188_10, e188_11, e188_14, e188_17, e188_18, e188_19, e188_20, e188_23, e188_24, e188_25, e188_28, e188_31, e188_32, kv_s, kh_s, kr_s, kr_v, kn_s, z0, z1, z2, nI_ltI, nI_leI, nI_eq, nI_add, oN, bz0, bz1, bw0, bw1, ltT, ltF, leT, leF, eqT, eqF, if_true, if_false, kI_n, wI_n, and_true, true_and, and_false, false_and, not_true, not_false_eq_true, mwo, mwr_0, mwr_1, mwr_2, mwg_3, mwp_3, mwr_4, mwg_5, mwp_5, mwg_6, mwp_6, mwr_7, mwr_8, mwg_9, mwp_9, mwg_10, mwp_10, mwg_11, mwp_11, mwr_12, mwg_13, mwp_13, mwr_14, mwr_15, mwr_16, mwr_17, mwr_18, mwr_19, mwg_20, mwp_20, mwr_21, mwr_22, mwr_23, mwa_1, mwu_1, mwa_2, mwu_2, mwa_3, mwu_3, mwa_4, mwu_4, mwa_5, mwu_5, mwa_6, mwu_6, mwa_7, mwu_7, mwa_8, mwu_8, mwa_9, mwu_9, mwa_10, mwu_10, mwa_11, mwu_11, mwa_12, mwu_12, mwa_13, mwu_13, mwa_14, mwu_14, mwa_15, mwu_15, mwa_16, mwu_16, vu_at, vu_ne, pk_us, pk_un, kB_n, wB_n, kL_n, wL_n, e1, fcs]
theorem M_nodes_loop (h : nowM (A 1) d f l V) {W : Nat → Int32} {M' B' : Nat → Int32} (e2 : laid d W M' B' 1) {l1 : Value} {x : Int32} : ∀ (n j : Nat), j + n = d + 1 → den 187 28 [.ref m, l1, .int x, .int (nI j)] [] (mw σ m (lA A M' B') (rl R (tT (fun j => lN (fc d W j)) j)) (upd I 5 (nI j))) = some (some (.int x), mw σ m (lA A M' B') (rl R (tT (fun j => lN (fc d W j)) (d + 1))) (upd I 5 (nI (d + 1)))) := by
  have hK := h.K
  have hh : ∀ {M B}, nowM (lA A M B 1) d f l V := h
  intro n
  induction n with
  | zero =>
    intro j hj
    have : j = d + 1 := by omega
    subst this
    rw [e187_28]
    simp (disch := first | omega | exact tl_l | exact tT_len | (simp only [List.length_cons, List.length_nil])) only [e187_0, e187_1, e187_2, e187_5, e187_6, e187_7, e187_10, e187_13, e187_14, e187_15, e187_16, e187_17, e187_20, e187_21, e187_22, e187_23, e187_26, e187_27, e187_29, e187_30, e187_33, e187_36, e187_37, e187_38, e187_39, e187_42, e187_43, e187_46, e187_49, e187_52, e187_53, kv_s, kh_s, kr_s, kr_v, kn_s, z0, z1, z2, nI_ltI, nI_leI, nI_eq, nI_add, oN, bz0, bz1, bw0, bw1, ltT, ltF, leT, leF, eqT, eqF, if_true, if_false, kI_n, wI_n, and_true, true_and, and_false, false_and, not_true, not_false_eq_true, mwo, mwr_0, mwr_1, mwr_2, mwg_3, mwp_3, mwr_4, mwg_5, mwp_5, mwg_6, mwp_6, mwr_7, mwr_8, mwg_9, mwp_9, mwg_10, mwp_10, mwg_11, mwp_11, mwr_12, mwg_13, mwp_13, mwr_14, mwr_15, mwr_16, mwr_17, mwr_18, mwr_19, mwg_20, mwp_20, mwr_21, mwr_22, mwr_23, mwa_1, mwu_1, mwa_2, mwu_2, mwa_3, mwu_3, mwa_4, mwu_4, mwa_5, mwu_5, mwa_6, mwu_6, mwa_7, mwu_7, mwa_8, mwu_8, mwa_9, mwu_9, mwa_10, mwu_10, mwa_11, mwu_11, mwa_12, mwu_12, mwa_13, mwu_13, mwa_14, mwu_14, mwa_15, mwu_15, mwa_16, mwu_16, vu_at, vu_ne, pk_us, pk_un, kB_n, wB_n, kL_n, wL_n, mwo, M_depth hh]
  | succ n ih =>
    intro j hj
    have h2 : 2 ^ (d - j) ≤ 2 ^ d := Nat.pow_le_pow_right (by omega) (by omega)
    have hc : fc d W j ≤ 256 := Nat.le_trans (cnt_le _ _ _) (by omega)
    rw [← ih (j + 1) (by omega), tT]
    rw [e187_28]
    simp (disch := first | omega | exact tl_l | exact tT_len | (simp only [List.length_cons, List.length_nil])) only [e187_0, e187_1, e187_2, e187_5, e187_6, e187_7, e187_10, e187_13, e187_14, e187_15, e187_16, e187_17, e187_20, e187_21, e187_22, e187_23, e187_26, e187_27, e187_29, e187_30, e187_33, e187_36, e187_37, e187_38, e187_39, e187_42, e187_43, e187_46, e187_49, e187_52, e187_53, kv_s, kh_s, kr_s, kr_v, kn_s, z0, z1, z2, nI_ltI, nI_leI, nI_eq, nI_add, oN, bz0, bz1, bw0, bw1, ltT, ltF, leT, leF, eqT, eqF, if_true, if_false, kI_n, wI_n, and_true, true_and, and_false, false_and, not_true, not_false_eq_true, mwo, mwr_0, mwr_1, mwr_2, mwg_3, mwp_3, mwr_4, mwg_5, mwp_5, mwg_6, mwp_6, mwr_7, mwr_8, mwg_9, mwp_9, mwg_10, mwp_10, mwg_11, mwp_11, mwr_12, mwg_13, mwp_13, mwr_14, mwr_15, mwr_16, mwr_17, mwr_18, mwr_19, mwg_20, mwp_20, mwr_21, mwr_22, mwr_23, mwa_1, mwu_1, mwa_2, mwu_2, mwa_3, mwu_3, mwa_4, mwu_4, mwa_5, mwu_5, mwa_6, mwu_6, mwa_7, mwu_7, mwa_8, mwu_8, mwa_9, mwu_9, mwa_10, mwu_10, mwa_11, mwu_11, mwa_12, mwu_12, mwa_13, mwu_13, mwa_14, mwu_14, mwa_15, mwu_15, mwa_16, mwu_16, vu_at, vu_ne, pk_us, pk_un, kB_n, wB_n, kL_n, wL_n, mwo, M_depth hh, M_filled h e2 (show j ≤ d by omega), nI_l, M_tell]
theorem C_nodes0 (h : RB c σ T d f l V) {x : Int32} (hx : out f l x) : dcall 66 [.ref c, .int x] (cw σ c A R I) = some (some (.int (-nI 1)), cw σ c A R I) := by
  rw [q66]
  simp (disch := first | omega | exact tl_l | exact tT_len | (simp only [List.length_cons, List.length_nil])) only [e66_0, e66_1, e66_4, e66_5, e66_8, e66_8n, e66_9, e66_9n, e66_10, e66_10n, e66_13, e66_14, e66_15, e66_16, e66_19, e66_22, e66_23, e66_25, e66_26, e66_29, e66_32, e66_35, e66_36, e66_37, e66_40, e66_43, e66_44, e66_45, e66_46, e66_48, e66_49, e66_52, e66_52n, e66_53, e66_56, e66_58, e66_59, e66_61, e66_62, e66_65, e66_66, e66_69, e66_72, e66_75, e66_75n, e66_76, e66_79, e66_80, e66_81, e66_82, e66_85, e66_88, e66_89, e66_92, kv_s, kh_s, kr_s, kr_v, kn_s, z0, z1, z2, nI_ltI, nI_leI, nI_eq, nI_add, oN, bz0, bz1, bw0, bw1, ltT, ltF, leT, leF, eqT, eqF, if_true, if_false, kI_n, wI_n, and_true, true_and, and_false, false_and, not_true, not_false_eq_true, cwo_1, cwr_1, cwg_0, cwg_1, cwg_2, cwa_0, cwl_0, cwo_3, cwr_3, cwg_3, cwa_R, cwl_R, cwo_5, cwr_5, cwg_4, cwg_5, cwg_6, cwg_7, cwg_8, cwa_1, cwl_1, cwo_7, cwr_7, cwg_9, cwg_10, cwg_11, cwg_12, cwg_13, cwa_2, cwl_2, cwo_17, cwr_17, cwg_14, cwa_3, cwl_3, cwp_0, cwp_1, cwp_2, cwp_3, cwp_4, cwp_5, cwp_6, cwp_7, cwp_8, cwp_9, cwp_10, cwp_11, cwp_12, cwp_13, cwp_14, cwu_0, cwu_R, cwu_1, cwu_2, cwu_3, vu_at, vu_ne, pk_us, pk_un, h.x.f0, h.x.f1, h.x.f2, h.x.f3, h.x.f4, h.x.f5, h.x.f6, h.x.f7, h.x.o, h.hi.o, h.hi.gd, h.hi.gf, h.hi.gl, Hi_keys h.hi h.d8, Hi_hasKey h.hi h.d8, Rw_empty, Rw_add, List.nil_append, List.cons_append, upd_upd, cwo_1, cwo_3, cwo_5, cwo_7, cwo_17, Bool.false_eq_true, n01, Hi_find_no h.hi hx]
theorem Ms_nodes (h : nowM (A 1) d f l V) {x : Int32} (hx : out f l x) : Ms 187 [.ref m, .int x] σ m A R I (.int (-nI 1)) := by
  refine ⟨A, upd I 6 (nI 0), ?_, stay.rf, pk_un (by omega), pk_un (by omega)⟩
  rw [q187]
  simp (disch := first | omega | exact tl_l | exact tT_len | (simp only [List.length_cons, List.length_nil])) only [e187_0, e187_1, e187_2, e187_5, e187_6, e187_7, e187_10, e187_13, e187_14, e187_15, e187_16, e187_17, e187_20, e187_21, e187_22, e187_23, e187_26, e187_27, e187_29, e187_30, e187_33, e187_36, e187_37, e187_38, e187_39, e187_42, e187_43, e187_46, e187_49, e187_52, e187_53, kv_s, kh_s, kr_s, kr_v, kn_s, z0, z1, z2, nI_ltI, nI_leI, nI_eq, nI_add, oN, bz0, bz1, bw0, bw1, ltT, ltF, leT, leF, eqT, eqF, if_true, if_false, kI_n, wI_n, and_true, true_and, and_false, false_and, not_true, not_false_eq_true, mwo, mwr_0, mwr_1, mwr_2, mwg_3, mwp_3, mwr_4, mwg_5, mwp_5, mwg_6, mwp_6, mwr_7, mwr_8, mwg_9, mwp_9, mwg_10, mwp_10, mwg_11, mwp_11, mwr_12, mwg_13, mwp_13, mwr_14, mwr_15, mwr_16, mwr_17, mwr_18, mwr_19, mwg_20, mwp_20, mwr_21, mwr_22, mwr_23, mwa_1, mwu_1, mwa_2, mwu_2, mwa_3, mwu_3, mwa_4, mwu_4, mwa_5, mwu_5, mwa_6, mwu_6, mwa_7, mwu_7, mwa_8, mwu_8, mwa_9, mwu_9, mwa_10, mwu_10, mwa_11, mwu_11, mwa_12, mwu_12, mwa_13, mwu_13, mwa_14, mwu_14, mwa_15, mwu_15, mwa_16, mwu_16, vu_at, vu_ne, pk_us, pk_un, kB_n, wB_n, kL_n, wL_n, M_ver0 h hx]
end NA
theorem J_nodes (x : Int32) : Jn 66 187 [.int x] := by
  rintro c i σ hi ⟨z, n, B, L, q, K, A, R, I, A2, R2, I2, h⟩
  obtain ⟨T, hb⟩ := h.rb
  have hN := h.nm
  have hd := hb.d8
  rcases C_find hb x with ⟨ho, _⟩ | ⟨v, t, a1, a2, rfl, t1, t2, e1⟩
  · exact Inv_same h hi (C_nodes0 hb ho) (Ms_nodes hN ho)
  refine Inv_tell h hi (L' := tT (fun j => lN (fc z.1 (z.2.2.2 v) j)) (z.1 + 1)) (k := z.1 + 1) (b := .int (nI (cnt (nz z.1 (z.2.2.2 v)) 1 (2 * 2 ^ z.1 - 1)))) ?_ ?_ tT_len (by omega)
  · have e := C_nodes_loop (A := A) (R := R) (I := I) hb t2 (l1 := .int (nI v)) (z.1 + 1) 0 (l4 := junk) (Nat.zero_add _)
    rw [← e]
    have h := hb
    rw [q66]
    simp (disch := first | omega | exact tl_l | exact tT_len | (simp only [List.length_cons, List.length_nil])) only [e66_0, e66_1, e66_4, e66_5, e66_8, e66_8n, e66_9, e66_9n, e66_10, e66_10n, e66_13, e66_14, e66_15, e66_16, e66_19, e66_22, e66_23, e66_25, e66_26, e66_29, e66_32, e66_35, e66_36, e66_37, e66_40, e66_43, e66_44, e66_45, e66_46, e66_48, e66_49, e66_52, e66_52n, e66_53, e66_56, e66_58, e66_59, e66_61, e66_62, e66_65, e66_66, e66_69, e66_72, e66_75, e66_75n, e66_76, e66_79, e66_80, e66_81, e66_82, e66_85, e66_88, e66_89, e66_92, kv_s, kh_s, kr_s, kr_v, kn_s, z0, z1, z2, nI_ltI, nI_leI, nI_eq, nI_add, oN, bz0, bz1, bw0, bw1, ltT, ltF, leT, leF, eqT, eqF, if_true, if_false, kI_n, wI_n, and_true, true_and, and_false, false_and, not_true, not_false_eq_true, cwo_1, cwr_1, cwg_0, cwg_1, cwg_2, cwa_0, cwl_0, cwo_3, cwr_3, cwg_3, cwa_R, cwl_R, cwo_5, cwr_5, cwg_4, cwg_5, cwg_6, cwg_7, cwg_8, cwa_1, cwl_1, cwo_7, cwr_7, cwg_9, cwg_10, cwg_11, cwg_12, cwg_13, cwa_2, cwl_2, cwo_17, cwr_17, cwg_14, cwa_3, cwl_3, cwp_0, cwp_1, cwp_2, cwp_3, cwp_4, cwp_5, cwp_6, cwp_7, cwp_8, cwp_9, cwp_10, cwp_11, cwp_12, cwp_13, cwp_14, cwu_0, cwu_R, cwu_1, cwu_2, cwu_3, vu_at, vu_ne, pk_us, pk_un, h.x.f0, h.x.f1, h.x.f2, h.x.f3, h.x.f4, h.x.f5, h.x.f6, h.x.f7, h.x.o, h.hi.o, h.hi.gd, h.hi.gf, h.hi.gl, Hi_keys h.hi h.d8, Hi_hasKey h.hi h.d8, Rw_empty, Rw_add, List.nil_append, List.cons_append, upd_upd, cwo_1, cwo_3, cwo_5, cwo_7, cwo_17, Bool.false_eq_true, n01, e1, tT]
  · intro τ
    obtain ⟨M', B', g1, g2⟩ := M_filledAll (σ := τ) (m := c + 24) (A := A2) (R := R2) (I := upd I2 6 (nI 0)) hN a1 a2 (h.ok v a1 a2).1
    refine ⟨lA A2 M' B', upd (upd I2 6 (nI 0)) 5 (nI (z.1 + 1)), ?_, stay_lA, by rw [pk_un (by omega), pk_un (by omega)], pk_us⟩
    have e := M_nodes_loop (σ := τ) (m := c + 24) (A := A2) (R := R2) (I := upd I2 6 (nI 0)) hN g2 (l1 := .int (nI v)) (x := nI (cnt (nz z.1 (z.2.2.2 v)) 1 (2 * 2 ^ z.1 - 1))) (z.1 + 1) 0 (Nat.zero_add _)
    rw [← e]
    rw [q187]
    simp (disch := first | omega | exact tl_l | exact tT_len | (simp only [List.length_cons, List.length_nil])) only [e187_0, e187_1, e187_2, e187_5, e187_6, e187_7, e187_10, e187_13, e187_14, e187_15, e187_16, e187_17, e187_20, e187_21, e187_22, e187_23, e187_26, e187_27, e187_29, e187_30, e187_33, e187_36, e187_37, e187_38, e187_39, e187_42, e187_43, e187_46, e187_49, e187_52, e187_53, kv_s, kh_s, kr_s, kr_v, kn_s, z0, z1, z2, nI_ltI, nI_leI, nI_eq, nI_add, oN, bz0, bz1, bw0, bw1, ltT, ltF, leT, leF, eqT, eqF, if_true, if_false, kI_n, wI_n, and_true, true_and, and_false, false_and, not_true, not_false_eq_true, mwo, mwr_0, mwr_1, mwr_2, mwg_3, mwp_3, mwr_4, mwg_5, mwp_5, mwg_6, mwp_6, mwr_7, mwr_8, mwg_9, mwp_9, mwg_10, mwp_10, mwg_11, mwp_11, mwr_12, mwg_13, mwp_13, mwr_14, mwr_15, mwr_16, mwr_17, mwr_18, mwr_19, mwg_20, mwp_20, mwr_21, mwr_22, mwr_23, mwa_1, mwu_1, mwa_2, mwu_2, mwa_3, mwu_3, mwa_4, mwu_4, mwa_5, mwu_5, mwa_6, mwu_6, mwa_7, mwu_7, mwa_8, mwu_8, mwa_9, mwu_9, mwa_10, mwu_10, mwa_11, mwu_11, mwa_12, mwu_12, mwa_13, mwu_13, mwa_14, mwu_14, mwa_15, mwu_15, mwa_16, mwu_16, vu_at, vu_ne, pk_us, pk_un, kB_n, wB_n, kL_n, wL_n, M_ver hN a1 a2, n01, g1, tT, rl_nil]
