/-! calls: nodes -/
/-- nodes of a level that are not bare -/
def fc (d : Nat) (W : Nat → Int32) (j : Nat) : Nat := cnt (nz d W) (2 ^ (d - j)) (2 ^ (d - j))
def fcs (d : Nat) (W : Nat → Int32) : Nat → Nat
  | 0 => 0
  | j + 1 => fcs d W j + fc d W j
theorem fcs_cnt {d : Nat} {W : Nat → Int32} : ∀ j, j ≤ d + 1 → fcs d W j = cnt (nz d W) (2 ^ (d + 1 - j)) (2 * 2 ^ d - 2 ^ (d + 1 - j)) := by
  intro j
  induction j with
  | zero =>
    intro _
    rw [Nat.sub_zero, show 2 * 2 ^ d - 2 ^ (d + 1) = 0 by rw [Nat.pow_succ]; omega]
    rfl
  | succ j ih =>
    intro hj
    have h1 : 2 ^ (d + 1 - j) = 2 * 2 ^ (d - j) := by rw [show d + 1 - j = d - j + 1 by omega, Nat.pow_succ]; omega
    have h2 : 2 ^ (d - j) ≤ 2 ^ d := Nat.pow_le_pow_right (by omega) (by omega)
    rw [fcs, ih (by omega), fc, h1, show d + 1 - (j + 1) = d - j by omega, show 2 * 2 ^ d - 2 ^ (d - j) = 2 ^ (d - j) + (2 * 2 ^ d - 2 * 2 ^ (d - j)) by omega, cnt_add, show 2 ^ (d - j) + 2 ^ (d - j) = 2 * 2 ^ (d - j) by omega]
    omega
theorem fcs_all {d : Nat} {W : Nat → Int32} : fcs d W (d + 1) = cnt (nz d W) 1 (2 * 2 ^ d - 1) := by
  rw [fcs_cnt (d + 1) (Nat.le_refl _), Nat.sub_self, Nat.pow_zero]
theorem nz_br {d : Nat} {W : Nat → Int32} {p : Nat} : nz d W p = !br d W p := by
  unfold nz br
  by_cases h : un d W p = 0
  · rw [decide_eq_true h, decide_eq_false (by omega)]; rfl
  · rw [decide_eq_false h, decide_eq_true (by omega)]; rfl
section NA
variable {c i : Nat} {σ : Hp} {m d f l : Nat} {V : Nat → Nat → Int32} {T : Nat → Option Nat} {A : Nat → Nat → Int32} {R : Nat → Int64} {I : Nat → Int32}
theorem C_nodes_loop (h : RB c σ T d f l V) {W : Nat → Int32} {t : Nat} (t2 : ∀ {A R I}, isT (cw σ c A R I) t d W) {l1 : Value} : ∀ (n j : Nat) {l4 : Value}, j + n = d + 1 → den 66 24 [.ref c, l1, .ref t, .int (nI j), l4] [] (cw σ c A (rl R (tT (fun j => lN (fc d W j)) j)) (upd I 3 (nI j))) = some (some (.int (nI (cnt (nz d W) 1 (2 * 2 ^ d - 1)))), cw σ c A (rl R (tT (fun j => lN (fc d W j)) (d + 1))) (upd I 3 (nI (d + 1)))) := by
  have hK := h.K
  have hd := h.d8
  intro n
  induction n with
  | zero =>
    intro j l4 hj
    have : j = d + 1 := by omega
    subst this
    rw [e66_24]
    simp (disch := first | omega | exact tl_l | exact tT_len | (simp only [List.length_cons, List.length_nil])) only [e66_0, e66_1, e66_4, e66_5, e66_8, e66_8n, e66_9, e66_9n, e66_10, e66_10n, e66_13, e66_14, e66_15, e66_16, e66_19, e66_22, e66_23, e66_25, e66_26, e66_29, e66_32, e66_35, e66_36, e66_37, e66_40, e66_43, e66_44, e66_45, e66_46, e66_48, e66_49, e66_52, e66_52n, e66_53, e66_56, e66_58, e66_59, e66_61, e66_62, e66_65, e66_66, e66_69, e66_72, e66_75, e66_75n, e66_76, e66_79, e66_80, e66_81, e66_82, e66_85, e66_88, e66_89, e66_92, kv_s, kh_s, kr_s, kr_v, kn_s, z0, z1, z2, nI_ltI, nI_leI, nI_eq, nI_add, oN, bz0, bz1, bw0, bw1, ltT, ltF, leT, leF, eqT, eqF, if_true, if_false, kI_n, wI_n, and_true, true_and, and_false, false_and, not_true, not_false_eq_true, cwo_1, cwr_1, cwg_0, cwg_1, cwg_2, cwa_0, cwl_0, cwo_3, cwr_3, cwg_3, cwa_R, cwl_R, cwo_5, cwr_5, cwg_4, cwg_5, cwg_6, cwg_7, cwg_8, cwa_1, cwl_1, cwo_7, cwr_7, cwg_9, cwg_10, cwg_11, cwg_12, cwg_13, cwa_2, cwl_2, cwo_17, cwr_17, cwg_14, cwa_3, cwl_3, cwp_0, cwp_1, cwp_2, cwp_3, cwp_4, cwp_5, cwp_6, cwp_7, cwp_8, cwp_9, cwp_10, cwp_11, cwp_12, cwp_13, cwp_14, cwu_0, cwu_R, cwu_1, cwu_2, cwu_3, vu_at, vu_ne, pk_us, pk_un, h.x.f0, h.x.f1, h.x.f2, h.x.f3, h.x.f4, h.x.f5, h.x.f6, h.x.f7, h.x.o, h.hi.o, h.hi.gd, h.hi.gf, h.hi.gl, Hi_keys h.hi h.d8, Hi_hasKey h.hi h.d8, Rw_empty, Rw_add, List.nil_append, List.cons_append, upd_upd, cwo_1, cwo_3, cwo_5, cwo_7, cwo_17, Bool.false_eq_true, n01, t2.f, t2.fo, pk_mul, T_nodesIn t2 (Nat.le_refl 1) (Nat.le_refl (2 * 2 ^ d)) (show 1 ≤ 2 * 2 ^ d by omega)]
  | succ n ih =>
    intro j l4 hj
    have e1 : nI d - nI j = nI (d - j) := pk_sub (by omega)
    have h2 : 2 ^ (d - j) ≤ 2 ^ d := Nat.pow_le_pow_right (by omega) (by omega)
    have h3 := Nat.one_le_two_pow (n := d - j)
    have e2 : 2 * 2 ^ (d - j) - 2 ^ (d - j) = 2 ^ (d - j) := by omega
    have hc : fc d W j ≤ 256 := Nat.le_trans (cnt_le _ _ _) (by omega)
    have e3 : cnt (nz d W) (2 ^ (d - j)) (2 ^ (d - j)) = fc d W j := rfl
    rw [← ih (j + 1) (l4 := .int (nI (2 ^ (d - j)))) (by omega), tT]
    rw [e66_24]
    simp (disch := first | omega | exact tl_l | exact tT_len | (simp only [List.length_cons, List.length_nil])) only [e66_0, e66_1, e66_4, e66_5, e66_8, e66_8n, e66_9, e66_9n, e66_10, e66_10n, e66_13, e66_14, e66_15, e66_16, e66_19, e66_22, e66_23, e66_25, e66_26, e66_29, e66_32, e66_35, e66_36, e66_37, e66_40, e66_43, e66_44, e66_45, e66_46, e66_48, e66_49, e66_52, e66_52n, e66_53, e66_56, e66_58, e66_59, e66_61, e66_62, e66_65, e66_66, e66_69, e66_72, e66_75, e66_75n, e66_76, e66_79, e66_80, e66_81, e66_82, e66_85, e66_88, e66_89, e66_92, kv_s, kh_s, kr_s, kr_v, kn_s, z0, z1, z2, nI_ltI, nI_leI, nI_eq, nI_add, oN, bz0, bz1, bw0, bw1, ltT, ltF, leT, leF, eqT, eqF, if_true, if_false, kI_n, wI_n, and_true, true_and, and_false, false_and, not_true, not_false_eq_true, cwo_1, cwr_1, cwg_0, cwg_1, cwg_2, cwa_0, cwl_0, cwo_3, cwr_3, cwg_3, cwa_R, cwl_R, cwo_5, cwr_5, cwg_4, cwg_5, cwg_6, cwg_7, cwg_8, cwa_1, cwl_1, cwo_7, cwr_7, cwg_9, cwg_10, cwg_11, cwg_12, cwg_13, cwa_2, cwl_2, cwo_17, cwr_17, cwg_14, cwa_3, cwl_3, cwp_0, cwp_1, cwp_2, cwp_3, cwp_4, cwp_5, cwp_6, cwp_7, cwp_8, cwp_9, cwp_10, cwp_11, cwp_12, cwp_13, cwp_14, cwu_0, cwu_R, cwu_1, cwu_2, cwu_3, vu_at, vu_ne, pk_us, pk_un, h.x.f0, h.x.f1, h.x.f2, h.x.f3, h.x.f4, h.x.f5, h.x.f6, h.x.f7, h.x.o, h.hi.o, h.hi.gd, h.hi.gf, h.hi.gl, Hi_keys h.hi h.d8, Hi_hasKey h.hi h.d8, Rw_empty, Rw_add, List.nil_append, List.cons_append, upd_upd, cwo_1, cwo_3, cwo_5, cwo_7, cwo_17, Bool.false_eq_true, n01, e1, shl_nI, t2.f, t2.fo, pk_mul, T_nodesIn t2 h3 (show 2 * 2 ^ (d - j) ≤ 2 * 2 ^ d by omega) (show 2 ^ (d - j) ≤ 2 * 2 ^ (d - j) by omega), e2, e3, nI_l]
end NA
