/-! calls: versions, node, level -/
/-- a sum over places -/
def sm (f : Nat → Nat) (a : Nat) : Nat → Nat
  | 0 => 0
  | n + 1 => sm f a n + f (a + n)
theorem sm_pair {f : Nat → Nat} {a : Nat} : ∀ n, sm f (2 * a) (2 * n) = sm (fun p => f (2 * p) + f (2 * p + 1)) a n := by
  intro n
  induction n with
  | zero => rfl
  | succ n ih =>
    show sm f (2 * a) (2 * n) + f (2 * a + 2 * n) + f (2 * a + (2 * n + 1)) = sm _ a n + (f (2 * (a + n)) + f (2 * (a + n) + 1))
    rw [ih, show 2 * a + 2 * n = 2 * (a + n) by omega, show 2 * a + (2 * n + 1) = 2 * (a + n) + 1 by omega]
    omega
theorem sm_congr {f g : Nat → Nat} {a : Nat} : ∀ {n}, (∀ i, i < n → f (a + i) = g (a + i)) → sm f a n = sm g a n := by
  intro n
  induction n with
  | zero => intro _; rfl
  | succ n ih =>
    intro h
    show sm f a n + f (a + n) = sm g a n + g (a + n)
    rw [ih (fun i hi => h i (by omega)), h n (by omega)]
theorem sm_level {d : Nat} {W : Nat → Int32} : ∀ e, e ≤ d → sm (un d W) (2 ^ e) (2 ^ e) = un d W 1 := by
  intro e
  induction e with
  | zero => intro _; show 0 + un d W (1 + 0) = _; rw [Nat.zero_add]
  | succ e ih =>
    intro he
    have h1 : 2 ^ (e + 1) = 2 * 2 ^ e := by rw [Nat.pow_succ]; omega
    have h2 := Nat.one_le_two_pow (n := e)
    have h3 : 2 ^ (e + 1) ≤ 2 ^ d := Nat.pow_le_pow_right (by omega) he
    rw [h1, sm_pair, ← ih (by omega)]
    exact sm_congr fun i hi => (un_node (by omega) (by omega)).symm
theorem cnt_sm {P : Nat → Bool} {f : Nat → Nat} {a : Nat} : ∀ {n}, (∀ i, i < n → P (a + i) = true → 1 ≤ f (a + i)) → cnt P a n ≤ sm f a n := by
  intro n
  induction n with
  | zero => intro _; exact Nat.le_refl _
  | succ n ih =>
    intro h
    show cnt P a n + (if P (a + n) = true then 1 else 0) ≤ sm f a n + f (a + n)
    have := ih (fun i hi => h i (by omega))
    by_cases hp : P (a + n) = true
    · rw [if_pos hp]; have := h n (by omega) hp; omega
    · rw [if_neg hp]; omega
theorem lv_cnt {d : Nat} {W : Nat → Int32} {e : Nat} : cnt (lvP d W (2 ^ e)) 0 (2 ^ e) = cnt (fun p => !br d W p) (2 ^ e) (2 ^ e) := cnt_shift (fun p => !br d W p) (2 ^ e) (2 ^ e)
theorem lv_le {d : Nat} {W : Nat → Int32} {e : Nat} (he : e ≤ d) : cnt (lvP d W (2 ^ e)) 0 (2 ^ e) ≤ un d W 1 := by
  rw [lv_cnt, ← sm_level (W := W) e he]
  refine cnt_sm fun i _ hp => ?_
  have : br d W (2 ^ e + i) = false := by simpa using hp
  unfold br at this
  have := of_decide_eq_false this
  omega
section JK
variable {c i : Nat} {σ : Hp} {m d f l : Nat} {V : Nat → Nat → Int32} {T : Nat → Option Nat} {A : Nat → Nat → Int32} {R : Nat → Int64} {I : Nat → Int32}
theorem Mt_versions (h : nowM (A 1) d f l V) : Mt 215 [.ref m] σ m A R I (.int (nI (l - f + 1))) [lN f, lN l] 2 := by
  have hl := h.2.2.2.2.2.2.1
  have hf := h.2.2.2.2.1
  refine ⟨A, upd (upd I 6 (nI 0)) 5 (nI 2), ?_, stay.rf, by rw [pk_un (by omega), pk_un (by omega)], pk_us⟩
  rw [q215]
  simp (disch := first | omega | (simp only [List.length_cons, List.length_nil])) only [e215_0, e215_1, e215_2, e215_5, e215_6, e215_7, e215_10, e215_11, e215_12, e215_15, e215_16, e215_17, e215_18, e215_21, e215_22, e215_23, e215_26, e215_27, e215_30, e215_31, e215_34, e215_35, e215_36, kv_s, kh_s, kr_s, kr_v, kn_s, z0, z1, z2, nI_ltI, nI_leI, nI_eq, nI_add, oN, bz0, bz1, bw0, bw1, ltT, ltF, leT, leF, eqT, eqF, if_true, if_false, kI_n, wI_n, and_true, true_and, and_false, false_and, not_true, not_false_eq_true, mwo, mwr_0, mwr_1, mwr_2, mwg_3, mwp_3, mwr_4, mwg_5, mwp_5, mwg_6, mwp_6, mwr_7, mwr_8, mwg_9, mwp_9, mwg_10, mwp_10, mwg_11, mwp_11, mwr_12, mwg_13, mwp_13, mwr_14, mwr_15, mwr_16, mwr_17, mwr_18, mwr_19, mwg_20, mwp_20, mwr_21, mwr_22, mwr_23, mwa_1, mwu_1, mwa_2, mwu_2, mwa_3, mwu_3, mwa_4, mwu_4, mwa_5, mwu_5, mwa_6, mwu_6, mwa_7, mwu_7, mwa_8, mwu_8, mwa_9, mwu_9, mwa_10, mwu_10, mwa_11, mwu_11, mwa_12, mwu_12, mwa_13, mwu_13, mwa_14, mwu_14, mwa_15, mwu_15, mwa_16, mwu_16, vu_at, vu_ne, pk_us, pk_un, kB_n, wB_n, kL_n, wL_n, h.2.1, h.2.2.1, M_tell0, M_tell, M_latest h, nI_l, List.nil_append, List.cons_append, upd_upd]
theorem J_versions : Jn 112 215 [] := by
  rintro c i σ hi ⟨z, n, B, L, q, K, A, R, I, A2, R2, I2, h⟩
  obtain ⟨T, hb⟩ := h.rb
  exact Inv_tell h hi (C_versions hb) (Mt_versions h.nm) rfl (by omega)
theorem rg_in {x : Int32} {N : Nat} (hN : N < 2 ^ 31) : (∃ j, j ≤ N ∧ x = nI j) ∨ (x < nI 0 ∨ nI N < x) := by
  rcases ver_in (x := x) hN (Nat.zero_le N) with ⟨v, _, h2, h3⟩ | h
  · exact Or.inl ⟨v, h2, h3⟩
  · exact Or.inr h
theorem M_in1 {a b c : Nat} (h1 : a ≤ b) (h2 : b ≤ c) (h3 : c < 2 ^ 31) : dcall 141 [.int (nI b), .int (nI a), .int (nI c)] σ = some (some (.int (nI 1)), σ) := by
  rw [M_in, if_pos ⟨nI_le h1 (by omega), nI_le h2 h3⟩]
theorem M_in0 {x y z : Int32} (h : x < y ∨ z < x) : dcall 141 [.int x, .int y, .int z] σ = some (some (.int (nI 0)), σ) := by
  rw [M_in, if_neg]
  rintro ⟨z1, z2⟩
  rcases h with h | h
  · exact absurd z1 (Int32.not_le.mpr h)
  · exact absurd z2 (Int32.not_le.mpr h)
theorem lt_le {x y : Int32} (h : x < y) : ¬ y ≤ x := Int32.not_le.mpr h
theorem Ms_node (h : nowM (A 1) d f l V) {x : Int32} (hx : x < nI f ∨ nI l < x) {y w : Int32} : Ms 182 [.ref m, .int x, .int y, .int w] σ m A R I (.int (-nI 1)) := by
  refine ⟨A, upd I 6 (nI 0), ?_, stay.rf, pk_un (by omega), pk_un (by omega)⟩
  rw [q182]
  simp (disch := first | omega | (simp only [List.length_cons, List.length_nil])) only [e182_0, e182_1, e182_2, e182_5, e182_6, e182_7, e182_10, e182_13, e182_14, e182_15, e182_16, e182_19, e182_22, e182_25, e182_26, e182_27, e182_28, e182_29, e182_32, e182_33, e182_34, e182_35, e182_36, e182_37, e182_40, e182_43, e182_44, e182_45, e182_46, e182_47, e182_50, e182_51, e182_52, e182_55, e182_56, e182_57, e182_60, e182_61, e182_62, e182_63, e182_66, e182_67, e182_68, e182_71, e182_72, e182_75, e182_76, e182_77, e182_78, e182_81, e182_82, e182_85, e182_86, e182_89, e182_90, kv_s, kh_s, kr_s, kr_v, kn_s, z0, z1, z2, nI_ltI, nI_leI, nI_eq, nI_add, oN, bz0, bz1, bw0, bw1, ltT, ltF, leT, leF, eqT, eqF, if_true, if_false, kI_n, wI_n, and_true, true_and, and_false, false_and, not_true, not_false_eq_true, mwo, mwr_0, mwr_1, mwr_2, mwg_3, mwp_3, mwr_4, mwg_5, mwp_5, mwg_6, mwp_6, mwr_7, mwr_8, mwg_9, mwp_9, mwg_10, mwp_10, mwg_11, mwp_11, mwr_12, mwg_13, mwp_13, mwr_14, mwr_15, mwr_16, mwr_17, mwr_18, mwr_19, mwg_20, mwp_20, mwr_21, mwr_22, mwr_23, mwa_1, mwu_1, mwa_2, mwu_2, mwa_3, mwu_3, mwa_4, mwu_4, mwa_5, mwu_5, mwa_6, mwu_6, mwa_7, mwu_7, mwa_8, mwu_8, mwa_9, mwu_9, mwa_10, mwu_10, mwa_11, mwu_11, mwa_12, mwu_12, mwa_13, mwu_13, mwa_14, mwu_14, mwa_15, mwu_15, mwa_16, mwu_16, vu_at, vu_ne, pk_us, pk_un, kB_n, wB_n, kL_n, wL_n, M_ver0 h hx]
theorem C_node0 (h : RB c σ T d f l V) {x : Int32} (hx : x < nI f ∨ nI l < x) {y w : Int32} : dcall 65 [.ref c, .int x, .int y, .int w] (cw σ c A R I) = some (some (.int (-nI 1)), cw σ c A R I) := by
  rw [q65]
  simp (disch := first | omega | (simp only [List.length_cons, List.length_nil])) only [e65_0, e65_1, e65_4, e65_5, e65_8, e65_8n, e65_10, e65_10n, e65_12, e65_12n, e65_15, e65_16, e65_19, e65_20, e65_21, e65_24, e65_27, e65_30, e65_31, e65_32, e65_33, e65_34, e65_37, e65_40, e65_41, e65_42, e65_43, e65_45, e65_46, e65_49, e65_50, e65_52, e65_55, e65_56, e65_57, e65_58, e65_61, e65_64, e65_65, e65_68, e65_68n, e65_70, e65_72, e65_73, e65_74, e65_77, e65_78, e65_81, e65_81n, e65_83, e65_85, e65_86, e65_87, e65_90, e65_93, e65_94, e65_97, e65_98, kv_s, kh_s, kr_s, kr_v, kn_s, z0, z1, z2, nI_ltI, nI_leI, nI_eq, nI_add, oN, bz0, bz1, bw0, bw1, ltT, ltF, leT, leF, eqT, eqF, if_true, if_false, kI_n, wI_n, and_true, true_and, and_false, false_and, not_true, not_false_eq_true, cwo_1, cwr_1, cwg_0, cwg_1, cwg_2, cwa_0, cwl_0, cwo_3, cwr_3, cwg_3, cwa_R, cwl_R, cwo_5, cwr_5, cwg_4, cwg_5, cwg_6, cwg_7, cwg_8, cwa_1, cwl_1, cwo_7, cwr_7, cwg_9, cwg_10, cwg_11, cwg_12, cwg_13, cwa_2, cwl_2, cwo_17, cwr_17, cwg_14, cwa_3, cwl_3, cwp_0, cwp_1, cwp_2, cwp_3, cwp_4, cwp_5, cwp_6, cwp_7, cwp_8, cwp_9, cwp_10, cwp_11, cwp_12, cwp_13, cwp_14, cwu_0, cwu_R, cwu_1, cwu_2, cwu_3, vu_at, vu_ne, pk_us, pk_un, h.x.f0, h.x.f1, h.x.f2, h.x.f3, h.x.f4, h.x.f5, h.x.f6, h.x.f7, h.x.o, h.hi.o, h.hi.gd, h.hi.gf, h.hi.gl, Hi_keys h.hi h.d8, Hi_hasKey h.hi h.d8, Rw_empty, Rw_add, List.nil_append, List.cons_append, upd_upd, cwo_1, cwo_3, cwo_5, cwo_7, cwo_17, Bool.false_eq_true, n01, Hi_find_no h.hi hx]
theorem Ms_node2 (h : nowM (A 1) d f l V) {v : Nat} (h1 : f ≤ v) (h2 : v ≤ l) {y w : Int32} (hy : y < nI 0 ∨ nI d < y) : Ms 182 [.ref m, .int (nI v), .int y, .int w] σ m A R I (.int (-nI 1)) := by
  refine ⟨A, upd I 6 (nI 0), ?_, stay.rf, pk_un (by omega), pk_un (by omega)⟩
  rw [q182]
  simp (disch := first | omega | (simp only [List.length_cons, List.length_nil])) only [e182_0, e182_1, e182_2, e182_5, e182_6, e182_7, e182_10, e182_13, e182_14, e182_15, e182_16, e182_19, e182_22, e182_25, e182_26, e182_27, e182_28, e182_29, e182_32, e182_33, e182_34, e182_35, e182_36, e182_37, e182_40, e182_43, e182_44, e182_45, e182_46, e182_47, e182_50, e182_51, e182_52, e182_55, e182_56, e182_57, e182_60, e182_61, e182_62, e182_63, e182_66, e182_67, e182_68, e182_71, e182_72, e182_75, e182_76, e182_77, e182_78, e182_81, e182_82, e182_85, e182_86, e182_89, e182_90, kv_s, kh_s, kr_s, kr_v, kn_s, z0, z1, z2, nI_ltI, nI_leI, nI_eq, nI_add, oN, bz0, bz1, bw0, bw1, ltT, ltF, leT, leF, eqT, eqF, if_true, if_false, kI_n, wI_n, and_true, true_and, and_false, false_and, not_true, not_false_eq_true, mwo, mwr_0, mwr_1, mwr_2, mwg_3, mwp_3, mwr_4, mwg_5, mwp_5, mwg_6, mwp_6, mwr_7, mwr_8, mwg_9, mwp_9, mwg_10, mwp_10, mwg_11, mwp_11, mwr_12, mwg_13, mwp_13, mwr_14, mwr_15, mwr_16, mwr_17, mwr_18, mwr_19, mwg_20, mwp_20, mwr_21, mwr_22, mwr_23, mwa_1, mwu_1, mwa_2, mwu_2, mwa_3, mwu_3, mwa_4, mwu_4, mwa_5, mwu_5, mwa_6, mwu_6, mwa_7, mwu_7, mwa_8, mwu_8, mwa_9, mwu_9, mwa_10, mwu_10, mwa_11, mwu_11, mwa_12, mwu_12, mwa_13, mwu_13, mwa_14, mwu_14, mwa_15, mwu_15, mwa_16, mwu_16, vu_at, vu_ne, pk_us, pk_un, kB_n, wB_n, kL_n, wL_n, M_ver h h1 h2, n01, M_depth h, M_in0 hy]
theorem C_node2 (h : RB c σ T d f l V) {v : Nat} (h1 : f ≤ v) (h2 : v ≤ l) {y w : Int32} (hy : y < nI 0 ∨ nI d < y) : dcall 65 [.ref c, .int (nI v), .int y, .int w] (cw σ c A R I) = some (some (.int (-nI 1)), cw σ c A R I) := by
  obtain ⟨t, t1, t2⟩ := h.t h1 h2
  have hl := h.fl
  rw [q65]
  by_cases h0 : y < nI 0
  · simp (disch := first | omega | (simp only [List.length_cons, List.length_nil])) only [e65_0, e65_1, e65_4, e65_5, e65_8, e65_8n, e65_10, e65_10n, e65_12, e65_12n, e65_15, e65_16, e65_19, e65_20, e65_21, e65_24, e65_27, e65_30, e65_31, e65_32, e65_33, e65_34, e65_37, e65_40, e65_41, e65_42, e65_43, e65_45, e65_46, e65_49, e65_50, e65_52, e65_55, e65_56, e65_57, e65_58, e65_61, e65_64, e65_65, e65_68, e65_68n, e65_70, e65_72, e65_73, e65_74, e65_77, e65_78, e65_81, e65_81n, e65_83, e65_85, e65_86, e65_87, e65_90, e65_93, e65_94, e65_97, e65_98, kv_s, kh_s, kr_s, kr_v, kn_s, z0, z1, z2, nI_ltI, nI_leI, nI_eq, nI_add, oN, bz0, bz1, bw0, bw1, ltT, ltF, leT, leF, eqT, eqF, if_true, if_false, kI_n, wI_n, and_true, true_and, and_false, false_and, not_true, not_false_eq_true, cwo_1, cwr_1, cwg_0, cwg_1, cwg_2, cwa_0, cwl_0, cwo_3, cwr_3, cwg_3, cwa_R, cwl_R, cwo_5, cwr_5, cwg_4, cwg_5, cwg_6, cwg_7, cwg_8, cwa_1, cwl_1, cwo_7, cwr_7, cwg_9, cwg_10, cwg_11, cwg_12, cwg_13, cwa_2, cwl_2, cwo_17, cwr_17, cwg_14, cwa_3, cwl_3, cwp_0, cwp_1, cwp_2, cwp_3, cwp_4, cwp_5, cwp_6, cwp_7, cwp_8, cwp_9, cwp_10, cwp_11, cwp_12, cwp_13, cwp_14, cwu_0, cwu_R, cwu_1, cwu_2, cwu_3, vu_at, vu_ne, pk_us, pk_un, h.x.f0, h.x.f1, h.x.f2, h.x.f3, h.x.f4, h.x.f5, h.x.f6, h.x.f7, h.x.o, h.hi.o, h.hi.gd, h.hi.gf, h.hi.gl, Hi_keys h.hi h.d8, Hi_hasKey h.hi h.d8, Rw_empty, Rw_add, List.nil_append, List.cons_append, upd_upd, cwo_1, cwo_3, cwo_5, cwo_7, cwo_17, Bool.false_eq_true, n01, Hi_find_is h.hi (show l < 2 ^ 31 by omega) h1 h2 t1, h0]
  · have h3 := hy.resolve_left h0
    simp (disch := first | omega | (simp only [List.length_cons, List.length_nil])) only [e65_0, e65_1, e65_4, e65_5, e65_8, e65_8n, e65_10, e65_10n, e65_12, e65_12n, e65_15, e65_16, e65_19, e65_20, e65_21, e65_24, e65_27, e65_30, e65_31, e65_32, e65_33, e65_34, e65_37, e65_40, e65_41, e65_42, e65_43, e65_45, e65_46, e65_49, e65_50, e65_52, e65_55, e65_56, e65_57, e65_58, e65_61, e65_64, e65_65, e65_68, e65_68n, e65_70, e65_72, e65_73, e65_74, e65_77, e65_78, e65_81, e65_81n, e65_83, e65_85, e65_86, e65_87, e65_90, e65_93, e65_94, e65_97, e65_98, kv_s, kh_s, kr_s, kr_v, kn_s, z0, z1, z2, nI_ltI, nI_leI, nI_eq, nI_add, oN, bz0, bz1, bw0, bw1, ltT, ltF, leT, leF, eqT, eqF, if_true, if_false, kI_n, wI_n, and_true, true_and, and_false, false_and, not_true, not_false_eq_true, cwo_1, cwr_1, cwg_0, cwg_1, cwg_2, cwa_0, cwl_0, cwo_3, cwr_3, cwg_3, cwa_R, cwl_R, cwo_5, cwr_5, cwg_4, cwg_5, cwg_6, cwg_7, cwg_8, cwa_1, cwl_1, cwo_7, cwr_7, cwg_9, cwg_10, cwg_11, cwg_12, cwg_13, cwa_2, cwl_2, cwo_17, cwr_17, cwg_14, cwa_3, cwl_3, cwp_0, cwp_1, cwp_2, cwp_3, cwp_4, cwp_5, cwp_6, cwp_7, cwp_8, cwp_9, cwp_10, cwp_11, cwp_12, cwp_13, cwp_14, cwu_0, cwu_R, cwu_1, cwu_2, cwu_3, vu_at, vu_ne, pk_us, pk_un, h.x.f0, h.x.f1, h.x.f2, h.x.f3, h.x.f4, h.x.f5, h.x.f6, h.x.f7, h.x.o, h.hi.o, h.hi.gd, h.hi.gf, h.hi.gl, Hi_keys h.hi h.d8, Hi_hasKey h.hi h.d8, Rw_empty, Rw_add, List.nil_append, List.cons_append, upd_upd, cwo_1, cwo_3, cwo_5, cwo_7, cwo_17, Bool.false_eq_true, n01, Hi_find_is h.hi (show l < 2 ^ 31 by omega) h1 h2 t1, h0, lt_le h3]
theorem Ms_node3 (h : nowM (A 1) d f l V) {v j : Nat} (h1 : f ≤ v) (h2 : v ≤ l) (hj : j ≤ d) {w : Int32} (hy : w < nI 0 ∨ nI (2 ^ (d - j) - 1) < w) : Ms 182 [.ref m, .int (nI v), .int (nI j), .int w] σ m A R I (.int (-nI 1)) := by
  have hd := h.2.2.2.1
  have hK := Nat.one_le_two_pow (n := d - j)
  refine ⟨A, upd I 6 (nI 0), ?_, stay.rf, pk_un (by omega), pk_un (by omega)⟩
  rw [q182]
  simp (disch := first | omega | (simp only [List.length_cons, List.length_nil])) only [e182_0, e182_1, e182_2, e182_5, e182_6, e182_7, e182_10, e182_13, e182_14, e182_15, e182_16, e182_19, e182_22, e182_25, e182_26, e182_27, e182_28, e182_29, e182_32, e182_33, e182_34, e182_35, e182_36, e182_37, e182_40, e182_43, e182_44, e182_45, e182_46, e182_47, e182_50, e182_51, e182_52, e182_55, e182_56, e182_57, e182_60, e182_61, e182_62, e182_63, e182_66, e182_67, e182_68, e182_71, e182_72, e182_75, e182_76, e182_77, e182_78, e182_81, e182_82, e182_85, e182_86, e182_89, e182_90, kv_s, kh_s, kr_s, kr_v, kn_s, z0, z1, z2, nI_ltI, nI_leI, nI_eq, nI_add, oN, bz0, bz1, bw0, bw1, ltT, ltF, leT, leF, eqT, eqF, if_true, if_false, kI_n, wI_n, and_true, true_and, and_false, false_and, not_true, not_false_eq_true, mwo, mwr_0, mwr_1, mwr_2, mwg_3, mwp_3, mwr_4, mwg_5, mwp_5, mwg_6, mwp_6, mwr_7, mwr_8, mwg_9, mwp_9, mwg_10, mwp_10, mwg_11, mwp_11, mwr_12, mwg_13, mwp_13, mwr_14, mwr_15, mwr_16, mwr_17, mwr_18, mwr_19, mwg_20, mwp_20, mwr_21, mwr_22, mwr_23, mwa_1, mwu_1, mwa_2, mwu_2, mwa_3, mwu_3, mwa_4, mwu_4, mwa_5, mwu_5, mwa_6, mwu_6, mwa_7, mwu_7, mwa_8, mwu_8, mwa_9, mwu_9, mwa_10, mwu_10, mwa_11, mwu_11, mwa_12, mwu_12, mwa_13, mwu_13, mwa_14, mwu_14, mwa_15, mwu_15, mwa_16, mwu_16, vu_at, vu_ne, pk_us, pk_un, kB_n, wB_n, kL_n, wL_n, M_ver h h1 h2, n01, M_depth h, M_in1, pk_sub, shl_nI, M_in0 hy]
theorem C_node3 (h : RB c σ T d f l V) {v j : Nat} (h1 : f ≤ v) (h2 : v ≤ l) (hj : j ≤ d) {w : Int32} (hy : w < nI 0 ∨ nI (2 ^ (d - j) - 1) < w) : dcall 65 [.ref c, .int (nI v), .int (nI j), .int w] (cw σ c A R I) = some (some (.int (-nI 1)), cw σ c A R I) := by
  obtain ⟨t, t1, t2⟩ := h.t h1 h2
  have hl := h.fl
  have hd := h.d8
  have hK := Nat.one_le_two_pow (n := d - j)
  have hK2 : 2 ^ (d - j) ≤ 2 ^ 8 := Nat.pow_le_pow_right (by omega) (by omega)
  rw [q65]
  by_cases h0 : w < nI 0
  · simp (disch := first | omega | (simp only [List.length_cons, List.length_nil])) only [e65_0, e65_1, e65_4, e65_5, e65_8, e65_8n, e65_10, e65_10n, e65_12, e65_12n, e65_15, e65_16, e65_19, e65_20, e65_21, e65_24, e65_27, e65_30, e65_31, e65_32, e65_33, e65_34, e65_37, e65_40, e65_41, e65_42, e65_43, e65_45, e65_46, e65_49, e65_50, e65_52, e65_55, e65_56, e65_57, e65_58, e65_61, e65_64, e65_65, e65_68, e65_68n, e65_70, e65_72, e65_73, e65_74, e65_77, e65_78, e65_81, e65_81n, e65_83, e65_85, e65_86, e65_87, e65_90, e65_93, e65_94, e65_97, e65_98, kv_s, kh_s, kr_s, kr_v, kn_s, z0, z1, z2, nI_ltI, nI_leI, nI_eq, nI_add, oN, bz0, bz1, bw0, bw1, ltT, ltF, leT, leF, eqT, eqF, if_true, if_false, kI_n, wI_n, and_true, true_and, and_false, false_and, not_true, not_false_eq_true, cwo_1, cwr_1, cwg_0, cwg_1, cwg_2, cwa_0, cwl_0, cwo_3, cwr_3, cwg_3, cwa_R, cwl_R, cwo_5, cwr_5, cwg_4, cwg_5, cwg_6, cwg_7, cwg_8, cwa_1, cwl_1, cwo_7, cwr_7, cwg_9, cwg_10, cwg_11, cwg_12, cwg_13, cwa_2, cwl_2, cwo_17, cwr_17, cwg_14, cwa_3, cwl_3, cwp_0, cwp_1, cwp_2, cwp_3, cwp_4, cwp_5, cwp_6, cwp_7, cwp_8, cwp_9, cwp_10, cwp_11, cwp_12, cwp_13, cwp_14, cwu_0, cwu_R, cwu_1, cwu_2, cwu_3, vu_at, vu_ne, pk_us, pk_un, h.x.f0, h.x.f1, h.x.f2, h.x.f3, h.x.f4, h.x.f5, h.x.f6, h.x.f7, h.x.o, h.hi.o, h.hi.gd, h.hi.gf, h.hi.gl, Hi_keys h.hi h.d8, Hi_hasKey h.hi h.d8, Rw_empty, Rw_add, List.nil_append, List.cons_append, upd_upd, cwo_1, cwo_3, cwo_5, cwo_7, cwo_17, Bool.false_eq_true, n01, Hi_find_is h.hi (show l < 2 ^ 31 by omega) h1 h2 t1, h0, pk_sub hj, shl_nI]
  · have h3 := hy.resolve_left h0
    have h4 : ¬ w < nI (2 ^ (d - j)) := by
      obtain ⟨k, hk, rfl⟩ := nI_of (x := w) h0
      rw [nI_ltI (by omega) (by omega)] at h3 ⊢
      omega
    simp (disch := first | omega | (simp only [List.length_cons, List.length_nil])) only [e65_0, e65_1, e65_4, e65_5, e65_8, e65_8n, e65_10, e65_10n, e65_12, e65_12n, e65_15, e65_16, e65_19, e65_20, e65_21, e65_24, e65_27, e65_30, e65_31, e65_32, e65_33, e65_34, e65_37, e65_40, e65_41, e65_42, e65_43, e65_45, e65_46, e65_49, e65_50, e65_52, e65_55, e65_56, e65_57, e65_58, e65_61, e65_64, e65_65, e65_68, e65_68n, e65_70, e65_72, e65_73, e65_74, e65_77, e65_78, e65_81, e65_81n, e65_83, e65_85, e65_86, e65_87, e65_90, e65_93, e65_94, e65_97, e65_98, kv_s, kh_s, kr_s, kr_v, kn_s, z0, z1, z2, nI_ltI, nI_leI, nI_eq, nI_add, oN, bz0, bz1, bw0, bw1, ltT, ltF, leT, leF, eqT, eqF, if_true, if_false, kI_n, wI_n, and_true, true_and, and_false, false_and, not_true, not_false_eq_true, cwo_1, cwr_1, cwg_0, cwg_1, cwg_2, cwa_0, cwl_0, cwo_3, cwr_3, cwg_3, cwa_R, cwl_R, cwo_5, cwr_5, cwg_4, cwg_5, cwg_6, cwg_7, cwg_8, cwa_1, cwl_1, cwo_7, cwr_7, cwg_9, cwg_10, cwg_11, cwg_12, cwg_13, cwa_2, cwl_2, cwo_17, cwr_17, cwg_14, cwa_3, cwl_3, cwp_0, cwp_1, cwp_2, cwp_3, cwp_4, cwp_5, cwp_6, cwp_7, cwp_8, cwp_9, cwp_10, cwp_11, cwp_12, cwp_13, cwp_14, cwu_0, cwu_R, cwu_1, cwu_2, cwu_3, vu_at, vu_ne, pk_us, pk_un, h.x.f0, h.x.f1, h.x.f2, h.x.f3, h.x.f4, h.x.f5, h.x.f6, h.x.f7, h.x.o, h.hi.o, h.hi.gd, h.hi.gf, h.hi.gl, Hi_keys h.hi h.d8, Hi_hasKey h.hi h.d8, Rw_empty, Rw_add, List.nil_append, List.cons_append, upd_upd, cwo_1, cwo_3, cwo_5, cwo_7, cwo_17, Bool.false_eq_true, n01, Hi_find_is h.hi (show l < 2 ^ 31 by omega) h1 h2 t1, h0, pk_sub hj, shl_nI, h4]
theorem Mt_node (h : nowM (A 1) d f l V) {v j k : Nat} (h1 : f ≤ v) (h2 : v ≤ l) (hj : j ≤ d) (hk : k < 2 ^ (d - j)) (hW : plW d (V v)) : Mt 182 [.ref m, .int (nI v), .int (nI j), .int (nI k)] σ m A R I (.int (bI (br d (V v) (2 ^ (d - j) + k)))) [(mk d (V v) (2 ^ (d - j) + k)).toInt64] 1 := by
  have hd := h.2.2.2.1
  have hK := Nat.one_le_two_pow (n := d - j)
  have hK2 : 2 ^ (d - j) ≤ 2 ^ 8 := Nat.pow_le_pow_right (by omega) (by omega)
  have hK3 : 2 ^ (d - j) ≤ 2 ^ d := Nat.pow_le_pow_right (by omega) (by omega)
  have hh : ∀ {M B}, nowM (lA A M B 1) d f l V := h
  obtain ⟨M', B', e1, e2⟩ := M_lay (σ := σ) (m := m) (R := R) (I := upd I 6 (nI 0)) h h1 h2 hW
  have g := e2 (2 ^ (d - j) + k) (by omega) (by omega)
  refine ⟨lA A M' B', upd (upd I 6 (nI 0)) 5 (nI 1), ?_, stay_lA, by rw [pk_un (by omega), pk_un (by omega)], pk_us⟩
  rw [q182]
  cases hb : br d (V v) (2 ^ (d - j) + k) with
  | true =>
    rw [hb] at g
    simp (disch := first | omega | (simp only [List.length_cons, List.length_nil])) only [e182_0, e182_1, e182_2, e182_5, e182_6, e182_7, e182_10, e182_13, e182_14, e182_15, e182_16, e182_19, e182_22, e182_25, e182_26, e182_27, e182_28, e182_29, e182_32, e182_33, e182_34, e182_35, e182_36, e182_37, e182_40, e182_43, e182_44, e182_45, e182_46, e182_47, e182_50, e182_51, e182_52, e182_55, e182_56, e182_57, e182_60, e182_61, e182_62, e182_63, e182_66, e182_67, e182_68, e182_71, e182_72, e182_75, e182_76, e182_77, e182_78, e182_81, e182_82, e182_85, e182_86, e182_89, e182_90, kv_s, kh_s, kr_s, kr_v, kn_s, z0, z1, z2, nI_ltI, nI_leI, nI_eq, nI_add, oN, bz0, bz1, bw0, bw1, ltT, ltF, leT, leF, eqT, eqF, if_true, if_false, kI_n, wI_n, and_true, true_and, and_false, false_and, not_true, not_false_eq_true, mwo, mwr_0, mwr_1, mwr_2, mwg_3, mwp_3, mwr_4, mwg_5, mwp_5, mwg_6, mwp_6, mwr_7, mwr_8, mwg_9, mwp_9, mwg_10, mwp_10, mwg_11, mwp_11, mwr_12, mwg_13, mwp_13, mwr_14, mwr_15, mwr_16, mwr_17, mwr_18, mwr_19, mwg_20, mwp_20, mwr_21, mwr_22, mwr_23, mwa_1, mwu_1, mwa_2, mwu_2, mwa_3, mwu_3, mwa_4, mwu_4, mwa_5, mwu_5, mwa_6, mwu_6, mwa_7, mwu_7, mwa_8, mwu_8, mwa_9, mwu_9, mwa_10, mwu_10, mwa_11, mwu_11, mwa_12, mwu_12, mwa_13, mwu_13, mwa_14, mwu_14, mwa_15, mwu_15, mwa_16, mwu_16, vu_at, vu_ne, pk_us, pk_un, kB_n, wB_n, kL_n, wL_n, M_ver h h1 h2, n01, M_depth h, M_in1, pk_sub, shl_nI, e1, M_place hh hj, lA_5, lA_6, g.1, g.2, M_tell0, bI]
  | false =>
    rw [hb] at g
    simp (disch := first | omega | (simp only [List.length_cons, List.length_nil])) only [e182_0, e182_1, e182_2, e182_5, e182_6, e182_7, e182_10, e182_13, e182_14, e182_15, e182_16, e182_19, e182_22, e182_25, e182_26, e182_27, e182_28, e182_29, e182_32, e182_33, e182_34, e182_35, e182_36, e182_37, e182_40, e182_43, e182_44, e182_45, e182_46, e182_47, e182_50, e182_51, e182_52, e182_55, e182_56, e182_57, e182_60, e182_61, e182_62, e182_63, e182_66, e182_67, e182_68, e182_71, e182_72, e182_75, e182_76, e182_77, e182_78, e182_81, e182_82, e182_85, e182_86, e182_89, e182_90, kv_s, kh_s, kr_s, kr_v, kn_s, z0, z1, z2, nI_ltI, nI_leI, nI_eq, nI_add, oN, bz0, bz1, bw0, bw1, ltT, ltF, leT, leF, eqT, eqF, if_true, if_false, kI_n, wI_n, and_true, true_and, and_false, false_and, not_true, not_false_eq_true, mwo, mwr_0, mwr_1, mwr_2, mwg_3, mwp_3, mwr_4, mwg_5, mwp_5, mwg_6, mwp_6, mwr_7, mwr_8, mwg_9, mwp_9, mwg_10, mwp_10, mwg_11, mwp_11, mwr_12, mwg_13, mwp_13, mwr_14, mwr_15, mwr_16, mwr_17, mwr_18, mwr_19, mwg_20, mwp_20, mwr_21, mwr_22, mwr_23, mwa_1, mwu_1, mwa_2, mwu_2, mwa_3, mwu_3, mwa_4, mwu_4, mwa_5, mwu_5, mwa_6, mwu_6, mwa_7, mwu_7, mwa_8, mwu_8, mwa_9, mwu_9, mwa_10, mwu_10, mwa_11, mwu_11, mwa_12, mwu_12, mwa_13, mwu_13, mwa_14, mwu_14, mwa_15, mwu_15, mwa_16, mwu_16, vu_at, vu_ne, pk_us, pk_un, kB_n, wB_n, kL_n, wL_n, M_ver h h1 h2, n01, M_depth h, M_in1, pk_sub, shl_nI, e1, M_place hh hj, lA_5, lA_6, g.1, g.2, M_tell0, bI, Bool.false_eq_true]
theorem C_node (h : RB c σ T d f l V) {v j k : Nat} (h1 : f ≤ v) (h2 : v ≤ l) (hj : j ≤ d) (hk : k < 2 ^ (d - j)) : dcall 65 [.ref c, .int (nI v), .int (nI j), .int (nI k)] (cw σ c A R I) = some (some (.int (bI (br d (V v) (2 ^ (d - j) + k)))), cw σ c A (rl R [(mk d (V v) (2 ^ (d - j) + k)).toInt64]) (upd I 3 (nI 1))) := by
  obtain ⟨t, t1, t2⟩ := h.t h1 h2
  have hl := h.fl
  have hd := h.d8
  have hK := Nat.one_le_two_pow (n := d - j)
  have hK2 : 2 ^ (d - j) ≤ 2 ^ 8 := Nat.pow_le_pow_right (by omega) (by omega)
  have hK3 : 2 ^ (d - j) ≤ 2 ^ d := Nat.pow_le_pow_right (by omega) (by omega)
  rw [q65]
  have hbb := fun A R I => T_bareb (t2 (A := A) (R := R) (I := I)) (p := 2 ^ (d - j) + k) (by omega) (by omega)
  cases hb : br d (V v) (2 ^ (d - j) + k) with
  | true =>
    rw [hb] at hbb
    simp (disch := first | omega | (simp only [List.length_cons, List.length_nil])) only [e65_0, e65_1, e65_4, e65_5, e65_8, e65_8n, e65_10, e65_10n, e65_12, e65_12n, e65_15, e65_16, e65_19, e65_20, e65_21, e65_24, e65_27, e65_30, e65_31, e65_32, e65_33, e65_34, e65_37, e65_40, e65_41, e65_42, e65_43, e65_45, e65_46, e65_49, e65_50, e65_52, e65_55, e65_56, e65_57, e65_58, e65_61, e65_64, e65_65, e65_68, e65_68n, e65_70, e65_72, e65_73, e65_74, e65_77, e65_78, e65_81, e65_81n, e65_83, e65_85, e65_86, e65_87, e65_90, e65_93, e65_94, e65_97, e65_98, kv_s, kh_s, kr_s, kr_v, kn_s, z0, z1, z2, nI_ltI, nI_leI, nI_eq, nI_add, oN, bz0, bz1, bw0, bw1, ltT, ltF, leT, leF, eqT, eqF, if_true, if_false, kI_n, wI_n, and_true, true_and, and_false, false_and, not_true, not_false_eq_true, cwo_1, cwr_1, cwg_0, cwg_1, cwg_2, cwa_0, cwl_0, cwo_3, cwr_3, cwg_3, cwa_R, cwl_R, cwo_5, cwr_5, cwg_4, cwg_5, cwg_6, cwg_7, cwg_8, cwa_1, cwl_1, cwo_7, cwr_7, cwg_9, cwg_10, cwg_11, cwg_12, cwg_13, cwa_2, cwl_2, cwo_17, cwr_17, cwg_14, cwa_3, cwl_3, cwp_0, cwp_1, cwp_2, cwp_3, cwp_4, cwp_5, cwp_6, cwp_7, cwp_8, cwp_9, cwp_10, cwp_11, cwp_12, cwp_13, cwp_14, cwu_0, cwu_R, cwu_1, cwu_2, cwu_3, vu_at, vu_ne, pk_us, pk_un, h.x.f0, h.x.f1, h.x.f2, h.x.f3, h.x.f4, h.x.f5, h.x.f6, h.x.f7, h.x.o, h.hi.o, h.hi.gd, h.hi.gf, h.hi.gl, Hi_keys h.hi h.d8, Hi_hasKey h.hi h.d8, Rw_empty, Rw_add, List.nil_append, List.cons_append, upd_upd, cwo_1, cwo_3, cwo_5, cwo_7, cwo_17, Bool.false_eq_true, n01, Hi_find_is h.hi (show l < 2 ^ 31 by omega) h1 h2 t1, pk_sub hj, shl_nI, t2.o, T_mark t2, hbb, bI]
  | false =>
    rw [hb] at hbb
    simp (disch := first | omega | (simp only [List.length_cons, List.length_nil])) only [e65_0, e65_1, e65_4, e65_5, e65_8, e65_8n, e65_10, e65_10n, e65_12, e65_12n, e65_15, e65_16, e65_19, e65_20, e65_21, e65_24, e65_27, e65_30, e65_31, e65_32, e65_33, e65_34, e65_37, e65_40, e65_41, e65_42, e65_43, e65_45, e65_46, e65_49, e65_50, e65_52, e65_55, e65_56, e65_57, e65_58, e65_61, e65_64, e65_65, e65_68, e65_68n, e65_70, e65_72, e65_73, e65_74, e65_77, e65_78, e65_81, e65_81n, e65_83, e65_85, e65_86, e65_87, e65_90, e65_93, e65_94, e65_97, e65_98, kv_s, kh_s, kr_s, kr_v, kn_s, z0, z1, z2, nI_ltI, nI_leI, nI_eq, nI_add, oN, bz0, bz1, bw0, bw1, ltT, ltF, leT, leF, eqT, eqF, if_true, if_false, kI_n, wI_n, and_true, true_and, and_false, false_and, not_true, not_false_eq_true, cwo_1, cwr_1, cwg_0, cwg_1, cwg_2, cwa_0, cwl_0, cwo_3, cwr_3, cwg_3, cwa_R, cwl_R, cwo_5, cwr_5, cwg_4, cwg_5, cwg_6, cwg_7, cwg_8, cwa_1, cwl_1, cwo_7, cwr_7, cwg_9, cwg_10, cwg_11, cwg_12, cwg_13, cwa_2, cwl_2, cwo_17, cwr_17, cwg_14, cwa_3, cwl_3, cwp_0, cwp_1, cwp_2, cwp_3, cwp_4, cwp_5, cwp_6, cwp_7, cwp_8, cwp_9, cwp_10, cwp_11, cwp_12, cwp_13, cwp_14, cwu_0, cwu_R, cwu_1, cwu_2, cwu_3, vu_at, vu_ne, pk_us, pk_un, h.x.f0, h.x.f1, h.x.f2, h.x.f3, h.x.f4, h.x.f5, h.x.f6, h.x.f7, h.x.o, h.hi.o, h.hi.gd, h.hi.gf, h.hi.gl, Hi_keys h.hi h.d8, Hi_hasKey h.hi h.d8, Rw_empty, Rw_add, List.nil_append, List.cons_append, upd_upd, cwo_1, cwo_3, cwo_5, cwo_7, cwo_17, Bool.false_eq_true, n01, Hi_find_is h.hi (show l < 2 ^ 31 by omega) h1 h2 t1, pk_sub hj, shl_nI, t2.o, T_mark t2, hbb, bI]
theorem J_node (x y w : Int32) : Jn 65 182 [.int x, .int y, .int w] := by
  rintro c i σ hi ⟨z, n, B, L, q, K, A, R, I, A2, R2, I2, h⟩
  refine J_ver hi h (fun v T h1 h2 hb => ?_) fun T hb hx => ?_
  · have hd := hb.d8
    rcases rg_in (x := y) (N := z.1) (by omega) with ⟨j, hj, rfl⟩ | hy
    · have hK := Nat.one_le_two_pow (n := z.1 - j)
      have hK2 : 2 ^ (z.1 - j) ≤ 2 ^ 8 := Nat.pow_le_pow_right (by omega) (by omega)
      rcases rg_in (x := w) (N := 2 ^ (z.1 - j) - 1) (by omega) with ⟨k, hk, rfl⟩ | hw
      · exact Inv_tell h hi (C_node hb h1 h2 hj (by omega)) (Mt_node h.nm h1 h2 hj (by omega) (h.ok v h1 h2).1) rfl (by omega)
      · exact Inv_same h hi (C_node3 hb h1 h2 hj hw) (Ms_node3 h.nm h1 h2 hj hw)
    · exact Inv_same h hi (C_node2 hb h1 h2 hy) (Ms_node2 h.nm h1 h2 hy)
  · exact Inv_same h hi (C_node0 hb hx) (Ms_node h.nm hx)
end JK
