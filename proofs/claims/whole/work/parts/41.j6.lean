/-! calls: key, middle -/
theorem kth {P : Nat → Bool} {k : Nat} : ∀ {N}, k < cnt P 0 N → ∃ j, j < N ∧ P j = true ∧ cnt P 0 j = k := by
  intro N
  induction N with
  | zero => intro h; exact absurd h (Nat.not_lt_zero _)
  | succ N ih =>
    intro h
    by_cases h2 : k < cnt P 0 N
    · obtain ⟨j, j1, j2, j3⟩ := ih h2
      exact ⟨j, by omega, j2, j3⟩
    · cases hp : P N with
      | false => rw [(tl_f (L := []) (g := lN) hp).2] at h; omega
      | true =>
        rw [(tl_t (L := []) (g := lN) hp).2] at h
        exact ⟨N, by omega, hp, by omega⟩
section JO
variable {c i : Nat} {σ : Hp} {m d f l : Nat} {V : Nat → Nat → Int32} {T : Nat → Option Nat} {A : Nat → Nat → Int32} {R : Nat → Int64} {I : Nat → Int32}
theorem C_key_loop (h : RB c σ T d f l V) {W : Nat → Int32} {t : Nat} (t2 : ∀ {A R I}, isT (cw σ c A R I) t d W) {j0 k : Nat} (hj : j0 < 2 ^ d) (hp : nI 0 < W j0) (hk : cnt (po W) 0 j0 = k) {l1 : Value} : ∀ (n j : Nat), j + n = j0 → den 67 39 [.ref c, l1, .int (nI k), .ref t, .int (nI (cnt (po W) 0 j)), .int (-nI 1), .int (nI j)] [] (cw σ c A R I) = some (some (.int (nI j0)), cw σ c A (rl R [(W j0).toInt64]) (upd I 3 (nI 1))) := by
  have hK := h.K
  have hk2 := cnt_le (po W) 0 j0
  intro n
  induction n with
  | zero =>
    intro j hn
    have : j = j0 := by omega
    subst this
    have hp2 : ¬ W j ≤ nI 0 := Int32.not_le.mpr hp
    rw [e67_39]
    simp (disch := first | omega | exact tl_l | (simp only [List.length_cons, List.length_nil])) only [e67_0, e67_1, e67_4, e67_5, e67_8, e67_8n, e67_9, e67_9n, e67_10, e67_10n, e67_13, e67_14, e67_17, e67_18, e67_18n, e67_19, e67_22, e67_25, e67_28, e67_29, e67_30, e67_31, e67_33, e67_34, e67_36, e67_37, e67_41, e67_42, e67_45, e67_48, e67_51, e67_53, e67_54, e67_57, e67_57n, e67_58, e67_60, e67_63, e67_66, e67_68, e67_69, e67_72, e67_74, e67_76, e67_79, e67_82, e67_85, e67_86, e67_89, e67_92, e67_93, e67_96, e67_96n, e67_97, e67_99, e67_102, e67_103, e67_106, e67_108, kv_s, kh_s, kr_s, kr_v, kn_s, z0, z1, z2, nI_ltI, nI_leI, nI_eq, nI_add, oN, bz0, bz1, bw0, bw1, ltT, ltF, leT, leF, eqT, eqF, if_true, if_false, kI_n, wI_n, and_true, true_and, and_false, false_and, not_true, not_false_eq_true, cwo_1, cwr_1, cwg_0, cwg_1, cwg_2, cwa_0, cwl_0, cwo_3, cwr_3, cwg_3, cwa_R, cwl_R, cwo_5, cwr_5, cwg_4, cwg_5, cwg_6, cwg_7, cwg_8, cwa_1, cwl_1, cwo_7, cwr_7, cwg_9, cwg_10, cwg_11, cwg_12, cwg_13, cwa_2, cwl_2, cwo_17, cwr_17, cwg_14, cwa_3, cwl_3, cwp_0, cwp_1, cwp_2, cwp_3, cwp_4, cwp_5, cwp_6, cwp_7, cwp_8, cwp_9, cwp_10, cwp_11, cwp_12, cwp_13, cwp_14, cwu_0, cwu_R, cwu_1, cwu_2, cwu_3, vu_at, vu_ne, pk_us, pk_un, h.x.f0, h.x.f1, h.x.f2, h.x.f3, h.x.f4, h.x.f5, h.x.f6, h.x.f7, h.x.o, h.hi.o, h.hi.gd, h.hi.gf, h.hi.gl, Hi_keys h.hi h.d8, Hi_hasKey h.hi h.d8, Rw_empty, Rw_add, List.nil_append, List.cons_append, upd_upd, cwo_1, cwo_3, cwo_5, cwo_7, cwo_17, Bool.false_eq_true, n01, t2.o, T_val t2, hp2, n1_n1, hk]
    by_cases hn : j + 1 < 2 ^ d
    · rw [e67_39]
      simp (disch := first | omega | exact tl_l | (simp only [List.length_cons, List.length_nil])) only [e67_0, e67_1, e67_4, e67_5, e67_8, e67_8n, e67_9, e67_9n, e67_10, e67_10n, e67_13, e67_14, e67_17, e67_18, e67_18n, e67_19, e67_22, e67_25, e67_28, e67_29, e67_30, e67_31, e67_33, e67_34, e67_36, e67_37, e67_41, e67_42, e67_45, e67_48, e67_51, e67_53, e67_54, e67_57, e67_57n, e67_58, e67_60, e67_63, e67_66, e67_68, e67_69, e67_72, e67_74, e67_76, e67_79, e67_82, e67_85, e67_86, e67_89, e67_92, e67_93, e67_96, e67_96n, e67_97, e67_99, e67_102, e67_103, e67_106, e67_108, kv_s, kh_s, kr_s, kr_v, kn_s, z0, z1, z2, nI_ltI, nI_leI, nI_eq, nI_add, oN, bz0, bz1, bw0, bw1, ltT, ltF, leT, leF, eqT, eqF, if_true, if_false, kI_n, wI_n, and_true, true_and, and_false, false_and, not_true, not_false_eq_true, cwo_1, cwr_1, cwg_0, cwg_1, cwg_2, cwa_0, cwl_0, cwo_3, cwr_3, cwg_3, cwa_R, cwl_R, cwo_5, cwr_5, cwg_4, cwg_5, cwg_6, cwg_7, cwg_8, cwa_1, cwl_1, cwo_7, cwr_7, cwg_9, cwg_10, cwg_11, cwg_12, cwg_13, cwa_2, cwl_2, cwo_17, cwr_17, cwg_14, cwa_3, cwl_3, cwp_0, cwp_1, cwp_2, cwp_3, cwp_4, cwp_5, cwp_6, cwp_7, cwp_8, cwp_9, cwp_10, cwp_11, cwp_12, cwp_13, cwp_14, cwu_0, cwu_R, cwu_1, cwu_2, cwu_3, vu_at, vu_ne, pk_us, pk_un, h.x.f0, h.x.f1, h.x.f2, h.x.f3, h.x.f4, h.x.f5, h.x.f6, h.x.f7, h.x.o, h.hi.o, h.hi.gd, h.hi.gf, h.hi.gl, Hi_keys h.hi h.d8, Hi_hasKey h.hi h.d8, Rw_empty, Rw_add, List.nil_append, List.cons_append, upd_upd, cwo_1, cwo_3, cwo_5, cwo_7, cwo_17, Bool.false_eq_true, n01, nI_n1, hn, T_val t2, t2.o]
    · rw [e67_39]
      simp (disch := first | omega | exact tl_l | (simp only [List.length_cons, List.length_nil])) only [e67_0, e67_1, e67_4, e67_5, e67_8, e67_8n, e67_9, e67_9n, e67_10, e67_10n, e67_13, e67_14, e67_17, e67_18, e67_18n, e67_19, e67_22, e67_25, e67_28, e67_29, e67_30, e67_31, e67_33, e67_34, e67_36, e67_37, e67_41, e67_42, e67_45, e67_48, e67_51, e67_53, e67_54, e67_57, e67_57n, e67_58, e67_60, e67_63, e67_66, e67_68, e67_69, e67_72, e67_74, e67_76, e67_79, e67_82, e67_85, e67_86, e67_89, e67_92, e67_93, e67_96, e67_96n, e67_97, e67_99, e67_102, e67_103, e67_106, e67_108, kv_s, kh_s, kr_s, kr_v, kn_s, z0, z1, z2, nI_ltI, nI_leI, nI_eq, nI_add, oN, bz0, bz1, bw0, bw1, ltT, ltF, leT, leF, eqT, eqF, if_true, if_false, kI_n, wI_n, and_true, true_and, and_false, false_and, not_true, not_false_eq_true, cwo_1, cwr_1, cwg_0, cwg_1, cwg_2, cwa_0, cwl_0, cwo_3, cwr_3, cwg_3, cwa_R, cwl_R, cwo_5, cwr_5, cwg_4, cwg_5, cwg_6, cwg_7, cwg_8, cwa_1, cwl_1, cwo_7, cwr_7, cwg_9, cwg_10, cwg_11, cwg_12, cwg_13, cwa_2, cwl_2, cwo_17, cwr_17, cwg_14, cwa_3, cwl_3, cwp_0, cwp_1, cwp_2, cwp_3, cwp_4, cwp_5, cwp_6, cwp_7, cwp_8, cwp_9, cwp_10, cwp_11, cwp_12, cwp_13, cwp_14, cwu_0, cwu_R, cwu_1, cwu_2, cwu_3, vu_at, vu_ne, pk_us, pk_un, h.x.f0, h.x.f1, h.x.f2, h.x.f3, h.x.f4, h.x.f5, h.x.f6, h.x.f7, h.x.o, h.hi.o, h.hi.gd, h.hi.gf, h.hi.gl, Hi_keys h.hi h.d8, Hi_hasKey h.hi h.d8, Rw_empty, Rw_add, List.nil_append, List.cons_append, upd_upd, cwo_1, cwo_3, cwo_5, cwo_7, cwo_17, Bool.false_eq_true, n01, hn, T_val t2, t2.o]
  | succ n ih =>
    intro j hn
    rw [← ih (j + 1) (by omega), cnt_po, Nat.zero_add]
    have hc := cnt_le (po W) 0 j
    by_cases hv : W j ≤ nI 0
    · have hv2 : ¬ nI 0 < W j := Int32.not_lt.mpr hv
      rw [e67_39]
      simp (disch := first | omega | exact tl_l | (simp only [List.length_cons, List.length_nil])) only [e67_0, e67_1, e67_4, e67_5, e67_8, e67_8n, e67_9, e67_9n, e67_10, e67_10n, e67_13, e67_14, e67_17, e67_18, e67_18n, e67_19, e67_22, e67_25, e67_28, e67_29, e67_30, e67_31, e67_33, e67_34, e67_36, e67_37, e67_41, e67_42, e67_45, e67_48, e67_51, e67_53, e67_54, e67_57, e67_57n, e67_58, e67_60, e67_63, e67_66, e67_68, e67_69, e67_72, e67_74, e67_76, e67_79, e67_82, e67_85, e67_86, e67_89, e67_92, e67_93, e67_96, e67_96n, e67_97, e67_99, e67_102, e67_103, e67_106, e67_108, kv_s, kh_s, kr_s, kr_v, kn_s, z0, z1, z2, nI_ltI, nI_leI, nI_eq, nI_add, oN, bz0, bz1, bw0, bw1, ltT, ltF, leT, leF, eqT, eqF, if_true, if_false, kI_n, wI_n, and_true, true_and, and_false, false_and, not_true, not_false_eq_true, cwo_1, cwr_1, cwg_0, cwg_1, cwg_2, cwa_0, cwl_0, cwo_3, cwr_3, cwg_3, cwa_R, cwl_R, cwo_5, cwr_5, cwg_4, cwg_5, cwg_6, cwg_7, cwg_8, cwa_1, cwl_1, cwo_7, cwr_7, cwg_9, cwg_10, cwg_11, cwg_12, cwg_13, cwa_2, cwl_2, cwo_17, cwr_17, cwg_14, cwa_3, cwl_3, cwp_0, cwp_1, cwp_2, cwp_3, cwp_4, cwp_5, cwp_6, cwp_7, cwp_8, cwp_9, cwp_10, cwp_11, cwp_12, cwp_13, cwp_14, cwu_0, cwu_R, cwu_1, cwu_2, cwu_3, vu_at, vu_ne, pk_us, pk_un, h.x.f0, h.x.f1, h.x.f2, h.x.f3, h.x.f4, h.x.f5, h.x.f6, h.x.f7, h.x.o, h.hi.o, h.hi.gd, h.hi.gf, h.hi.gl, Hi_keys h.hi h.d8, Hi_hasKey h.hi h.d8, Rw_empty, Rw_add, List.nil_append, List.cons_append, upd_upd, cwo_1, cwo_3, cwo_5, cwo_7, cwo_17, Bool.false_eq_true, n01, t2.o, T_val t2, hv, hv2, Nat.add_zero, n1_n1]
    · have hv2 : nI 0 < W j := Int32.not_le.mp hv
      have hlt := cnt_lt (P := po W) (i := j) (N := j0) (decide_eq_true hv2) (by omega)
      rw [e67_39]
      simp (disch := first | omega | exact tl_l | (simp only [List.length_cons, List.length_nil])) only [e67_0, e67_1, e67_4, e67_5, e67_8, e67_8n, e67_9, e67_9n, e67_10, e67_10n, e67_13, e67_14, e67_17, e67_18, e67_18n, e67_19, e67_22, e67_25, e67_28, e67_29, e67_30, e67_31, e67_33, e67_34, e67_36, e67_37, e67_41, e67_42, e67_45, e67_48, e67_51, e67_53, e67_54, e67_57, e67_57n, e67_58, e67_60, e67_63, e67_66, e67_68, e67_69, e67_72, e67_74, e67_76, e67_79, e67_82, e67_85, e67_86, e67_89, e67_92, e67_93, e67_96, e67_96n, e67_97, e67_99, e67_102, e67_103, e67_106, e67_108, kv_s, kh_s, kr_s, kr_v, kn_s, z0, z1, z2, nI_ltI, nI_leI, nI_eq, nI_add, oN, bz0, bz1, bw0, bw1, ltT, ltF, leT, leF, eqT, eqF, if_true, if_false, kI_n, wI_n, and_true, true_and, and_false, false_and, not_true, not_false_eq_true, cwo_1, cwr_1, cwg_0, cwg_1, cwg_2, cwa_0, cwl_0, cwo_3, cwr_3, cwg_3, cwa_R, cwl_R, cwo_5, cwr_5, cwg_4, cwg_5, cwg_6, cwg_7, cwg_8, cwa_1, cwl_1, cwo_7, cwr_7, cwg_9, cwg_10, cwg_11, cwg_12, cwg_13, cwa_2, cwl_2, cwo_17, cwr_17, cwg_14, cwa_3, cwl_3, cwp_0, cwp_1, cwp_2, cwp_3, cwp_4, cwp_5, cwp_6, cwp_7, cwp_8, cwp_9, cwp_10, cwp_11, cwp_12, cwp_13, cwp_14, cwu_0, cwu_R, cwu_1, cwu_2, cwu_3, vu_at, vu_ne, pk_us, pk_un, h.x.f0, h.x.f1, h.x.f2, h.x.f3, h.x.f4, h.x.f5, h.x.f6, h.x.f7, h.x.o, h.hi.o, h.hi.gd, h.hi.gf, h.hi.gl, Hi_keys h.hi h.d8, Hi_hasKey h.hi h.d8, Rw_empty, Rw_add, List.nil_append, List.cons_append, upd_upd, cwo_1, cwo_3, cwo_5, cwo_7, cwo_17, Bool.false_eq_true, n01, t2.o, T_val t2, hv, hv2, n1_n1]
theorem M_key_loop (h : nowM (A 1) d f l V) {v : Nat} (h1 : f ≤ v) (h2 : v ≤ l) (hW : plW d (V v)) {j0 k : Nat} {x2 : Value} (hj : j0 < 2 ^ d) (hp : nI 0 < V v j0) (hk : cnt (po (V v)) 0 j0 = k) : ∀ (n j : Nat), j + n = j0 → den 190 35 [.ref m, .int (nI v), x2, .int (nI j), .int (nI (k - cnt (po (V v)) 0 j))] [] (mw σ m A R I) = some (some (.int (nI j0)), mw σ m A (rl R [(V v j0).toInt64]) (upd I 5 (nI 1))) := by
  have hK := h.K
  have hk2 := cnt_le (po (V v)) 0 j0
  intro n
  induction n with
  | zero =>
    intro j hn
    have : j = j0 := by omega
    subst this
    have hp2 : ¬ V v j = nI 0 := by rw [← hW.ge hj]; exact hp
    rw [hk, Nat.sub_self]
    rw [e190_35]
    simp (disch := first | omega | exact tl_l | (simp only [List.length_cons, List.length_nil])) only [e190_0, e190_1, e190_2, e190_5, e190_6, e190_7, e190_10, e190_13, e190_14, e190_15, e190_16, e190_17, e190_20, e190_21, e190_22, e190_25, e190_28, e190_29, e190_30, e190_31, e190_32, e190_33, e190_36, e190_37, e190_38, e190_41, e190_44, e190_46, e190_49, e190_51, e190_52, e190_53, e190_54, e190_57, e190_60, e190_61, e190_64, e190_65, e190_66, e190_68, e190_71, e190_74, e190_75, e190_76, e190_79, e190_80, e190_81, e190_82, e190_83, e190_86, e190_87, e190_90, e190_91, kv_s, kh_s, kr_s, kr_v, kn_s, z0, z1, z2, nI_ltI, nI_leI, nI_eq, nI_add, oN, bz0, bz1, bw0, bw1, ltT, ltF, leT, leF, eqT, eqF, if_true, if_false, kI_n, wI_n, and_true, true_and, and_false, false_and, not_true, not_false_eq_true, mwo, mwr_0, mwr_1, mwr_2, mwg_3, mwp_3, mwr_4, mwg_5, mwp_5, mwg_6, mwp_6, mwr_7, mwr_8, mwg_9, mwp_9, mwg_10, mwp_10, mwg_11, mwp_11, mwr_12, mwg_13, mwp_13, mwr_14, mwr_15, mwr_16, mwr_17, mwr_18, mwr_19, mwg_20, mwp_20, mwr_21, mwr_22, mwr_23, mwa_1, mwu_1, mwa_2, mwu_2, mwa_3, mwu_3, mwa_4, mwu_4, mwa_5, mwu_5, mwa_6, mwu_6, mwa_7, mwu_7, mwa_8, mwu_8, mwa_9, mwu_9, mwa_10, mwu_10, mwa_11, mwu_11, mwa_12, mwu_12, mwa_13, mwu_13, mwa_14, mwu_14, mwa_15, mwu_15, mwa_16, mwu_16, vu_at, vu_ne, pk_us, pk_un, kB_n, wB_n, kL_n, wL_n, M_value h h1 h2, hp2, M_tell0]
  | succ n ih =>
    intro j hn
    rw [← ih (j + 1) (by omega), cnt_po, Nat.zero_add]
    have hc := cnt_le (po (V v)) 0 j
    by_cases hv : V v j = nI 0
    · have hv2 : ¬ nI 0 < V v j := by rw [hW.ge (by omega)]; exact fun z => z hv
      have hv3 : V v j ≤ nI 0 := Int32.not_lt.mp hv2
      rw [e190_35]
      simp (disch := first | omega | exact tl_l | (simp only [List.length_cons, List.length_nil])) only [e190_0, e190_1, e190_2, e190_5, e190_6, e190_7, e190_10, e190_13, e190_14, e190_15, e190_16, e190_17, e190_20, e190_21, e190_22, e190_25, e190_28, e190_29, e190_30, e190_31, e190_32, e190_33, e190_36, e190_37, e190_38, e190_41, e190_44, e190_46, e190_49, e190_51, e190_52, e190_53, e190_54, e190_57, e190_60, e190_61, e190_64, e190_65, e190_66, e190_68, e190_71, e190_74, e190_75, e190_76, e190_79, e190_80, e190_81, e190_82, e190_83, e190_86, e190_87, e190_90, e190_91, kv_s, kh_s, kr_s, kr_v, kn_s, z0, z1, z2, nI_ltI, nI_leI, nI_eq, nI_add, oN, bz0, bz1, bw0, bw1, ltT, ltF, leT, leF, eqT, eqF, if_true, if_false, kI_n, wI_n, and_true, true_and, and_false, false_and, not_true, not_false_eq_true, mwo, mwr_0, mwr_1, mwr_2, mwg_3, mwp_3, mwr_4, mwg_5, mwp_5, mwg_6, mwp_6, mwr_7, mwr_8, mwg_9, mwp_9, mwg_10, mwp_10, mwg_11, mwp_11, mwr_12, mwg_13, mwp_13, mwr_14, mwr_15, mwr_16, mwr_17, mwr_18, mwr_19, mwg_20, mwp_20, mwr_21, mwr_22, mwr_23, mwa_1, mwu_1, mwa_2, mwu_2, mwa_3, mwu_3, mwa_4, mwu_4, mwa_5, mwu_5, mwa_6, mwu_6, mwa_7, mwu_7, mwa_8, mwu_8, mwa_9, mwu_9, mwa_10, mwu_10, mwa_11, mwu_11, mwa_12, mwu_12, mwa_13, mwu_13, mwa_14, mwu_14, mwa_15, mwu_15, mwa_16, mwu_16, vu_at, vu_ne, pk_us, pk_un, kB_n, wB_n, kL_n, wL_n, M_value h h1 h2, hv, hv2, hv3, Nat.add_zero, pk_sub, Nat.zero_le, Nat.sub_zero]
    · have hv2 : nI 0 < V v j := by rw [hW.ge (by omega)]; exact hv
      have hv3 : ¬ V v j ≤ nI 0 := Int32.not_le.mpr hv2
      have hlt := cnt_lt (P := po (V v)) (i := j) (N := j0) (decide_eq_true hv2) (by omega)
      have e : nI (k - cnt (po (V v)) 0 j) - nI 1 = nI (k - (cnt (po (V v)) 0 j + 1)) := by rw [pk_sub (by omega), Nat.sub_sub]
      rw [e190_35]
      simp (disch := first | omega | exact tl_l | (simp only [List.length_cons, List.length_nil])) only [e190_0, e190_1, e190_2, e190_5, e190_6, e190_7, e190_10, e190_13, e190_14, e190_15, e190_16, e190_17, e190_20, e190_21, e190_22, e190_25, e190_28, e190_29, e190_30, e190_31, e190_32, e190_33, e190_36, e190_37, e190_38, e190_41, e190_44, e190_46, e190_49, e190_51, e190_52, e190_53, e190_54, e190_57, e190_60, e190_61, e190_64, e190_65, e190_66, e190_68, e190_71, e190_74, e190_75, e190_76, e190_79, e190_80, e190_81, e190_82, e190_83, e190_86, e190_87, e190_90, e190_91, kv_s, kh_s, kr_s, kr_v, kn_s, z0, z1, z2, nI_ltI, nI_leI, nI_eq, nI_add, oN, bz0, bz1, bw0, bw1, ltT, ltF, leT, leF, eqT, eqF, if_true, if_false, kI_n, wI_n, and_true, true_and, and_false, false_and, not_true, not_false_eq_true, mwo, mwr_0, mwr_1, mwr_2, mwg_3, mwp_3, mwr_4, mwg_5, mwp_5, mwg_6, mwp_6, mwr_7, mwr_8, mwg_9, mwp_9, mwg_10, mwp_10, mwg_11, mwp_11, mwr_12, mwg_13, mwp_13, mwr_14, mwr_15, mwr_16, mwr_17, mwr_18, mwr_19, mwg_20, mwp_20, mwr_21, mwr_22, mwr_23, mwa_1, mwu_1, mwa_2, mwu_2, mwa_3, mwu_3, mwa_4, mwu_4, mwa_5, mwu_5, mwa_6, mwu_6, mwa_7, mwu_7, mwa_8, mwu_8, mwa_9, mwu_9, mwa_10, mwu_10, mwa_11, mwu_11, mwa_12, mwu_12, mwa_13, mwu_13, mwa_14, mwu_14, mwa_15, mwu_15, mwa_16, mwu_16, vu_at, vu_ne, pk_us, pk_un, kB_n, wB_n, kL_n, wL_n, M_value h h1 h2, hv, hv2, hv3, e]
theorem C_key0 (h : RB c σ T d f l V) {x y : Int32} (hx : out f l x ∨ ∃ v, f ≤ v ∧ v ≤ l ∧ x = nI v ∧ (y < nI 0 ∨ nI (un d (V v) 1) ≤ y)) : dcall 67 [.ref c, .int x, .int y] (cw σ c A R I) = some (some (.int (-nI 1)), cw σ c A R I) := by
  have hl := h.fl
  rcases C_find h x with ⟨_, e1⟩ | ⟨v, t, a1, a2, rfl, _, t2, e1⟩
  · rw [q67]
    simp (disch := first | omega | exact tl_l | (simp only [List.length_cons, List.length_nil])) only [e67_0, e67_1, e67_4, e67_5, e67_8, e67_8n, e67_9, e67_9n, e67_10, e67_10n, e67_13, e67_14, e67_17, e67_18, e67_18n, e67_19, e67_22, e67_25, e67_28, e67_29, e67_30, e67_31, e67_33, e67_34, e67_36, e67_37, e67_41, e67_42, e67_45, e67_48, e67_51, e67_53, e67_54, e67_57, e67_57n, e67_58, e67_60, e67_63, e67_66, e67_68, e67_69, e67_72, e67_74, e67_76, e67_79, e67_82, e67_85, e67_86, e67_89, e67_92, e67_93, e67_96, e67_96n, e67_97, e67_99, e67_102, e67_103, e67_106, e67_108, kv_s, kh_s, kr_s, kr_v, kn_s, z0, z1, z2, nI_ltI, nI_leI, nI_eq, nI_add, oN, bz0, bz1, bw0, bw1, ltT, ltF, leT, leF, eqT, eqF, if_true, if_false, kI_n, wI_n, and_true, true_and, and_false, false_and, not_true, not_false_eq_true, cwo_1, cwr_1, cwg_0, cwg_1, cwg_2, cwa_0, cwl_0, cwo_3, cwr_3, cwg_3, cwa_R, cwl_R, cwo_5, cwr_5, cwg_4, cwg_5, cwg_6, cwg_7, cwg_8, cwa_1, cwl_1, cwo_7, cwr_7, cwg_9, cwg_10, cwg_11, cwg_12, cwg_13, cwa_2, cwl_2, cwo_17, cwr_17, cwg_14, cwa_3, cwl_3, cwp_0, cwp_1, cwp_2, cwp_3, cwp_4, cwp_5, cwp_6, cwp_7, cwp_8, cwp_9, cwp_10, cwp_11, cwp_12, cwp_13, cwp_14, cwu_0, cwu_R, cwu_1, cwu_2, cwu_3, vu_at, vu_ne, pk_us, pk_un, h.x.f0, h.x.f1, h.x.f2, h.x.f3, h.x.f4, h.x.f5, h.x.f6, h.x.f7, h.x.o, h.hi.o, h.hi.gd, h.hi.gf, h.hi.gl, Hi_keys h.hi h.d8, Hi_hasKey h.hi h.d8, Rw_empty, Rw_add, List.nil_append, List.cons_append, upd_upd, cwo_1, cwo_3, cwo_5, cwo_7, cwo_17, Bool.false_eq_true, n01, e1]
  · obtain ⟨v', b1, b2, b3, hs⟩ := hx.resolve_left (not_out a1 a2 (by omega))
    have : v = v' := (nI_eq (by omega) (by omega)).mp b3
    subst this
    by_cases h0 : y < nI 0
    · rw [q67]
      simp (disch := first | omega | exact tl_l | (simp only [List.length_cons, List.length_nil])) only [e67_0, e67_1, e67_4, e67_5, e67_8, e67_8n, e67_9, e67_9n, e67_10, e67_10n, e67_13, e67_14, e67_17, e67_18, e67_18n, e67_19, e67_22, e67_25, e67_28, e67_29, e67_30, e67_31, e67_33, e67_34, e67_36, e67_37, e67_41, e67_42, e67_45, e67_48, e67_51, e67_53, e67_54, e67_57, e67_57n, e67_58, e67_60, e67_63, e67_66, e67_68, e67_69, e67_72, e67_74, e67_76, e67_79, e67_82, e67_85, e67_86, e67_89, e67_92, e67_93, e67_96, e67_96n, e67_97, e67_99, e67_102, e67_103, e67_106, e67_108, kv_s, kh_s, kr_s, kr_v, kn_s, z0, z1, z2, nI_ltI, nI_leI, nI_eq, nI_add, oN, bz0, bz1, bw0, bw1, ltT, ltF, leT, leF, eqT, eqF, if_true, if_false, kI_n, wI_n, and_true, true_and, and_false, false_and, not_true, not_false_eq_true, cwo_1, cwr_1, cwg_0, cwg_1, cwg_2, cwa_0, cwl_0, cwo_3, cwr_3, cwg_3, cwa_R, cwl_R, cwo_5, cwr_5, cwg_4, cwg_5, cwg_6, cwg_7, cwg_8, cwa_1, cwl_1, cwo_7, cwr_7, cwg_9, cwg_10, cwg_11, cwg_12, cwg_13, cwa_2, cwl_2, cwo_17, cwr_17, cwg_14, cwa_3, cwl_3, cwp_0, cwp_1, cwp_2, cwp_3, cwp_4, cwp_5, cwp_6, cwp_7, cwp_8, cwp_9, cwp_10, cwp_11, cwp_12, cwp_13, cwp_14, cwu_0, cwu_R, cwu_1, cwu_2, cwu_3, vu_at, vu_ne, pk_us, pk_un, h.x.f0, h.x.f1, h.x.f2, h.x.f3, h.x.f4, h.x.f5, h.x.f6, h.x.f7, h.x.o, h.hi.o, h.hi.gd, h.hi.gf, h.hi.gl, Hi_keys h.hi h.d8, Hi_hasKey h.hi h.d8, Rw_empty, Rw_add, List.nil_append, List.cons_append, upd_upd, cwo_1, cwo_3, cwo_5, cwo_7, cwo_17, Bool.false_eq_true, n01, e1, h0]
    · have h3 := Int32.not_lt.mpr (hs.resolve_left h0)
      rw [q67]
      simp (disch := first | omega | exact tl_l | (simp only [List.length_cons, List.length_nil])) only [e67_0, e67_1, e67_4, e67_5, e67_8, e67_8n, e67_9, e67_9n, e67_10, e67_10n, e67_13, e67_14, e67_17, e67_18, e67_18n, e67_19, e67_22, e67_25, e67_28, e67_29, e67_30, e67_31, e67_33, e67_34, e67_36, e67_37, e67_41, e67_42, e67_45, e67_48, e67_51, e67_53, e67_54, e67_57, e67_57n, e67_58, e67_60, e67_63, e67_66, e67_68, e67_69, e67_72, e67_74, e67_76, e67_79, e67_82, e67_85, e67_86, e67_89, e67_92, e67_93, e67_96, e67_96n, e67_97, e67_99, e67_102, e67_103, e67_106, e67_108, kv_s, kh_s, kr_s, kr_v, kn_s, z0, z1, z2, nI_ltI, nI_leI, nI_eq, nI_add, oN, bz0, bz1, bw0, bw1, ltT, ltF, leT, leF, eqT, eqF, if_true, if_false, kI_n, wI_n, and_true, true_and, and_false, false_and, not_true, not_false_eq_true, cwo_1, cwr_1, cwg_0, cwg_1, cwg_2, cwa_0, cwl_0, cwo_3, cwr_3, cwg_3, cwa_R, cwl_R, cwo_5, cwr_5, cwg_4, cwg_5, cwg_6, cwg_7, cwg_8, cwa_1, cwl_1, cwo_7, cwr_7, cwg_9, cwg_10, cwg_11, cwg_12, cwg_13, cwa_2, cwl_2, cwo_17, cwr_17, cwg_14, cwa_3, cwl_3, cwp_0, cwp_1, cwp_2, cwp_3, cwp_4, cwp_5, cwp_6, cwp_7, cwp_8, cwp_9, cwp_10, cwp_11, cwp_12, cwp_13, cwp_14, cwu_0, cwu_R, cwu_1, cwu_2, cwu_3, vu_at, vu_ne, pk_us, pk_un, h.x.f0, h.x.f1, h.x.f2, h.x.f3, h.x.f4, h.x.f5, h.x.f6, h.x.f7, h.x.o, h.hi.o, h.hi.gd, h.hi.gf, h.hi.gl, Hi_keys h.hi h.d8, Hi_hasKey h.hi h.d8, Rw_empty, Rw_add, List.nil_append, List.cons_append, upd_upd, cwo_1, cwo_3, cwo_5, cwo_7, cwo_17, Bool.false_eq_true, n01, e1, h0, t2.f, t2.fo, T_size t2, h3]
theorem Ms_key (h : nowM (A 1) d f l V) {x y : Int32} (hx : out f l x ∨ ∃ v, f ≤ v ∧ v ≤ l ∧ x = nI v ∧ (y < nI 0 ∨ nI (un d (V v) 1) - nI 1 < y)) : Ms 190 [.ref m, .int x, .int y] σ m A R I (.int (-nI 1)) := by
  have hK := h.K
  rcases ver_in (x := x) (show l < 2 ^ 31 by omega) hK.2.2.2.1 with ⟨v, h1, h2, rfl⟩ | h0
  · obtain ⟨v', b1, b2, b3, hs⟩ := hx.resolve_left (not_out h1 h2 (by omega))
    have : v = v' := (nI_eq (by omega) (by omega)).mp b3
    subst this
    refine ⟨A, upd I 6 (nI 0), ?_, stay.rf, pk_un (by omega), pk_un (by omega)⟩
    rw [q190]
    simp (disch := first | omega | exact tl_l | (simp only [List.length_cons, List.length_nil])) only [e190_0, e190_1, e190_2, e190_5, e190_6, e190_7, e190_10, e190_13, e190_14, e190_15, e190_16, e190_17, e190_20, e190_21, e190_22, e190_25, e190_28, e190_29, e190_30, e190_31, e190_32, e190_33, e190_36, e190_37, e190_38, e190_41, e190_44, e190_46, e190_49, e190_51, e190_52, e190_53, e190_54, e190_57, e190_60, e190_61, e190_64, e190_65, e190_66, e190_68, e190_71, e190_74, e190_75, e190_76, e190_79, e190_80, e190_81, e190_82, e190_83, e190_86, e190_87, e190_90, e190_91, kv_s, kh_s, kr_s, kr_v, kn_s, z0, z1, z2, nI_ltI, nI_leI, nI_eq, nI_add, oN, bz0, bz1, bw0, bw1, ltT, ltF, leT, leF, eqT, eqF, if_true, if_false, kI_n, wI_n, and_true, true_and, and_false, false_and, not_true, not_false_eq_true, mwo, mwr_0, mwr_1, mwr_2, mwg_3, mwp_3, mwr_4, mwg_5, mwp_5, mwg_6, mwp_6, mwr_7, mwr_8, mwg_9, mwp_9, mwg_10, mwp_10, mwg_11, mwp_11, mwr_12, mwg_13, mwp_13, mwr_14, mwr_15, mwr_16, mwr_17, mwr_18, mwr_19, mwg_20, mwp_20, mwr_21, mwr_22, mwr_23, mwa_1, mwu_1, mwa_2, mwu_2, mwa_3, mwu_3, mwa_4, mwu_4, mwa_5, mwu_5, mwa_6, mwu_6, mwa_7, mwu_7, mwa_8, mwu_8, mwa_9, mwu_9, mwa_10, mwu_10, mwa_11, mwu_11, mwa_12, mwu_12, mwa_13, mwu_13, mwa_14, mwu_14, mwa_15, mwu_15, mwa_16, mwu_16, vu_at, vu_ne, pk_us, pk_un, kB_n, wB_n, kL_n, wL_n, M_ver h h1 h2, M_valued h h1 h2, M_in0 hs, n01]
  · refine ⟨A, upd I 6 (nI 0), ?_, stay.rf, pk_un (by omega), pk_un (by omega)⟩
    rw [q190]
    simp (disch := first | omega | exact tl_l | (simp only [List.length_cons, List.length_nil])) only [e190_0, e190_1, e190_2, e190_5, e190_6, e190_7, e190_10, e190_13, e190_14, e190_15, e190_16, e190_17, e190_20, e190_21, e190_22, e190_25, e190_28, e190_29, e190_30, e190_31, e190_32, e190_33, e190_36, e190_37, e190_38, e190_41, e190_44, e190_46, e190_49, e190_51, e190_52, e190_53, e190_54, e190_57, e190_60, e190_61, e190_64, e190_65, e190_66, e190_68, e190_71, e190_74, e190_75, e190_76, e190_79, e190_80, e190_81, e190_82, e190_83, e190_86, e190_87, e190_90, e190_91, kv_s, kh_s, kr_s, kr_v, kn_s, z0, z1, z2, nI_ltI, nI_leI, nI_eq, nI_add, oN, bz0, bz1, bw0, bw1, ltT, ltF, leT, leF, eqT, eqF, if_true, if_false, kI_n, wI_n, and_true, true_and, and_false, false_and, not_true, not_false_eq_true, mwo, mwr_0, mwr_1, mwr_2, mwg_3, mwp_3, mwr_4, mwg_5, mwp_5, mwg_6, mwp_6, mwr_7, mwr_8, mwg_9, mwp_9, mwg_10, mwp_10, mwg_11, mwp_11, mwr_12, mwg_13, mwp_13, mwr_14, mwr_15, mwr_16, mwr_17, mwr_18, mwr_19, mwg_20, mwp_20, mwr_21, mwr_22, mwr_23, mwa_1, mwu_1, mwa_2, mwu_2, mwa_3, mwu_3, mwa_4, mwu_4, mwa_5, mwu_5, mwa_6, mwu_6, mwa_7, mwu_7, mwa_8, mwu_8, mwa_9, mwu_9, mwa_10, mwu_10, mwa_11, mwu_11, mwa_12, mwu_12, mwa_13, mwu_13, mwa_14, mwu_14, mwa_15, mwu_15, mwa_16, mwu_16, vu_at, vu_ne, pk_us, pk_un, kB_n, wB_n, kL_n, wL_n, M_ver0 h h0]
theorem J_key (x y : Int32) : Jn 67 190 [.int x, .int y] := by
  rintro c i σ hi ⟨z, n, B, L, q, K, A, R, I, A2, R2, I2, h⟩
  obtain ⟨T, hb⟩ := h.rb
  rcases C_find hb x with ⟨ho, _⟩ | ⟨v, t, a1, a2, rfl, t1, t2, e1⟩
  · exact Inv_same h hi (C_key0 hb (Or.inl ho)) (Ms_key h.nm (Or.inl ho))
  · have hu := (h.ok v a1 a2).2.1
    by_cases hy : y < nI 0 ∨ nI (un z.1 (z.2.2.2 v) 1) ≤ y
    · refine Inv_same h hi (C_key0 hb (Or.inr ⟨v, a1, a2, rfl, hy⟩)) (Ms_key h.nm (Or.inr ⟨v, a1, a2, rfl, ?_⟩))
      by_cases h0 : y < nI 0
      · exact Or.inl h0
      · obtain ⟨j, hj, rfl⟩ := nI_of (x := y) h0
        have h3 := (nI_leI (by omega) hj).mp (hy.resolve_left h0)
        right
        by_cases hz : un z.1 (z.2.2.2 v) 1 = 0
        · rw [hz]
          exact Int32.lt_of_lt_of_le (show nI 0 - nI 1 < nI 0 by decide) (nI_le (Nat.zero_le _) hj)
        · rw [pk_sub (by omega)]
          exact nI_lt (by omega) hj
    · have h0 : ¬ y < nI 0 := fun z => hy (Or.inl z)
      obtain ⟨k, hk, rfl⟩ := nI_of (x := y) h0
      have h3 : k < un z.1 (z.2.2.2 v) 1 := by
        have h4 := Int32.not_le.mp fun z => hy (Or.inr z)
        exact (nI_ltI hk (by omega)).mp h4
      have h3' : k < cnt (po (z.2.2.2 v)) 0 (2 ^ z.1) := by rw [un_all] at h3; exact h3
      obtain ⟨j0, j1, j2, j3⟩ := kth h3'
      have j4 : nI 0 < z.2.2.2 v j0 := of_decide_eq_true j2
      have hK := hb.K
      refine Inv_tell h hi (L' := [(z.2.2.2 v j0).toInt64]) (k := 1) (b := .int (nI j0)) ?_ ?_ rfl (by omega)
      · rw [← C_key_loop (A := A) (R := R) (I := I) hb t2 j1 j4 j3 (l1 := .int (nI v)) j0 0 (by omega)]
        have h := hb
        rw [q67]
        simp (disch := first | omega | exact tl_l | (simp only [List.length_cons, List.length_nil])) only [e67_0, e67_1, e67_4, e67_5, e67_8, e67_8n, e67_9, e67_9n, e67_10, e67_10n, e67_13, e67_14, e67_17, e67_18, e67_18n, e67_19, e67_22, e67_25, e67_28, e67_29, e67_30, e67_31, e67_33, e67_34, e67_36, e67_37, e67_41, e67_42, e67_45, e67_48, e67_51, e67_53, e67_54, e67_57, e67_57n, e67_58, e67_60, e67_63, e67_66, e67_68, e67_69, e67_72, e67_74, e67_76, e67_79, e67_82, e67_85, e67_86, e67_89, e67_92, e67_93, e67_96, e67_96n, e67_97, e67_99, e67_102, e67_103, e67_106, e67_108, kv_s, kh_s, kr_s, kr_v, kn_s, z0, z1, z2, nI_ltI, nI_leI, nI_eq, nI_add, oN, bz0, bz1, bw0, bw1, ltT, ltF, leT, leF, eqT, eqF, if_true, if_false, kI_n, wI_n, and_true, true_and, and_false, false_and, not_true, not_false_eq_true, cwo_1, cwr_1, cwg_0, cwg_1, cwg_2, cwa_0, cwl_0, cwo_3, cwr_3, cwg_3, cwa_R, cwl_R, cwo_5, cwr_5, cwg_4, cwg_5, cwg_6, cwg_7, cwg_8, cwa_1, cwl_1, cwo_7, cwr_7, cwg_9, cwg_10, cwg_11, cwg_12, cwg_13, cwa_2, cwl_2, cwo_17, cwr_17, cwg_14, cwa_3, cwl_3, cwp_0, cwp_1, cwp_2, cwp_3, cwp_4, cwp_5, cwp_6, cwp_7, cwp_8, cwp_9, cwp_10, cwp_11, cwp_12, cwp_13, cwp_14, cwu_0, cwu_R, cwu_1, cwu_2, cwu_3, vu_at, vu_ne, pk_us, pk_un, h.x.f0, h.x.f1, h.x.f2, h.x.f3, h.x.f4, h.x.f5, h.x.f6, h.x.f7, h.x.o, h.hi.o, h.hi.gd, h.hi.gf, h.hi.gl, Hi_keys h.hi h.d8, Hi_hasKey h.hi h.d8, Rw_empty, Rw_add, List.nil_append, List.cons_append, upd_upd, cwo_1, cwo_3, cwo_5, cwo_7, cwo_17, Bool.false_eq_true, n01, e1, t2.f, t2.fo, T_size t2, cnt]
      · intro τ
        refine ⟨A2, upd (upd I2 6 (nI 0)) 5 (nI 1), ?_, stay.rf, by rw [pk_un (by omega), pk_un (by omega)], pk_us⟩
        rw [← M_key_loop (A := A2) (R := R2) (I := upd I2 6 (nI 0)) h.nm a1 a2 (h.ok v a1 a2).1 (x2 := .int (nI k)) j1 j4 j3 j0 0 (by omega)]
        rw [q190]
        simp (disch := first | omega | exact tl_l | (simp only [List.length_cons, List.length_nil])) only [e190_0, e190_1, e190_2, e190_5, e190_6, e190_7, e190_10, e190_13, e190_14, e190_15, e190_16, e190_17, e190_20, e190_21, e190_22, e190_25, e190_28, e190_29, e190_30, e190_31, e190_32, e190_33, e190_36, e190_37, e190_38, e190_41, e190_44, e190_46, e190_49, e190_51, e190_52, e190_53, e190_54, e190_57, e190_60, e190_61, e190_64, e190_65, e190_66, e190_68, e190_71, e190_74, e190_75, e190_76, e190_79, e190_80, e190_81, e190_82, e190_83, e190_86, e190_87, e190_90, e190_91, kv_s, kh_s, kr_s, kr_v, kn_s, z0, z1, z2, nI_ltI, nI_leI, nI_eq, nI_add, oN, bz0, bz1, bw0, bw1, ltT, ltF, leT, leF, eqT, eqF, if_true, if_false, kI_n, wI_n, and_true, true_and, and_false, false_and, not_true, not_false_eq_true, mwo, mwr_0, mwr_1, mwr_2, mwg_3, mwp_3, mwr_4, mwg_5, mwp_5, mwg_6, mwp_6, mwr_7, mwr_8, mwg_9, mwp_9, mwg_10, mwp_10, mwg_11, mwp_11, mwr_12, mwg_13, mwp_13, mwr_14, mwr_15, mwr_16, mwr_17, mwr_18, mwr_19, mwg_20, mwp_20, mwr_21, mwr_22, mwr_23, mwa_1, mwu_1, mwa_2, mwu_2, mwa_3, mwu_3, mwa_4, mwu_4, mwa_5, mwu_5, mwa_6, mwu_6, mwa_7, mwu_7, mwa_8, mwu_8, mwa_9, mwu_9, mwa_10, mwu_10, mwa_11, mwu_11, mwa_12, mwu_12, mwa_13, mwu_13, mwa_14, mwu_14, mwa_15, mwu_15, mwa_16, mwu_16, vu_at, vu_ne, pk_us, pk_un, kB_n, wB_n, kL_n, wL_n, M_ver h.nm a1 a2, M_valued h.nm a1 a2, pk_sub, M_in1, n01, cnt, Nat.sub_zero]
/-- values together -/
def pS (W : Nat → Int32) : Nat → Nat
  | 0 => 0
  | n + 1 => pS W n + (W n).toNatClampNeg
theorem plW.n {W : Nat → Int32} (h : plW d W) {k : Nat} (hk : k < 2 ^ d) : W k = nI (W k).toNatClampNeg ∧ (W k).toNatClampNeg ≤ 999 := by
  obtain ⟨n, h1, h2⟩ := h k hk
  rw [h2, nI_clamp (by omega)]
  exact ⟨rfl, h1⟩
theorem pS_s {W : Nat → Int32} (h : plW d W) {k : Nat} (hk : k < 2 ^ d) : nI (pS W k) + W k = nI (pS W (k + 1)) := by
  rw [pS, ← nI_add, ← (h.n hk).1]
theorem pS_bd {W : Nat → Int32} (h : plW d W) : ∀ n, n ≤ 2 ^ d → tsum W n = nI (pS W n) ∧ pS W n ≤ 999 * n := by
  intro n
  induction n with
  | zero => intro _; exact ⟨rfl, Nat.zero_le _⟩
  | succ n ih =>
    intro hn
    obtain ⟨g1, g2⟩ := ih (by omega)
    obtain ⟨g3, g4⟩ := h.n (show n < 2 ^ d by omega)
    refine ⟨?_, by rw [pS]; omega⟩
    rw [tsum, g1, pS_s h (by omega)]
theorem pS_mono {W : Nat → Int32} {a b : Nat} (h : a ≤ b) : pS W a ≤ pS W b := by
  induction b with
  | zero => rw [Nat.le_zero.mp h]; exact Nat.le_refl _
  | succ b ih =>
    by_cases hab : a = b + 1
    · rw [hab]; exact Nat.le_refl _
    · rw [pS]; have := ih (by omega); omega
theorem C_middle_loop (h : RB c σ T d f l V) {W : Nat → Int32} (hW : plW d W) {t : Nat} (t2 : ∀ {A R I}, isT (cw σ c A R I) t d W) {j0 : Nat} (hj : j0 < 2 ^ d) (hlo : ∀ j, j ≤ j0 → 2 * pS W j < pS W (2 ^ d)) (hhi : pS W (2 ^ d) ≤ 2 * pS W (j0 + 1)) {l1 : Value} : ∀ (n j : Nat) {l5 : Value}, j + n = j0 → den 62 36 [.ref c, l1, .ref t, .int (nI (pS W (2 ^ d))), .int (nI (pS W j)), l5, .int (nI j)] [] (cw σ c A R I) = some (some (.int (nI j0)), cw σ c A (rl R [lN (pS W (j0 + 1))]) (upd I 3 (nI 1))) := by
  have hK := h.K
  have b1 := (pS_bd hW (2 ^ d) (Nat.le_refl _)).2
  have b2 := pS_mono (W := W) (show j0 + 1 ≤ 2 ^ d by omega)
  intro n
  induction n with
  | zero =>
    intro j l5 hn
    have : j = j0 := by omega
    subst this
    have h1 := hlo j (Nat.le_refl _)
    have h2 := hW.n hj
    have e : nI (pS W j) + W j = nI (pS W (j + 1)) := pS_s hW (by omega)
    rw [e62_36]
    simp (disch := first | omega | exact tl_l | (simp only [List.length_cons, List.length_nil])) only [e62_0, e62_1, e62_4, e62_5, e62_8, e62_8n, e62_9, e62_9n, e62_10, e62_10n, e62_13, e62_14, e62_15, e62_15n, e62_16, e62_19, e62_20, e62_21, e62_24, e62_26, e62_27, e62_28, e62_30, e62_31, e62_33, e62_34, e62_38, e62_39, e62_42, e62_45, e62_48, e62_49, e62_51, e62_52, e62_53, e62_56, e62_58, e62_58n, e62_59, e62_61, e62_64, e62_65, e62_67, e62_69, e62_71, e62_74, e62_77, e62_78, e62_81, e62_84, e62_85, e62_88, e62_90, e62_91, e62_94, e62_96, kv_s, kh_s, kr_s, kr_v, kn_s, z0, z1, z2, nI_ltI, nI_leI, nI_eq, nI_add, oN, bz0, bz1, bw0, bw1, ltT, ltF, leT, leF, eqT, eqF, if_true, if_false, kI_n, wI_n, and_true, true_and, and_false, false_and, not_true, not_false_eq_true, cwo_1, cwr_1, cwg_0, cwg_1, cwg_2, cwa_0, cwl_0, cwo_3, cwr_3, cwg_3, cwa_R, cwl_R, cwo_5, cwr_5, cwg_4, cwg_5, cwg_6, cwg_7, cwg_8, cwa_1, cwl_1, cwo_7, cwr_7, cwg_9, cwg_10, cwg_11, cwg_12, cwg_13, cwa_2, cwl_2, cwo_17, cwr_17, cwg_14, cwa_3, cwl_3, cwp_0, cwp_1, cwp_2, cwp_3, cwp_4, cwp_5, cwp_6, cwp_7, cwp_8, cwp_9, cwp_10, cwp_11, cwp_12, cwp_13, cwp_14, cwu_0, cwu_R, cwu_1, cwu_2, cwu_3, vu_at, vu_ne, pk_us, pk_un, h.x.f0, h.x.f1, h.x.f2, h.x.f3, h.x.f4, h.x.f5, h.x.f6, h.x.f7, h.x.o, h.hi.o, h.hi.gd, h.hi.gf, h.hi.gl, Hi_keys h.hi h.d8, Hi_hasKey h.hi h.d8, Rw_empty, Rw_add, List.nil_append, List.cons_append, upd_upd, cwo_1, cwo_3, cwo_5, cwo_7, cwo_17, Bool.false_eq_true, n01, t2.o, T_val t2, pk_mul, e]
    by_cases hn : j + 1 < 2 ^ d
    · rw [e62_36]
      simp (disch := first | omega | exact tl_l | (simp only [List.length_cons, List.length_nil])) only [e62_0, e62_1, e62_4, e62_5, e62_8, e62_8n, e62_9, e62_9n, e62_10, e62_10n, e62_13, e62_14, e62_15, e62_15n, e62_16, e62_19, e62_20, e62_21, e62_24, e62_26, e62_27, e62_28, e62_30, e62_31, e62_33, e62_34, e62_38, e62_39, e62_42, e62_45, e62_48, e62_49, e62_51, e62_52, e62_53, e62_56, e62_58, e62_58n, e62_59, e62_61, e62_64, e62_65, e62_67, e62_69, e62_71, e62_74, e62_77, e62_78, e62_81, e62_84, e62_85, e62_88, e62_90, e62_91, e62_94, e62_96, kv_s, kh_s, kr_s, kr_v, kn_s, z0, z1, z2, nI_ltI, nI_leI, nI_eq, nI_add, oN, bz0, bz1, bw0, bw1, ltT, ltF, leT, leF, eqT, eqF, if_true, if_false, kI_n, wI_n, and_true, true_and, and_false, false_and, not_true, not_false_eq_true, cwo_1, cwr_1, cwg_0, cwg_1, cwg_2, cwa_0, cwl_0, cwo_3, cwr_3, cwg_3, cwa_R, cwl_R, cwo_5, cwr_5, cwg_4, cwg_5, cwg_6, cwg_7, cwg_8, cwa_1, cwl_1, cwo_7, cwr_7, cwg_9, cwg_10, cwg_11, cwg_12, cwg_13, cwa_2, cwl_2, cwo_17, cwr_17, cwg_14, cwa_3, cwl_3, cwp_0, cwp_1, cwp_2, cwp_3, cwp_4, cwp_5, cwp_6, cwp_7, cwp_8, cwp_9, cwp_10, cwp_11, cwp_12, cwp_13, cwp_14, cwu_0, cwu_R, cwu_1, cwu_2, cwu_3, vu_at, vu_ne, pk_us, pk_un, h.x.f0, h.x.f1, h.x.f2, h.x.f3, h.x.f4, h.x.f5, h.x.f6, h.x.f7, h.x.o, h.hi.o, h.hi.gd, h.hi.gf, h.hi.gl, Hi_keys h.hi h.d8, Hi_hasKey h.hi h.d8, Rw_empty, Rw_add, List.nil_append, List.cons_append, upd_upd, cwo_1, cwo_3, cwo_5, cwo_7, cwo_17, Bool.false_eq_true, n01, hn, pk_mul, nI_l]
    · rw [e62_36]
      simp (disch := first | omega | exact tl_l | (simp only [List.length_cons, List.length_nil])) only [e62_0, e62_1, e62_4, e62_5, e62_8, e62_8n, e62_9, e62_9n, e62_10, e62_10n, e62_13, e62_14, e62_15, e62_15n, e62_16, e62_19, e62_20, e62_21, e62_24, e62_26, e62_27, e62_28, e62_30, e62_31, e62_33, e62_34, e62_38, e62_39, e62_42, e62_45, e62_48, e62_49, e62_51, e62_52, e62_53, e62_56, e62_58, e62_58n, e62_59, e62_61, e62_64, e62_65, e62_67, e62_69, e62_71, e62_74, e62_77, e62_78, e62_81, e62_84, e62_85, e62_88, e62_90, e62_91, e62_94, e62_96, kv_s, kh_s, kr_s, kr_v, kn_s, z0, z1, z2, nI_ltI, nI_leI, nI_eq, nI_add, oN, bz0, bz1, bw0, bw1, ltT, ltF, leT, leF, eqT, eqF, if_true, if_false, kI_n, wI_n, and_true, true_and, and_false, false_and, not_true, not_false_eq_true, cwo_1, cwr_1, cwg_0, cwg_1, cwg_2, cwa_0, cwl_0, cwo_3, cwr_3, cwg_3, cwa_R, cwl_R, cwo_5, cwr_5, cwg_4, cwg_5, cwg_6, cwg_7, cwg_8, cwa_1, cwl_1, cwo_7, cwr_7, cwg_9, cwg_10, cwg_11, cwg_12, cwg_13, cwa_2, cwl_2, cwo_17, cwr_17, cwg_14, cwa_3, cwl_3, cwp_0, cwp_1, cwp_2, cwp_3, cwp_4, cwp_5, cwp_6, cwp_7, cwp_8, cwp_9, cwp_10, cwp_11, cwp_12, cwp_13, cwp_14, cwu_0, cwu_R, cwu_1, cwu_2, cwu_3, vu_at, vu_ne, pk_us, pk_un, h.x.f0, h.x.f1, h.x.f2, h.x.f3, h.x.f4, h.x.f5, h.x.f6, h.x.f7, h.x.o, h.hi.o, h.hi.gd, h.hi.gf, h.hi.gl, Hi_keys h.hi h.d8, Hi_hasKey h.hi h.d8, Rw_empty, Rw_add, List.nil_append, List.cons_append, upd_upd, cwo_1, cwo_3, cwo_5, cwo_7, cwo_17, Bool.false_eq_true, n01, hn, nI_l]
  | succ n ih =>
    intro j l5 hn
    have h1 := hlo j (by omega)
    have h2 := hW.n (show j < 2 ^ d by omega)
    have e : nI (pS W j) + W j = nI (pS W (j + 1)) := pS_s hW (by omega)
    rw [← ih (j + 1) (l5 := .int (nI j)) (by omega)]
    rw [e62_36]
    simp (disch := first | omega | exact tl_l | (simp only [List.length_cons, List.length_nil])) only [e62_0, e62_1, e62_4, e62_5, e62_8, e62_8n, e62_9, e62_9n, e62_10, e62_10n, e62_13, e62_14, e62_15, e62_15n, e62_16, e62_19, e62_20, e62_21, e62_24, e62_26, e62_27, e62_28, e62_30, e62_31, e62_33, e62_34, e62_38, e62_39, e62_42, e62_45, e62_48, e62_49, e62_51, e62_52, e62_53, e62_56, e62_58, e62_58n, e62_59, e62_61, e62_64, e62_65, e62_67, e62_69, e62_71, e62_74, e62_77, e62_78, e62_81, e62_84, e62_85, e62_88, e62_90, e62_91, e62_94, e62_96, kv_s, kh_s, kr_s, kr_v, kn_s, z0, z1, z2, nI_ltI, nI_leI, nI_eq, nI_add, oN, bz0, bz1, bw0, bw1, ltT, ltF, leT, leF, eqT, eqF, if_true, if_false, kI_n, wI_n, and_true, true_and, and_false, false_and, not_true, not_false_eq_true, cwo_1, cwr_1, cwg_0, cwg_1, cwg_2, cwa_0, cwl_0, cwo_3, cwr_3, cwg_3, cwa_R, cwl_R, cwo_5, cwr_5, cwg_4, cwg_5, cwg_6, cwg_7, cwg_8, cwa_1, cwl_1, cwo_7, cwr_7, cwg_9, cwg_10, cwg_11, cwg_12, cwg_13, cwa_2, cwl_2, cwo_17, cwr_17, cwg_14, cwa_3, cwl_3, cwp_0, cwp_1, cwp_2, cwp_3, cwp_4, cwp_5, cwp_6, cwp_7, cwp_8, cwp_9, cwp_10, cwp_11, cwp_12, cwp_13, cwp_14, cwu_0, cwu_R, cwu_1, cwu_2, cwu_3, vu_at, vu_ne, pk_us, pk_un, h.x.f0, h.x.f1, h.x.f2, h.x.f3, h.x.f4, h.x.f5, h.x.f6, h.x.f7, h.x.o, h.hi.o, h.hi.gd, h.hi.gf, h.hi.gl, Hi_keys h.hi h.d8, Hi_hasKey h.hi h.d8, Rw_empty, Rw_add, List.nil_append, List.cons_append, upd_upd, cwo_1, cwo_3, cwo_5, cwo_7, cwo_17, Bool.false_eq_true, n01, t2.o, T_val t2, pk_mul, e]
theorem M_middle_loop (h : nowM (A 1) d f l V) {v : Nat} (h1 : f ≤ v) (h2 : v ≤ l) (hW : plW d (V v)) {j0 : Nat} (hj : j0 < 2 ^ d) (hlo : ∀ j, j ≤ j0 → 2 * pS (V v) j < pS (V v) (2 ^ d)) (hhi : pS (V v) (2 ^ d) ≤ 2 * pS (V v) (j0 + 1)) : ∀ (n j : Nat), j + n = j0 → den 186 59 [.ref m, .int (nI v), .int (nI (pS (V v) (2 ^ d))), .int (nI j), .int (nI (pS (V v) (j + 1)))] [] (mw σ m A R I) = some (some (.int (nI j0)), mw σ m A (rl R [lN (pS (V v) (j0 + 1))]) (upd I 5 (nI 1))) := by
  have hK := h.K
  have b1 := (pS_bd hW (2 ^ d) (Nat.le_refl _)).2
  have b2 := pS_mono (W := V v) (show j0 + 1 ≤ 2 ^ d by omega)
  intro n
  induction n with
  | zero =>
    intro j hn
    have : j = j0 := by omega
    subst this
    rw [e186_59]
    simp (disch := first | omega | exact tl_l | (simp only [List.length_cons, List.length_nil])) only [e186_0, e186_1, e186_2, e186_5, e186_6, e186_7, e186_10, e186_13, e186_14, e186_15, e186_16, e186_17, e186_18, e186_20, e186_21, e186_24, e186_27, e186_28, e186_29, e186_30, e186_31, e186_34, e186_35, e186_36, e186_39, e186_42, e186_43, e186_46, e186_48, e186_49, e186_50, e186_51, e186_52, e186_53, e186_54, e186_57, e186_60, e186_62, e186_63, e186_64, e186_67, e186_70, e186_72, e186_73, e186_74, e186_75, e186_78, e186_79, e186_81, e186_84, e186_85, e186_86, e186_89, e186_90, e186_92, e186_93, e186_96, e186_97, kv_s, kh_s, kr_s, kr_v, kn_s, z0, z1, z2, nI_ltI, nI_leI, nI_eq, nI_add, oN, bz0, bz1, bw0, bw1, ltT, ltF, leT, leF, eqT, eqF, if_true, if_false, kI_n, wI_n, and_true, true_and, and_false, false_and, not_true, not_false_eq_true, mwo, mwr_0, mwr_1, mwr_2, mwg_3, mwp_3, mwr_4, mwg_5, mwp_5, mwg_6, mwp_6, mwr_7, mwr_8, mwg_9, mwp_9, mwg_10, mwp_10, mwg_11, mwp_11, mwr_12, mwg_13, mwp_13, mwr_14, mwr_15, mwr_16, mwr_17, mwr_18, mwr_19, mwg_20, mwp_20, mwr_21, mwr_22, mwr_23, mwa_1, mwu_1, mwa_2, mwu_2, mwa_3, mwu_3, mwa_4, mwu_4, mwa_5, mwu_5, mwa_6, mwu_6, mwa_7, mwu_7, mwa_8, mwu_8, mwa_9, mwu_9, mwa_10, mwu_10, mwa_11, mwu_11, mwa_12, mwu_12, mwa_13, mwu_13, mwa_14, mwu_14, mwa_15, mwu_15, mwa_16, mwu_16, vu_at, vu_ne, pk_us, pk_un, kB_n, wB_n, kL_n, wL_n, pk_mul, M_tell0, nI_l]
  | succ n ih =>
    intro j hn
    have g1 := hlo (j + 1) (by omega)
    have g2 := hW.n (show j + 1 < 2 ^ d by omega)
    have e : nI (pS (V v) (j + 1)) + V v (j + 1) = nI (pS (V v) (j + 1 + 1)) := pS_s hW (by omega)
    rw [← ih (j + 1) (by omega)]
    rw [e186_59]
    simp (disch := first | omega | exact tl_l | (simp only [List.length_cons, List.length_nil])) only [e186_0, e186_1, e186_2, e186_5, e186_6, e186_7, e186_10, e186_13, e186_14, e186_15, e186_16, e186_17, e186_18, e186_20, e186_21, e186_24, e186_27, e186_28, e186_29, e186_30, e186_31, e186_34, e186_35, e186_36, e186_39, e186_42, e186_43, e186_46, e186_48, e186_49, e186_50, e186_51, e186_52, e186_53, e186_54, e186_57, e186_60, e186_62, e186_63, e186_64, e186_67, e186_70, e186_72, e186_73, e186_74, e186_75, e186_78, e186_79, e186_81, e186_84, e186_85, e186_86, e186_89, e186_90, e186_92, e186_93, e186_96, e186_97, kv_s, kh_s, kr_s, kr_v, kn_s, z0, z1, z2, nI_ltI, nI_leI, nI_eq, nI_add, oN, bz0, bz1, bw0, bw1, ltT, ltF, leT, leF, eqT, eqF, if_true, if_false, kI_n, wI_n, and_true, true_and, and_false, false_and, not_true, not_false_eq_true, mwo, mwr_0, mwr_1, mwr_2, mwg_3, mwp_3, mwr_4, mwg_5, mwp_5, mwg_6, mwp_6, mwr_7, mwr_8, mwg_9, mwp_9, mwg_10, mwp_10, mwg_11, mwp_11, mwr_12, mwg_13, mwp_13, mwr_14, mwr_15, mwr_16, mwr_17, mwr_18, mwr_19, mwg_20, mwp_20, mwr_21, mwr_22, mwr_23, mwa_1, mwu_1, mwa_2, mwu_2, mwa_3, mwu_3, mwa_4, mwu_4, mwa_5, mwu_5, mwa_6, mwu_6, mwa_7, mwu_7, mwa_8, mwu_8, mwa_9, mwu_9, mwa_10, mwu_10, mwa_11, mwu_11, mwa_12, mwu_12, mwa_13, mwu_13, mwa_14, mwu_14, mwa_15, mwu_15, mwa_16, mwu_16, vu_at, vu_ne, pk_us, pk_un, kB_n, wB_n, kL_n, wL_n, pk_mul, M_value h h1 h2, e]
theorem M_middle_sum (h : nowM (A 1) d f l V) {v : Nat} (h1 : f ≤ v) (h2 : v ≤ l) {l4 : Value} : ∀ (n k : Nat), k + n = 2 ^ d → den 186 19 [.ref m, .int (nI v), .int (tsum (V v) k), .int (nI k), l4] [] (mw σ m A R I) = den 186 42 [.ref m, .int (nI v), .int (tsum (V v) (2 ^ d)), .int (nI (2 ^ d)), l4] [] (mw σ m A R I) := by
  have hK := h.K
  intro n
  induction n with
  | zero =>
    intro k hk
    have : k = 2 ^ d := by omega
    subst this
    rw [e186_19]
    simp (disch := first | omega | exact tl_l | (simp only [List.length_cons, List.length_nil])) only [e186_20, e186_21, e186_24, kv_s, kh_s, kr_s, kr_v, kn_s, z0, z1, z2, nI_ltI, nI_leI, nI_eq, nI_add, oN, bz0, bz1, bw0, bw1, ltT, ltF, leT, leF, eqT, eqF, if_true, if_false, kI_n, wI_n, and_true, true_and, and_false, false_and, not_true, not_false_eq_true, mwo, M_keys h]
  | succ n ih =>
    intro k hk
    rw [← ih (k + 1) (by omega), tsum]
    rw [e186_19]
    simp (disch := first | omega | exact tl_l | (simp only [List.length_cons, List.length_nil])) only [e186_20, e186_21, e186_24, e186_27, e186_28, e186_29, e186_30, e186_31, e186_34, e186_35, e186_36, e186_39, kv_s, kh_s, kr_s, kr_v, kn_s, z0, z1, z2, nI_ltI, nI_leI, nI_eq, nI_add, oN, bz0, bz1, bw0, bw1, ltT, ltF, leT, leF, eqT, eqF, if_true, if_false, kI_n, wI_n, and_true, true_and, and_false, false_and, not_true, not_false_eq_true, mwo, M_keys h, M_value h h1 h2]
theorem C_middle0 (h : RB c σ T d f l V) {x : Int32} (hx : out f l x) : dcall 62 [.ref c, .int x] (cw σ c A R I) = some (some (.int (-nI 1)), cw σ c A R I) := by
  rw [q62]
  simp (disch := first | omega | exact tl_l | (simp only [List.length_cons, List.length_nil])) only [e62_0, e62_1, e62_4, e62_5, e62_8, e62_8n, e62_9, e62_9n, e62_10, e62_10n, e62_13, e62_14, e62_15, e62_15n, e62_16, e62_19, e62_20, e62_21, e62_24, e62_26, e62_27, e62_28, e62_30, e62_31, e62_33, e62_34, e62_38, e62_39, e62_42, e62_45, e62_48, e62_49, e62_51, e62_52, e62_53, e62_56, e62_58, e62_58n, e62_59, e62_61, e62_64, e62_65, e62_67, e62_69, e62_71, e62_74, e62_77, e62_78, e62_81, e62_84, e62_85, e62_88, e62_90, e62_91, e62_94, e62_96, kv_s, kh_s, kr_s, kr_v, kn_s, z0, z1, z2, nI_ltI, nI_leI, nI_eq, nI_add, oN, bz0, bz1, bw0, bw1, ltT, ltF, leT, leF, eqT, eqF, if_true, if_false, kI_n, wI_n, and_true, true_and, and_false, false_and, not_true, not_false_eq_true, cwo_1, cwr_1, cwg_0, cwg_1, cwg_2, cwa_0, cwl_0, cwo_3, cwr_3, cwg_3, cwa_R, cwl_R, cwo_5, cwr_5, cwg_4, cwg_5, cwg_6, cwg_7, cwg_8, cwa_1, cwl_1, cwo_7, cwr_7, cwg_9, cwg_10, cwg_11, cwg_12, cwg_13, cwa_2, cwl_2, cwo_17, cwr_17, cwg_14, cwa_3, cwl_3, cwp_0, cwp_1, cwp_2, cwp_3, cwp_4, cwp_5, cwp_6, cwp_7, cwp_8, cwp_9, cwp_10, cwp_11, cwp_12, cwp_13, cwp_14, cwu_0, cwu_R, cwu_1, cwu_2, cwu_3, vu_at, vu_ne, pk_us, pk_un, h.x.f0, h.x.f1, h.x.f2, h.x.f3, h.x.f4, h.x.f5, h.x.f6, h.x.f7, h.x.o, h.hi.o, h.hi.gd, h.hi.gf, h.hi.gl, Hi_keys h.hi h.d8, Hi_hasKey h.hi h.d8, Rw_empty, Rw_add, List.nil_append, List.cons_append, upd_upd, cwo_1, cwo_3, cwo_5, cwo_7, cwo_17, Bool.false_eq_true, n01, Hi_find_no h.hi hx]
theorem Ms_middle (h : nowM (A 1) d f l V) {x : Int32} (hx : out f l x) : Ms 186 [.ref m, .int x] σ m A R I (.int (-nI 1)) := by
  refine ⟨A, upd I 6 (nI 0), ?_, stay.rf, pk_un (by omega), pk_un (by omega)⟩
  rw [q186]
  simp (disch := first | omega | exact tl_l | (simp only [List.length_cons, List.length_nil])) only [e186_0, e186_1, e186_2, e186_5, e186_6, e186_7, e186_10, e186_13, e186_14, e186_15, e186_16, e186_17, e186_18, e186_20, e186_21, e186_24, e186_27, e186_28, e186_29, e186_30, e186_31, e186_34, e186_35, e186_36, e186_39, e186_42, e186_43, e186_46, e186_48, e186_49, e186_50, e186_51, e186_52, e186_53, e186_54, e186_57, e186_60, e186_62, e186_63, e186_64, e186_67, e186_70, e186_72, e186_73, e186_74, e186_75, e186_78, e186_79, e186_81, e186_84, e186_85, e186_86, e186_89, e186_90, e186_92, e186_93, e186_96, e186_97, kv_s, kh_s, kr_s, kr_v, kn_s, z0, z1, z2, nI_ltI, nI_leI, nI_eq, nI_add, oN, bz0, bz1, bw0, bw1, ltT, ltF, leT, leF, eqT, eqF, if_true, if_false, kI_n, wI_n, and_true, true_and, and_false, false_and, not_true, not_false_eq_true, mwo, mwr_0, mwr_1, mwr_2, mwg_3, mwp_3, mwr_4, mwg_5, mwp_5, mwg_6, mwp_6, mwr_7, mwr_8, mwg_9, mwp_9, mwg_10, mwp_10, mwg_11, mwp_11, mwr_12, mwg_13, mwp_13, mwr_14, mwr_15, mwr_16, mwr_17, mwr_18, mwr_19, mwg_20, mwp_20, mwr_21, mwr_22, mwr_23, mwa_1, mwu_1, mwa_2, mwu_2, mwa_3, mwu_3, mwa_4, mwu_4, mwa_5, mwu_5, mwa_6, mwu_6, mwa_7, mwu_7, mwa_8, mwu_8, mwa_9, mwu_9, mwa_10, mwu_10, mwa_11, mwu_11, mwa_12, mwu_12, mwa_13, mwu_13, mwa_14, mwu_14, mwa_15, mwu_15, mwa_16, mwu_16, vu_at, vu_ne, pk_us, pk_un, kB_n, wB_n, kL_n, wL_n, M_ver0 h hx]
theorem half {W : Nat → Int32} {N : Nat} (h : 0 < pS W N) : ∃ j0, j0 < N ∧ (∀ j, j ≤ j0 → 2 * pS W j < pS W N) ∧ pS W N ≤ 2 * pS W (j0 + 1) := by
  have key : ∀ M, M ≤ N → 0 < pS W N → pS W N ≤ 2 * pS W M → ∃ j0, j0 < M ∧ (∀ j, j ≤ j0 → 2 * pS W j < pS W N) ∧ pS W N ≤ 2 * pS W (j0 + 1) := by
    intro M
    induction M with
    | zero => intro _ h1 h2; rw [show pS W 0 = 0 from rfl] at h2; omega
    | succ M ih =>
      intro h0 h1 h2
      by_cases h3 : pS W N ≤ 2 * pS W M
      · obtain ⟨j0, g1, g2, g3⟩ := ih (by omega) h1 h3
        exact ⟨j0, by omega, g2, g3⟩
      · exact ⟨M, by omega, fun j hj => by have := pS_mono (W := W) hj; omega, h2⟩
  exact key N (Nat.le_refl _) h (by omega)
theorem J_middle (x : Int32) : Jn 62 186 [.int x] := by
  rintro c i σ hi ⟨z, n, B, L, q, K, A, R, I, A2, R2, I2, h⟩
  obtain ⟨T, hb⟩ := h.rb
  rcases C_find hb x with ⟨ho, _⟩ | ⟨v, t, a1, a2, rfl, t1, t2, e1⟩
  · exact Inv_same h hi (C_middle0 hb ho) (Ms_middle h.nm ho)
  · have hW := (h.ok v a1 a2).1
    have hK := hb.K
    obtain ⟨s1, s2⟩ := pS_bd hW (2 ^ z.1) (Nat.le_refl _)
    have hN := h.nm
    by_cases hz : pS (z.2.2.2 v) (2 ^ z.1) = 0
    · have s3 : tsum (z.2.2.2 v) (2 ^ z.1) = nI 0 := by rw [s1, hz]
      refine Inv_same h hi (b := .int (-nI 2)) ?_ ?_
      · have h := hb
        rw [q62]
        simp (disch := first | omega | exact tl_l | (simp only [List.length_cons, List.length_nil])) only [e62_0, e62_1, e62_4, e62_5, e62_8, e62_8n, e62_9, e62_9n, e62_10, e62_10n, e62_13, e62_14, e62_15, e62_15n, e62_16, e62_19, e62_20, e62_21, e62_24, e62_26, e62_27, e62_28, e62_30, e62_31, e62_33, e62_34, e62_38, e62_39, e62_42, e62_45, e62_48, e62_49, e62_51, e62_52, e62_53, e62_56, e62_58, e62_58n, e62_59, e62_61, e62_64, e62_65, e62_67, e62_69, e62_71, e62_74, e62_77, e62_78, e62_81, e62_84, e62_85, e62_88, e62_90, e62_91, e62_94, e62_96, kv_s, kh_s, kr_s, kr_v, kn_s, z0, z1, z2, nI_ltI, nI_leI, nI_eq, nI_add, oN, bz0, bz1, bw0, bw1, ltT, ltF, leT, leF, eqT, eqF, if_true, if_false, kI_n, wI_n, and_true, true_and, and_false, false_and, not_true, not_false_eq_true, cwo_1, cwr_1, cwg_0, cwg_1, cwg_2, cwa_0, cwl_0, cwo_3, cwr_3, cwg_3, cwa_R, cwl_R, cwo_5, cwr_5, cwg_4, cwg_5, cwg_6, cwg_7, cwg_8, cwa_1, cwl_1, cwo_7, cwr_7, cwg_9, cwg_10, cwg_11, cwg_12, cwg_13, cwa_2, cwl_2, cwo_17, cwr_17, cwg_14, cwa_3, cwl_3, cwp_0, cwp_1, cwp_2, cwp_3, cwp_4, cwp_5, cwp_6, cwp_7, cwp_8, cwp_9, cwp_10, cwp_11, cwp_12, cwp_13, cwp_14, cwu_0, cwu_R, cwu_1, cwu_2, cwu_3, vu_at, vu_ne, pk_us, pk_un, h.x.f0, h.x.f1, h.x.f2, h.x.f3, h.x.f4, h.x.f5, h.x.f6, h.x.f7, h.x.o, h.hi.o, h.hi.gd, h.hi.gf, h.hi.gl, Hi_keys h.hi h.d8, Hi_hasKey h.hi h.d8, Rw_empty, Rw_add, List.nil_append, List.cons_append, upd_upd, cwo_1, cwo_3, cwo_5, cwo_7, cwo_17, Bool.false_eq_true, n01, e1, t2.o, T_total t2, s3]
      · intro τ
        refine ⟨A2, upd I2 6 (nI 0), ?_, stay.rf, pk_un (by omega), pk_un (by omega)⟩
        have e := M_middle_sum (σ := τ) (m := c + 24) (A := A2) (R := R2) (I := upd I2 6 (nI 0)) hN a1 a2 (l4 := junk) (2 ^ z.1) 0 (Nat.zero_add _)
        rw [q186]
        simp (disch := first | omega | exact tl_l | (simp only [List.length_cons, List.length_nil])) only [e186_0, e186_1, e186_2, e186_5, e186_6, e186_7, e186_10, e186_13, e186_14, e186_15, e186_16, e186_17, e186_18, e186_20, e186_21, e186_24, e186_27, e186_28, e186_29, e186_30, e186_31, e186_34, e186_35, e186_36, e186_39, e186_42, e186_43, e186_46, e186_48, e186_49, e186_50, e186_51, e186_52, e186_53, e186_54, e186_57, e186_60, e186_62, e186_63, e186_64, e186_67, e186_70, e186_72, e186_73, e186_74, e186_75, e186_78, e186_79, e186_81, e186_84, e186_85, e186_86, e186_89, e186_90, e186_92, e186_93, e186_96, e186_97, kv_s, kh_s, kr_s, kr_v, kn_s, z0, z1, z2, nI_ltI, nI_leI, nI_eq, nI_add, oN, bz0, bz1, bw0, bw1, ltT, ltF, leT, leF, eqT, eqF, if_true, if_false, kI_n, wI_n, and_true, true_and, and_false, false_and, not_true, not_false_eq_true, mwo, mwr_0, mwr_1, mwr_2, mwg_3, mwp_3, mwr_4, mwg_5, mwp_5, mwg_6, mwp_6, mwr_7, mwr_8, mwg_9, mwp_9, mwg_10, mwp_10, mwg_11, mwp_11, mwr_12, mwg_13, mwp_13, mwr_14, mwr_15, mwr_16, mwr_17, mwr_18, mwr_19, mwg_20, mwp_20, mwr_21, mwr_22, mwr_23, mwa_1, mwu_1, mwa_2, mwu_2, mwa_3, mwu_3, mwa_4, mwu_4, mwa_5, mwu_5, mwa_6, mwu_6, mwa_7, mwu_7, mwa_8, mwu_8, mwa_9, mwu_9, mwa_10, mwu_10, mwa_11, mwu_11, mwa_12, mwu_12, mwa_13, mwu_13, mwa_14, mwu_14, mwa_15, mwu_15, mwa_16, mwu_16, vu_at, vu_ne, pk_us, pk_un, kB_n, wB_n, kL_n, wL_n, M_ver hN a1 a2, n01]
        simp only [tsum, s3] at e
        rw [e]
        simp (disch := first | omega | exact tl_l | (simp only [List.length_cons, List.length_nil])) only [e186_0, e186_1, e186_2, e186_5, e186_6, e186_7, e186_10, e186_13, e186_14, e186_15, e186_16, e186_17, e186_18, e186_20, e186_21, e186_24, e186_27, e186_28, e186_29, e186_30, e186_31, e186_34, e186_35, e186_36, e186_39, e186_42, e186_43, e186_46, e186_48, e186_49, e186_50, e186_51, e186_52, e186_53, e186_54, e186_57, e186_60, e186_62, e186_63, e186_64, e186_67, e186_70, e186_72, e186_73, e186_74, e186_75, e186_78, e186_79, e186_81, e186_84, e186_85, e186_86, e186_89, e186_90, e186_92, e186_93, e186_96, e186_97, kv_s, kh_s, kr_s, kr_v, kn_s, z0, z1, z2, nI_ltI, nI_leI, nI_eq, nI_add, oN, bz0, bz1, bw0, bw1, ltT, ltF, leT, leF, eqT, eqF, if_true, if_false, kI_n, wI_n, and_true, true_and, and_false, false_and, not_true, not_false_eq_true, mwo, mwr_0, mwr_1, mwr_2, mwg_3, mwp_3, mwr_4, mwg_5, mwp_5, mwg_6, mwp_6, mwr_7, mwr_8, mwg_9, mwp_9, mwg_10, mwp_10, mwg_11, mwp_11, mwr_12, mwg_13, mwp_13, mwr_14, mwr_15, mwr_16, mwr_17, mwr_18, mwr_19, mwg_20, mwp_20, mwr_21, mwr_22, mwr_23, mwa_1, mwu_1, mwa_2, mwu_2, mwa_3, mwu_3, mwa_4, mwu_4, mwa_5, mwu_5, mwa_6, mwu_6, mwa_7, mwu_7, mwa_8, mwu_8, mwa_9, mwu_9, mwa_10, mwu_10, mwa_11, mwu_11, mwa_12, mwu_12, mwa_13, mwu_13, mwa_14, mwu_14, mwa_15, mwu_15, mwa_16, mwu_16, vu_at, vu_ne, pk_us, pk_un, kB_n, wB_n, kL_n, wL_n]
    · obtain ⟨j0, j1, j2, j3⟩ := half (W := z.2.2.2 v) (N := 2 ^ z.1) (by omega)
      refine Inv_tell h hi (L' := [lN (pS (z.2.2.2 v) (j0 + 1))]) (k := 1) (b := .int (nI j0)) ?_ ?_ rfl (by omega)
      · rw [← C_middle_loop (A := A) (R := R) (I := I) hb hW t2 j1 j2 j3 (l1 := .int (nI v)) j0 0 (l5 := .int (nI 0)) (by omega)]
        have h := hb
        rw [q62]
        simp (disch := first | omega | exact tl_l | (simp only [List.length_cons, List.length_nil])) only [e62_0, e62_1, e62_4, e62_5, e62_8, e62_8n, e62_9, e62_9n, e62_10, e62_10n, e62_13, e62_14, e62_15, e62_15n, e62_16, e62_19, e62_20, e62_21, e62_24, e62_26, e62_27, e62_28, e62_30, e62_31, e62_33, e62_34, e62_38, e62_39, e62_42, e62_45, e62_48, e62_49, e62_51, e62_52, e62_53, e62_56, e62_58, e62_58n, e62_59, e62_61, e62_64, e62_65, e62_67, e62_69, e62_71, e62_74, e62_77, e62_78, e62_81, e62_84, e62_85, e62_88, e62_90, e62_91, e62_94, e62_96, kv_s, kh_s, kr_s, kr_v, kn_s, z0, z1, z2, nI_ltI, nI_leI, nI_eq, nI_add, oN, bz0, bz1, bw0, bw1, ltT, ltF, leT, leF, eqT, eqF, if_true, if_false, kI_n, wI_n, and_true, true_and, and_false, false_and, not_true, not_false_eq_true, cwo_1, cwr_1, cwg_0, cwg_1, cwg_2, cwa_0, cwl_0, cwo_3, cwr_3, cwg_3, cwa_R, cwl_R, cwo_5, cwr_5, cwg_4, cwg_5, cwg_6, cwg_7, cwg_8, cwa_1, cwl_1, cwo_7, cwr_7, cwg_9, cwg_10, cwg_11, cwg_12, cwg_13, cwa_2, cwl_2, cwo_17, cwr_17, cwg_14, cwa_3, cwl_3, cwp_0, cwp_1, cwp_2, cwp_3, cwp_4, cwp_5, cwp_6, cwp_7, cwp_8, cwp_9, cwp_10, cwp_11, cwp_12, cwp_13, cwp_14, cwu_0, cwu_R, cwu_1, cwu_2, cwu_3, vu_at, vu_ne, pk_us, pk_un, h.x.f0, h.x.f1, h.x.f2, h.x.f3, h.x.f4, h.x.f5, h.x.f6, h.x.f7, h.x.o, h.hi.o, h.hi.gd, h.hi.gf, h.hi.gl, Hi_keys h.hi h.d8, Hi_hasKey h.hi h.d8, Rw_empty, Rw_add, List.nil_append, List.cons_append, upd_upd, cwo_1, cwo_3, cwo_5, cwo_7, cwo_17, Bool.false_eq_true, n01, e1, t2.o, T_total t2, s1, hz, pS]
      · intro τ
        refine ⟨A2, upd (upd I2 6 (nI 0)) 5 (nI 1), ?_, stay.rf, by rw [pk_un (by omega), pk_un (by omega)], pk_us⟩
        rw [← M_middle_loop (A := A2) (R := R2) (I := upd I2 6 (nI 0)) hN a1 a2 hW j1 j2 j3 j0 0 (by omega)]
        have e := M_middle_sum (σ := τ) (m := c + 24) (A := A2) (R := R2) (I := upd I2 6 (nI 0)) hN a1 a2 (l4 := junk) (2 ^ z.1) 0 (Nat.zero_add _)
        have e0 : nI (pS (z.2.2.2 v) (0 + 1)) = z.2.2.2 v 0 := by
          rw [← pS_s hW (by omega), pS]
          exact Int32.zero_add _
        simp only [tsum, s1] at e
        rw [q186]
        simp (disch := first | omega | exact tl_l | (simp only [List.length_cons, List.length_nil])) only [e186_0, e186_1, e186_2, e186_5, e186_6, e186_7, e186_10, e186_13, e186_14, e186_15, e186_16, e186_17, e186_18, e186_20, e186_21, e186_24, e186_27, e186_28, e186_29, e186_30, e186_31, e186_34, e186_35, e186_36, e186_39, e186_42, e186_43, e186_46, e186_48, e186_49, e186_50, e186_51, e186_52, e186_53, e186_54, e186_57, e186_60, e186_62, e186_63, e186_64, e186_67, e186_70, e186_72, e186_73, e186_74, e186_75, e186_78, e186_79, e186_81, e186_84, e186_85, e186_86, e186_89, e186_90, e186_92, e186_93, e186_96, e186_97, kv_s, kh_s, kr_s, kr_v, kn_s, z0, z1, z2, nI_ltI, nI_leI, nI_eq, nI_add, oN, bz0, bz1, bw0, bw1, ltT, ltF, leT, leF, eqT, eqF, if_true, if_false, kI_n, wI_n, and_true, true_and, and_false, false_and, not_true, not_false_eq_true, mwo, mwr_0, mwr_1, mwr_2, mwg_3, mwp_3, mwr_4, mwg_5, mwp_5, mwg_6, mwp_6, mwr_7, mwr_8, mwg_9, mwp_9, mwg_10, mwp_10, mwg_11, mwp_11, mwr_12, mwg_13, mwp_13, mwr_14, mwr_15, mwr_16, mwr_17, mwr_18, mwr_19, mwg_20, mwp_20, mwr_21, mwr_22, mwr_23, mwa_1, mwu_1, mwa_2, mwu_2, mwa_3, mwu_3, mwa_4, mwu_4, mwa_5, mwu_5, mwa_6, mwu_6, mwa_7, mwu_7, mwa_8, mwu_8, mwa_9, mwu_9, mwa_10, mwu_10, mwa_11, mwu_11, mwa_12, mwu_12, mwa_13, mwu_13, mwa_14, mwu_14, mwa_15, mwu_15, mwa_16, mwu_16, vu_at, vu_ne, pk_us, pk_un, kB_n, wB_n, kL_n, wL_n, M_ver hN a1 a2, n01]
        rw [e]
        simp (disch := first | omega | exact tl_l | (simp only [List.length_cons, List.length_nil])) only [e186_0, e186_1, e186_2, e186_5, e186_6, e186_7, e186_10, e186_13, e186_14, e186_15, e186_16, e186_17, e186_18, e186_20, e186_21, e186_24, e186_27, e186_28, e186_29, e186_30, e186_31, e186_34, e186_35, e186_36, e186_39, e186_42, e186_43, e186_46, e186_48, e186_49, e186_50, e186_51, e186_52, e186_53, e186_54, e186_57, e186_60, e186_62, e186_63, e186_64, e186_67, e186_70, e186_72, e186_73, e186_74, e186_75, e186_78, e186_79, e186_81, e186_84, e186_85, e186_86, e186_89, e186_90, e186_92, e186_93, e186_96, e186_97, kv_s, kh_s, kr_s, kr_v, kn_s, z0, z1, z2, nI_ltI, nI_leI, nI_eq, nI_add, oN, bz0, bz1, bw0, bw1, ltT, ltF, leT, leF, eqT, eqF, if_true, if_false, kI_n, wI_n, and_true, true_and, and_false, false_and, not_true, not_false_eq_true, mwo, mwr_0, mwr_1, mwr_2, mwg_3, mwp_3, mwr_4, mwg_5, mwp_5, mwg_6, mwp_6, mwr_7, mwr_8, mwg_9, mwp_9, mwg_10, mwp_10, mwg_11, mwp_11, mwr_12, mwg_13, mwp_13, mwr_14, mwr_15, mwr_16, mwr_17, mwr_18, mwr_19, mwg_20, mwp_20, mwr_21, mwr_22, mwr_23, mwa_1, mwu_1, mwa_2, mwu_2, mwa_3, mwu_3, mwa_4, mwu_4, mwa_5, mwu_5, mwa_6, mwu_6, mwa_7, mwu_7, mwa_8, mwu_8, mwa_9, mwu_9, mwa_10, mwu_10, mwa_11, mwu_11, mwa_12, mwu_12, mwa_13, mwu_13, mwa_14, mwu_14, mwa_15, mwu_15, mwa_16, mwu_16, vu_at, vu_ne, pk_us, pk_un, kB_n, wB_n, kL_n, wL_n, hz, M_value hN a1 a2]
        rw [← e0]
end JO
