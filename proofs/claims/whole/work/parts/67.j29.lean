/-! calls: moves, swaps, clears, back -/
section AE
variable {c : Nat} {σ τ : Hp} {m : Nat} {A : Nat → Nat → Int32} {R : Nat → Int64} {I : Nat → Int32} {z : Hs} {K : Nat → Option Hs} {W N : Nat → Int32} {x y : Int32} {d : Nat} {V : Nat → Int32}
theorem tree_dft {t : Nat} (h : isT (cw σ c A R I) t d V) (far : t = c + 19 ∨ c + 42 ≤ t) {d' : Nat} (D : dft c σ τ d' W) : isT (cw τ c A R I) t d V := h.kept fun a q1 q2 => by
  rw [cw_out (by omega), cw_out (by omega)]
  exact D.1 a (by omega)
theorem BC_dobj (h : BC c σ z K) : hObj (cw σ c A R I) (c + 12) = some 5 := by
  obtain ⟨dd, Wd, b4⟩ := h.dr
  exact (b4.dcw (A := A) (R := R) (I := I)).o
theorem C_exch (h : BC c σ z K) {a b : Nat} (ha : a < 2 ^ z.1) (hb' : b < 2 ^ z.1) : ∃ t τ, (∀ {A R I}, dcall 43 [.ref (c + 9)] (cw σ c A R I) = some (some (.ref t), cw σ c A R I)) ∧ dcall 117 [.ref c, .ref t, .int (nI a), .int (nI b)] (cw σ c A R I) = some (none, cw τ c A R I) ∧ dft c σ τ z.1 (xch (z.2.2.2 z.2.2.1) a b) := by
  obtain ⟨T, t, τ, hb, n1, t2, far, k1, D1, hb1, hc1, t3⟩ := C_new (A := A) (R := R) (I := I) h
  obtain ⟨τ2, k2, D2⟩ := D_place (A := A) (R := R) (I := I) D1.2.2 ha (z.2.2.2 z.2.2.1 b)
  obtain ⟨τ3, k3, D3⟩ := D_place (A := A) (R := R) (I := I) D2.2.2 hb' (z.2.2.2 z.2.2.1 a)
  have t4 := tree_dft (t3 (A := A) (R := R) (I := I)) far D2
  have hb2 := hb1.dft D2
  have hc2 := hc1.dft D2
  have o0 := BC_dobj h (A := A) (R := R) (I := I)
  have o1 := BC_dobj hc1 (A := A) (R := R) (I := I)
  have o2 := BC_dobj hc2 (A := A) (R := R) (I := I)
  have t3' := t3 (A := A) (R := R) (I := I)
  refine ⟨t, τ3, n1, ?_, (D1.tr D2).tr D3⟩
  have h := hb
  rw [q117]
  simp (disch := first | omega | exact tl_l | exact tT_len | (simp only [List.length_cons, List.length_nil])) only [e117_0, e117_1, e117_4, e117_5, e117_8, e117_9, e117_12, e117_13, e117_14, e117_15, e117_18, e117_21, e117_22, e117_25, e117_26, e117_27, e117_28, e117_31, e117_34, kv_s, kh_s, kr_s, kr_v, kn_s, z0, z1, z2, nI_ltI, nI_leI, nI_eq, nI_add, oN, bz0, bz1, bw0, bw1, ltT, ltF, leT, leF, eqT, eqF, if_true, if_false, kI_n, wI_n, and_true, true_and, and_false, false_and, not_true, not_false_eq_true, cwo_1, cwr_1, cwg_0, cwg_1, cwg_2, cwa_0, cwl_0, cwo_3, cwr_3, cwg_3, cwa_R, cwl_R, cwo_5, cwr_5, cwg_4, cwg_5, cwg_6, cwg_7, cwg_8, cwa_1, cwl_1, cwo_7, cwr_7, cwg_9, cwg_10, cwg_11, cwg_12, cwg_13, cwa_2, cwl_2, cwo_17, cwr_17, cwg_14, cwa_3, cwl_3, cwp_0, cwp_1, cwp_2, cwp_3, cwp_4, cwp_5, cwp_6, cwp_7, cwp_8, cwp_9, cwp_10, cwp_11, cwp_12, cwp_13, cwp_14, cwu_0, cwu_R, cwu_1, cwu_2, cwu_3, vu_at, vu_ne, pk_us, pk_un, h.x.f0, h.x.f1, h.x.f2, h.x.f3, h.x.f4, h.x.f5, h.x.f6, h.x.f7, h.x.o, h.hi.o, h.hi.gd, h.hi.gf, h.hi.gl, Hi_keys h.hi h.d8, Hi_hasKey h.hi h.d8, Rw_empty, Rw_add, List.nil_append, List.cons_append, upd_upd, cwo_1, cwo_3, cwo_5, cwo_7, cwo_17, Bool.false_eq_true, n01, o0, k1, hb1.x.f0, hb1.x.f1, hb1.x.f2, hb1.x.f3, hb1.x.f4, hb1.x.f5, hb1.x.f6, hb1.x.f7, hb1.x.o, hb1.hi.o, hb1.hi.gd, hb1.hi.gf, hb1.hi.gl, Hi_keys hb1.hi hb1.d8, Hi_hasKey hb1.hi hb1.d8, o1, t3'.o, T_val t3' hb', k2, hb2.x.f0, hb2.x.f1, hb2.x.f2, hb2.x.f3, hb2.x.f4, hb2.x.f5, hb2.x.f6, hb2.x.f7, hb2.x.o, hb2.hi.o, hb2.hi.gd, hb2.hi.gf, hb2.hi.gl, Hi_keys hb2.hi hb2.d8, Hi_hasKey hb2.hi hb2.d8, o2, t4.o, T_val t4 ha, k3]
theorem C_swaps (h : BC c σ z K) (hl : z.2.2.1 + 1 < 2 ^ 30) {a b : Nat} (ha : a < 2 ^ 31) (hb' : b < 2 ^ 31) : CA c 119 [.ref c, .int (nI a), .int (nI b)] σ A R I K (swpF z a b) := by
  obtain ⟨T, hb⟩ := h.rb
  have hK := hb.K
  have hd := hb.d8
  have hk := isK_nat (a := a) hd ha
  have hk2 := isK_nat (a := b) hd hb'
  unfold swpF
  by_cases h1 : a < 2 ^ z.1
  · rw [decide_eq_true h1] at hk
    by_cases h2 : b < 2 ^ z.1
    · rw [decide_eq_true h2] at hk2
      by_cases h3 : a = b
      · rw [if_neg (fun z => z.2.2 h3)]
        refine ⟨σ, ?_, h, afar.rf⟩
        have h := hb
        rw [q119]
        simp (disch := first | omega | exact tl_l | exact tT_len | (simp only [List.length_cons, List.length_nil])) only [e119_0, e119_1, e119_4, e119_5, e119_8, e119_11, e119_12, e119_15, e119_16, e119_19, e119_22, e119_23, e119_24, e119_27, e119_28, e119_29, e119_30, e119_31, e119_34, e119_37, e119_38, e119_39, e119_42, e119_43, e119_45, e119_47, e119_50, kv_s, kh_s, kr_s, kr_v, kn_s, z0, z1, z2, nI_ltI, nI_leI, nI_eq, nI_add, oN, bz0, bz1, bw0, bw1, ltT, ltF, leT, leF, eqT, eqF, if_true, if_false, kI_n, wI_n, and_true, true_and, and_false, false_and, not_true, not_false_eq_true, cwo_1, cwr_1, cwg_0, cwg_1, cwg_2, cwa_0, cwl_0, cwo_3, cwr_3, cwg_3, cwa_R, cwl_R, cwo_5, cwr_5, cwg_4, cwg_5, cwg_6, cwg_7, cwg_8, cwa_1, cwl_1, cwo_7, cwr_7, cwg_9, cwg_10, cwg_11, cwg_12, cwg_13, cwa_2, cwl_2, cwo_17, cwr_17, cwg_14, cwa_3, cwl_3, cwp_0, cwp_1, cwp_2, cwp_3, cwp_4, cwp_5, cwp_6, cwp_7, cwp_8, cwp_9, cwp_10, cwp_11, cwp_12, cwp_13, cwp_14, cwu_0, cwu_R, cwu_1, cwu_2, cwu_3, vu_at, vu_ne, pk_us, pk_un, h.x.f0, h.x.f1, h.x.f2, h.x.f3, h.x.f4, h.x.f5, h.x.f6, h.x.f7, h.x.o, h.hi.o, h.hi.gd, h.hi.gf, h.hi.gl, Hi_keys h.hi h.d8, Hi_hasKey h.hi h.d8, Rw_empty, Rw_add, List.nil_append, List.cons_append, upd_upd, cwo_1, cwo_3, cwo_5, cwo_7, cwo_17, Bool.false_eq_true, n01, hk, hk2, h3]
      · rw [if_pos ⟨h1, h2, h3⟩]
        obtain ⟨t, τ, n1, k1, D⟩ := C_exch (A := A) (R := R) (I := I) h h1 h2
        obtain ⟨ρ, s1, s2, s3⟩ := A_settle (A := A) (R := R) (I := I) (h.dft D) D.2.2 hl (x := -nI 5) (y := -nI 2)
        refine ⟨ρ, ?_, s2, D.afar.tr s3⟩
        have hb1 := hb.dft D
        have h := hb
        rw [q119]
        simp (disch := first | omega | exact tl_l | exact tT_len | (simp only [List.length_cons, List.length_nil])) only [e119_0, e119_1, e119_4, e119_5, e119_8, e119_11, e119_12, e119_15, e119_16, e119_19, e119_22, e119_23, e119_24, e119_27, e119_28, e119_29, e119_30, e119_31, e119_34, e119_37, e119_38, e119_39, e119_42, e119_43, e119_45, e119_47, e119_50, kv_s, kh_s, kr_s, kr_v, kn_s, z0, z1, z2, nI_ltI, nI_leI, nI_eq, nI_add, oN, bz0, bz1, bw0, bw1, ltT, ltF, leT, leF, eqT, eqF, if_true, if_false, kI_n, wI_n, and_true, true_and, and_false, false_and, not_true, not_false_eq_true, cwo_1, cwr_1, cwg_0, cwg_1, cwg_2, cwa_0, cwl_0, cwo_3, cwr_3, cwg_3, cwa_R, cwl_R, cwo_5, cwr_5, cwg_4, cwg_5, cwg_6, cwg_7, cwg_8, cwa_1, cwl_1, cwo_7, cwr_7, cwg_9, cwg_10, cwg_11, cwg_12, cwg_13, cwa_2, cwl_2, cwo_17, cwr_17, cwg_14, cwa_3, cwl_3, cwp_0, cwp_1, cwp_2, cwp_3, cwp_4, cwp_5, cwp_6, cwp_7, cwp_8, cwp_9, cwp_10, cwp_11, cwp_12, cwp_13, cwp_14, cwu_0, cwu_R, cwu_1, cwu_2, cwu_3, vu_at, vu_ne, pk_us, pk_un, h.x.f0, h.x.f1, h.x.f2, h.x.f3, h.x.f4, h.x.f5, h.x.f6, h.x.f7, h.x.o, h.hi.o, h.hi.gd, h.hi.gf, h.hi.gl, Hi_keys h.hi h.d8, Hi_hasKey h.hi h.d8, Rw_empty, Rw_add, List.nil_append, List.cons_append, upd_upd, cwo_1, cwo_3, cwo_5, cwo_7, cwo_17, Bool.false_eq_true, n01, hk, hk2, h3, z5, n1, k1, hb1.x.f0, hb1.x.f1, hb1.x.f2, hb1.x.f3, hb1.x.f4, hb1.x.f5, hb1.x.f6, hb1.x.f7, hb1.x.o, hb1.hi.o, hb1.hi.gd, hb1.hi.gf, hb1.hi.gl, Hi_keys hb1.hi hb1.d8, Hi_hasKey hb1.hi hb1.d8, s1]
    · rw [if_neg (fun z => h2 z.2.1)]
      rw [decide_eq_false h2] at hk2
      refine ⟨σ, ?_, h, afar.rf⟩
      have h := hb
      rw [q119]
      simp (disch := first | omega | exact tl_l | exact tT_len | (simp only [List.length_cons, List.length_nil])) only [e119_0, e119_1, e119_4, e119_5, e119_8, e119_11, e119_12, e119_15, e119_16, e119_19, e119_22, e119_23, e119_24, e119_27, e119_28, e119_29, e119_30, e119_31, e119_34, e119_37, e119_38, e119_39, e119_42, e119_43, e119_45, e119_47, e119_50, kv_s, kh_s, kr_s, kr_v, kn_s, z0, z1, z2, nI_ltI, nI_leI, nI_eq, nI_add, oN, bz0, bz1, bw0, bw1, ltT, ltF, leT, leF, eqT, eqF, if_true, if_false, kI_n, wI_n, and_true, true_and, and_false, false_and, not_true, not_false_eq_true, cwo_1, cwr_1, cwg_0, cwg_1, cwg_2, cwa_0, cwl_0, cwo_3, cwr_3, cwg_3, cwa_R, cwl_R, cwo_5, cwr_5, cwg_4, cwg_5, cwg_6, cwg_7, cwg_8, cwa_1, cwl_1, cwo_7, cwr_7, cwg_9, cwg_10, cwg_11, cwg_12, cwg_13, cwa_2, cwl_2, cwo_17, cwr_17, cwg_14, cwa_3, cwl_3, cwp_0, cwp_1, cwp_2, cwp_3, cwp_4, cwp_5, cwp_6, cwp_7, cwp_8, cwp_9, cwp_10, cwp_11, cwp_12, cwp_13, cwp_14, cwu_0, cwu_R, cwu_1, cwu_2, cwu_3, vu_at, vu_ne, pk_us, pk_un, h.x.f0, h.x.f1, h.x.f2, h.x.f3, h.x.f4, h.x.f5, h.x.f6, h.x.f7, h.x.o, h.hi.o, h.hi.gd, h.hi.gf, h.hi.gl, Hi_keys h.hi h.d8, Hi_hasKey h.hi h.d8, Rw_empty, Rw_add, List.nil_append, List.cons_append, upd_upd, cwo_1, cwo_3, cwo_5, cwo_7, cwo_17, Bool.false_eq_true, n01, hk, hk2]
  · rw [if_neg (fun z => h1 z.1)]
    rw [decide_eq_false h1] at hk
    refine ⟨σ, ?_, h, afar.rf⟩
    have h := hb
    rw [q119]
    simp (disch := first | omega | exact tl_l | exact tT_len | (simp only [List.length_cons, List.length_nil])) only [e119_0, e119_1, e119_4, e119_5, e119_8, e119_11, e119_12, e119_15, e119_16, e119_19, e119_22, e119_23, e119_24, e119_27, e119_28, e119_29, e119_30, e119_31, e119_34, e119_37, e119_38, e119_39, e119_42, e119_43, e119_45, e119_47, e119_50, kv_s, kh_s, kr_s, kr_v, kn_s, z0, z1, z2, nI_ltI, nI_leI, nI_eq, nI_add, oN, bz0, bz1, bw0, bw1, ltT, ltF, leT, leF, eqT, eqF, if_true, if_false, kI_n, wI_n, and_true, true_and, and_false, false_and, not_true, not_false_eq_true, cwo_1, cwr_1, cwg_0, cwg_1, cwg_2, cwa_0, cwl_0, cwo_3, cwr_3, cwg_3, cwa_R, cwl_R, cwo_5, cwr_5, cwg_4, cwg_5, cwg_6, cwg_7, cwg_8, cwa_1, cwl_1, cwo_7, cwr_7, cwg_9, cwg_10, cwg_11, cwg_12, cwg_13, cwa_2, cwl_2, cwo_17, cwr_17, cwg_14, cwa_3, cwl_3, cwp_0, cwp_1, cwp_2, cwp_3, cwp_4, cwp_5, cwp_6, cwp_7, cwp_8, cwp_9, cwp_10, cwp_11, cwp_12, cwp_13, cwp_14, cwu_0, cwu_R, cwu_1, cwu_2, cwu_3, vu_at, vu_ne, pk_us, pk_un, h.x.f0, h.x.f1, h.x.f2, h.x.f3, h.x.f4, h.x.f5, h.x.f6, h.x.f7, h.x.o, h.hi.o, h.hi.gd, h.hi.gf, h.hi.gl, Hi_keys h.hi h.d8, Hi_hasKey h.hi h.d8, Rw_empty, Rw_add, List.nil_append, List.cons_append, upd_upd, cwo_1, cwo_3, cwo_5, cwo_7, cwo_17, Bool.false_eq_true, n01, hk]
theorem C_moves (h : BC c σ z K) (ok : okH z) (hl : z.2.2.1 + 1 < 2 ^ 30) {a b : Nat} (ha : a < 2 ^ 31) (hb' : b < 2 ^ 31) : CA c 116 [.ref c, .int (nI a), .int (nI b)] σ A R I K (movF z a b) := by
  obtain ⟨T, t, τ, hb, n1, t2, far, k1, D1, hb1, hc1, t3⟩ := C_new (A := A) (R := R) (I := I) h
  have hK := hb.K
  have hd := hb.d8
  have hfl := hb.fl
  have hk := isK_nat (a := a) hd ha
  have hk2 := isK_nat (a := b) hd hb'
  have okl := ok _ hfl.1 (Nat.le_refl _)
  unfold movF
  by_cases h1 : a < 2 ^ z.1
  · rw [decide_eq_true h1] at hk
    by_cases h2 : b < 2 ^ z.1
    · rw [decide_eq_true h2] at hk2
      by_cases h3 : a = b
      · rw [if_neg (fun z => z.2.2 h3)]
        refine ⟨σ, ?_, h, afar.rf⟩
        have h := hb
        rw [q116]
        simp (disch := first | omega | exact tl_l | exact tT_len | (simp only [List.length_cons, List.length_nil])) only [e116_0, e116_1, e116_4, e116_5, e116_8, e116_11, e116_12, e116_15, e116_16, e116_19, e116_22, e116_23, e116_24, e116_27, e116_28, e116_29, e116_30, e116_33, e116_36, e116_37, e116_38, e116_39, e116_42, e116_45, e116_47, e116_48, e116_49, e116_50, e116_53, e116_56, e116_58, e116_59, e116_60, e116_61, e116_62, e116_63, e116_66, e116_67, e116_69, e116_71, e116_74, kv_s, kh_s, kr_s, kr_v, kn_s, z0, z1, z2, nI_ltI, nI_leI, nI_eq, nI_add, oN, bz0, bz1, bw0, bw1, ltT, ltF, leT, leF, eqT, eqF, if_true, if_false, kI_n, wI_n, and_true, true_and, and_false, false_and, not_true, not_false_eq_true, cwo_1, cwr_1, cwg_0, cwg_1, cwg_2, cwa_0, cwl_0, cwo_3, cwr_3, cwg_3, cwa_R, cwl_R, cwo_5, cwr_5, cwg_4, cwg_5, cwg_6, cwg_7, cwg_8, cwa_1, cwl_1, cwo_7, cwr_7, cwg_9, cwg_10, cwg_11, cwg_12, cwg_13, cwa_2, cwl_2, cwo_17, cwr_17, cwg_14, cwa_3, cwl_3, cwp_0, cwp_1, cwp_2, cwp_3, cwp_4, cwp_5, cwp_6, cwp_7, cwp_8, cwp_9, cwp_10, cwp_11, cwp_12, cwp_13, cwp_14, cwu_0, cwu_R, cwu_1, cwu_2, cwu_3, vu_at, vu_ne, pk_us, pk_un, h.x.f0, h.x.f1, h.x.f2, h.x.f3, h.x.f4, h.x.f5, h.x.f6, h.x.f7, h.x.o, h.hi.o, h.hi.gd, h.hi.gf, h.hi.gl, Hi_keys h.hi h.d8, Hi_hasKey h.hi h.d8, Rw_empty, Rw_add, List.nil_append, List.cons_append, upd_upd, cwo_1, cwo_3, cwo_5, cwo_7, cwo_17, Bool.false_eq_true, n01, hk, hk2, h3]
      · rw [if_pos ⟨h1, h2, h3⟩]
        by_cases h4 : z.2.2.2 z.2.2.1 a = nI 0
        · rw [if_pos h4]
          refine ⟨σ, ?_, h, afar.rf⟩
          have h := hb
          rw [q116]
          simp (disch := first | omega | exact tl_l | exact tT_len | (simp only [List.length_cons, List.length_nil])) only [e116_0, e116_1, e116_4, e116_5, e116_8, e116_11, e116_12, e116_15, e116_16, e116_19, e116_22, e116_23, e116_24, e116_27, e116_28, e116_29, e116_30, e116_33, e116_36, e116_37, e116_38, e116_39, e116_42, e116_45, e116_47, e116_48, e116_49, e116_50, e116_53, e116_56, e116_58, e116_59, e116_60, e116_61, e116_62, e116_63, e116_66, e116_67, e116_69, e116_71, e116_74, kv_s, kh_s, kr_s, kr_v, kn_s, z0, z1, z2, nI_ltI, nI_leI, nI_eq, nI_add, oN, bz0, bz1, bw0, bw1, ltT, ltF, leT, leF, eqT, eqF, if_true, if_false, kI_n, wI_n, and_true, true_and, and_false, false_and, not_true, not_false_eq_true, cwo_1, cwr_1, cwg_0, cwg_1, cwg_2, cwa_0, cwl_0, cwo_3, cwr_3, cwg_3, cwa_R, cwl_R, cwo_5, cwr_5, cwg_4, cwg_5, cwg_6, cwg_7, cwg_8, cwa_1, cwl_1, cwo_7, cwr_7, cwg_9, cwg_10, cwg_11, cwg_12, cwg_13, cwa_2, cwl_2, cwo_17, cwr_17, cwg_14, cwa_3, cwl_3, cwp_0, cwp_1, cwp_2, cwp_3, cwp_4, cwp_5, cwp_6, cwp_7, cwp_8, cwp_9, cwp_10, cwp_11, cwp_12, cwp_13, cwp_14, cwu_0, cwu_R, cwu_1, cwu_2, cwu_3, vu_at, vu_ne, pk_us, pk_un, h.x.f0, h.x.f1, h.x.f2, h.x.f3, h.x.f4, h.x.f5, h.x.f6, h.x.f7, h.x.o, h.hi.o, h.hi.gd, h.hi.gf, h.hi.gl, Hi_keys h.hi h.d8, Hi_hasKey h.hi h.d8, Rw_empty, Rw_add, List.nil_append, List.cons_append, upd_upd, cwo_1, cwo_3, cwo_5, cwo_7, cwo_17, Bool.false_eq_true, n01, hk, hk2, h3, n1, t2.o, T_val t2, h4]
        · rw [if_neg h4]
          by_cases h5 : nI 0 < z.2.2.2 z.2.2.1 b
          · rw [if_pos h5]
            have h6 : ¬ z.2.2.2 z.2.2.1 b ≤ nI 0 := Int32.not_le.mpr h5
            refine ⟨σ, ?_, h, afar.rf⟩
            have h := hb
            rw [q116]
            simp (disch := first | omega | exact tl_l | exact tT_len | (simp only [List.length_cons, List.length_nil])) only [e116_0, e116_1, e116_4, e116_5, e116_8, e116_11, e116_12, e116_15, e116_16, e116_19, e116_22, e116_23, e116_24, e116_27, e116_28, e116_29, e116_30, e116_33, e116_36, e116_37, e116_38, e116_39, e116_42, e116_45, e116_47, e116_48, e116_49, e116_50, e116_53, e116_56, e116_58, e116_59, e116_60, e116_61, e116_62, e116_63, e116_66, e116_67, e116_69, e116_71, e116_74, kv_s, kh_s, kr_s, kr_v, kn_s, z0, z1, z2, nI_ltI, nI_leI, nI_eq, nI_add, oN, bz0, bz1, bw0, bw1, ltT, ltF, leT, leF, eqT, eqF, if_true, if_false, kI_n, wI_n, and_true, true_and, and_false, false_and, not_true, not_false_eq_true, cwo_1, cwr_1, cwg_0, cwg_1, cwg_2, cwa_0, cwl_0, cwo_3, cwr_3, cwg_3, cwa_R, cwl_R, cwo_5, cwr_5, cwg_4, cwg_5, cwg_6, cwg_7, cwg_8, cwa_1, cwl_1, cwo_7, cwr_7, cwg_9, cwg_10, cwg_11, cwg_12, cwg_13, cwa_2, cwl_2, cwo_17, cwr_17, cwg_14, cwa_3, cwl_3, cwp_0, cwp_1, cwp_2, cwp_3, cwp_4, cwp_5, cwp_6, cwp_7, cwp_8, cwp_9, cwp_10, cwp_11, cwp_12, cwp_13, cwp_14, cwu_0, cwu_R, cwu_1, cwu_2, cwu_3, vu_at, vu_ne, pk_us, pk_un, h.x.f0, h.x.f1, h.x.f2, h.x.f3, h.x.f4, h.x.f5, h.x.f6, h.x.f7, h.x.o, h.hi.o, h.hi.gd, h.hi.gf, h.hi.gl, Hi_keys h.hi h.d8, Hi_hasKey h.hi h.d8, Rw_empty, Rw_add, List.nil_append, List.cons_append, upd_upd, cwo_1, cwo_3, cwo_5, cwo_7, cwo_17, Bool.false_eq_true, n01, hk, hk2, h3, n1, t2.o, T_val t2, h4, h6, z3]
          · rw [if_neg h5]
            have h6 : z.2.2.2 z.2.2.1 b ≤ nI 0 := Int32.not_lt.mp h5
            obtain ⟨t', τ', n1', kE, D⟩ := C_exch (A := A) (R := R) (I := I) h h1 h2
            have et : t' = t := by
              have e := (n1' (A := A) (R := R) (I := I)).symm.trans n1
              simp only [Option.some.injEq, Prod.mk.injEq, Value.ref.injEq, and_true] at e
              exact e
            subst et
            obtain ⟨ρ, s1, s2, s3⟩ := A_settle (A := A) (R := R) (I := I) (h.dft D) D.2.2 hl (x := -nI 5) (y := -nI 2)
            refine ⟨ρ, ?_, s2, D.afar.tr s3⟩
            have hbE := hb.dft D
            have h := hb
            rw [q116]
            simp (disch := first | omega | exact tl_l | exact tT_len | (simp only [List.length_cons, List.length_nil])) only [e116_0, e116_1, e116_4, e116_5, e116_8, e116_11, e116_12, e116_15, e116_16, e116_19, e116_22, e116_23, e116_24, e116_27, e116_28, e116_29, e116_30, e116_33, e116_36, e116_37, e116_38, e116_39, e116_42, e116_45, e116_47, e116_48, e116_49, e116_50, e116_53, e116_56, e116_58, e116_59, e116_60, e116_61, e116_62, e116_63, e116_66, e116_67, e116_69, e116_71, e116_74, kv_s, kh_s, kr_s, kr_v, kn_s, z0, z1, z2, nI_ltI, nI_leI, nI_eq, nI_add, oN, bz0, bz1, bw0, bw1, ltT, ltF, leT, leF, eqT, eqF, if_true, if_false, kI_n, wI_n, and_true, true_and, and_false, false_and, not_true, not_false_eq_true, cwo_1, cwr_1, cwg_0, cwg_1, cwg_2, cwa_0, cwl_0, cwo_3, cwr_3, cwg_3, cwa_R, cwl_R, cwo_5, cwr_5, cwg_4, cwg_5, cwg_6, cwg_7, cwg_8, cwa_1, cwl_1, cwo_7, cwr_7, cwg_9, cwg_10, cwg_11, cwg_12, cwg_13, cwa_2, cwl_2, cwo_17, cwr_17, cwg_14, cwa_3, cwl_3, cwp_0, cwp_1, cwp_2, cwp_3, cwp_4, cwp_5, cwp_6, cwp_7, cwp_8, cwp_9, cwp_10, cwp_11, cwp_12, cwp_13, cwp_14, cwu_0, cwu_R, cwu_1, cwu_2, cwu_3, vu_at, vu_ne, pk_us, pk_un, h.x.f0, h.x.f1, h.x.f2, h.x.f3, h.x.f4, h.x.f5, h.x.f6, h.x.f7, h.x.o, h.hi.o, h.hi.gd, h.hi.gf, h.hi.gl, Hi_keys h.hi h.d8, Hi_hasKey h.hi h.d8, Rw_empty, Rw_add, List.nil_append, List.cons_append, upd_upd, cwo_1, cwo_3, cwo_5, cwo_7, cwo_17, Bool.false_eq_true, n01, hk, hk2, h3, z5, n1, t2.o, T_val t2, h4, h6, kE, hbE.x.f0, hbE.x.f1, hbE.x.f2, hbE.x.f3, hbE.x.f4, hbE.x.f5, hbE.x.f6, hbE.x.f7, hbE.x.o, hbE.hi.o, hbE.hi.gd, hbE.hi.gf, hbE.hi.gl, Hi_keys hbE.hi hbE.d8, Hi_hasKey hbE.hi hbE.d8, s1]
    · rw [if_neg (fun z => h2 z.2.1)]
      rw [decide_eq_false h2] at hk2
      refine ⟨σ, ?_, h, afar.rf⟩
      have h := hb
      rw [q116]
      simp (disch := first | omega | exact tl_l | exact tT_len | (simp only [List.length_cons, List.length_nil])) only [e116_0, e116_1, e116_4, e116_5, e116_8, e116_11, e116_12, e116_15, e116_16, e116_19, e116_22, e116_23, e116_24, e116_27, e116_28, e116_29, e116_30, e116_33, e116_36, e116_37, e116_38, e116_39, e116_42, e116_45, e116_47, e116_48, e116_49, e116_50, e116_53, e116_56, e116_58, e116_59, e116_60, e116_61, e116_62, e116_63, e116_66, e116_67, e116_69, e116_71, e116_74, kv_s, kh_s, kr_s, kr_v, kn_s, z0, z1, z2, nI_ltI, nI_leI, nI_eq, nI_add, oN, bz0, bz1, bw0, bw1, ltT, ltF, leT, leF, eqT, eqF, if_true, if_false, kI_n, wI_n, and_true, true_and, and_false, false_and, not_true, not_false_eq_true, cwo_1, cwr_1, cwg_0, cwg_1, cwg_2, cwa_0, cwl_0, cwo_3, cwr_3, cwg_3, cwa_R, cwl_R, cwo_5, cwr_5, cwg_4, cwg_5, cwg_6, cwg_7, cwg_8, cwa_1, cwl_1, cwo_7, cwr_7, cwg_9, cwg_10, cwg_11, cwg_12, cwg_13, cwa_2, cwl_2, cwo_17, cwr_17, cwg_14, cwa_3, cwl_3, cwp_0, cwp_1, cwp_2, cwp_3, cwp_4, cwp_5, cwp_6, cwp_7, cwp_8, cwp_9, cwp_10, cwp_11, cwp_12, cwp_13, cwp_14, cwu_0, cwu_R, cwu_1, cwu_2, cwu_3, vu_at, vu_ne, pk_us, pk_un, h.x.f0, h.x.f1, h.x.f2, h.x.f3, h.x.f4, h.x.f5, h.x.f6, h.x.f7, h.x.o, h.hi.o, h.hi.gd, h.hi.gf, h.hi.gl, Hi_keys h.hi h.d8, Hi_hasKey h.hi h.d8, Rw_empty, Rw_add, List.nil_append, List.cons_append, upd_upd, cwo_1, cwo_3, cwo_5, cwo_7, cwo_17, Bool.false_eq_true, n01, hk, hk2]
  · rw [if_neg (fun z => h1 z.1)]
    rw [decide_eq_false h1] at hk
    refine ⟨σ, ?_, h, afar.rf⟩
    have h := hb
    rw [q116]
    simp (disch := first | omega | exact tl_l | exact tT_len | (simp only [List.length_cons, List.length_nil])) only [e116_0, e116_1, e116_4, e116_5, e116_8, e116_11, e116_12, e116_15, e116_16, e116_19, e116_22, e116_23, e116_24, e116_27, e116_28, e116_29, e116_30, e116_33, e116_36, e116_37, e116_38, e116_39, e116_42, e116_45, e116_47, e116_48, e116_49, e116_50, e116_53, e116_56, e116_58, e116_59, e116_60, e116_61, e116_62, e116_63, e116_66, e116_67, e116_69, e116_71, e116_74, kv_s, kh_s, kr_s, kr_v, kn_s, z0, z1, z2, nI_ltI, nI_leI, nI_eq, nI_add, oN, bz0, bz1, bw0, bw1, ltT, ltF, leT, leF, eqT, eqF, if_true, if_false, kI_n, wI_n, and_true, true_and, and_false, false_and, not_true, not_false_eq_true, cwo_1, cwr_1, cwg_0, cwg_1, cwg_2, cwa_0, cwl_0, cwo_3, cwr_3, cwg_3, cwa_R, cwl_R, cwo_5, cwr_5, cwg_4, cwg_5, cwg_6, cwg_7, cwg_8, cwa_1, cwl_1, cwo_7, cwr_7, cwg_9, cwg_10, cwg_11, cwg_12, cwg_13, cwa_2, cwl_2, cwo_17, cwr_17, cwg_14, cwa_3, cwl_3, cwp_0, cwp_1, cwp_2, cwp_3, cwp_4, cwp_5, cwp_6, cwp_7, cwp_8, cwp_9, cwp_10, cwp_11, cwp_12, cwp_13, cwp_14, cwu_0, cwu_R, cwu_1, cwu_2, cwu_3, vu_at, vu_ne, pk_us, pk_un, h.x.f0, h.x.f1, h.x.f2, h.x.f3, h.x.f4, h.x.f5, h.x.f6, h.x.f7, h.x.o, h.hi.o, h.hi.gd, h.hi.gf, h.hi.gl, Hi_keys h.hi h.d8, Hi_hasKey h.hi h.d8, Rw_empty, Rw_add, List.nil_append, List.cons_append, upd_upd, cwo_1, cwo_3, cwo_5, cwo_7, cwo_17, Bool.false_eq_true, n01, hk]
theorem C_back (h : BC c σ z K) (hl : z.2.2.1 + 1 < 2 ^ 30) {v : Nat} (hv : v < 2 ^ 31) : CA c 120 [.ref c, .int (nI v)] σ A R I K (bckF z v) := by
  obtain ⟨T, hb⟩ := h.rb
  have hfl := hb.fl
  unfold bckF
  by_cases h1 : z.2.1 ≤ v ∧ v ≤ z.2.2.1
  · rw [if_pos h1]
    obtain ⟨t, t1, t2⟩ := hb.t h1.1 h1.2
    have far := (hb.far (Nat.mod_lt _ (by omega)) t1).1
    obtain ⟨d0, W0, hdr⟩ := h.dr
    obtain ⟨τ, k1, D⟩ := D_take hdr (t2 (A := A) (R := R) (I := I)) far
    obtain ⟨ρ, s1, s2, s3⟩ := A_settle (A := A) (R := R) (I := I) (h.dft D) D.2.2 hl (x := -nI 5) (y := -nI 2)
    refine ⟨ρ, ?_, s2, D.afar.tr s3⟩
    have hb1 := hb.dft D
    have o0 := BC_dobj h (A := A) (R := R) (I := I)
    have h := hb
    rw [q120]
    simp (disch := first | omega | exact tl_l | exact tT_len | (simp only [List.length_cons, List.length_nil])) only [e120_0, e120_1, e120_4, e120_5, e120_8, e120_8n, e120_9, e120_9n, e120_10, e120_10n, e120_13, e120_14, e120_15, e120_16, e120_19, e120_19n, e120_20, e120_23, e120_24, e120_26, e120_28, e120_31, kv_s, kh_s, kr_s, kr_v, kn_s, z0, z1, z2, nI_ltI, nI_leI, nI_eq, nI_add, oN, bz0, bz1, bw0, bw1, ltT, ltF, leT, leF, eqT, eqF, if_true, if_false, kI_n, wI_n, and_true, true_and, and_false, false_and, not_true, not_false_eq_true, cwo_1, cwr_1, cwg_0, cwg_1, cwg_2, cwa_0, cwl_0, cwo_3, cwr_3, cwg_3, cwa_R, cwl_R, cwo_5, cwr_5, cwg_4, cwg_5, cwg_6, cwg_7, cwg_8, cwa_1, cwl_1, cwo_7, cwr_7, cwg_9, cwg_10, cwg_11, cwg_12, cwg_13, cwa_2, cwl_2, cwo_17, cwr_17, cwg_14, cwa_3, cwl_3, cwp_0, cwp_1, cwp_2, cwp_3, cwp_4, cwp_5, cwp_6, cwp_7, cwp_8, cwp_9, cwp_10, cwp_11, cwp_12, cwp_13, cwp_14, cwu_0, cwu_R, cwu_1, cwu_2, cwu_3, vu_at, vu_ne, pk_us, pk_un, h.x.f0, h.x.f1, h.x.f2, h.x.f3, h.x.f4, h.x.f5, h.x.f6, h.x.f7, h.x.o, h.hi.o, h.hi.gd, h.hi.gf, h.hi.gl, Hi_keys h.hi h.d8, Hi_hasKey h.hi h.d8, Rw_empty, Rw_add, List.nil_append, List.cons_append, upd_upd, cwo_1, cwo_3, cwo_5, cwo_7, cwo_17, Bool.false_eq_true, n01, Hi_find_is h.hi (show z.2.2.1 < 2 ^ 31 by omega) h1.1 h1.2 t1, o0, k1, hb1.x.f0, hb1.x.f1, hb1.x.f2, hb1.x.f3, hb1.x.f4, hb1.x.f5, hb1.x.f6, hb1.x.f7, hb1.x.o, hb1.hi.o, hb1.hi.gd, hb1.hi.gf, hb1.hi.gl, Hi_keys hb1.hi hb1.d8, Hi_hasKey hb1.hi hb1.d8, s1, z5]
  · rw [if_neg h1]
    refine ⟨σ, ?_, h, afar.rf⟩
    have hx : nI v < nI z.2.1 ∨ nI z.2.2.1 < nI v := by
      rcases Nat.lt_or_ge v z.2.1 with q | q
      · exact Or.inl ((nI_ltI hv (by omega)).mpr q)
      · exact Or.inr ((nI_ltI (by omega) hv).mpr (by omega))
    have h := hb
    rw [q120]
    simp (disch := first | omega | exact tl_l | exact tT_len | (simp only [List.length_cons, List.length_nil])) only [e120_0, e120_1, e120_4, e120_5, e120_8, e120_8n, e120_9, e120_9n, e120_10, e120_10n, e120_13, e120_14, e120_15, e120_16, e120_19, e120_19n, e120_20, e120_23, e120_24, e120_26, e120_28, e120_31, kv_s, kh_s, kr_s, kr_v, kn_s, z0, z1, z2, nI_ltI, nI_leI, nI_eq, nI_add, oN, bz0, bz1, bw0, bw1, ltT, ltF, leT, leF, eqT, eqF, if_true, if_false, kI_n, wI_n, and_true, true_and, and_false, false_and, not_true, not_false_eq_true, cwo_1, cwr_1, cwg_0, cwg_1, cwg_2, cwa_0, cwl_0, cwo_3, cwr_3, cwg_3, cwa_R, cwl_R, cwo_5, cwr_5, cwg_4, cwg_5, cwg_6, cwg_7, cwg_8, cwa_1, cwl_1, cwo_7, cwr_7, cwg_9, cwg_10, cwg_11, cwg_12, cwg_13, cwa_2, cwl_2, cwo_17, cwr_17, cwg_14, cwa_3, cwl_3, cwp_0, cwp_1, cwp_2, cwp_3, cwp_4, cwp_5, cwp_6, cwp_7, cwp_8, cwp_9, cwp_10, cwp_11, cwp_12, cwp_13, cwp_14, cwu_0, cwu_R, cwu_1, cwu_2, cwu_3, vu_at, vu_ne, pk_us, pk_un, h.x.f0, h.x.f1, h.x.f2, h.x.f3, h.x.f4, h.x.f5, h.x.f6, h.x.f7, h.x.o, h.hi.o, h.hi.gd, h.hi.gf, h.hi.gl, Hi_keys h.hi h.d8, Hi_hasKey h.hi h.d8, Rw_empty, Rw_add, List.nil_append, List.cons_append, upd_upd, cwo_1, cwo_3, cwo_5, cwo_7, cwo_17, Bool.false_eq_true, n01, Hi_find_no h.hi hx]
end AE
