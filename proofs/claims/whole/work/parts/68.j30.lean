/-! calls: clears of the class -/
section AF
variable {c : Nat} {σ τ : Hp} {m : Nat} {A : Nat → Nat → Int32} {R : Nat → Int64} {I : Nat → Int32} {z : Hs} {K : Nat → Option Hs} {W N : Nat → Int32} {x y : Int32} {d : Nat} {V : Nat → Int32}
theorem C_clears_loop {T : Nat → Option Nat} {a b : Nat} (hb' : b < 2 ^ z.1) : ∀ (n k : Nat) (σ : Hp), RB c σ T z.1 z.2.1 z.2.2.1 z.2.2.2 → k + n = b + 1 → a ≤ k → isT σ (c + 12) z.1 (clr V a k) → ∃ τ, den 122 30 [.ref c, .int (nI a), .int (nI b), .int (nI k)] [] (cw σ c A R I) = den 122 50 [.ref c, .int (nI a), .int (nI b), .int (nI (b + 1))] [] (cw τ c A R I) ∧ dft c σ τ z.1 (clr V a (b + 1)) := by
  intro n
  induction n with
  | zero =>
    intro k σ hb hk ha hT
    have hK := hb.K
    have : k = b + 1 := by omega
    subst this
    refine ⟨σ, ?_, fun _ _ => rfl, rfl, hT⟩
    rw [e122_30]
    simp (disch := first | omega | exact tl_l | exact tT_len | (simp only [List.length_cons, List.length_nil])) only [e122_31, e122_32, e122_35, e122_36, e122_39, e122_40, e122_41, e122_44, e122_47, kv_s, kh_s, kr_s, kr_v, kn_s, z0, z1, z2, nI_ltI, nI_leI, nI_eq, nI_add, oN, bz0, bz1, bw0, bw1, ltT, ltF, leT, leF, eqT, eqF, if_true, if_false, kI_n, wI_n, and_true, true_and, and_false, false_and, not_true, not_false_eq_true]
  | succ n ih =>
    intro k σ hb hk ha hT
    have hK := hb.K
    obtain ⟨τ, e1, D⟩ := D_place (A := A) (R := R) (I := I) hT (show k < 2 ^ z.1 by omega) (nI 0)
    rw [clr_s ha] at D
    obtain ⟨ρ, e2, D2⟩ := ih (k + 1) τ (hb.dft D) (by omega) (by omega) D.2.2
    refine ⟨ρ, ?_, D.tr D2⟩
    rw [← e2]
    have o1 := (hT.dcw (A := A) (R := R) (I := I)).o
    have h := hb
    rw [e122_30]
    simp (disch := first | omega | exact tl_l | exact tT_len | (simp only [List.length_cons, List.length_nil])) only [e122_31, e122_32, e122_35, e122_36, e122_39, e122_40, e122_41, e122_44, e122_47, kv_s, kh_s, kr_s, kr_v, kn_s, z0, z1, z2, nI_ltI, nI_leI, nI_eq, nI_add, oN, bz0, bz1, bw0, bw1, ltT, ltF, leT, leF, eqT, eqF, if_true, if_false, kI_n, wI_n, and_true, true_and, and_false, false_and, not_true, not_false_eq_true, cwo_1, cwr_1, cwg_0, cwg_1, cwg_2, cwa_0, cwl_0, cwo_3, cwr_3, cwg_3, cwa_R, cwl_R, cwo_5, cwr_5, cwg_4, cwg_5, cwg_6, cwg_7, cwg_8, cwa_1, cwl_1, cwo_7, cwr_7, cwg_9, cwg_10, cwg_11, cwg_12, cwg_13, cwa_2, cwl_2, cwo_17, cwr_17, cwg_14, cwa_3, cwl_3, cwp_0, cwp_1, cwp_2, cwp_3, cwp_4, cwp_5, cwp_6, cwp_7, cwp_8, cwp_9, cwp_10, cwp_11, cwp_12, cwp_13, cwp_14, cwu_0, cwu_R, cwu_1, cwu_2, cwu_3, vu_at, vu_ne, pk_us, pk_un, h.x.f0, h.x.f1, h.x.f2, h.x.f3, h.x.f4, h.x.f5, h.x.f6, h.x.f7, h.x.o, h.hi.o, h.hi.gd, h.hi.gf, h.hi.gl, Hi_keys h.hi h.d8, Hi_hasKey h.hi h.d8, Rw_empty, Rw_add, List.nil_append, List.cons_append, upd_upd, cwo_1, cwo_3, cwo_5, cwo_7, cwo_17, Bool.false_eq_true, n01, o1, e1]
theorem C_clears (h : BC c σ z K) (hl : z.2.2.1 + 1 < 2 ^ 30) {a b : Nat} (ha : a < 2 ^ 31) (hb' : b < 2 ^ 31) : CA c 122 [.ref c, .int (nI a), .int (nI b)] σ A R I K (clrF z a b) := by
  obtain ⟨T, t, τ, hb, n1, t2, far, k1, D1, hb1, hc1, t3⟩ := C_new (A := A) (R := R) (I := I) h
  have hK := hb.K
  have hd := hb.d8
  unfold clrF
  by_cases h1 : a ≤ b ∧ b < 2 ^ z.1
  · rw [if_pos h1]
    have hs := isS_k hd h1.1 h1.2
    obtain ⟨τ2, k2, D2⟩ := C_clears_loop (A := A) (R := R) (I := I) (V := z.2.2.2 z.2.2.1) h1.2 (b + 1 - a) a τ hb1 (by omega) (Nat.le_refl _) (by rw [clr_0]; exact D1.2.2)
    have D := D1.tr D2
    obtain ⟨ρ, s1, s2, s3⟩ := A_settle (A := A) (R := R) (I := I) (h.dft D) D.2.2 hl (x := -nI 5) (y := -nI 2)
    refine ⟨ρ, ?_, s2, D.afar.tr s3⟩
    have o0 := BC_dobj h (A := A) (R := R) (I := I)
    have hb2 := hb.dft D
    have h := hb
    rw [q122]
    simp (disch := first | omega | exact tl_l | exact tT_len | (simp only [List.length_cons, List.length_nil])) only [e122_0, e122_1, e122_4, e122_5, e122_6, e122_9, e122_12, e122_13, e122_14, e122_15, e122_18, e122_19, e122_22, e122_25, e122_28, e122_29, e122_31, e122_32, e122_35, e122_36, e122_39, e122_40, e122_41, e122_44, e122_47, e122_50, e122_51, e122_53, e122_55, e122_58, kv_s, kh_s, kr_s, kr_v, kn_s, z0, z1, z2, nI_ltI, nI_leI, nI_eq, nI_add, oN, bz0, bz1, bw0, bw1, ltT, ltF, leT, leF, eqT, eqF, if_true, if_false, kI_n, wI_n, and_true, true_and, and_false, false_and, not_true, not_false_eq_true, cwo_1, cwr_1, cwg_0, cwg_1, cwg_2, cwa_0, cwl_0, cwo_3, cwr_3, cwg_3, cwa_R, cwl_R, cwo_5, cwr_5, cwg_4, cwg_5, cwg_6, cwg_7, cwg_8, cwa_1, cwl_1, cwo_7, cwr_7, cwg_9, cwg_10, cwg_11, cwg_12, cwg_13, cwa_2, cwl_2, cwo_17, cwr_17, cwg_14, cwa_3, cwl_3, cwp_0, cwp_1, cwp_2, cwp_3, cwp_4, cwp_5, cwp_6, cwp_7, cwp_8, cwp_9, cwp_10, cwp_11, cwp_12, cwp_13, cwp_14, cwu_0, cwu_R, cwu_1, cwu_2, cwu_3, vu_at, vu_ne, pk_us, pk_un, h.x.f0, h.x.f1, h.x.f2, h.x.f3, h.x.f4, h.x.f5, h.x.f6, h.x.f7, h.x.o, h.hi.o, h.hi.gd, h.hi.gf, h.hi.gl, Hi_keys h.hi h.d8, Hi_hasKey h.hi h.d8, Rw_empty, Rw_add, List.nil_append, List.cons_append, upd_upd, cwo_1, cwo_3, cwo_5, cwo_7, cwo_17, Bool.false_eq_true, n01, Hi_hasStretch h.hi h.d8, hs, n1, o0, k1]
    rw [k2]
    simp (disch := first | omega | exact tl_l | exact tT_len | (simp only [List.length_cons, List.length_nil])) only [e122_0, e122_1, e122_4, e122_5, e122_6, e122_9, e122_12, e122_13, e122_14, e122_15, e122_18, e122_19, e122_22, e122_25, e122_28, e122_29, e122_31, e122_32, e122_35, e122_36, e122_39, e122_40, e122_41, e122_44, e122_47, e122_50, e122_51, e122_53, e122_55, e122_58, kv_s, kh_s, kr_s, kr_v, kn_s, z0, z1, z2, nI_ltI, nI_leI, nI_eq, nI_add, oN, bz0, bz1, bw0, bw1, ltT, ltF, leT, leF, eqT, eqF, if_true, if_false, kI_n, wI_n, and_true, true_and, and_false, false_and, not_true, not_false_eq_true, cwo_1, cwr_1, cwg_0, cwg_1, cwg_2, cwa_0, cwl_0, cwo_3, cwr_3, cwg_3, cwa_R, cwl_R, cwo_5, cwr_5, cwg_4, cwg_5, cwg_6, cwg_7, cwg_8, cwa_1, cwl_1, cwo_7, cwr_7, cwg_9, cwg_10, cwg_11, cwg_12, cwg_13, cwa_2, cwl_2, cwo_17, cwr_17, cwg_14, cwa_3, cwl_3, cwp_0, cwp_1, cwp_2, cwp_3, cwp_4, cwp_5, cwp_6, cwp_7, cwp_8, cwp_9, cwp_10, cwp_11, cwp_12, cwp_13, cwp_14, cwu_0, cwu_R, cwu_1, cwu_2, cwu_3, vu_at, vu_ne, pk_us, pk_un, h.x.f0, h.x.f1, h.x.f2, h.x.f3, h.x.f4, h.x.f5, h.x.f6, h.x.f7, h.x.o, h.hi.o, h.hi.gd, h.hi.gf, h.hi.gl, Hi_keys h.hi h.d8, Hi_hasKey h.hi h.d8, Rw_empty, Rw_add, List.nil_append, List.cons_append, upd_upd, cwo_1, cwo_3, cwo_5, cwo_7, cwo_17, Bool.false_eq_true, n01, hb2.x.f0, hb2.x.f1, hb2.x.f2, hb2.x.f3, hb2.x.f4, hb2.x.f5, hb2.x.f6, hb2.x.f7, hb2.x.o, hb2.hi.o, hb2.hi.gd, hb2.hi.gf, hb2.hi.gl, Hi_keys hb2.hi hb2.d8, Hi_hasKey hb2.hi hb2.d8, s1, z5]
  · rw [if_neg h1]
    have hs : isS z.1 (nI a) (nI b) = false := by
      cases hs : isS z.1 (nI a) (nI b) with
      | false => rfl
      | true =>
        obtain ⟨a', b', e1, e2, e3, e4⟩ := isS_of hd hs
        have q1 := (nI_eq ha (by omega)).mp e1
        have q2 := (nI_eq hb' (by omega)).mp e2
        exact absurd ⟨by omega, by omega⟩ h1
    refine ⟨σ, ?_, h, afar.rf⟩
    have h := hb
    rw [q122]
    simp (disch := first | omega | exact tl_l | exact tT_len | (simp only [List.length_cons, List.length_nil])) only [e122_0, e122_1, e122_4, e122_5, e122_6, e122_9, e122_12, e122_13, e122_14, e122_15, e122_18, e122_19, e122_22, e122_25, e122_28, e122_29, e122_31, e122_32, e122_35, e122_36, e122_39, e122_40, e122_41, e122_44, e122_47, e122_50, e122_51, e122_53, e122_55, e122_58, kv_s, kh_s, kr_s, kr_v, kn_s, z0, z1, z2, nI_ltI, nI_leI, nI_eq, nI_add, oN, bz0, bz1, bw0, bw1, ltT, ltF, leT, leF, eqT, eqF, if_true, if_false, kI_n, wI_n, and_true, true_and, and_false, false_and, not_true, not_false_eq_true, cwo_1, cwr_1, cwg_0, cwg_1, cwg_2, cwa_0, cwl_0, cwo_3, cwr_3, cwg_3, cwa_R, cwl_R, cwo_5, cwr_5, cwg_4, cwg_5, cwg_6, cwg_7, cwg_8, cwa_1, cwl_1, cwo_7, cwr_7, cwg_9, cwg_10, cwg_11, cwg_12, cwg_13, cwa_2, cwl_2, cwo_17, cwr_17, cwg_14, cwa_3, cwl_3, cwp_0, cwp_1, cwp_2, cwp_3, cwp_4, cwp_5, cwp_6, cwp_7, cwp_8, cwp_9, cwp_10, cwp_11, cwp_12, cwp_13, cwp_14, cwu_0, cwu_R, cwu_1, cwu_2, cwu_3, vu_at, vu_ne, pk_us, pk_un, h.x.f0, h.x.f1, h.x.f2, h.x.f3, h.x.f4, h.x.f5, h.x.f6, h.x.f7, h.x.o, h.hi.o, h.hi.gd, h.hi.gf, h.hi.gl, Hi_keys h.hi h.d8, Hi_hasKey h.hi h.d8, Rw_empty, Rw_add, List.nil_append, List.cons_append, upd_upd, cwo_1, cwo_3, cwo_5, cwo_7, cwo_17, Bool.false_eq_true, n01, Hi_hasStretch h.hi h.d8, hs]
end AF
