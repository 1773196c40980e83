/-! calls: undo -/
section UN
variable {c : Nat} {σ τ : Hp} {m : Nat} {A : Nat → Nat → Int32} {R : Nat → Int64} {I : Nat → Int32} {z : Hs} {K : Nat → Option Hs} {d f l : Nat} {V : Nat → Nat → Int32}
theorem M_undo_loop (hf : f ≤ l) (hl : l < f + 12) (hl2 : l < 2 ^ 30) : ∀ (n k : Nat) (N N0 : Nat → Int32), k + n = 256 → N0 1 = nI f → N0 2 = nI (l - f + 1) → (∀ j, j < 3 + 256 * (l - f) → N j = N0 j) → ∃ N', den 244 19 [.ref m, .int (nI k)] [] (mw σ m (va_up A 1 N) R I) = some (some (.int (nI l - nI 1)), mw σ m (va_up A 1 N') R I) ∧ N' 2 = nI (l - f) ∧ ∀ j, j ≠ 2 → j < 3 + 256 * (l - f) → N' j = N0 j := by
  have e2 : nI (f + (l - f + 1)) - nI 1 = nI l := by rw [pk_sub (by omega), show f + (l - f + 1) - 1 = l by omega]
  have hlat : ∀ (N : Nat → Int32), N 1 = nI f → N 2 = nI (l - f + 1) → dcall 159 [.ref m] (mw σ m (va_up A 1 N) R I) = some (some (.int (nI l)), mw σ m (va_up A 1 N) R I) := fun N q1 q2 => by
    rw [q159]
    simp (disch := first | omega | exact tl_l | exact tT_len | (simp only [List.length_cons, List.length_nil])) only [e159_0, e159_1, e159_4, e159_5, e159_6, e159_7, e159_10, e159_11, e159_12, e159_13, e159_14, e159_15, kv_s, kh_s, kr_s, kr_v, kn_s, z0, z1, z2, nI_ltI, nI_leI, nI_eq, nI_add, oN, bz0, bz1, bw0, bw1, ltT, ltF, leT, leF, eqT, eqF, if_true, if_false, kI_n, wI_n, and_true, true_and, and_false, false_and, not_true, not_false_eq_true, mwo, mwr_0, mwr_1, mwr_2, mwg_3, mwp_3, mwr_4, mwg_5, mwp_5, mwg_6, mwp_6, mwr_7, mwr_8, mwg_9, mwp_9, mwg_10, mwp_10, mwg_11, mwp_11, mwr_12, mwg_13, mwp_13, mwr_14, mwr_15, mwr_16, mwr_17, mwr_18, mwr_19, mwg_20, mwp_20, mwr_21, mwr_22, mwr_23, mwa_1, mwu_1, mwa_2, mwu_2, mwa_3, mwu_3, mwa_4, mwu_4, mwa_5, mwu_5, mwa_6, mwu_6, mwa_7, mwu_7, mwa_8, mwu_8, mwa_9, mwu_9, mwa_10, mwu_10, mwa_11, mwu_11, mwa_12, mwu_12, mwa_13, mwu_13, mwa_14, mwu_14, mwa_15, mwu_15, mwa_16, mwu_16, vu_at, vu_ne, pk_us, pk_un, kB_n, wB_n, kL_n, wL_n, q1, q2, e2]
  have hlat2 : ∀ (N : Nat → Int32), N 1 = nI f → N 2 = nI (l - f) → dcall 159 [.ref m] (mw σ m (va_up A 1 N) R I) = some (some (.int (nI l - nI 1)), mw σ m (va_up A 1 N) R I) := fun N q1 q2 => by
    have e3 : f + (l - f) = l := by omega
    rw [q159]
    simp (disch := first | omega | exact tl_l | exact tT_len | (simp only [List.length_cons, List.length_nil])) only [e159_0, e159_1, e159_4, e159_5, e159_6, e159_7, e159_10, e159_11, e159_12, e159_13, e159_14, e159_15, kv_s, kh_s, kr_s, kr_v, kn_s, z0, z1, z2, nI_ltI, nI_leI, nI_eq, nI_add, oN, bz0, bz1, bw0, bw1, ltT, ltF, leT, leF, eqT, eqF, if_true, if_false, kI_n, wI_n, and_true, true_and, and_false, false_and, not_true, not_false_eq_true, mwo, mwr_0, mwr_1, mwr_2, mwg_3, mwp_3, mwr_4, mwg_5, mwp_5, mwg_6, mwp_6, mwr_7, mwr_8, mwg_9, mwp_9, mwg_10, mwp_10, mwg_11, mwp_11, mwr_12, mwg_13, mwp_13, mwr_14, mwr_15, mwr_16, mwr_17, mwr_18, mwr_19, mwg_20, mwp_20, mwr_21, mwr_22, mwr_23, mwa_1, mwu_1, mwa_2, mwu_2, mwa_3, mwu_3, mwa_4, mwu_4, mwa_5, mwu_5, mwa_6, mwu_6, mwa_7, mwu_7, mwa_8, mwu_8, mwa_9, mwu_9, mwa_10, mwu_10, mwa_11, mwu_11, mwa_12, mwu_12, mwa_13, mwu_13, mwa_14, mwu_14, mwa_15, mwu_15, mwa_16, mwu_16, vu_at, vu_ne, pk_us, pk_un, kB_n, wB_n, kL_n, wL_n, q1, q2, e3]
  have hat : ∀ (N : Nat → Int32) (k : Nat), N 1 = nI f → dcall 162 [.ref m, .int (nI l), .int (nI k)] (mw σ m (va_up A 1 N) R I) = some (some (.int (nI (3 + 256 * (l - f) + k))), mw σ m (va_up A 1 N) R I) := fun N k q1 => by
    rw [q162]
    simp (disch := first | omega | exact tl_l | exact tT_len | (simp only [List.length_cons, List.length_nil])) only [e162_0, e162_1, e162_4, e162_5, e162_6, e162_9, e162_10, e162_11, e162_12, e162_13, e162_14, e162_15, e162_16, kv_s, kh_s, kr_s, kr_v, kn_s, z0, z1, z2, nI_ltI, nI_leI, nI_eq, nI_add, oN, bz0, bz1, bw0, bw1, ltT, ltF, leT, leF, eqT, eqF, if_true, if_false, kI_n, wI_n, and_true, true_and, and_false, false_and, not_true, not_false_eq_true, mwo, mwr_0, mwr_1, mwr_2, mwg_3, mwp_3, mwr_4, mwg_5, mwp_5, mwg_6, mwp_6, mwr_7, mwr_8, mwg_9, mwp_9, mwg_10, mwp_10, mwg_11, mwp_11, mwr_12, mwg_13, mwp_13, mwr_14, mwr_15, mwr_16, mwr_17, mwr_18, mwr_19, mwg_20, mwp_20, mwr_21, mwr_22, mwr_23, mwa_1, mwu_1, mwa_2, mwu_2, mwa_3, mwu_3, mwa_4, mwu_4, mwa_5, mwu_5, mwa_6, mwu_6, mwa_7, mwu_7, mwa_8, mwu_8, mwa_9, mwu_9, mwa_10, mwu_10, mwa_11, mwu_11, mwa_12, mwu_12, mwa_13, mwu_13, mwa_14, mwu_14, mwa_15, mwu_15, mwa_16, mwu_16, vu_at, vu_ne, pk_us, pk_un, kB_n, wB_n, kL_n, wL_n, z3, z256, q1, pk_sub, pk_mul]
  intro n
  induction n with
  | zero =>
    intro k N N0 hk c1 c2 h5
    have : k = 256 := by omega
    subst this
    have q1 : N 1 = nI f := (h5 1 (by omega)).trans c1
    have q2 : N 2 = nI (l - f + 1) := (h5 2 (by omega)).trans c2
    have e3 : nI (l - f + 1) - nI 1 = nI (l - f) := pk_sub (by omega)
    have hl3 := hlat2 (upd N 2 (nI (l - f))) (by rw [pk_un (by omega)]; exact q1) pk_us
    refine ⟨upd N 2 (nI (l - f)), ?_, pk_us, fun j q3 q4 => by rw [pk_un q3]; exact h5 j q4⟩
    rw [e244_19]
    simp (disch := first | omega | exact tl_l | exact tT_len | (simp only [List.length_cons, List.length_nil])) only [e244_0, e244_1, e244_2, e244_5, e244_6, e244_9, e244_10, e244_11, e244_12, e244_15, e244_16, e244_17, e244_18, e244_20, e244_23, e244_26, e244_27, e244_30, e244_31, e244_32, e244_35, e244_36, e244_39, e244_40, e244_41, e244_44, e244_47, e244_48, e244_51, e244_52, e244_53, e244_54, e244_55, e244_56, e244_57, e244_58, e244_61, kv_s, kh_s, kr_s, kr_v, kn_s, z0, z1, z2, nI_ltI, nI_leI, nI_eq, nI_add, oN, bz0, bz1, bw0, bw1, ltT, ltF, leT, leF, eqT, eqF, if_true, if_false, kI_n, wI_n, and_true, true_and, and_false, false_and, not_true, not_false_eq_true, mwo, mwr_0, mwr_1, mwr_2, mwg_3, mwp_3, mwr_4, mwg_5, mwp_5, mwg_6, mwp_6, mwr_7, mwr_8, mwg_9, mwp_9, mwg_10, mwp_10, mwg_11, mwp_11, mwr_12, mwg_13, mwp_13, mwr_14, mwr_15, mwr_16, mwr_17, mwr_18, mwr_19, mwg_20, mwp_20, mwr_21, mwr_22, mwr_23, mwa_1, mwu_1, mwa_2, mwu_2, mwa_3, mwu_3, mwa_4, mwu_4, mwa_5, mwu_5, mwa_6, mwu_6, mwa_7, mwu_7, mwa_8, mwu_8, mwa_9, mwu_9, mwa_10, mwu_10, mwa_11, mwu_11, mwa_12, mwu_12, mwa_13, mwu_13, mwa_14, mwu_14, mwa_15, mwu_15, mwa_16, mwu_16, vu_at, vu_ne, pk_us, pk_un, kB_n, wB_n, kL_n, wL_n, z256, mwo, q2, e3, vu_vu, hl3]
  | succ n ih =>
    intro k N N0 hk c1 c2 h5
    have q1 : N 1 = nI f := (h5 1 (by omega)).trans c1
    have q2 : N 2 = nI (l - f + 1) := (h5 2 (by omega)).trans c2
    obtain ⟨N', e1, e3, e4⟩ := ih (k + 1) (upd N (3 + 256 * (l - f) + k) (nI 0)) N0 (by omega) c1 c2 (fun j q => by rw [pk_un (by omega)]; exact h5 j q)
    refine ⟨N', ?_, e3, e4⟩
    rw [← e1]
    rw [e244_19]
    simp (disch := first | omega | exact tl_l | exact tT_len | (simp only [List.length_cons, List.length_nil])) only [e244_0, e244_1, e244_2, e244_5, e244_6, e244_9, e244_10, e244_11, e244_12, e244_15, e244_16, e244_17, e244_18, e244_20, e244_23, e244_26, e244_27, e244_30, e244_31, e244_32, e244_35, e244_36, e244_39, e244_40, e244_41, e244_44, e244_47, e244_48, e244_51, e244_52, e244_53, e244_54, e244_55, e244_56, e244_57, e244_58, e244_61, kv_s, kh_s, kr_s, kr_v, kn_s, z0, z1, z2, nI_ltI, nI_leI, nI_eq, nI_add, oN, bz0, bz1, bw0, bw1, ltT, ltF, leT, leF, eqT, eqF, if_true, if_false, kI_n, wI_n, and_true, true_and, and_false, false_and, not_true, not_false_eq_true, mwo, mwr_0, mwr_1, mwr_2, mwg_3, mwp_3, mwr_4, mwg_5, mwp_5, mwg_6, mwp_6, mwr_7, mwr_8, mwg_9, mwp_9, mwg_10, mwp_10, mwg_11, mwp_11, mwr_12, mwg_13, mwp_13, mwr_14, mwr_15, mwr_16, mwr_17, mwr_18, mwr_19, mwg_20, mwp_20, mwr_21, mwr_22, mwr_23, mwa_1, mwu_1, mwa_2, mwu_2, mwa_3, mwu_3, mwa_4, mwu_4, mwa_5, mwu_5, mwa_6, mwu_6, mwa_7, mwu_7, mwa_8, mwu_8, mwa_9, mwu_9, mwa_10, mwu_10, mwa_11, mwu_11, mwa_12, mwu_12, mwa_13, mwu_13, mwa_14, mwu_14, mwa_15, mwu_15, mwa_16, mwu_16, vu_at, vu_ne, pk_us, pk_un, kB_n, wB_n, kL_n, wL_n, z256, hlat N q1 q2, hat N k q1, vu_vu]
end UN
theorem J_undo : Jn 127 244 [] := by
  rintro c i σ hi ⟨z, n, B, L, q, K, A, R, I, A2, R2, I2, h⟩
  have hC := h.2.2.1
  obtain ⟨T, hb⟩ := h.rb
  have hN := h.nm
  have hfl := hb.fl
  obtain ⟨g0, g1, g2, g3, g4, g5, g6, g7⟩ := hN
  by_cases h1 : z.2.1 = z.2.2.1
  · have e1 : z.2.2.1 - z.2.1 + 1 = 1 := by omega
    refine Inv_same h hi (b := .int (-nI 1)) ?_ ?_
    · have h := hb
      rw [q127]
      simp (disch := first | omega | exact tl_l | exact tT_len | (simp only [List.length_cons, List.length_nil])) only [e127_0, e127_1, e127_4, e127_7, e127_8, e127_11, e127_12, e127_13, e127_14, e127_17, e127_18, e127_21, e127_22, e127_23, e127_26, e127_27, e127_30, e127_33, kv_s, kh_s, kr_s, kr_v, kn_s, z0, z1, z2, nI_ltI, nI_leI, nI_eq, nI_add, oN, bz0, bz1, bw0, bw1, ltT, ltF, leT, leF, eqT, eqF, if_true, if_false, kI_n, wI_n, and_true, true_and, and_false, false_and, not_true, not_false_eq_true, cwo_1, cwr_1, cwg_0, cwg_1, cwg_2, cwa_0, cwl_0, cwo_3, cwr_3, cwg_3, cwa_R, cwl_R, cwo_5, cwr_5, cwg_4, cwg_5, cwg_6, cwg_7, cwg_8, cwa_1, cwl_1, cwo_7, cwr_7, cwg_9, cwg_10, cwg_11, cwg_12, cwg_13, cwa_2, cwl_2, cwo_17, cwr_17, cwg_14, cwa_3, cwl_3, cwp_0, cwp_1, cwp_2, cwp_3, cwp_4, cwp_5, cwp_6, cwp_7, cwp_8, cwp_9, cwp_10, cwp_11, cwp_12, cwp_13, cwp_14, cwu_0, cwu_R, cwu_1, cwu_2, cwu_3, vu_at, vu_ne, pk_us, pk_un, h.x.f0, h.x.f1, h.x.f2, h.x.f3, h.x.f4, h.x.f5, h.x.f6, h.x.f7, h.x.o, h.hi.o, h.hi.gd, h.hi.gf, h.hi.gl, Hi_keys h.hi h.d8, Hi_hasKey h.hi h.d8, Rw_empty, Rw_add, List.nil_append, List.cons_append, upd_upd, cwo_1, cwo_3, cwo_5, cwo_7, cwo_17, Bool.false_eq_true, n01, Hi_kept h.hi hfl.1, e1]
    · intro τ
      refine ⟨A2, upd I2 6 (nI 0), ?_, stay.rf, pk_un (by omega), pk_un (by omega)⟩
      rw [q244]
      simp (disch := first | omega | exact tl_l | exact tT_len | (simp only [List.length_cons, List.length_nil])) only [e244_0, e244_1, e244_2, e244_5, e244_6, e244_9, e244_10, e244_11, e244_12, e244_15, e244_16, e244_17, e244_18, e244_20, e244_23, e244_26, e244_27, e244_30, e244_31, e244_32, e244_35, e244_36, e244_39, e244_40, e244_41, e244_44, e244_47, e244_48, e244_51, e244_52, e244_53, e244_54, e244_55, e244_56, e244_57, e244_58, e244_61, kv_s, kh_s, kr_s, kr_v, kn_s, z0, z1, z2, nI_ltI, nI_leI, nI_eq, nI_add, oN, bz0, bz1, bw0, bw1, ltT, ltF, leT, leF, eqT, eqF, if_true, if_false, kI_n, wI_n, and_true, true_and, and_false, false_and, not_true, not_false_eq_true, mwo, mwr_0, mwr_1, mwr_2, mwg_3, mwp_3, mwr_4, mwg_5, mwp_5, mwg_6, mwp_6, mwr_7, mwr_8, mwg_9, mwp_9, mwg_10, mwp_10, mwg_11, mwp_11, mwr_12, mwg_13, mwp_13, mwr_14, mwr_15, mwr_16, mwr_17, mwr_18, mwr_19, mwg_20, mwp_20, mwr_21, mwr_22, mwr_23, mwa_1, mwu_1, mwa_2, mwu_2, mwa_3, mwu_3, mwa_4, mwu_4, mwa_5, mwu_5, mwa_6, mwu_6, mwa_7, mwu_7, mwa_8, mwu_8, mwa_9, mwu_9, mwa_10, mwu_10, mwa_11, mwu_11, mwa_12, mwu_12, mwa_13, mwu_13, mwa_14, mwu_14, mwa_15, mwu_15, mwa_16, mwu_16, vu_at, vu_ne, pk_us, pk_un, kB_n, wB_n, kL_n, wL_n, g2, e1]
  · obtain ⟨d, f, l, V⟩ := z
    have h1 : ¬ f = l := h1
    have hfl : f ≤ l ∧ l < f + 12 ∧ l < 2 ^ 30 := hfl
    obtain ⟨p, rfl⟩ : ∃ p, l = p + 1 := ⟨l - 1, by omega⟩
    have e1 : ¬ p + 1 - f + 1 ≤ 1 := by omega
    have e1' : ¬ p + 1 - f + 1 = 1 := by omega
    have hH := hb.2.up (A := A) (R := R) (I := I)
    have hfp : f ≤ p := by omega
    obtain ⟨u1, u2, u3⟩ := Hi_undo (l := p) hH hfp
    have hx0 := hb.x (A := A) (R := R) (I := I)
    have xh : isX (hh (cw σ c A R I) (c + 9) d f p) c := (hh_ne (by omega)).trans hx0
    have hcw : cw (hh (cw σ c A R I) (c + 9) d f p) c A R I = hh (cw σ c A R I) (c + 9) d f p := cw_keep (σ := σ) fun a q1 q2 q3 => hh_ne (by omega)
    have hB : BC c (hh (cw σ c A R I) (c + 9) d f p) (d, f, p, V) K := BC.past hC.cw ⟨hx0, hH⟩ u3 u2
    obtain ⟨N', n1, n2, n3⟩ := M_undo_loop (σ := cw (hh (cw σ c A R I) (c + 9) d f p) c A R I) (m := c + 24) (A := A2) (R := R2) (I := upd I2 6 (nI 0)) (f := f) (l := p + 1) (by omega) (by omega) (by omega) 256 0 (A2 1) (A2 1) (Nat.zero_add _) g1 g2 (fun j _ => rfl)
    rw [vu_id, pk_sub (by omega), Nat.add_sub_cancel] at n1
    refine Inv_mk h (ρ := hh (cw σ c A R I) (c + 9) d f p) (b := .int (nI p)) (A' := A) (R' := R) (I' := I) (A2' := va_up A2 1 N') (R2' := R2) (I2' := upd I2 6 (nI 0)) ?_ hB (fun a q1 q2 => (hh_ne (by omega)).trans (cw_out (by omega))) ?_ h.2.2.2.1 (h.2.2.2.2.1.mk ?_ (fun k q1 q2 => vu_ne q1) (pk_un (by omega)) (pk_un (by omega))) (h.2.2.2.2.2.mk hi (fun v q1 q2 => h.ok v q1 (Nat.le_succ_of_le q2)) (by show p ≤ p + 1 + 1; omega))
    · rw [hcw]
      have e2 : nI (p + 1) - nI 1 = nI p := pk_sub (by omega)
      have h := hb
      rw [q127]
      simp (disch := first | omega | exact tl_l | exact tT_len | (simp only [List.length_cons, List.length_nil])) only [e127_0, e127_1, e127_4, e127_7, e127_8, e127_11, e127_12, e127_13, e127_14, e127_17, e127_18, e127_21, e127_22, e127_23, e127_26, e127_27, e127_30, e127_33, kv_s, kh_s, kr_s, kr_v, kn_s, z0, z1, z2, nI_ltI, nI_leI, nI_eq, nI_add, oN, bz0, bz1, bw0, bw1, ltT, ltF, leT, leF, eqT, eqF, if_true, if_false, kI_n, wI_n, and_true, true_and, and_false, false_and, not_true, not_false_eq_true, cwo_1, cwr_1, cwg_0, cwg_1, cwg_2, cwa_0, cwl_0, cwo_3, cwr_3, cwg_3, cwa_R, cwl_R, cwo_5, cwr_5, cwg_4, cwg_5, cwg_6, cwg_7, cwg_8, cwa_1, cwl_1, cwo_7, cwr_7, cwg_9, cwg_10, cwg_11, cwg_12, cwg_13, cwa_2, cwl_2, cwo_17, cwr_17, cwg_14, cwa_3, cwl_3, cwp_0, cwp_1, cwp_2, cwp_3, cwp_4, cwp_5, cwp_6, cwp_7, cwp_8, cwp_9, cwp_10, cwp_11, cwp_12, cwp_13, cwp_14, cwu_0, cwu_R, cwu_1, cwu_2, cwu_3, vu_at, vu_ne, pk_us, pk_un, h.x.f0, h.x.f1, h.x.f2, h.x.f3, h.x.f4, h.x.f5, h.x.f6, h.x.f7, h.x.o, h.hi.o, h.hi.gd, h.hi.gf, h.hi.gl, Hi_keys h.hi h.d8, Hi_hasKey h.hi h.d8, Rw_empty, Rw_add, List.nil_append, List.cons_append, upd_upd, cwo_1, cwo_3, cwo_5, cwo_7, cwo_17, Bool.false_eq_true, n01, Hi_kept h.hi hfl.1, e1, e2, u1, xh.f4, u2.1.gl, u2.1.o]
    · rw [← n1]
      rw [q244]
      simp (disch := first | omega | exact tl_l | exact tT_len | (simp only [List.length_cons, List.length_nil])) only [e244_0, e244_1, e244_2, e244_5, e244_6, e244_9, e244_10, e244_11, e244_12, e244_15, e244_16, e244_17, e244_18, e244_20, e244_23, e244_26, e244_27, e244_30, e244_31, e244_32, e244_35, e244_36, e244_39, e244_40, e244_41, e244_44, e244_47, e244_48, e244_51, e244_52, e244_53, e244_54, e244_55, e244_56, e244_57, e244_58, e244_61, kv_s, kh_s, kr_s, kr_v, kn_s, z0, z1, z2, nI_ltI, nI_leI, nI_eq, nI_add, oN, bz0, bz1, bw0, bw1, ltT, ltF, leT, leF, eqT, eqF, if_true, if_false, kI_n, wI_n, and_true, true_and, and_false, false_and, not_true, not_false_eq_true, mwo, mwr_0, mwr_1, mwr_2, mwg_3, mwp_3, mwr_4, mwg_5, mwp_5, mwg_6, mwp_6, mwr_7, mwr_8, mwg_9, mwp_9, mwg_10, mwp_10, mwg_11, mwp_11, mwr_12, mwg_13, mwp_13, mwr_14, mwr_15, mwr_16, mwr_17, mwr_18, mwr_19, mwg_20, mwp_20, mwr_21, mwr_22, mwr_23, mwa_1, mwu_1, mwa_2, mwu_2, mwa_3, mwu_3, mwa_4, mwu_4, mwa_5, mwu_5, mwa_6, mwu_6, mwa_7, mwu_7, mwa_8, mwu_8, mwa_9, mwu_9, mwa_10, mwu_10, mwa_11, mwu_11, mwa_12, mwu_12, mwa_13, mwu_13, mwa_14, mwu_14, mwa_15, mwu_15, mwa_16, mwu_16, vu_at, vu_ne, pk_us, pk_un, kB_n, wB_n, kL_n, wL_n, g2, e1']
    · rw [vu_at]
      refine ⟨(n3 0 (by omega) (by omega)).trans g0, (n3 1 (by omega) (by omega)).trans g1, n2.trans (by rw [show p - f + 1 = p + 1 - f by omega]), g3, by show f ≤ p; omega, by show p < f + 12; omega, by show p < 2 ^ 30; omega, fun v k q1 q2 q3 => ?_⟩
      have q2 : v ≤ p := q2
      have q1 : f ≤ v := q1
      show N' (3 + 256 * (v - f) + k) = V v k
      rw [n3 _ (show 3 + 256 * (v - f) + k ≠ 2 by omega) (show 3 + 256 * (v - f) + k < 3 + 256 * (p + 1 - f) by omega)]
      exact g7 v k q1 (Nat.le_succ_of_le q2) q3
