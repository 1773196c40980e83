theorem nowM.cg {N N' : Nat → Int32} {d f l : Nat} {V : Nat → Nat → Int32} (h : nowM N d f l V) (e : ∀ k, k < 3075 → N' k = N k) : nowM N' d f l V := by
  obtain ⟨h0, h1, h2, h3, h4, h5, h6, h7⟩ := h
  exact ⟨(e 0 (by omega)).trans h0, (e 1 (by omega)).trans h1, (e 2 (by omega)).trans h2, h3, h4, h5, h6, fun v k q1 q2 q3 => (e _ (by omega)).trans (h7 v k q1 q2 q3)⟩
section KQ
variable {c : Nat} {σ τ : Hp} {m : Nat} {A : Nat → Nat → Int32} {R : Nat → Int64} {I : Nat → Int32} {z : Hs} {K : Nat → Option Hs}
theorem M_keep_loop {i : Nat} (hi : i < 2) : ∀ (n k : Nat) (N : Nat → Int32), k + n = 3075 → (∀ j, j < k → N (3075 * i + j) = A 1 j) → (∀ j, (j < 3075 * i ∨ 3075 * i + 3075 ≤ j) → N j = A 15 j) → ∃ N', den 247 25 [.ref m, .int (nI i), .int (nI k)] [] (mw σ m (va_up A 15 N) R I) = some (some (.int (nI 1)), mw σ m (va_up A 15 N') R I) ∧ (∀ j, j < 3075 → N' (3075 * i + j) = A 1 j) ∧ ∀ j, (j < 3075 * i ∨ 3075 * i + 3075 ≤ j) → N' j = A 15 j := by
  intro n
  induction n with
  | zero =>
    intro k N hk h1 h2
    have : k = 3075 := by omega
    subst this
    refine ⟨N, ?_, h1, h2⟩
    rw [e247_25]
    simp (disch := first | omega | exact tl_l | exact tT_len | (simp only [List.length_cons, List.length_nil])) only [e247_0, e247_1, e247_2, e247_5, e247_6, e247_7, e247_8, e247_11, e247_14, e247_15, e247_16, e247_17, e247_20, e247_21, e247_22, e247_23, e247_24, e247_26, e247_29, e247_32, e247_33, e247_36, e247_39, e247_40, e247_41, e247_42, e247_43, e247_44, e247_47, e247_48, e247_49, e247_50, e247_53, e247_56, e247_57, kv_s, kh_s, kr_s, kr_v, kn_s, z0, z1, z2, nI_ltI, nI_leI, nI_eq, nI_add, oN, bz0, bz1, bw0, bw1, ltT, ltF, leT, leF, eqT, eqF, if_true, if_false, kI_n, wI_n, and_true, true_and, and_false, false_and, not_true, not_false_eq_true, mwo, mwr_0, mwr_1, mwr_2, mwg_3, mwp_3, mwr_4, mwg_5, mwp_5, mwg_6, mwp_6, mwr_7, mwr_8, mwg_9, mwp_9, mwg_10, mwp_10, mwg_11, mwp_11, mwr_12, mwg_13, mwp_13, mwr_14, mwr_15, mwr_16, mwr_17, mwr_18, mwr_19, mwg_20, mwp_20, mwr_21, mwr_22, mwr_23, mwa_1, mwu_1, mwa_2, mwu_2, mwa_3, mwu_3, mwa_4, mwu_4, mwa_5, mwu_5, mwa_6, mwu_6, mwa_7, mwu_7, mwa_8, mwu_8, mwa_9, mwu_9, mwa_10, mwu_10, mwa_11, mwu_11, mwa_12, mwu_12, mwa_13, mwu_13, mwa_14, mwu_14, mwa_15, mwu_15, mwa_16, mwu_16, vu_at, vu_ne, pk_us, pk_un, kB_n, wB_n, kL_n, wL_n, z3075]
  | succ n ih =>
    intro k N hk h1 h2
    obtain ⟨N', e1, e2, e3⟩ := ih (k + 1) (upd N (3075 * i + k) (A 1 k)) (by omega) (fun j hj => by
      by_cases hjk : j = k
      · subst hjk; rw [pk_us]
      · rw [pk_un (by omega)]; exact h1 j (by omega)) (fun j hj => by rw [pk_un (by omega)]; exact h2 j hj)
    refine ⟨N', ?_, e2, e3⟩
    rw [← e1]
    have h15 : ∀ {X}, va_up A 15 X 1 = A 1 := fun {X} => vu_ne (by omega)
    rw [e247_25]
    simp (disch := first | omega | exact tl_l | exact tT_len | (simp only [List.length_cons, List.length_nil])) only [e247_0, e247_1, e247_2, e247_5, e247_6, e247_7, e247_8, e247_11, e247_14, e247_15, e247_16, e247_17, e247_20, e247_21, e247_22, e247_23, e247_24, e247_26, e247_29, e247_32, e247_33, e247_36, e247_39, e247_40, e247_41, e247_42, e247_43, e247_44, e247_47, e247_48, e247_49, e247_50, e247_53, e247_56, e247_57, kv_s, kh_s, kr_s, kr_v, kn_s, z0, z1, z2, nI_ltI, nI_leI, nI_eq, nI_add, oN, bz0, bz1, bw0, bw1, ltT, ltF, leT, leF, eqT, eqF, if_true, if_false, kI_n, wI_n, and_true, true_and, and_false, false_and, not_true, not_false_eq_true, mwo, mwr_0, mwr_1, mwr_2, mwg_3, mwp_3, mwr_4, mwg_5, mwp_5, mwg_6, mwp_6, mwr_7, mwr_8, mwg_9, mwp_9, mwg_10, mwp_10, mwg_11, mwp_11, mwr_12, mwg_13, mwp_13, mwr_14, mwr_15, mwr_16, mwr_17, mwr_18, mwr_19, mwg_20, mwp_20, mwr_21, mwr_22, mwr_23, mwa_1, mwu_1, mwa_2, mwu_2, mwa_3, mwu_3, mwa_4, mwu_4, mwa_5, mwu_5, mwa_6, mwu_6, mwa_7, mwu_7, mwa_8, mwu_8, mwa_9, mwu_9, mwa_10, mwu_10, mwa_11, mwu_11, mwa_12, mwu_12, mwa_13, mwu_13, mwa_14, mwu_14, mwa_15, mwu_15, mwa_16, mwu_16, vu_at, vu_ne, pk_us, pk_un, kB_n, wB_n, kL_n, wL_n, z3075, pk_mul, h15, vu_vu]
theorem M_again_loop {i : Nat} (hi : i < 2) : ∀ (n k : Nat) (N : Nat → Int32), k + n = 3075 → (∀ j, j < k → N j = A 15 (3075 * i + j)) → ∃ N', den 248 27 [.ref m, .int (nI i), .int (nI k)] [] (mw σ m (va_up A 1 N) R I) = den 248 58 [.ref m, .int (nI i), .int (nI 3075)] [] (mw σ m (va_up A 1 N') R I) ∧ (∀ j, j < 3075 → N' j = A 15 (3075 * i + j)) := by
  intro n
  induction n with
  | zero =>
    intro k N hk h1
    have : k = 3075 := by omega
    subst this
    refine ⟨N, ?_, h1⟩
    rw [e248_27]
    simp (disch := first | omega | exact tl_l | exact tT_len | (simp only [List.length_cons, List.length_nil])) only [e248_28, e248_31, e248_34, e248_35, e248_38, e248_39, e248_40, e248_43, e248_46, e248_47, e248_48, e248_49, e248_50, e248_51, e248_52, e248_55, kv_s, kh_s, kr_s, kr_v, kn_s, z0, z1, z2, nI_ltI, nI_leI, nI_eq, nI_add, oN, bz0, bz1, bw0, bw1, ltT, ltF, leT, leF, eqT, eqF, if_true, if_false, kI_n, wI_n, and_true, true_and, and_false, false_and, not_true, not_false_eq_true, z3075]
  | succ n ih =>
    intro k N hk h1
    obtain ⟨N', e1, e2⟩ := ih (k + 1) (upd N k (A 15 (3075 * i + k))) (by omega) (fun j hj => by
      by_cases hjk : j = k
      · subst hjk; rw [pk_us]
      · rw [pk_un (by omega)]; exact h1 j (by omega))
    refine ⟨N', ?_, e2⟩
    rw [← e1]
    have h15 : ∀ {X}, va_up A 1 X 15 = A 15 := fun {X} => vu_ne (by omega)
    rw [e248_27]
    simp (disch := first | omega | exact tl_l | exact tT_len | (simp only [List.length_cons, List.length_nil])) only [e248_28, e248_31, e248_34, e248_35, e248_38, e248_39, e248_40, e248_43, e248_46, e248_47, e248_48, e248_49, e248_50, e248_51, e248_52, e248_55, kv_s, kh_s, kr_s, kr_v, kn_s, z0, z1, z2, nI_ltI, nI_leI, nI_eq, nI_add, oN, bz0, bz1, bw0, bw1, ltT, ltF, leT, leF, eqT, eqF, if_true, if_false, kI_n, wI_n, and_true, true_and, and_false, false_and, not_true, not_false_eq_true, mwo, mwr_0, mwr_1, mwr_2, mwg_3, mwp_3, mwr_4, mwg_5, mwp_5, mwg_6, mwp_6, mwr_7, mwr_8, mwg_9, mwp_9, mwg_10, mwp_10, mwg_11, mwp_11, mwr_12, mwg_13, mwp_13, mwr_14, mwr_15, mwr_16, mwr_17, mwr_18, mwr_19, mwg_20, mwp_20, mwr_21, mwr_22, mwr_23, mwa_1, mwu_1, mwa_2, mwu_2, mwa_3, mwu_3, mwa_4, mwu_4, mwa_5, mwu_5, mwa_6, mwu_6, mwa_7, mwu_7, mwa_8, mwu_8, mwa_9, mwu_9, mwa_10, mwu_10, mwa_11, mwu_11, mwa_12, mwu_12, mwa_13, mwu_13, mwa_14, mwu_14, mwa_15, mwu_15, mwa_16, mwu_16, vu_at, vu_ne, pk_us, pk_un, kB_n, wB_n, kL_n, wL_n, z3075, pk_mul, h15, vu_vu]
theorem slot_in {x : Int32} : (∃ i, i < 2 ∧ x = nI i) ∨ (x < nI 0 ∨ nI 1 < x) := by
  rcases rg_in (x := x) (N := 1) (by omega) with ⟨i, h1, h2⟩ | h
  · exact Or.inl ⟨i, by omega, h2⟩
  · exact Or.inr h
end KQ
theorem J_keep (x : Int32) : Jn 131 247 [.int x] := by
  rintro c i σ hi ⟨z, n, B, L, q, K, A, R, I, A2, R2, I2, h⟩
  obtain ⟨T, hb⟩ := h.rb
  have hN := h.nm
  rcases slot_in (x := x) with ⟨j, hj, rfl⟩ | hx
  · obtain ⟨τ, hh, Th, k1, k2, k3⟩ := K_slot (A := A) (R := R) (I := I) h.2.2.1 hj
    obtain ⟨ρ, k4, k5, k6⟩ := K_take (A := A) (R := R) (I := I) hj k2
    obtain ⟨N', m1, m2, m3⟩ := M_keep_loop (σ := cw ρ c A R I) (m := c + 24) (A := va_up A2 16 (upd (A2 16) j (nI 1))) (R := R2) (I := upd I2 6 (nI 0)) hj 3075 0 (va_up A2 16 (upd (A2 16) j (nI 1)) 15) (Nat.zero_add _) (fun j q => absurd q (Nat.not_lt_zero j)) (fun j _ => rfl)
    rw [vu_id] at m1
    have e1 : va_up A2 16 (upd (A2 16) j (nI 1)) 1 = A2 1 := vu_ne (by omega)
    have e15 : va_up A2 16 (upd (A2 16) j (nI 1)) 15 = A2 15 := vu_ne (by omega)
    rw [e1] at m2
    rw [e15] at m3
    have hj0 : ¬ j < 0 := by omega
    refine Inv_mk h (ρ := ρ) (b := .int (nI 1)) (A' := A) (R' := R) (I' := I) (K' := upK K j (some z)) (z' := z) (A2' := va_up (va_up A2 16 (upd (A2 16) j (nI 1))) 15 N') (R2' := R2) (I2' := upd I2 6 (nI 0)) ?_ k5 (k3.tr k6) ?_ h.2.2.2.1 ?_ ?_
    · rw [← k4, ← k1]
      have h := hb
      rw [q131]
      simp (disch := first | omega | exact tl_l | exact tT_len | (simp only [List.length_cons, List.length_nil])) only [e131_0, e131_1, e131_4, e131_5, e131_6, e131_9, e131_10, kv_s, kh_s, kr_s, kr_v, kn_s, z0, z1, z2, nI_ltI, nI_leI, nI_eq, nI_add, oN, bz0, bz1, bw0, bw1, ltT, ltF, leT, leF, eqT, eqF, if_true, if_false, kI_n, wI_n, and_true, true_and, and_false, false_and, not_true, not_false_eq_true]
    · rw [← m1]
      have hj1 : j ≤ 1 := by omega
      rw [q247]
      simp (disch := first | omega | exact tl_l | exact tT_len | (simp only [List.length_cons, List.length_nil])) only [e247_0, e247_1, e247_2, e247_5, e247_6, e247_7, e247_8, e247_11, e247_14, e247_15, e247_16, e247_17, e247_20, e247_21, e247_22, e247_23, e247_24, e247_26, e247_29, e247_32, e247_33, e247_36, e247_39, e247_40, e247_41, e247_42, e247_43, e247_44, e247_47, e247_48, e247_49, e247_50, e247_53, e247_56, e247_57, kv_s, kh_s, kr_s, kr_v, kn_s, z0, z1, z2, nI_ltI, nI_leI, nI_eq, nI_add, oN, bz0, bz1, bw0, bw1, ltT, ltF, leT, leF, eqT, eqF, if_true, if_false, kI_n, wI_n, and_true, true_and, and_false, false_and, not_true, not_false_eq_true, mwo, mwr_0, mwr_1, mwr_2, mwg_3, mwp_3, mwr_4, mwg_5, mwp_5, mwg_6, mwp_6, mwr_7, mwr_8, mwg_9, mwp_9, mwg_10, mwp_10, mwg_11, mwp_11, mwr_12, mwg_13, mwp_13, mwr_14, mwr_15, mwr_16, mwr_17, mwr_18, mwr_19, mwg_20, mwp_20, mwr_21, mwr_22, mwr_23, mwa_1, mwu_1, mwa_2, mwu_2, mwa_3, mwu_3, mwa_4, mwu_4, mwa_5, mwu_5, mwa_6, mwu_6, mwa_7, mwu_7, mwa_8, mwu_8, mwa_9, mwu_9, mwa_10, mwu_10, mwa_11, mwu_11, mwa_12, mwu_12, mwa_13, mwu_13, mwa_14, mwu_14, mwa_15, mwu_15, mwa_16, mwu_16, vu_at, vu_ne, pk_us, pk_un, kB_n, wB_n, kL_n, wL_n, M_in1, n01, vnb1]
    · obtain ⟨g1, g2, g3, g4, g5, g6, g7⟩ := h.2.2.2.2.1
      refine ⟨?_, ?_, (pk_un (by omega)).trans g3, ?_, (pk_un (by omega)).trans g5, g6, fun j' hj' => ?_⟩
      · rw [vu_ne (by omega), vu_ne (by omega)]; exact g1
      · rw [vu_ne (by omega), vu_ne (by omega)]; exact g2
      · rw [vu_ne (by omega), vu_ne (by omega)]; exact g4
      · by_cases hjj : j' = j
        · subst hjj
          rw [show upK K j' (some z) j' = some z from if_pos rfl]
          refine ⟨?_, ?_⟩
          · rw [vu_ne (by omega), vu_at, pk_us]
          · rw [vu_at]
            exact hN.cg m2
        · rw [show upK K j (some z) j' = K j' from if_neg hjj]
          have := g7 j' hj'
          cases hK : K j' with
          | none =>
            rw [hK] at this
            show va_up (va_up A2 16 (upd (A2 16) j (nI 1))) 15 N' 16 j' = nI 0
            rw [vu_ne (by omega), vu_at, pk_un hjj]
            exact this
          | some y =>
            rw [hK] at this
            refine ⟨?_, ?_⟩
            · rw [vu_ne (by omega), vu_at, pk_un hjj]; exact this.1
            · rw [vu_at]
              exact this.2.cg fun k hk => m3 _ (by omega)
    · obtain ⟨o1, o2, o3, o4, o5⟩ := h.2.2.2.2.2.up hi
      refine ⟨o1, fun j' y q1 q2 => ?_, o3, o4, (kx_up hj).symm ▸ o5⟩
      by_cases hjj : j' = j
      · rw [show upK K j (some z) j' = some z from if_pos hjj] at q2
        cases q2
        exact ⟨o1, o3⟩
      · rw [show upK K j (some z) j' = K j' from if_neg hjj] at q2
        exact o2 j' y q1 q2
  · refine Inv_same h hi (b := .int (nI 0)) ?_ ?_
    · have h := hb
      by_cases h0 : x < nI 0
      · rw [q131]
        simp (disch := first | omega | exact tl_l | exact tT_len | (simp only [List.length_cons, List.length_nil])) only [e131_0, e131_1, e131_4, e131_5, e131_6, e131_9, e131_10, e131_11, e131_12, e131_15, e131_16, e131_17, e131_17n, e131_20, e131_21, e131_24, e131_25, e131_28, e131_29, e131_32, e131_33, e131_34, e131_37, e131_38, e131_39, e131_40, e131_43, e131_46, e131_47, kv_s, kh_s, kr_s, kr_v, kn_s, z0, z1, z2, nI_ltI, nI_leI, nI_eq, nI_add, oN, bz0, bz1, bw0, bw1, ltT, ltF, leT, leF, eqT, eqF, if_true, if_false, kI_n, wI_n, and_true, true_and, and_false, false_and, not_true, not_false_eq_true, cwo_1, cwr_1, cwg_0, cwg_1, cwg_2, cwa_0, cwl_0, cwo_3, cwr_3, cwg_3, cwa_R, cwl_R, cwo_5, cwr_5, cwg_4, cwg_5, cwg_6, cwg_7, cwg_8, cwa_1, cwl_1, cwo_7, cwr_7, cwg_9, cwg_10, cwg_11, cwg_12, cwg_13, cwa_2, cwl_2, cwo_17, cwr_17, cwg_14, cwa_3, cwl_3, cwp_0, cwp_1, cwp_2, cwp_3, cwp_4, cwp_5, cwp_6, cwp_7, cwp_8, cwp_9, cwp_10, cwp_11, cwp_12, cwp_13, cwp_14, cwu_0, cwu_R, cwu_1, cwu_2, cwu_3, vu_at, vu_ne, pk_us, pk_un, h.x.f0, h.x.f1, h.x.f2, h.x.f3, h.x.f4, h.x.f5, h.x.f6, h.x.f7, h.x.o, h.hi.o, h.hi.gd, h.hi.gf, h.hi.gl, Hi_keys h.hi h.d8, Hi_hasKey h.hi h.d8, Rw_empty, Rw_add, List.nil_append, List.cons_append, upd_upd, cwo_1, cwo_3, cwo_5, cwo_7, cwo_17, Bool.false_eq_true, n01, h0]
      · have h1 : ¬ x < nI 2 := by
          have h2 := hx.resolve_left h0
          obtain ⟨j, hj, rfl⟩ := nI_of h0
          rw [nI_ltI (by omega) (by omega)] at h2 ⊢
          omega
        rw [q131]
        simp (disch := first | omega | exact tl_l | exact tT_len | (simp only [List.length_cons, List.length_nil])) only [e131_0, e131_1, e131_4, e131_5, e131_6, e131_9, e131_10, e131_11, e131_12, e131_15, e131_16, e131_17, e131_17n, e131_20, e131_21, e131_24, e131_25, e131_28, e131_29, e131_32, e131_33, e131_34, e131_37, e131_38, e131_39, e131_40, e131_43, e131_46, e131_47, kv_s, kh_s, kr_s, kr_v, kn_s, z0, z1, z2, nI_ltI, nI_leI, nI_eq, nI_add, oN, bz0, bz1, bw0, bw1, ltT, ltF, leT, leF, eqT, eqF, if_true, if_false, kI_n, wI_n, and_true, true_and, and_false, false_and, not_true, not_false_eq_true, cwo_1, cwr_1, cwg_0, cwg_1, cwg_2, cwa_0, cwl_0, cwo_3, cwr_3, cwg_3, cwa_R, cwl_R, cwo_5, cwr_5, cwg_4, cwg_5, cwg_6, cwg_7, cwg_8, cwa_1, cwl_1, cwo_7, cwr_7, cwg_9, cwg_10, cwg_11, cwg_12, cwg_13, cwa_2, cwl_2, cwo_17, cwr_17, cwg_14, cwa_3, cwl_3, cwp_0, cwp_1, cwp_2, cwp_3, cwp_4, cwp_5, cwp_6, cwp_7, cwp_8, cwp_9, cwp_10, cwp_11, cwp_12, cwp_13, cwp_14, cwu_0, cwu_R, cwu_1, cwu_2, cwu_3, vu_at, vu_ne, pk_us, pk_un, h.x.f0, h.x.f1, h.x.f2, h.x.f3, h.x.f4, h.x.f5, h.x.f6, h.x.f7, h.x.o, h.hi.o, h.hi.gd, h.hi.gf, h.hi.gl, Hi_keys h.hi h.d8, Hi_hasKey h.hi h.d8, Rw_empty, Rw_add, List.nil_append, List.cons_append, upd_upd, cwo_1, cwo_3, cwo_5, cwo_7, cwo_17, Bool.false_eq_true, n01, h0, h1]
    · intro τ
      refine ⟨A2, upd I2 6 (nI 0), ?_, stay.rf, pk_un (by omega), pk_un (by omega)⟩
      rw [q247]
      simp (disch := first | omega | exact tl_l | exact tT_len | (simp only [List.length_cons, List.length_nil])) only [e247_0, e247_1, e247_2, e247_5, e247_6, e247_7, e247_8, e247_11, e247_14, e247_15, e247_16, e247_17, e247_20, e247_21, e247_22, e247_23, e247_24, e247_26, e247_29, e247_32, e247_33, e247_36, e247_39, e247_40, e247_41, e247_42, e247_43, e247_44, e247_47, e247_48, e247_49, e247_50, e247_53, e247_56, e247_57, kv_s, kh_s, kr_s, kr_v, kn_s, z0, z1, z2, nI_ltI, nI_leI, nI_eq, nI_add, oN, bz0, bz1, bw0, bw1, ltT, ltF, leT, leF, eqT, eqF, if_true, if_false, kI_n, wI_n, and_true, true_and, and_false, false_and, not_true, not_false_eq_true, mwo, mwr_0, mwr_1, mwr_2, mwg_3, mwp_3, mwr_4, mwg_5, mwp_5, mwg_6, mwp_6, mwr_7, mwr_8, mwg_9, mwp_9, mwg_10, mwp_10, mwg_11, mwp_11, mwr_12, mwg_13, mwp_13, mwr_14, mwr_15, mwr_16, mwr_17, mwr_18, mwr_19, mwg_20, mwp_20, mwr_21, mwr_22, mwr_23, mwa_1, mwu_1, mwa_2, mwu_2, mwa_3, mwu_3, mwa_4, mwu_4, mwa_5, mwu_5, mwa_6, mwu_6, mwa_7, mwu_7, mwa_8, mwu_8, mwa_9, mwu_9, mwa_10, mwu_10, mwa_11, mwu_11, mwa_12, mwu_12, mwa_13, mwu_13, mwa_14, mwu_14, mwa_15, mwu_15, mwa_16, mwu_16, vu_at, vu_ne, pk_us, pk_un, kB_n, wB_n, kL_n, wL_n, M_in0 hx]
theorem J_again (x : Int32) : Jn 133 248 [.int x] := by
  rintro c i σ hi ⟨z, n, B, L, q, K, A, R, I, A2, R2, I2, h⟩
  have hBC := h.2.2.1
  obtain ⟨T, S, Ts, b, b3, b4, b5, b6, b7, b8, b9⟩ := hBC
  have hN := h.nm
  have hx0 := b.x (A := A) (R := R) (I := I)
  have hS0 : hR (cw σ c A R I) (c + 11) = some (6, 2, S) := hR_of ((cw_out (by omega)).trans b5)
  rcases slot_in (x := x) with ⟨j, hj, rfl⟩ | hx
  · have hj0 : ¬ j < 0 := by omega
    have hj1 : ¬ 2 ≤ j := by omega
    have hI := b6 j hj
    have g7 := h.2.2.2.2.1.2.2.2.2.2.2 j hj
    cases hS : S j with
    | none =>
      rw [hS] at hI
      have hI : K j = none := hI
      rw [hI] at g7
      have g7 : A2 16 j = nI 0 := g7
      refine Inv_same h hi (b := .int (nI 0)) ?_ ?_
      · have h := b
        rw [q133]
        simp (disch := first | omega | exact tl_l | exact tT_len | (simp only [List.length_cons, List.length_nil])) only [e133_0, e133_1, e133_4, e133_5, e133_6, e133_9, e133_10, e133_13, e133_14, e133_15, e133_15n, e133_18, e133_19, e133_20, e133_21, e133_24, e133_25, e133_28, e133_29, e133_30, e133_33, e133_34, e133_37, e133_38z, e133_38o, e133_41, e133_42, kv_s, kh_s, kr_s, kr_v, kn_s, z0, z1, z2, nI_ltI, nI_leI, nI_eq, nI_add, oN, bz0, bz1, bw0, bw1, ltT, ltF, leT, leF, eqT, eqF, if_true, if_false, kI_n, wI_n, and_true, true_and, and_false, false_and, not_true, not_false_eq_true, cwo_1, cwr_1, cwg_0, cwg_1, cwg_2, cwa_0, cwl_0, cwo_3, cwr_3, cwg_3, cwa_R, cwl_R, cwo_5, cwr_5, cwg_4, cwg_5, cwg_6, cwg_7, cwg_8, cwa_1, cwl_1, cwo_7, cwr_7, cwg_9, cwg_10, cwg_11, cwg_12, cwg_13, cwa_2, cwl_2, cwo_17, cwr_17, cwg_14, cwa_3, cwl_3, cwp_0, cwp_1, cwp_2, cwp_3, cwp_4, cwp_5, cwp_6, cwp_7, cwp_8, cwp_9, cwp_10, cwp_11, cwp_12, cwp_13, cwp_14, cwu_0, cwu_R, cwu_1, cwu_2, cwu_3, vu_at, vu_ne, pk_us, pk_un, h.x.f0, h.x.f1, h.x.f2, h.x.f3, h.x.f4, h.x.f5, h.x.f6, h.x.f7, h.x.o, h.hi.o, h.hi.gd, h.hi.gf, h.hi.gl, Hi_keys h.hi h.d8, Hi_hasKey h.hi h.d8, Rw_empty, Rw_add, List.nil_append, List.cons_append, upd_upd, cwo_1, cwo_3, cwo_5, cwo_7, cwo_17, Bool.false_eq_true, n01, hS0, kR_n, or_true, hS, va_rf]
      · intro τ
        refine ⟨A2, upd I2 6 (nI 0), ?_, stay.rf, pk_un (by omega), pk_un (by omega)⟩
        rw [q248]
        simp (disch := first | omega | exact tl_l | exact tT_len | (simp only [List.length_cons, List.length_nil])) only [e248_0, e248_1, e248_2, e248_5, e248_6, e248_7, e248_8, e248_11, e248_14, e248_15, e248_18, e248_19, e248_20, e248_23, e248_24, e248_25, e248_26, e248_28, e248_31, e248_34, e248_35, e248_38, e248_39, e248_40, e248_43, e248_46, e248_47, e248_48, e248_49, e248_50, e248_51, e248_52, e248_55, e248_58, e248_59, e248_62, e248_63, e248_64, e248_65, e248_66, kv_s, kh_s, kr_s, kr_v, kn_s, z0, z1, z2, nI_ltI, nI_leI, nI_eq, nI_add, oN, bz0, bz1, bw0, bw1, ltT, ltF, leT, leF, eqT, eqF, if_true, if_false, kI_n, wI_n, and_true, true_and, and_false, false_and, not_true, not_false_eq_true, mwo, mwr_0, mwr_1, mwr_2, mwg_3, mwp_3, mwr_4, mwg_5, mwp_5, mwg_6, mwp_6, mwr_7, mwr_8, mwg_9, mwp_9, mwg_10, mwp_10, mwg_11, mwp_11, mwr_12, mwg_13, mwp_13, mwr_14, mwr_15, mwr_16, mwr_17, mwr_18, mwr_19, mwg_20, mwp_20, mwr_21, mwr_22, mwr_23, mwa_1, mwu_1, mwa_2, mwu_2, mwa_3, mwu_3, mwa_4, mwu_4, mwa_5, mwu_5, mwa_6, mwu_6, mwa_7, mwu_7, mwa_8, mwu_8, mwa_9, mwu_9, mwa_10, mwu_10, mwa_11, mwu_11, mwa_12, mwu_12, mwa_13, mwu_13, mwa_14, mwu_14, mwa_15, mwu_15, mwa_16, mwu_16, vu_at, vu_ne, pk_us, pk_un, kB_n, wB_n, kL_n, wL_n, M_in1, n01, g7]
    | some h0 =>
      rw [hS] at hI
      obtain ⟨y, y1, y2, y3⟩ := hI
      rw [y1] at g7
      have okK := h.2.2.2.2.2.2.1 j y hj y1
      have hH := b.hi (A := A) (R := R) (I := I)
      have hHV := b.2.up (A := A) (R := R) (I := I)
      obtain ⟨ρ, T', t1, t2, t3⟩ := Hi_take hH hHV.2.1 (y2.up (A := A) (R := R) (I := I)) y3 (by rw [cw_2]; exact b3.1)
      have fr : ∀ a, a = c ∨ (c + 1 ≤ a ∧ a < c + 9) ∨ (c + 11 ≤ a ∧ a < c + 19) ∨ (c + 24 ≤ a ∧ a < c + 42) → ρ.1 a = (cw σ c A R I).1 a := fun a q => t3.fr (by rw [cw_2]; have := b3.1; omega) fun q2 => by
        rcases q2 with rfl | rfl | ⟨s, t, r1, r2, r3, r4⟩
        · omega
        · omega
        · have := (hHV.2.1.2.2.1 s t r1 r2).1
          omega
      have hcw : cw ρ c A R I = ρ := cw_keep (σ := σ) fun a q1 q2 q3 => fr a (by omega)
      have hB : BC c ρ y K := BC.past h.2.2.1.cw ⟨hx0, hHV⟩ t3 t2
      have hxr : isX (cw ρ c A R I) c := by rw [hcw]; exact (fr c (by omega)).trans hx0
      obtain ⟨N', m1, m2⟩ := M_again_loop (σ := cw ρ c A R (upd I 4 (nI 0))) (m := c + 24) (A := A2) (R := R2) (I := upd I2 6 (nI 0)) hj 3075 0 (A2 1) (Nat.zero_add _) (fun j q => absurd q (Nat.not_lt_zero j))
      rw [vu_id] at m1
      refine Inv_mk h (ρ := ρ) (b := .int (nI 1)) (A' := A) (R' := R) (I' := upd I 4 (nI 0)) (K' := K) (z' := y) (q' := none) (A2' := va_up (va_up A2 1 N') 2 (upd (A2 2) 0 (-nI 1))) (R2' := R2) (I2' := upd I2 6 (nI 0)) ?_ hB (fun a q1 q2 => (fr a (by omega)).trans (cw_out (by omega))) ?_ (h.2.2.2.1.hand rfl (pk_un (by omega)) (pk_un (by omega)) (pk_un (by omega)) (q' := none) pk_us) ?_ ?_
      · rw [← hcw] at t1
        have h := b
        rw [q133]
        simp (disch := first | omega | exact tl_l | exact tT_len | (simp only [List.length_cons, List.length_nil])) only [e133_0, e133_1, e133_4, e133_5, e133_6, e133_9, e133_10, e133_13, e133_14, e133_15, e133_15n, e133_18, e133_19, e133_20, e133_21, e133_24, e133_25, e133_28, e133_29, e133_30, e133_33, e133_34, e133_37, e133_38z, e133_38o, e133_41, e133_42, kv_s, kh_s, kr_s, kr_v, kn_s, z0, z1, z2, nI_ltI, nI_leI, nI_eq, nI_add, oN, bz0, bz1, bw0, bw1, ltT, ltF, leT, leF, eqT, eqF, if_true, if_false, kI_n, wI_n, and_true, true_and, and_false, false_and, not_true, not_false_eq_true, cwo_1, cwr_1, cwg_0, cwg_1, cwg_2, cwa_0, cwl_0, cwo_3, cwr_3, cwg_3, cwa_R, cwl_R, cwo_5, cwr_5, cwg_4, cwg_5, cwg_6, cwg_7, cwg_8, cwa_1, cwl_1, cwo_7, cwr_7, cwg_9, cwg_10, cwg_11, cwg_12, cwg_13, cwa_2, cwl_2, cwo_17, cwr_17, cwg_14, cwa_3, cwl_3, cwp_0, cwp_1, cwp_2, cwp_3, cwp_4, cwp_5, cwp_6, cwp_7, cwp_8, cwp_9, cwp_10, cwp_11, cwp_12, cwp_13, cwp_14, cwu_0, cwu_R, cwu_1, cwu_2, cwu_3, vu_at, vu_ne, pk_us, pk_un, h.x.f0, h.x.f1, h.x.f2, h.x.f3, h.x.f4, h.x.f5, h.x.f6, h.x.f7, h.x.o, h.hi.o, h.hi.gd, h.hi.gf, h.hi.gl, Hi_keys h.hi h.d8, Hi_hasKey h.hi h.d8, Rw_empty, Rw_add, List.nil_append, List.cons_append, upd_upd, cwo_1, cwo_3, cwo_5, cwo_7, cwo_17, Bool.false_eq_true, n01, hS0, kR_n, or_true, hS, va_rf, t1, hxr.f2, hxr.o]
        refine e133_38z.trans ?_
        simp (disch := first | omega | exact tl_l | exact tT_len | (simp only [List.length_cons, List.length_nil])) only [e133_41, e133_42, kv_s, kh_s, kr_s, kr_v, kn_s, z0, z1, z2, nI_ltI, nI_leI, nI_eq, nI_add, oN, bz0, bz1, bw0, bw1, ltT, ltF, leT, leF, eqT, eqF, if_true, if_false, kI_n, wI_n, and_true, true_and, and_false, false_and, not_true, not_false_eq_true, cwo_1, cwr_1, cwg_0, cwg_1, cwg_2, cwa_0, cwl_0, cwo_3, cwr_3, cwg_3, cwa_R, cwl_R, cwo_5, cwr_5, cwg_4, cwg_5, cwg_6, cwg_7, cwg_8, cwa_1, cwl_1, cwo_7, cwr_7, cwg_9, cwg_10, cwg_11, cwg_12, cwg_13, cwa_2, cwl_2, cwo_17, cwr_17, cwg_14, cwa_3, cwl_3, cwp_0, cwp_1, cwp_2, cwp_3, cwp_4, cwp_5, cwp_6, cwp_7, cwp_8, cwp_9, cwp_10, cwp_11, cwp_12, cwp_13, cwp_14, cwu_0, cwu_R, cwu_1, cwu_2, cwu_3, vu_at, vu_ne, pk_us, pk_un]
      · have hj1' : j ≤ 1 := by omega
        rw [q248]
        simp (disch := first | omega | exact tl_l | exact tT_len | (simp only [List.length_cons, List.length_nil])) only [e248_0, e248_1, e248_2, e248_5, e248_6, e248_7, e248_8, e248_11, e248_14, e248_15, e248_18, e248_19, e248_20, e248_23, e248_24, e248_25, e248_26, e248_28, e248_31, e248_34, e248_35, e248_38, e248_39, e248_40, e248_43, e248_46, e248_47, e248_48, e248_49, e248_50, e248_51, e248_52, e248_55, e248_58, e248_59, e248_62, e248_63, e248_64, e248_65, e248_66, kv_s, kh_s, kr_s, kr_v, kn_s, z0, z1, z2, nI_ltI, nI_leI, nI_eq, nI_add, oN, bz0, bz1, bw0, bw1, ltT, ltF, leT, leF, eqT, eqF, if_true, if_false, kI_n, wI_n, and_true, true_and, and_false, false_and, not_true, not_false_eq_true, mwo, mwr_0, mwr_1, mwr_2, mwg_3, mwp_3, mwr_4, mwg_5, mwp_5, mwg_6, mwp_6, mwr_7, mwr_8, mwg_9, mwp_9, mwg_10, mwp_10, mwg_11, mwp_11, mwr_12, mwg_13, mwp_13, mwr_14, mwr_15, mwr_16, mwr_17, mwr_18, mwr_19, mwg_20, mwp_20, mwr_21, mwr_22, mwr_23, mwa_1, mwu_1, mwa_2, mwu_2, mwa_3, mwu_3, mwa_4, mwu_4, mwa_5, mwu_5, mwa_6, mwu_6, mwa_7, mwu_7, mwa_8, mwu_8, mwa_9, mwu_9, mwa_10, mwu_10, mwa_11, mwu_11, mwa_12, mwu_12, mwa_13, mwu_13, mwa_14, mwu_14, mwa_15, mwu_15, mwa_16, mwu_16, vu_at, vu_ne, pk_us, pk_un, kB_n, wB_n, kL_n, wL_n, M_in1, n01, g7.1]
        rw [m1]
        simp (disch := first | omega | exact tl_l | exact tT_len | (simp only [List.length_cons, List.length_nil])) only [e248_0, e248_1, e248_2, e248_5, e248_6, e248_7, e248_8, e248_11, e248_14, e248_15, e248_18, e248_19, e248_20, e248_23, e248_24, e248_25, e248_26, e248_28, e248_31, e248_34, e248_35, e248_38, e248_39, e248_40, e248_43, e248_46, e248_47, e248_48, e248_49, e248_50, e248_51, e248_52, e248_55, e248_58, e248_59, e248_62, e248_63, e248_64, e248_65, e248_66, kv_s, kh_s, kr_s, kr_v, kn_s, z0, z1, z2, nI_ltI, nI_leI, nI_eq, nI_add, oN, bz0, bz1, bw0, bw1, ltT, ltF, leT, leF, eqT, eqF, if_true, if_false, kI_n, wI_n, and_true, true_and, and_false, false_and, not_true, not_false_eq_true, mwo, mwr_0, mwr_1, mwr_2, mwg_3, mwp_3, mwr_4, mwg_5, mwp_5, mwg_6, mwp_6, mwr_7, mwr_8, mwg_9, mwp_9, mwg_10, mwp_10, mwg_11, mwp_11, mwr_12, mwg_13, mwp_13, mwr_14, mwr_15, mwr_16, mwr_17, mwr_18, mwr_19, mwg_20, mwp_20, mwr_21, mwr_22, mwr_23, mwa_1, mwu_1, mwa_2, mwu_2, mwa_3, mwu_3, mwa_4, mwu_4, mwa_5, mwu_5, mwa_6, mwu_6, mwa_7, mwu_7, mwa_8, mwu_8, mwa_9, mwu_9, mwa_10, mwu_10, mwa_11, mwu_11, mwa_12, mwu_12, mwa_13, mwu_13, mwa_14, mwu_14, mwa_15, mwu_15, mwa_16, mwu_16, vu_at, vu_ne, pk_us, pk_un, kB_n, wB_n, kL_n, wL_n]
      · obtain ⟨g1, g2, g3, g4, g5, g6, g7'⟩ := h.2.2.2.2.1
        refine ⟨?_, ?_, (pk_un (by omega)).trans g3, ?_, (pk_un (by omega)).trans g5, g6, fun j' hj' => RMk_stay' (fun k hk => ?_) (g7' j' hj')⟩
        · rw [vu_ne (by omega), vu_at]; exact g7.2.cg m2
        · rw [vu_at]; exact pk_us
        · rw [vu_ne (by omega), vu_ne (by omega)]; exact g4
        · rw [vu_ne (by omega), vu_ne (by omega)]
      · obtain ⟨o1, o2, o3, o4, o5⟩ := h.2.2.2.2.2.up hi
        exact ⟨okK.1, o2, by have := okK.2; omega, fun p hp => (by cases hp), o5⟩
  · refine Inv_same h hi (b := .int (nI 0)) ?_ ?_
    · have h := b
      by_cases h0 : x < nI 0
      · rw [q133]
        simp (disch := first | omega | exact tl_l | exact tT_len | (simp only [List.length_cons, List.length_nil])) only [e133_0, e133_1, e133_4, e133_5, e133_6, e133_9, e133_10, e133_13, e133_14, e133_15, e133_15n, e133_18, e133_19, e133_20, e133_21, e133_24, e133_25, e133_28, e133_29, e133_30, e133_33, e133_34, e133_37, e133_38z, e133_38o, e133_41, e133_42, kv_s, kh_s, kr_s, kr_v, kn_s, z0, z1, z2, nI_ltI, nI_leI, nI_eq, nI_add, oN, bz0, bz1, bw0, bw1, ltT, ltF, leT, leF, eqT, eqF, if_true, if_false, kI_n, wI_n, and_true, true_and, and_false, false_and, not_true, not_false_eq_true, cwo_1, cwr_1, cwg_0, cwg_1, cwg_2, cwa_0, cwl_0, cwo_3, cwr_3, cwg_3, cwa_R, cwl_R, cwo_5, cwr_5, cwg_4, cwg_5, cwg_6, cwg_7, cwg_8, cwa_1, cwl_1, cwo_7, cwr_7, cwg_9, cwg_10, cwg_11, cwg_12, cwg_13, cwa_2, cwl_2, cwo_17, cwr_17, cwg_14, cwa_3, cwl_3, cwp_0, cwp_1, cwp_2, cwp_3, cwp_4, cwp_5, cwp_6, cwp_7, cwp_8, cwp_9, cwp_10, cwp_11, cwp_12, cwp_13, cwp_14, cwu_0, cwu_R, cwu_1, cwu_2, cwu_3, vu_at, vu_ne, pk_us, pk_un, h.x.f0, h.x.f1, h.x.f2, h.x.f3, h.x.f4, h.x.f5, h.x.f6, h.x.f7, h.x.o, h.hi.o, h.hi.gd, h.hi.gf, h.hi.gl, Hi_keys h.hi h.d8, Hi_hasKey h.hi h.d8, Rw_empty, Rw_add, List.nil_append, List.cons_append, upd_upd, cwo_1, cwo_3, cwo_5, cwo_7, cwo_17, Bool.false_eq_true, n01, h0]
      · have h1 : ¬ x < nI 2 := by
          have h2 := hx.resolve_left h0
          obtain ⟨j, hj, rfl⟩ := nI_of h0
          rw [nI_ltI (by omega) (by omega)] at h2 ⊢
          omega
        have h1' : nI 2 ≤ x := Int32.not_lt.mp h1
        rw [q133]
        simp (disch := first | omega | exact tl_l | exact tT_len | (simp only [List.length_cons, List.length_nil])) only [e133_0, e133_1, e133_4, e133_5, e133_6, e133_9, e133_10, e133_13, e133_14, e133_15, e133_15n, e133_18, e133_19, e133_20, e133_21, e133_24, e133_25, e133_28, e133_29, e133_30, e133_33, e133_34, e133_37, e133_38z, e133_38o, e133_41, e133_42, kv_s, kh_s, kr_s, kr_v, kn_s, z0, z1, z2, nI_ltI, nI_leI, nI_eq, nI_add, oN, bz0, bz1, bw0, bw1, ltT, ltF, leT, leF, eqT, eqF, if_true, if_false, kI_n, wI_n, and_true, true_and, and_false, false_and, not_true, not_false_eq_true, cwo_1, cwr_1, cwg_0, cwg_1, cwg_2, cwa_0, cwl_0, cwo_3, cwr_3, cwg_3, cwa_R, cwl_R, cwo_5, cwr_5, cwg_4, cwg_5, cwg_6, cwg_7, cwg_8, cwa_1, cwl_1, cwo_7, cwr_7, cwg_9, cwg_10, cwg_11, cwg_12, cwg_13, cwa_2, cwl_2, cwo_17, cwr_17, cwg_14, cwa_3, cwl_3, cwp_0, cwp_1, cwp_2, cwp_3, cwp_4, cwp_5, cwp_6, cwp_7, cwp_8, cwp_9, cwp_10, cwp_11, cwp_12, cwp_13, cwp_14, cwu_0, cwu_R, cwu_1, cwu_2, cwu_3, vu_at, vu_ne, pk_us, pk_un, h.x.f0, h.x.f1, h.x.f2, h.x.f3, h.x.f4, h.x.f5, h.x.f6, h.x.f7, h.x.o, h.hi.o, h.hi.gd, h.hi.gf, h.hi.gl, Hi_keys h.hi h.d8, Hi_hasKey h.hi h.d8, Rw_empty, Rw_add, List.nil_append, List.cons_append, upd_upd, cwo_1, cwo_3, cwo_5, cwo_7, cwo_17, Bool.false_eq_true, n01, h0, h1, h1']
    · intro τ
      refine ⟨A2, upd I2 6 (nI 0), ?_, stay.rf, pk_un (by omega), pk_un (by omega)⟩
      rw [q248]
      simp (disch := first | omega | exact tl_l | exact tT_len | (simp only [List.length_cons, List.length_nil])) only [e248_0, e248_1, e248_2, e248_5, e248_6, e248_7, e248_8, e248_11, e248_14, e248_15, e248_18, e248_19, e248_20, e248_23, e248_24, e248_25, e248_26, e248_28, e248_31, e248_34, e248_35, e248_38, e248_39, e248_40, e248_43, e248_46, e248_47, e248_48, e248_49, e248_50, e248_51, e248_52, e248_55, e248_58, e248_59, e248_62, e248_63, e248_64, e248_65, e248_66, kv_s, kh_s, kr_s, kr_v, kn_s, z0, z1, z2, nI_ltI, nI_leI, nI_eq, nI_add, oN, bz0, bz1, bw0, bw1, ltT, ltF, leT, leF, eqT, eqF, if_true, if_false, kI_n, wI_n, and_true, true_and, and_false, false_and, not_true, not_false_eq_true, mwo, mwr_0, mwr_1, mwr_2, mwg_3, mwp_3, mwr_4, mwg_5, mwp_5, mwg_6, mwp_6, mwr_7, mwr_8, mwg_9, mwp_9, mwg_10, mwp_10, mwg_11, mwp_11, mwr_12, mwg_13, mwp_13, mwr_14, mwr_15, mwr_16, mwr_17, mwr_18, mwr_19, mwg_20, mwp_20, mwr_21, mwr_22, mwr_23, mwa_1, mwu_1, mwa_2, mwu_2, mwa_3, mwu_3, mwa_4, mwu_4, mwa_5, mwu_5, mwa_6, mwu_6, mwa_7, mwu_7, mwa_8, mwu_8, mwa_9, mwu_9, mwa_10, mwu_10, mwa_11, mwu_11, mwa_12, mwu_12, mwa_13, mwu_13, mwa_14, mwu_14, mwa_15, mwu_15, mwa_16, mwu_16, vu_at, vu_ne, pk_us, pk_un, kB_n, wB_n, kL_n, wL_n, M_in0 hx]
