/-! calls: day, both -/
theorem ti_ti {I : Nat → Int32} {p p' : Nat} {e e' : Option Nat} : ti (ti I p e) p' e' = ti I p' e' := by
  funext k
  by_cases h2 : k = 2
  · subst h2; rw [ti_2, ti_2]
  · by_cases h1 : k = 1
    · subst h1; rw [ti_1, ti_1]
    · rw [ti_o h1 h2, ti_o h1 h2, ti_o h1 h2]
theorem J_day : Jn 123 240 [] := by
  rintro c i σ hi ⟨z, n, B, L, q, K, A, R, I, A2, R2, I2, h⟩
  obtain ⟨T, hb⟩ := h.rb
  have hN := h.nm
  have hfl := hb.fl
  have hB := h.2.2.2.1.1
  have hn := hB.1
  have hMB : MB A2 n B := ⟨hn, fun j hj => ⟨h.2.2.2.2.1.2.2.2.1 j hj, (hB.2.2 j hj).2⟩⟩
  have hM3 := h.2.2.2.2.1.2.2.1
  have hmI : upd I2 6 (nI 0) 3 = nI n := (pk_un (by omega)).trans hM3
  obtain ⟨k1, k2⟩ := C_checkDay (R := R) hb hB
  have rd := fun τ => M_day_read (σ := τ) (m := c + 24) (R := R2) (n := n) (B := B) (I := upd I2 6 (nI 0)) (l2 := junk) (n + 1) 0 0 A2 hMB (Nat.zero_le n) (by omega) (by omega)
  cases hd : dy n B (n + 1) 0 with
  | inl q0 =>
    obtain ⟨p', w1⟩ := k1 q0 hd
    obtain ⟨A2', p2, v1, v2⟩ := (rd (cw σ c A R (upd (ti I p' (some q0)) 0 (nI 0)))).1 q0 hd
    refine Inv_regs h (b := .int (-nI 1 - nI q0)) (A' := A) (R' := R) (I' := upd (ti I p' (some q0)) 0 (nI 0)) (n' := 0) (B' := B) (L' := L) (q' := q) (A2' := A2') (R2' := R2) (I2' := mt (upd I2 6 (nI 0)) n p2 (some q0)) ?_ ?_ ?_ (h.2.2.2.2.1.rd (fun k hk => v2 k (by omega)) mt_3 ((mt_o (by omega)).trans (pk_un (by omega)))) (h.2.2.2.2.2.rd hi)
    · have hq := (dy_bd (n := n) (B := B) (n + 1) 0 (Nat.zero_le n)).1 q0 hd
      have h := hb
      rw [q123]
      simp (disch := first | omega | exact tl_l | exact tT_len | (simp only [List.length_cons, List.length_nil])) only [e123_0, e123_1, e123_4, e123_5, e123_6, e123_7, e123_10, e123_11, e123_14, e123_15, e123_18, e123_19, e123_20, e123_21, e123_22, e123_23, e123_26, e123_29, e123_30, e123_31, e123_32, e123_33, e123_34, e123_38, e123_40, e123_43, e123_44, e123_47, e123_48, e123_51, e123_54, e123_57, e123_58, e123_61, e123_64, e123_65, e123_66, e123_69, e123_72, e123_75, e123_78, e123_79, e123_82, e123_83, e123_86, e123_87, e123_90, e123_93, e123_94, e123_97, e123_98, e123_101, e123_102, e123_105, e123_106, e123_109, e123_110, e123_113, e123_114, e123_117, e123_120, e123_121, e123_124, e123_125, kv_s, kh_s, kr_s, kr_v, kn_s, z0, z1, z2, nI_ltI, nI_leI, nI_eq, nI_add, oN, bz0, bz1, bw0, bw1, ltT, ltF, leT, leF, eqT, eqF, if_true, if_false, kI_n, wI_n, and_true, true_and, and_false, false_and, not_true, not_false_eq_true, cwo_1, cwr_1, cwg_0, cwg_1, cwg_2, cwa_0, cwl_0, cwo_3, cwr_3, cwg_3, cwa_R, cwl_R, cwo_5, cwr_5, cwg_4, cwg_5, cwg_6, cwg_7, cwg_8, cwa_1, cwl_1, cwo_7, cwr_7, cwg_9, cwg_10, cwg_11, cwg_12, cwg_13, cwa_2, cwl_2, cwo_17, cwr_17, cwg_14, cwa_3, cwl_3, cwp_0, cwp_1, cwp_2, cwp_3, cwp_4, cwp_5, cwp_6, cwp_7, cwp_8, cwp_9, cwp_10, cwp_11, cwp_12, cwp_13, cwp_14, cwu_0, cwu_R, cwu_1, cwu_2, cwu_3, vu_at, vu_ne, pk_us, pk_un, h.x.f0, h.x.f1, h.x.f2, h.x.f3, h.x.f4, h.x.f5, h.x.f6, h.x.f7, h.x.o, h.hi.o, h.hi.gd, h.hi.gf, h.hi.gl, Hi_keys h.hi h.d8, Hi_hasKey h.hi h.d8, Rw_empty, Rw_add, List.nil_append, List.cons_append, upd_upd, cwo_1, cwo_3, cwo_5, cwo_7, cwo_17, Bool.false_eq_true, n01, w1, nI_n1]
    · rw [← v1]
      rw [q240]
      simp (disch := first | omega | exact tl_l | exact tT_len | (simp only [List.length_cons, List.length_nil])) only [e240_0, e240_1, e240_2, e240_5, e240_6, e240_9, e240_10, kv_s, kh_s, kr_s, kr_v, kn_s, z0, z1, z2, nI_ltI, nI_leI, nI_eq, nI_add, oN, bz0, bz1, bw0, bw1, ltT, ltF, leT, leF, eqT, eqF, if_true, if_false, kI_n, wI_n, and_true, true_and, and_false, false_and, not_true, not_false_eq_true, mwo, mwr_0, mwr_1, mwr_2, mwg_3, mwp_3, mwr_4, mwg_5, mwp_5, mwg_6, mwp_6, mwr_7, mwr_8, mwg_9, mwp_9, mwg_10, mwp_10, mwg_11, mwp_11, mwr_12, mwg_13, mwp_13, mwr_14, mwr_15, mwr_16, mwr_17, mwr_18, mwr_19, mwg_20, mwp_20, mwr_21, mwr_22, mwr_23, mwa_1, mwu_1, mwa_2, mwu_2, mwa_3, mwu_3, mwa_4, mwu_4, mwa_5, mwu_5, mwa_6, mwu_6, mwa_7, mwu_7, mwa_8, mwu_8, mwa_9, mwu_9, mwa_10, mwu_10, mwa_11, mwu_11, mwa_12, mwu_12, mwa_13, mwu_13, mwa_14, mwu_14, mwa_15, mwu_15, mwa_16, mwu_16, vu_at, vu_ne, pk_us, pk_un, kB_n, wB_n, kL_n, wL_n, mwo, M_begin hmI]
    · refine h.2.2.2.1.text (B' := B) ⟨Nat.zero_le _, pk_us, fun i hi => absurd hi (Nat.not_lt_zero i)⟩ rfl fun j hj => ?_
      rw [pk_un (by omega), ti_o (by omega) (by omega)]
  | inr L0 =>
    have hbd := (dy_bd (n := n) (B := B) (n + 1) 0 (Nat.zero_le n)).2 L0 hd
    have w1 := k2 L0 hd
    obtain ⟨o1, o2, o3, o4, o5⟩ := h.2.2.2.2.2.up hi
    have h30 : z.2.2.1 + L0.length + 1 < 2 ^ 30 := by omega
    obtain ⟨ρ, i', p', e1, e2, e3⟩ := C_day_loop (A := A) (R := R) (I := I) (K := K) (y := .int (-nI 1)) hB (n + 1) 0 0 0 σ z L0 h.2.2.1 h.ok h30 hd (Nat.zero_le n) (Nat.le_refl 0) (by omega) (Nat.le_refl 0)
    have hM : ∀ τ, ∃ A2', den 240 58 [.ref (c + 24), .int (nI L0.length), .int (nI 0)] [] (mw τ (c + 24) A2' R2 (mt (upd I2 6 (nI 0)) n n none)) = dcall 240 [.ref (c + 24)] (mw τ (c + 24) A2 R2 I2) ∧ AC (A2' 7) 0 L0 ∧ ∀ j, j ≠ 7 → A2' j = A2 j := fun τ => by
      obtain ⟨A2', v1, v2, v3, v4⟩ := (rd τ).2 L0 hd
      refine ⟨A2', ?_, v2, v4⟩
      rw [Nat.zero_add] at v1
      rw [q240]
      simp (disch := first | omega | exact tl_l | exact tT_len | (simp only [List.length_cons, List.length_nil])) only [e240_0, e240_1, e240_2, e240_5, e240_6, e240_9, e240_10, kv_s, kh_s, kr_s, kr_v, kn_s, z0, z1, z2, nI_ltI, nI_leI, nI_eq, nI_add, oN, bz0, bz1, bw0, bw1, ltT, ltF, leT, leF, eqT, eqF, if_true, if_false, kI_n, wI_n, and_true, true_and, and_false, false_and, not_true, not_false_eq_true, mwo, mwr_0, mwr_1, mwr_2, mwg_3, mwp_3, mwr_4, mwg_5, mwp_5, mwg_6, mwp_6, mwr_7, mwr_8, mwg_9, mwp_9, mwg_10, mwp_10, mwg_11, mwp_11, mwr_12, mwg_13, mwp_13, mwr_14, mwr_15, mwr_16, mwr_17, mwr_18, mwr_19, mwg_20, mwp_20, mwr_21, mwr_22, mwr_23, mwa_1, mwu_1, mwa_2, mwu_2, mwa_3, mwu_3, mwa_4, mwu_4, mwa_5, mwu_5, mwa_6, mwu_6, mwa_7, mwu_7, mwa_8, mwu_8, mwa_9, mwu_9, mwa_10, mwu_10, mwa_11, mwu_11, mwa_12, mwu_12, mwa_13, mwu_13, mwa_14, mwu_14, mwa_15, mwu_15, mwa_16, mwu_16, vu_at, vu_ne, pk_us, pk_un, kB_n, wB_n, kL_n, wL_n, mwo, M_begin hmI]
      rw [v1]
      simp (disch := first | omega | exact tl_l | exact tT_len | (simp only [List.length_cons, List.length_nil])) only [e240_56, e240_57, kv_s, kh_s, kr_s, kr_v, kn_s, z0, z1, z2, nI_ltI, nI_leI, nI_eq, nI_add, oN, bz0, bz1, bw0, bw1, ltT, ltF, leT, leF, eqT, eqF, if_true, if_false, kI_n, wI_n, and_true, true_and, and_false, false_and, not_true, not_false_eq_true]
    have hR : ∀ τ, ∃ (A2' A2'' : Nat → Nat → Int32), den 240 79 [.ref (c + 24), .int (nI L0.length), .int (nI (rn L0 z 0).2.1)] [] (mw τ (c + 24) A2'' R2 (mt (upd I2 6 (nI 0)) n n none)) = dcall 240 [.ref (c + 24)] (mw τ (c + 24) A2 R2 I2) ∧ nowM (A2'' 1) (rn L0 z 0).2.2.1 (rn L0 z 0).2.2.2.1 (rn L0 z 0).2.2.2.2.1 (rn L0 z 0).2.2.2.2.2 ∧ (∀ j, j ≠ 7 → A2' j = A2 j) ∧ (∀ j, j ≠ 1 → j ≠ 8 → A2'' j = A2' j) ∧ ((rn L0 z 0).1 = true → (rn L0 z 0).2.1 < L0.length) ∧ ((rn L0 z 0).1 = false → (rn L0 z 0).2.1 = L0.length) ∧ (rn L0 z 0).2.1 ≤ L0.length ∧ okH (rn L0 z 0).2.2 ∧ (rn L0 z 0).2.2.2.2.1 ≤ z.2.2.1 + L0.length := fun τ => by
      obtain ⟨A2', v1, v2, v3⟩ := hM τ
      obtain ⟨A2'', g1, g2⟩ := M_day_run (σ := τ) (m := c + 24) (R := R2) (I := mt (upd I2 6 (nI 0)) n n none) (t := L0.length) (by omega) L0 0 z A2' (by rw [v3 1 (by omega)]; exact hN) h.ok h30 v2 (Nat.zero_add _)
      exact ⟨A2', A2'', g1.symm.trans v1, g2.1, v3, g2.2⟩
    generalize rn L0 z 0 = w at e1 e2 hR
    obtain ⟨b, k', z'⟩ := w
    have e2 : BC c ρ z' K := e2
    obtain ⟨T', hb'⟩ := e2.rb
    have hfl' := hb'.fl
    have key : ∀ (x : Int64), (∀ τ, ∃ A2', dcall 240 [.ref (c + 24)] (mw τ (c + 24) A2 R2 I2) = some (some (.int (nI k')), mw τ (c + 24) A2' (rl R2 [x, lN z'.2.2.1]) (upd (mt (upd I2 6 (nI 0)) n n none) 5 (nI 2))) ∧ nowM (A2' 1) z'.1 z'.2.1 z'.2.2.1 z'.2.2.2 ∧ (∀ j, j = 2 ∨ j = 15 ∨ j = 16 → A2' j = A2 j) ∧ okH z' ∧ z'.2.2.1 ≤ z.2.2.1 + L0.length) → dcall 123 [.ref c] (cw σ c A R I) = some (some (.int (nI k')), cw ρ c A (rl R [x, lN z'.2.2.1]) (upd (upd (ti I p' none) 0 (nI 0)) 3 (nI 2))) → ∃ b τ τ', dcall 123 [.ref c] σ = some (some b, τ) ∧ dcall 240 [.ref (c + 24)] τ = some (some b, τ') ∧ Inv c (i + 1) τ' := fun x hm hc => by
      obtain ⟨A2', m1, m2, m3, m4, m5⟩ := hm (cw ρ c A (rl R [x, lN z'.2.2.1]) (upd (upd (ti I p' none) 0 (nI 0)) 3 (nI 2)))
      refine Inv_mk h hc e2 e3 m1 (RC.row (k := 2) (h.2.2.2.1.text (A' := A) (I' := upd (ti I p' none) 0 (nI 0)) (B' := B) ⟨Nat.zero_le _, pk_us, fun i hi => absurd hi (Nat.not_lt_zero i)⟩ rfl fun j hj => ?_) rfl (by omega)) ?_ ⟨m4, fun j y q1 q2 => ⟨(o2 j y q1 q2).1, by have := (o2 j y q1 q2).2; omega⟩, by omega, o4, o5⟩
      · rw [pk_un (by omega), ti_o (by omega) (by omega)]
      · exact (h.2.2.2.2.1.gen (z' := z') (A2' := A2') (I2' := mt (upd I2 6 (nI 0)) n n none) m2 m3 mt_3 ((mt_o (by omega)).trans (pk_un (by omega)))).row (k := 2) stay.rf rfl (by omega) (pk_un (by omega)) pk_us
    have hl2 : z'.2.2.1 < 2 ^ 31 := by
      obtain ⟨_, _, _, m2, _⟩ := hR σ
      have m2 : nowM _ z'.1 z'.2.1 z'.2.2.1 z'.2.2.2 := m2
      have := m2.2.2.2.2.2.2.1
      omega
    have hk2 : k' ≤ L0.length := by
      obtain ⟨_, _, _, _, _, _, _, _, m3, _⟩ := hR σ
      exact m3
    cases b with
    | true =>
      refine key 1 (fun τ => ?_) ?_
      · obtain ⟨A2', A2'', m1, m2, m3, m4, m5, m6, m7, m8, m9⟩ := hR τ
        have hlt : k' < L0.length := m5 rfl
        have m2 : nowM (A2'' 1) z'.1 z'.2.1 z'.2.2.1 z'.2.2.2 := m2
        have m8 : okH z' := m8
        have m9 : z'.2.2.1 ≤ z.2.2.1 + L0.length := m9
        refine ⟨A2'', ?_, m2, fun j hj => (m4 j (by omega) (by omega)).trans (m3 j (by omega)), m8, m9⟩
        rw [← m1]
        simp (disch := first | omega | exact tl_l | exact tT_len | (simp only [List.length_cons, List.length_nil])) only [e240_79, e240_80, e240_81, e240_84, e240_85, e240_86, e240_87, e240_90, e240_91, e240_94, e240_95, e240_98, e240_99, e240_100, e240_103, e240_104, e240_107, e240_108, kv_s, kh_s, kr_s, kr_v, kn_s, z0, z1, z2, nI_ltI, nI_leI, nI_eq, nI_add, oN, bz0, bz1, bw0, bw1, ltT, ltF, leT, leF, eqT, eqF, if_true, if_false, kI_n, wI_n, and_true, true_and, and_false, false_and, not_true, not_false_eq_true, mwo, mwr_0, mwr_1, mwr_2, mwg_3, mwp_3, mwr_4, mwg_5, mwp_5, mwg_6, mwp_6, mwr_7, mwr_8, mwg_9, mwp_9, mwg_10, mwp_10, mwg_11, mwp_11, mwr_12, mwg_13, mwp_13, mwr_14, mwr_15, mwr_16, mwr_17, mwr_18, mwr_19, mwg_20, mwp_20, mwr_21, mwr_22, mwr_23, mwa_1, mwu_1, mwa_2, mwu_2, mwa_3, mwu_3, mwa_4, mwu_4, mwa_5, mwu_5, mwa_6, mwu_6, mwa_7, mwu_7, mwa_8, mwu_8, mwa_9, mwu_9, mwa_10, mwu_10, mwa_11, mwu_11, mwa_12, mwu_12, mwa_13, mwu_13, mwa_14, mwu_14, mwa_15, mwu_15, mwa_16, mwu_16, vu_at, vu_ne, pk_us, pk_un, kB_n, wB_n, kL_n, wL_n, mwo, hlt, M_tell0, M_tell, M_latest m2, nI_l, List.nil_append, List.cons_append]
      · have h := hb
        rw [q123]
        simp (disch := first | omega | exact tl_l | exact tT_len | (simp only [List.length_cons, List.length_nil])) only [e123_0, e123_1, e123_4, e123_5, e123_6, e123_7, e123_10, e123_11, e123_14, e123_15, e123_18, e123_19, e123_20, e123_21, e123_22, e123_23, e123_26, e123_29, e123_30, e123_31, e123_32, e123_33, e123_34, kv_s, kh_s, kr_s, kr_v, kn_s, z0, z1, z2, nI_ltI, nI_leI, nI_eq, nI_add, oN, bz0, bz1, bw0, bw1, ltT, ltF, leT, leF, eqT, eqF, if_true, if_false, kI_n, wI_n, and_true, true_and, and_false, false_and, not_true, not_false_eq_true, cwo_1, cwr_1, cwg_0, cwg_1, cwg_2, cwa_0, cwl_0, cwo_3, cwr_3, cwg_3, cwa_R, cwl_R, cwo_5, cwr_5, cwg_4, cwg_5, cwg_6, cwg_7, cwg_8, cwa_1, cwl_1, cwo_7, cwr_7, cwg_9, cwg_10, cwg_11, cwg_12, cwg_13, cwa_2, cwl_2, cwo_17, cwr_17, cwg_14, cwa_3, cwl_3, cwp_0, cwp_1, cwp_2, cwp_3, cwp_4, cwp_5, cwp_6, cwp_7, cwp_8, cwp_9, cwp_10, cwp_11, cwp_12, cwp_13, cwp_14, cwu_0, cwu_R, cwu_1, cwu_2, cwu_3, vu_at, vu_ne, pk_us, pk_un, h.x.f0, h.x.f1, h.x.f2, h.x.f3, h.x.f4, h.x.f5, h.x.f6, h.x.f7, h.x.o, h.hi.o, h.hi.gd, h.hi.gf, h.hi.gl, Hi_keys h.hi h.d8, Hi_hasKey h.hi h.d8, Rw_empty, Rw_add, List.nil_append, List.cons_append, upd_upd, cwo_1, cwo_3, cwo_5, cwo_7, cwo_17, Bool.false_eq_true, n01, w1, n1_n1, Tx_rewind, ti_ti]
        rw [e1]
        simp (disch := first | omega | exact tl_l | exact tT_len | (simp only [List.length_cons, List.length_nil])) only [e123_78, e123_79, e123_82, e123_83, e123_86, e123_87, e123_90, e123_93, e123_94, e123_97, e123_98, e123_101, e123_102, e123_105, e123_106, e123_109, e123_110, e123_113, e123_114, e123_117, e123_120, e123_121, e123_124, e123_125, kv_s, kh_s, kr_s, kr_v, kn_s, z0, z1, z2, nI_ltI, nI_leI, nI_eq, nI_add, oN, bz0, bz1, bw0, bw1, ltT, ltF, leT, leF, eqT, eqF, if_true, if_false, kI_n, wI_n, and_true, true_and, and_false, false_and, not_true, not_false_eq_true, cwo_1, cwr_1, cwg_0, cwg_1, cwg_2, cwa_0, cwl_0, cwo_3, cwr_3, cwg_3, cwa_R, cwl_R, cwo_5, cwr_5, cwg_4, cwg_5, cwg_6, cwg_7, cwg_8, cwa_1, cwl_1, cwo_7, cwr_7, cwg_9, cwg_10, cwg_11, cwg_12, cwg_13, cwa_2, cwl_2, cwo_17, cwr_17, cwg_14, cwa_3, cwl_3, cwp_0, cwp_1, cwp_2, cwp_3, cwp_4, cwp_5, cwp_6, cwp_7, cwp_8, cwp_9, cwp_10, cwp_11, cwp_12, cwp_13, cwp_14, cwu_0, cwu_R, cwu_1, cwu_2, cwu_3, vu_at, vu_ne, pk_us, pk_un, hb'.x.f0, hb'.x.f1, hb'.x.f2, hb'.x.f3, hb'.x.f4, hb'.x.f5, hb'.x.f6, hb'.x.f7, hb'.x.o, hb'.hi.o, hb'.hi.gd, hb'.hi.gf, hb'.hi.gl, Hi_keys hb'.hi hb'.d8, Hi_hasKey hb'.hi hb'.d8, Rw_empty, Rw_add, List.nil_append, List.cons_append, bI, nI_l]
    | false =>
      refine key 0 (fun τ => ?_) ?_
      · obtain ⟨A2', A2'', m1, m2, m3, m4, m5, m6, m7, m8, m9⟩ := hR τ
        have hlt : k' = L0.length := m6 rfl
        have m2 : nowM (A2'' 1) z'.1 z'.2.1 z'.2.2.1 z'.2.2.2 := m2
        have m8 : okH z' := m8
        have m9 : z'.2.2.1 ≤ z.2.2.1 + L0.length := m9
        refine ⟨A2'', ?_, m2, fun j hj => (m4 j (by omega) (by omega)).trans (m3 j (by omega)), m8, m9⟩
        rw [← m1, hlt]
        simp (disch := first | omega | exact tl_l | exact tT_len | (simp only [List.length_cons, List.length_nil])) only [e240_79, e240_80, e240_81, e240_84, e240_85, e240_86, e240_87, e240_90, e240_91, e240_94, e240_95, e240_98, e240_99, e240_100, e240_103, e240_104, e240_107, e240_108, kv_s, kh_s, kr_s, kr_v, kn_s, z0, z1, z2, nI_ltI, nI_leI, nI_eq, nI_add, oN, bz0, bz1, bw0, bw1, ltT, ltF, leT, leF, eqT, eqF, if_true, if_false, kI_n, wI_n, and_true, true_and, and_false, false_and, not_true, not_false_eq_true, mwo, mwr_0, mwr_1, mwr_2, mwg_3, mwp_3, mwr_4, mwg_5, mwp_5, mwg_6, mwp_6, mwr_7, mwr_8, mwg_9, mwp_9, mwg_10, mwp_10, mwg_11, mwp_11, mwr_12, mwg_13, mwp_13, mwr_14, mwr_15, mwr_16, mwr_17, mwr_18, mwr_19, mwg_20, mwp_20, mwr_21, mwr_22, mwr_23, mwa_1, mwu_1, mwa_2, mwu_2, mwa_3, mwu_3, mwa_4, mwu_4, mwa_5, mwu_5, mwa_6, mwu_6, mwa_7, mwu_7, mwa_8, mwu_8, mwa_9, mwu_9, mwa_10, mwu_10, mwa_11, mwu_11, mwa_12, mwu_12, mwa_13, mwu_13, mwa_14, mwu_14, mwa_15, mwu_15, mwa_16, mwu_16, vu_at, vu_ne, pk_us, pk_un, kB_n, wB_n, kL_n, wL_n, mwo, M_tell0, M_tell, M_latest m2, nI_l, List.nil_append, List.cons_append]
      · have h := hb
        rw [q123]
        simp (disch := first | omega | exact tl_l | exact tT_len | (simp only [List.length_cons, List.length_nil])) only [e123_0, e123_1, e123_4, e123_5, e123_6, e123_7, e123_10, e123_11, e123_14, e123_15, e123_18, e123_19, e123_20, e123_21, e123_22, e123_23, e123_26, e123_29, e123_30, e123_31, e123_32, e123_33, e123_34, kv_s, kh_s, kr_s, kr_v, kn_s, z0, z1, z2, nI_ltI, nI_leI, nI_eq, nI_add, oN, bz0, bz1, bw0, bw1, ltT, ltF, leT, leF, eqT, eqF, if_true, if_false, kI_n, wI_n, and_true, true_and, and_false, false_and, not_true, not_false_eq_true, cwo_1, cwr_1, cwg_0, cwg_1, cwg_2, cwa_0, cwl_0, cwo_3, cwr_3, cwg_3, cwa_R, cwl_R, cwo_5, cwr_5, cwg_4, cwg_5, cwg_6, cwg_7, cwg_8, cwa_1, cwl_1, cwo_7, cwr_7, cwg_9, cwg_10, cwg_11, cwg_12, cwg_13, cwa_2, cwl_2, cwo_17, cwr_17, cwg_14, cwa_3, cwl_3, cwp_0, cwp_1, cwp_2, cwp_3, cwp_4, cwp_5, cwp_6, cwp_7, cwp_8, cwp_9, cwp_10, cwp_11, cwp_12, cwp_13, cwp_14, cwu_0, cwu_R, cwu_1, cwu_2, cwu_3, vu_at, vu_ne, pk_us, pk_un, h.x.f0, h.x.f1, h.x.f2, h.x.f3, h.x.f4, h.x.f5, h.x.f6, h.x.f7, h.x.o, h.hi.o, h.hi.gd, h.hi.gf, h.hi.gl, Hi_keys h.hi h.d8, Hi_hasKey h.hi h.d8, Rw_empty, Rw_add, List.nil_append, List.cons_append, upd_upd, cwo_1, cwo_3, cwo_5, cwo_7, cwo_17, Bool.false_eq_true, n01, w1, n1_n1, Tx_rewind, ti_ti]
        rw [e1]
        simp (disch := first | omega | exact tl_l | exact tT_len | (simp only [List.length_cons, List.length_nil])) only [e123_78, e123_79, e123_82, e123_83, e123_86, e123_87, e123_90, e123_93, e123_94, e123_97, e123_98, e123_101, e123_102, e123_105, e123_106, e123_109, e123_110, e123_113, e123_114, e123_117, e123_120, e123_121, e123_124, e123_125, kv_s, kh_s, kr_s, kr_v, kn_s, z0, z1, z2, nI_ltI, nI_leI, nI_eq, nI_add, oN, bz0, bz1, bw0, bw1, ltT, ltF, leT, leF, eqT, eqF, if_true, if_false, kI_n, wI_n, and_true, true_and, and_false, false_and, not_true, not_false_eq_true, cwo_1, cwr_1, cwg_0, cwg_1, cwg_2, cwa_0, cwl_0, cwo_3, cwr_3, cwg_3, cwa_R, cwl_R, cwo_5, cwr_5, cwg_4, cwg_5, cwg_6, cwg_7, cwg_8, cwa_1, cwl_1, cwo_7, cwr_7, cwg_9, cwg_10, cwg_11, cwg_12, cwg_13, cwa_2, cwl_2, cwo_17, cwr_17, cwg_14, cwa_3, cwl_3, cwp_0, cwp_1, cwp_2, cwp_3, cwp_4, cwp_5, cwp_6, cwp_7, cwp_8, cwp_9, cwp_10, cwp_11, cwp_12, cwp_13, cwp_14, cwu_0, cwu_R, cwu_1, cwu_2, cwu_3, vu_at, vu_ne, pk_us, pk_un, hb'.x.f0, hb'.x.f1, hb'.x.f2, hb'.x.f3, hb'.x.f4, hb'.x.f5, hb'.x.f6, hb'.x.f7, hb'.x.o, hb'.hi.o, hb'.hi.gd, hb'.hi.gf, hb'.hi.gl, Hi_keys hb'.hi hb'.d8, Hi_hasKey hb'.hi hb'.d8, Rw_empty, Rw_add, List.nil_append, List.cons_append, bI, Bool.false_eq_true, nI_l]
