/-! calls: accepted -/
/-- versions that accept a proof -/
def acP (d : Nat) (V : Nat → Nat → Int32) (q : Hn) (v : Nat) : Bool := isK d (nI q.1) && decide ((cb q d).1 = mk d (V v) 1)
section JX
variable {c i : Nat} {σ : Hp} {m d f l : Nat} {V : Nat → Nat → Int32} {T : Nat → Option Nat} {A : Nat → Nat → Int32} {R : Nat → Int64} {I : Nat → Int32} {q : Hn} {L : List Int64}
theorem tl_l2 {P : Nat → Bool} {g : Nat → Int64} {a i : Nat} : (tl [] P g a i).length = cnt P a i := by
  rw [tl_len]; exact Nat.zero_add _
theorem M_accepted_loop (h : nowM (A 1) d f l V) (hq : RMh (A 2) (some q)) (ho : okN q) (hW : ∀ v, f ≤ v → v ≤ l → plW d (V v)) : ∀ (n j : Nat) (M B : Nat → Int32), f + j + n = l + 1 → ∃ M' B', den 204 30 [.ref m, .int (nI (f + j))] [] (mw σ m (lA A M B) (rl R (tl [] (acP d V q) lN f j)) (upd I 5 (nI (cnt (acP d V q) f j)))) = some (some (.int (nI (cnt (acP d V q) f (l + 1 - f)))), mw σ m (lA A M' B') (rl R (tl [] (acP d V q) lN f (l + 1 - f))) (upd I 5 (nI (cnt (acP d V q) f (l + 1 - f))))) := by
  have hK := h.K
  have hh : ∀ {M B}, nowM (lA A M B 1) d f l V := h
  have hq' : ∀ {M B}, RMh (lA A M B 2) (some q) := hq
  intro n
  induction n with
  | zero =>
    intro j M B hj
    have : j = l + 1 - f := by omega
    subst this
    refine ⟨M, B, ?_⟩
    have b0 : l < f + (l + 1 - f) := by omega
    rw [e204_30]
    simp (disch := first | omega | exact tl_l | exact tT_len | (simp only [List.length_cons, List.length_nil])) only [e204_0, e204_1, e204_2, e204_5, e204_6, e204_9, e204_10, e204_11, e204_12, e204_15, e204_17, e204_18, e204_19, e204_20, e204_23, e204_24, e204_27, e204_28, e204_29, e204_31, e204_32, e204_35, e204_38, e204_39, e204_40, e204_43, e204_46, e204_47, e204_48, e204_49, e204_52, e204_55, e204_58, e204_59, e204_62, kv_s, kh_s, kr_s, kr_v, kn_s, z0, z1, z2, nI_ltI, nI_leI, nI_eq, nI_add, oN, bz0, bz1, bw0, bw1, ltT, ltF, leT, leF, eqT, eqF, if_true, if_false, kI_n, wI_n, and_true, true_and, and_false, false_and, not_true, not_false_eq_true, mwo, mwr_0, mwr_1, mwr_2, mwg_3, mwp_3, mwr_4, mwg_5, mwp_5, mwg_6, mwp_6, mwr_7, mwr_8, mwg_9, mwp_9, mwg_10, mwp_10, mwg_11, mwp_11, mwr_12, mwg_13, mwp_13, mwr_14, mwr_15, mwr_16, mwr_17, mwr_18, mwr_19, mwg_20, mwp_20, mwr_21, mwr_22, mwr_23, mwa_1, mwu_1, mwa_2, mwu_2, mwa_3, mwu_3, mwa_4, mwu_4, mwa_5, mwu_5, mwa_6, mwu_6, mwa_7, mwu_7, mwa_8, mwu_8, mwa_9, mwu_9, mwa_10, mwu_10, mwa_11, mwu_11, mwa_12, mwu_12, mwa_13, mwu_13, mwa_14, mwu_14, mwa_15, mwu_15, mwa_16, mwu_16, vu_at, vu_ne, pk_us, pk_un, kB_n, wB_n, kL_n, wL_n, mwo, M_latest hh, b0]
  | succ n ih =>
    intro j M B hj
    obtain ⟨M1, B1, g1⟩ := M_isAccepted (σ := σ) (m := m) (A := lA A M B) (R := rl R (tl [] (acP d V q) lN f j)) (I := upd I 5 (nI (cnt (acP d V q) f j))) hh hq' ho (v := f + j) (by omega) (by omega) (hW _ (by omega) (by omega))
    obtain ⟨M', B', e⟩ := ih (j + 1) M1 B1 (by omega)
    refine ⟨M', B', ?_⟩
    rw [← e, show f + (j + 1) = f + j + 1 from rfl]
    have hc := cnt_le (acP d V q) f j
    have hlen := tl_l2 (P := acP d V q) (g := lN) (a := f) (i := j)
    rw [lA_lA] at g1
    by_cases hp : isK d (nI q.1) = true ∧ (cb q d).1 = mk d (V (f + j)) 1
    · have hP : acP d V q (f + j) = true := by unfold acP; rw [hp.1, decide_eq_true hp.2]; rfl
      rw [if_pos hp] at g1
      rw [(tl_s hP).1, (tl_s (L := []) (g := lN) hP).2]
      rw [e204_30]
      simp (disch := first | omega | exact tl_l | exact tT_len | (simp only [List.length_cons, List.length_nil])) only [e204_0, e204_1, e204_2, e204_5, e204_6, e204_9, e204_10, e204_11, e204_12, e204_15, e204_17, e204_18, e204_19, e204_20, e204_23, e204_24, e204_27, e204_28, e204_29, e204_31, e204_32, e204_35, e204_38, e204_39, e204_40, e204_43, e204_46, e204_47, e204_48, e204_49, e204_52, e204_55, e204_58, e204_59, e204_62, kv_s, kh_s, kr_s, kr_v, kn_s, z0, z1, z2, nI_ltI, nI_leI, nI_eq, nI_add, oN, bz0, bz1, bw0, bw1, ltT, ltF, leT, leF, eqT, eqF, if_true, if_false, kI_n, wI_n, and_true, true_and, and_false, false_and, not_true, not_false_eq_true, mwo, mwr_0, mwr_1, mwr_2, mwg_3, mwp_3, mwr_4, mwg_5, mwp_5, mwg_6, mwp_6, mwr_7, mwr_8, mwg_9, mwp_9, mwg_10, mwp_10, mwg_11, mwp_11, mwr_12, mwg_13, mwp_13, mwr_14, mwr_15, mwr_16, mwr_17, mwr_18, mwr_19, mwg_20, mwp_20, mwr_21, mwr_22, mwr_23, mwa_1, mwu_1, mwa_2, mwu_2, mwa_3, mwu_3, mwa_4, mwu_4, mwa_5, mwu_5, mwa_6, mwu_6, mwa_7, mwu_7, mwa_8, mwu_8, mwa_9, mwu_9, mwa_10, mwu_10, mwa_11, mwu_11, mwa_12, mwu_12, mwa_13, mwu_13, mwa_14, mwu_14, mwa_15, mwu_15, mwa_16, mwu_16, vu_at, vu_ne, pk_us, pk_un, kB_n, wB_n, kL_n, wL_n, mwo, M_latest hh, g1, n01, nI_l, M_tell]
    · have hP : acP d V q (f + j) = false := by
        unfold acP
        cases hk : isK d (nI q.1) with
        | false => rfl
        | true => rw [decide_eq_false fun z => hp ⟨hk, z⟩]; rfl
      rw [if_neg hp] at g1
      rw [(tl_n hP).1, (tl_n (L := []) (g := lN) hP).2]
      rw [e204_30]
      simp (disch := first | omega | exact tl_l | exact tT_len | (simp only [List.length_cons, List.length_nil])) only [e204_0, e204_1, e204_2, e204_5, e204_6, e204_9, e204_10, e204_11, e204_12, e204_15, e204_17, e204_18, e204_19, e204_20, e204_23, e204_24, e204_27, e204_28, e204_29, e204_31, e204_32, e204_35, e204_38, e204_39, e204_40, e204_43, e204_46, e204_47, e204_48, e204_49, e204_52, e204_55, e204_58, e204_59, e204_62, kv_s, kh_s, kr_s, kr_v, kn_s, z0, z1, z2, nI_ltI, nI_leI, nI_eq, nI_add, oN, bz0, bz1, bw0, bw1, ltT, ltF, leT, leF, eqT, eqF, if_true, if_false, kI_n, wI_n, and_true, true_and, and_false, false_and, not_true, not_false_eq_true, mwo, mwr_0, mwr_1, mwr_2, mwg_3, mwp_3, mwr_4, mwg_5, mwp_5, mwg_6, mwp_6, mwr_7, mwr_8, mwg_9, mwp_9, mwg_10, mwp_10, mwg_11, mwp_11, mwr_12, mwg_13, mwp_13, mwr_14, mwr_15, mwr_16, mwr_17, mwr_18, mwr_19, mwg_20, mwp_20, mwr_21, mwr_22, mwr_23, mwa_1, mwu_1, mwa_2, mwu_2, mwa_3, mwu_3, mwa_4, mwu_4, mwa_5, mwu_5, mwa_6, mwu_6, mwa_7, mwu_7, mwa_8, mwu_8, mwa_9, mwu_9, mwa_10, mwu_10, mwa_11, mwu_11, mwa_12, mwu_12, mwa_13, mwu_13, mwa_14, mwu_14, mwa_15, mwu_15, mwa_16, mwu_16, vu_at, vu_ne, pk_us, pk_un, kB_n, wB_n, kL_n, wL_n, mwo, M_latest hh, g1]
theorem C_accepted_loop (h : RB c σ T d f l V) {k : Bool} (hk : isK d (nI q.1) = k) : ∀ (n j : Nat), f + j + n = l + 1 → den 87 58 [.ref c, .int (if k = true then nI 1 else nI 0), .int (cb q d).1, .int (nI (f + j))] [] (cw σ c A (rl R (tl [] (acP d V q) lN f j)) (upd I 3 (nI (cnt (acP d V q) f j)))) = some (some (.int (nI (cnt (acP d V q) f (l + 1 - f)))), cw σ c A (rl R (tl [] (acP d V q) lN f (l + 1 - f))) (upd I 3 (nI (cnt (acP d V q) f (l + 1 - f))))) := by
  have hK := h.K
  have hl := h.fl
  intro n
  induction n with
  | zero =>
    intro j hj
    have : j = l + 1 - f := by omega
    subst this
    have b0 : l < f + (l + 1 - f) := by omega
    rw [e87_58]
    simp (disch := first | omega | exact tl_l | exact tT_len | (simp only [List.length_cons, List.length_nil])) only [e87_0, e87_1, e87_4, e87_7, e87_10, e87_12, e87_13, e87_14, e87_17, e87_18, e87_21, e87_24, e87_27, e87_28, e87_29, e87_32, e87_33, e87_36, e87_39, e87_42, e87_43, e87_44, e87_47, e87_50, e87_51, e87_54, e87_57, e87_59, e87_60, e87_63, e87_66, e87_69, e87_70, e87_73, e87_74, e87_75, e87_78, e87_79, e87_82, e87_83, e87_86, e87_89, e87_90, e87_93, e87_94, e87_95, e87_98, e87_101, e87_104, e87_105, e87_108, e87_111, kv_s, kh_s, kr_s, kr_v, kn_s, z0, z1, z2, nI_ltI, nI_leI, nI_eq, nI_add, oN, bz0, bz1, bw0, bw1, ltT, ltF, leT, leF, eqT, eqF, if_true, if_false, kI_n, wI_n, and_true, true_and, and_false, false_and, not_true, not_false_eq_true, cwo_1, cwr_1, cwg_0, cwg_1, cwg_2, cwa_0, cwl_0, cwo_3, cwr_3, cwg_3, cwa_R, cwl_R, cwo_5, cwr_5, cwg_4, cwg_5, cwg_6, cwg_7, cwg_8, cwa_1, cwl_1, cwo_7, cwr_7, cwg_9, cwg_10, cwg_11, cwg_12, cwg_13, cwa_2, cwl_2, cwo_17, cwr_17, cwg_14, cwa_3, cwl_3, cwp_0, cwp_1, cwp_2, cwp_3, cwp_4, cwp_5, cwp_6, cwp_7, cwp_8, cwp_9, cwp_10, cwp_11, cwp_12, cwp_13, cwp_14, cwu_0, cwu_R, cwu_1, cwu_2, cwu_3, vu_at, vu_ne, pk_us, pk_un, h.x.f0, h.x.f1, h.x.f2, h.x.f3, h.x.f4, h.x.f5, h.x.f6, h.x.f7, h.x.o, h.hi.o, h.hi.gd, h.hi.gf, h.hi.gl, Hi_keys h.hi h.d8, Hi_hasKey h.hi h.d8, Rw_empty, Rw_add, List.nil_append, List.cons_append, upd_upd, cwo_1, cwo_3, cwo_5, cwo_7, cwo_17, Bool.false_eq_true, n01, b0]
  | succ n ih =>
    intro j hj
    obtain ⟨t, t1, t2⟩ := h.t (v := f + j) (by omega) (by omega)
    rw [← ih (j + 1) (by omega), show f + (j + 1) = f + j + 1 from rfl]
    have hc := cnt_le (acP d V q) f j
    have hlen := tl_l2 (P := acP d V q) (g := lN) (a := f) (i := j)
    cases k with
    | false =>
      have hP : acP d V q (f + j) = false := by unfold acP; rw [hk]; rfl
      rw [(tl_n hP).1, (tl_n (L := []) (g := lN) hP).2]
      rw [e87_58]
      simp (disch := first | omega | exact tl_l | exact tT_len | (simp only [List.length_cons, List.length_nil])) only [e87_0, e87_1, e87_4, e87_7, e87_10, e87_12, e87_13, e87_14, e87_17, e87_18, e87_21, e87_24, e87_27, e87_28, e87_29, e87_32, e87_33, e87_36, e87_39, e87_42, e87_43, e87_44, e87_47, e87_50, e87_51, e87_54, e87_57, e87_59, e87_60, e87_63, e87_66, e87_69, e87_70, e87_73, e87_74, e87_75, e87_78, e87_79, e87_82, e87_83, e87_86, e87_89, e87_90, e87_93, e87_94, e87_95, e87_98, e87_101, e87_104, e87_105, e87_108, e87_111, kv_s, kh_s, kr_s, kr_v, kn_s, z0, z1, z2, nI_ltI, nI_leI, nI_eq, nI_add, oN, bz0, bz1, bw0, bw1, ltT, ltF, leT, leF, eqT, eqF, if_true, if_false, kI_n, wI_n, and_true, true_and, and_false, false_and, not_true, not_false_eq_true, cwo_1, cwr_1, cwg_0, cwg_1, cwg_2, cwa_0, cwl_0, cwo_3, cwr_3, cwg_3, cwa_R, cwl_R, cwo_5, cwr_5, cwg_4, cwg_5, cwg_6, cwg_7, cwg_8, cwa_1, cwl_1, cwo_7, cwr_7, cwg_9, cwg_10, cwg_11, cwg_12, cwg_13, cwa_2, cwl_2, cwo_17, cwr_17, cwg_14, cwa_3, cwl_3, cwp_0, cwp_1, cwp_2, cwp_3, cwp_4, cwp_5, cwp_6, cwp_7, cwp_8, cwp_9, cwp_10, cwp_11, cwp_12, cwp_13, cwp_14, cwu_0, cwu_R, cwu_1, cwu_2, cwu_3, vu_at, vu_ne, pk_us, pk_un, h.x.f0, h.x.f1, h.x.f2, h.x.f3, h.x.f4, h.x.f5, h.x.f6, h.x.f7, h.x.o, h.hi.o, h.hi.gd, h.hi.gf, h.hi.gl, Hi_keys h.hi h.d8, Hi_hasKey h.hi h.d8, Rw_empty, Rw_add, List.nil_append, List.cons_append, upd_upd, cwo_1, cwo_3, cwo_5, cwo_7, cwo_17, Bool.false_eq_true, n01]
    | true =>
      by_cases hp : (cb q d).1 = mk d (V (f + j)) 1
      · have hP : acP d V q (f + j) = true := by unfold acP; rw [hk, decide_eq_true hp]; rfl
        rw [(tl_s hP).1, (tl_s (L := []) (g := lN) hP).2]
        rw [e87_58]
        simp (disch := first | omega | exact tl_l | exact tT_len | (simp only [List.length_cons, List.length_nil])) only [e87_0, e87_1, e87_4, e87_7, e87_10, e87_12, e87_13, e87_14, e87_17, e87_18, e87_21, e87_24, e87_27, e87_28, e87_29, e87_32, e87_33, e87_36, e87_39, e87_42, e87_43, e87_44, e87_47, e87_50, e87_51, e87_54, e87_57, e87_59, e87_60, e87_63, e87_66, e87_69, e87_70, e87_73, e87_74, e87_75, e87_78, e87_79, e87_82, e87_83, e87_86, e87_89, e87_90, e87_93, e87_94, e87_95, e87_98, e87_101, e87_104, e87_105, e87_108, e87_111, kv_s, kh_s, kr_s, kr_v, kn_s, z0, z1, z2, nI_ltI, nI_leI, nI_eq, nI_add, oN, bz0, bz1, bw0, bw1, ltT, ltF, leT, leF, eqT, eqF, if_true, if_false, kI_n, wI_n, and_true, true_and, and_false, false_and, not_true, not_false_eq_true, cwo_1, cwr_1, cwg_0, cwg_1, cwg_2, cwa_0, cwl_0, cwo_3, cwr_3, cwg_3, cwa_R, cwl_R, cwo_5, cwr_5, cwg_4, cwg_5, cwg_6, cwg_7, cwg_8, cwa_1, cwl_1, cwo_7, cwr_7, cwg_9, cwg_10, cwg_11, cwg_12, cwg_13, cwa_2, cwl_2, cwo_17, cwr_17, cwg_14, cwa_3, cwl_3, cwp_0, cwp_1, cwp_2, cwp_3, cwp_4, cwp_5, cwp_6, cwp_7, cwp_8, cwp_9, cwp_10, cwp_11, cwp_12, cwp_13, cwp_14, cwu_0, cwu_R, cwu_1, cwu_2, cwu_3, vu_at, vu_ne, pk_us, pk_un, h.x.f0, h.x.f1, h.x.f2, h.x.f3, h.x.f4, h.x.f5, h.x.f6, h.x.f7, h.x.o, h.hi.o, h.hi.gd, h.hi.gf, h.hi.gl, Hi_keys h.hi h.d8, Hi_hasKey h.hi h.d8, Rw_empty, Rw_add, List.nil_append, List.cons_append, upd_upd, cwo_1, cwo_3, cwo_5, cwo_7, cwo_17, Bool.false_eq_true, n01, Hi_hold_is h.hi (show f + j < 2 ^ 31 by omega) t1, t2.o, T_mark t2, hp, nI_l]
      · have hP : acP d V q (f + j) = false := by unfold acP; rw [hk, decide_eq_false hp]; rfl
        rw [(tl_n hP).1, (tl_n (L := []) (g := lN) hP).2]
        rw [e87_58]
        simp (disch := first | omega | exact tl_l | exact tT_len | (simp only [List.length_cons, List.length_nil])) only [e87_0, e87_1, e87_4, e87_7, e87_10, e87_12, e87_13, e87_14, e87_17, e87_18, e87_21, e87_24, e87_27, e87_28, e87_29, e87_32, e87_33, e87_36, e87_39, e87_42, e87_43, e87_44, e87_47, e87_50, e87_51, e87_54, e87_57, e87_59, e87_60, e87_63, e87_66, e87_69, e87_70, e87_73, e87_74, e87_75, e87_78, e87_79, e87_82, e87_83, e87_86, e87_89, e87_90, e87_93, e87_94, e87_95, e87_98, e87_101, e87_104, e87_105, e87_108, e87_111, kv_s, kh_s, kr_s, kr_v, kn_s, z0, z1, z2, nI_ltI, nI_leI, nI_eq, nI_add, oN, bz0, bz1, bw0, bw1, ltT, ltF, leT, leF, eqT, eqF, if_true, if_false, kI_n, wI_n, and_true, true_and, and_false, false_and, not_true, not_false_eq_true, cwo_1, cwr_1, cwg_0, cwg_1, cwg_2, cwa_0, cwl_0, cwo_3, cwr_3, cwg_3, cwa_R, cwl_R, cwo_5, cwr_5, cwg_4, cwg_5, cwg_6, cwg_7, cwg_8, cwa_1, cwl_1, cwo_7, cwr_7, cwg_9, cwg_10, cwg_11, cwg_12, cwg_13, cwa_2, cwl_2, cwo_17, cwr_17, cwg_14, cwa_3, cwl_3, cwp_0, cwp_1, cwp_2, cwp_3, cwp_4, cwp_5, cwp_6, cwp_7, cwp_8, cwp_9, cwp_10, cwp_11, cwp_12, cwp_13, cwp_14, cwu_0, cwu_R, cwu_1, cwu_2, cwu_3, vu_at, vu_ne, pk_us, pk_un, h.x.f0, h.x.f1, h.x.f2, h.x.f3, h.x.f4, h.x.f5, h.x.f6, h.x.f7, h.x.o, h.hi.o, h.hi.gd, h.hi.gf, h.hi.gl, Hi_keys h.hi h.d8, Hi_hasKey h.hi h.d8, Rw_empty, Rw_add, List.nil_append, List.cons_append, upd_upd, cwo_1, cwo_3, cwo_5, cwo_7, cwo_17, Bool.false_eq_true, n01, Hi_hold_is h.hi (show f + j < 2 ^ 31 by omega) t1, t2.o, T_mark t2, hp]
end JX
theorem J_accepted : Jn 87 204 [] := by
  rintro c i σ hi ⟨z, n, B, L, q, K, A, R, I, A2, R2, I2, h⟩
  obtain ⟨T, hb⟩ := h.rb
  have hS := h
  have hN := h.nm
  have hl := hb.fl
  have hC := h.2.2.2.1.2.2.2.1
  have hM := h.2.2.2.2.1.2.1
  have hO := h.2.2.2.2.2.2.2.2.1
  cases q with
  | none =>
    have hC : I 4 = nI 0 := hC
    have hM : A2 2 0 = -nI 1 := hM
    refine Inv_same hS hi (b := .int (-nI 2)) ?_ ?_
    · have h := hb
      rw [q87]
      simp (disch := first | omega | exact tl_l | exact tT_len | (simp only [List.length_cons, List.length_nil])) only [e87_0, e87_1, e87_4, e87_7, e87_10, e87_12, e87_13, e87_14, e87_17, e87_18, e87_21, e87_24, e87_27, e87_28, e87_29, e87_32, e87_33, e87_36, e87_39, e87_42, e87_43, e87_44, e87_47, e87_50, e87_51, e87_54, e87_57, e87_59, e87_60, e87_63, e87_66, e87_69, e87_70, e87_73, e87_74, e87_75, e87_78, e87_79, e87_82, e87_83, e87_86, e87_89, e87_90, e87_93, e87_94, e87_95, e87_98, e87_101, e87_104, e87_105, e87_108, e87_111, kv_s, kh_s, kr_s, kr_v, kn_s, z0, z1, z2, nI_ltI, nI_leI, nI_eq, nI_add, oN, bz0, bz1, bw0, bw1, ltT, ltF, leT, leF, eqT, eqF, if_true, if_false, kI_n, wI_n, and_true, true_and, and_false, false_and, not_true, not_false_eq_true, cwo_1, cwr_1, cwg_0, cwg_1, cwg_2, cwa_0, cwl_0, cwo_3, cwr_3, cwg_3, cwa_R, cwl_R, cwo_5, cwr_5, cwg_4, cwg_5, cwg_6, cwg_7, cwg_8, cwa_1, cwl_1, cwo_7, cwr_7, cwg_9, cwg_10, cwg_11, cwg_12, cwg_13, cwa_2, cwl_2, cwo_17, cwr_17, cwg_14, cwa_3, cwl_3, cwp_0, cwp_1, cwp_2, cwp_3, cwp_4, cwp_5, cwp_6, cwp_7, cwp_8, cwp_9, cwp_10, cwp_11, cwp_12, cwp_13, cwp_14, cwu_0, cwu_R, cwu_1, cwu_2, cwu_3, vu_at, vu_ne, pk_us, pk_un, h.x.f0, h.x.f1, h.x.f2, h.x.f3, h.x.f4, h.x.f5, h.x.f6, h.x.f7, h.x.o, h.hi.o, h.hi.gd, h.hi.gf, h.hi.gl, Hi_keys h.hi h.d8, Hi_hasKey h.hi h.d8, Rw_empty, Rw_add, List.nil_append, List.cons_append, upd_upd, cwo_1, cwo_3, cwo_5, cwo_7, cwo_17, Bool.false_eq_true, n01, hC]
    · intro τ
      refine ⟨A2, upd I2 6 (nI 0), ?_, stay.rf, pk_un (by omega), pk_un (by omega)⟩
      rw [q204]
      simp (disch := first | omega | exact tl_l | exact tT_len | (simp only [List.length_cons, List.length_nil])) only [e204_0, e204_1, e204_2, e204_5, e204_6, e204_9, e204_10, e204_11, e204_12, e204_15, e204_17, e204_18, e204_19, e204_20, e204_23, e204_24, e204_27, e204_28, e204_29, e204_31, e204_32, e204_35, e204_38, e204_39, e204_40, e204_43, e204_46, e204_47, e204_48, e204_49, e204_52, e204_55, e204_58, e204_59, e204_62, kv_s, kh_s, kr_s, kr_v, kn_s, z0, z1, z2, nI_ltI, nI_leI, nI_eq, nI_add, oN, bz0, bz1, bw0, bw1, ltT, ltF, leT, leF, eqT, eqF, if_true, if_false, kI_n, wI_n, and_true, true_and, and_false, false_and, not_true, not_false_eq_true, mwo, mwr_0, mwr_1, mwr_2, mwg_3, mwp_3, mwr_4, mwg_5, mwp_5, mwg_6, mwp_6, mwr_7, mwr_8, mwg_9, mwp_9, mwg_10, mwp_10, mwg_11, mwp_11, mwr_12, mwg_13, mwp_13, mwr_14, mwr_15, mwr_16, mwr_17, mwr_18, mwr_19, mwg_20, mwp_20, mwr_21, mwr_22, mwr_23, mwa_1, mwu_1, mwa_2, mwu_2, mwa_3, mwu_3, mwa_4, mwu_4, mwa_5, mwu_5, mwa_6, mwu_6, mwa_7, mwu_7, mwa_8, mwu_8, mwa_9, mwu_9, mwa_10, mwu_10, mwa_11, mwu_11, mwa_12, mwu_12, mwa_13, mwu_13, mwa_14, mwu_14, mwa_15, mwu_15, mwa_16, mwu_16, vu_at, vu_ne, pk_us, pk_un, kB_n, wB_n, kL_n, wL_n, hM, n1_n1]
  | some q =>
    have ho := hO q rfl
    have o4 := ho.2.2.2
    have hcl := Pr_climb (σ := σ) (c := c) (R := R) hC ho hb.d8
    obtain ⟨q1, q2, _⟩ := hC
    have hcn := cnt_le (acP z.1 z.2.2.2 q) z.2.1 (z.2.2.1 + 1 - z.2.1)
    refine Inv_tell hS hi (L' := tl [] (acP z.1 z.2.2.2 q) lN z.2.1 (z.2.2.1 + 1 - z.2.1)) (k := cnt (acP z.1 z.2.2.2 q) z.2.1 (z.2.2.1 + 1 - z.2.1)) (b := .int (nI (cnt (acP z.1 z.2.2.2 q) z.2.1 (z.2.2.1 + 1 - z.2.1)))) ?_ ?_ tl_l2 (by omega)
    · have e := C_accepted_loop (A := A) (R := R) (I := I) hb (q := q) rfl (z.2.2.1 + 1 - z.2.1) 0 (by omega)
      rw [← e]
      have h := hb
      rw [q87]
      simp (disch := first | omega | exact tl_l | exact tT_len | (simp only [List.length_cons, List.length_nil])) only [e87_0, e87_1, e87_4, e87_7, e87_10, e87_12, e87_13, e87_14, e87_17, e87_18, e87_21, e87_24, e87_27, e87_28, e87_29, e87_32, e87_33, e87_36, e87_39, e87_42, e87_43, e87_44, e87_47, e87_50, e87_51, e87_54, e87_57, e87_59, e87_60, e87_63, e87_66, e87_69, e87_70, e87_73, e87_74, e87_75, e87_78, e87_79, e87_82, e87_83, e87_86, e87_89, e87_90, e87_93, e87_94, e87_95, e87_98, e87_101, e87_104, e87_105, e87_108, e87_111, kv_s, kh_s, kr_s, kr_v, kn_s, z0, z1, z2, nI_ltI, nI_leI, nI_eq, nI_add, oN, bz0, bz1, bw0, bw1, ltT, ltF, leT, leF, eqT, eqF, if_true, if_false, kI_n, wI_n, and_true, true_and, and_false, false_and, not_true, not_false_eq_true, cwo_1, cwr_1, cwg_0, cwg_1, cwg_2, cwa_0, cwl_0, cwo_3, cwr_3, cwg_3, cwa_R, cwl_R, cwo_5, cwr_5, cwg_4, cwg_5, cwg_6, cwg_7, cwg_8, cwa_1, cwl_1, cwo_7, cwr_7, cwg_9, cwg_10, cwg_11, cwg_12, cwg_13, cwa_2, cwl_2, cwo_17, cwr_17, cwg_14, cwa_3, cwl_3, cwp_0, cwp_1, cwp_2, cwp_3, cwp_4, cwp_5, cwp_6, cwp_7, cwp_8, cwp_9, cwp_10, cwp_11, cwp_12, cwp_13, cwp_14, cwu_0, cwu_R, cwu_1, cwu_2, cwu_3, vu_at, vu_ne, pk_us, pk_un, h.x.f0, h.x.f1, h.x.f2, h.x.f3, h.x.f4, h.x.f5, h.x.f6, h.x.f7, h.x.o, h.hi.o, h.hi.gd, h.hi.gf, h.hi.gl, Hi_keys h.hi h.d8, Hi_hasKey h.hi h.d8, Rw_empty, Rw_add, List.nil_append, List.cons_append, upd_upd, cwo_1, cwo_3, cwo_5, cwo_7, cwo_17, Bool.false_eq_true, n01, q1, q2, hcl, tl, cnt, Nat.add_zero]
    · intro τ
      obtain ⟨M', B', e⟩ := M_accepted_loop (σ := τ) (m := c + 24) (A := A2) (R := R2) (I := upd I2 6 (nI 0)) hN hM ho (fun v h1 h2 => (h.ok v h1 h2).1) (z.2.2.1 + 1 - z.2.1) 0 (A2 5) (A2 6) (by omega)
      rw [lA_id] at e
      refine ⟨lA A2 M' B', upd (upd I2 6 (nI 0)) 5 (nI (cnt (acP z.1 z.2.2.2 q) z.2.1 (z.2.2.1 + 1 - z.2.1))), ?_, stay_lA, by rw [pk_un (by omega), pk_un (by omega)], pk_us⟩
      obtain ⟨m1, _⟩ := hM
      rw [← e]
      rw [q204]
      simp (disch := first | omega | exact tl_l | exact tT_len | (simp only [List.length_cons, List.length_nil])) only [e204_0, e204_1, e204_2, e204_5, e204_6, e204_9, e204_10, e204_11, e204_12, e204_15, e204_17, e204_18, e204_19, e204_20, e204_23, e204_24, e204_27, e204_28, e204_29, e204_31, e204_32, e204_35, e204_38, e204_39, e204_40, e204_43, e204_46, e204_47, e204_48, e204_49, e204_52, e204_55, e204_58, e204_59, e204_62, kv_s, kh_s, kr_s, kr_v, kn_s, z0, z1, z2, nI_ltI, nI_leI, nI_eq, nI_add, oN, bz0, bz1, bw0, bw1, ltT, ltF, leT, leF, eqT, eqF, if_true, if_false, kI_n, wI_n, and_true, true_and, and_false, false_and, not_true, not_false_eq_true, mwo, mwr_0, mwr_1, mwr_2, mwg_3, mwp_3, mwr_4, mwg_5, mwp_5, mwg_6, mwp_6, mwr_7, mwr_8, mwg_9, mwp_9, mwg_10, mwp_10, mwg_11, mwp_11, mwr_12, mwg_13, mwp_13, mwr_14, mwr_15, mwr_16, mwr_17, mwr_18, mwr_19, mwg_20, mwp_20, mwr_21, mwr_22, mwr_23, mwa_1, mwu_1, mwa_2, mwu_2, mwa_3, mwu_3, mwa_4, mwu_4, mwa_5, mwu_5, mwa_6, mwu_6, mwa_7, mwu_7, mwa_8, mwu_8, mwa_9, mwu_9, mwa_10, mwu_10, mwa_11, mwu_11, mwa_12, mwu_12, mwa_13, mwu_13, mwa_14, mwu_14, mwa_15, mwu_15, mwa_16, mwu_16, vu_at, vu_ne, pk_us, pk_un, kB_n, wB_n, kL_n, wL_n, m1, nI_n1, hN.2.1, tl, cnt, Nat.add_zero, rl_nil]
