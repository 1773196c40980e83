/-! calls: hand, alters -/
def tS (L : List Int64) (g : Nat → Int64) : Nat → List Int64
  | 0 => L
  | n + 1 => tS L g n ++ [g n]
theorem tS_len {L : List Int64} {g : Nat → Int64} {n : Nat} : (tS L g n).length = L.length + n := by
  induction n with
  | zero => rfl
  | succ n ih => rw [tS, List.length_append, ih]; rfl
/-- a mark of a proof, told -/
def hg (q : Hn) (i : Nat) : Int64 := (q.2.2.2[i]?.getD 0).toInt64
section JU
variable {c i : Nat} {σ : Hp} {m d f l : Nat} {V : Nat → Nat → Int32} {T : Nat → Option Nat} {A : Nat → Nat → Int32} {R : Nat → Int64} {I : Nat → Int32} {q : Hn} {L : List Int64}
theorem A_tellHeld_loop (h : RB c σ T d f l V) (hq : RCh A I (some q)) (ho : okN q) {k : Nat} (hL : L.length = k) (hk : k ≤ 100) : ∀ (n j : Nat), j + n = q.2.2.2.length → den 75 32 [.ref c, .int (nI j)] [] (cw σ c A (rl R (tS L (hg q) j)) (upd I 3 (nI (k + j)))) = some (none, cw σ c A (rl R (tS L (hg q) q.2.2.2.length)) (upd I 3 (nI (k + q.2.2.2.length)))) := by
  obtain ⟨q1, q2, q3, q4, q5, q6⟩ := hq
  have o4 := ho.2.2.2
  intro n
  induction n with
  | zero =>
    intro j hj
    have : j = q.2.2.2.length := by omega
    subst this
    rw [e75_32]
    simp (disch := first | omega | exact tl_l | exact tT_len | (simp only [List.length_cons, List.length_nil])) only [e75_0, e75_1, e75_4, e75_5, e75_8, e75_11, e75_12, e75_15, e75_16, e75_19, e75_20, e75_23, e75_26, e75_27, e75_30, e75_31, e75_33, e75_34, e75_37, e75_40, e75_43, e75_44, e75_46, e75_49, e75_50, e75_53, e75_54, e75_57, e75_60, e75_61, e75_62, e75_63, e75_66, e75_69, e75_72, kv_s, kh_s, kr_s, kr_v, kn_s, z0, z1, z2, nI_ltI, nI_leI, nI_eq, nI_add, oN, bz0, bz1, bw0, bw1, ltT, ltF, leT, leF, eqT, eqF, if_true, if_false, kI_n, wI_n, and_true, true_and, and_false, false_and, not_true, not_false_eq_true, cwo_1, cwr_1, cwg_0, cwg_1, cwg_2, cwa_0, cwl_0, cwo_3, cwr_3, cwg_3, cwa_R, cwl_R, cwo_5, cwr_5, cwg_4, cwg_5, cwg_6, cwg_7, cwg_8, cwa_1, cwl_1, cwo_7, cwr_7, cwg_9, cwg_10, cwg_11, cwg_12, cwg_13, cwa_2, cwl_2, cwo_17, cwr_17, cwg_14, cwa_3, cwl_3, cwp_0, cwp_1, cwp_2, cwp_3, cwp_4, cwp_5, cwp_6, cwp_7, cwp_8, cwp_9, cwp_10, cwp_11, cwp_12, cwp_13, cwp_14, cwu_0, cwu_R, cwu_1, cwu_2, cwu_3, vu_at, vu_ne, pk_us, pk_un, h.x.f0, h.x.f1, h.x.f2, h.x.f3, h.x.f4, h.x.f5, h.x.f6, h.x.f7, h.x.o, h.hi.o, h.hi.gd, h.hi.gf, h.hi.gl, Hi_keys h.hi h.d8, Hi_hasKey h.hi h.d8, Rw_empty, Rw_add, List.nil_append, List.cons_append, upd_upd, cwo_1, cwo_3, cwo_5, cwo_7, cwo_17, Bool.false_eq_true, n01, q5]
  | succ n ih =>
    intro j hj
    have g : (A 1 j).toInt64 = hg q j := by
      unfold hg
      rw [← q6 j (by omega)]
      rfl
    have hlen : (tS L (hg q) j).length = k + j := by rw [tS_len, hL]
    rw [← ih (j + 1) (by omega), tS]
    rw [e75_32]
    simp (disch := first | omega | exact tl_l | exact tT_len | (simp only [List.length_cons, List.length_nil])) only [e75_0, e75_1, e75_4, e75_5, e75_8, e75_11, e75_12, e75_15, e75_16, e75_19, e75_20, e75_23, e75_26, e75_27, e75_30, e75_31, e75_33, e75_34, e75_37, e75_40, e75_43, e75_44, e75_46, e75_49, e75_50, e75_53, e75_54, e75_57, e75_60, e75_61, e75_62, e75_63, e75_66, e75_69, e75_72, kv_s, kh_s, kr_s, kr_v, kn_s, z0, z1, z2, nI_ltI, nI_leI, nI_eq, nI_add, oN, bz0, bz1, bw0, bw1, ltT, ltF, leT, leF, eqT, eqF, if_true, if_false, kI_n, wI_n, and_true, true_and, and_false, false_and, not_true, not_false_eq_true, cwo_1, cwr_1, cwg_0, cwg_1, cwg_2, cwa_0, cwl_0, cwo_3, cwr_3, cwg_3, cwa_R, cwl_R, cwo_5, cwr_5, cwg_4, cwg_5, cwg_6, cwg_7, cwg_8, cwa_1, cwl_1, cwo_7, cwr_7, cwg_9, cwg_10, cwg_11, cwg_12, cwg_13, cwa_2, cwl_2, cwo_17, cwr_17, cwg_14, cwa_3, cwl_3, cwp_0, cwp_1, cwp_2, cwp_3, cwp_4, cwp_5, cwp_6, cwp_7, cwp_8, cwp_9, cwp_10, cwp_11, cwp_12, cwp_13, cwp_14, cwu_0, cwu_R, cwu_1, cwu_2, cwu_3, vu_at, vu_ne, pk_us, pk_un, h.x.f0, h.x.f1, h.x.f2, h.x.f3, h.x.f4, h.x.f5, h.x.f6, h.x.f7, h.x.o, h.hi.o, h.hi.gd, h.hi.gf, h.hi.gl, Hi_keys h.hi h.d8, Hi_hasKey h.hi h.d8, Rw_empty, Rw_add, List.nil_append, List.cons_append, upd_upd, cwo_1, cwo_3, cwo_5, cwo_7, cwo_17, Bool.false_eq_true, n01, q5, z8, g]
    rfl
theorem A_tellHeld (h : RB c σ T d f l V) (hq : RCh A I (some q)) (ho : okN q) {k : Nat} (hL : L.length = k) (hk : k ≤ 98) : dcall 75 [.ref c] (cw σ c A (rl R L) (upd I 3 (nI k))) = some (none, cw σ c A (rl R (tS (L ++ [lN q.2.1] ++ [lN q.2.2.1]) (hg q) q.2.2.2.length)) (upd I 3 (nI (k + 2 + q.2.2.2.length)))) := by
  have hl1 : (L ++ [lN q.2.1]).length = k + 1 := by rw [List.length_append, hL]; rfl
  have hl2 : (L ++ [lN q.2.1] ++ [lN q.2.2.1]).length = k + 2 := by rw [List.length_append, hl1]; rfl
  have o2 := ho.2.1
  have o3 := ho.2.2.1
  rw [← A_tellHeld_loop (R := R) h hq ho hl2 (by omega) _ 0 (Nat.zero_add _)]
  obtain ⟨q1, q2, q3, q4, q5, q6⟩ := hq
  rw [q75]
  simp (disch := first | omega | exact tl_l) only [e75_0, e75_1, e75_4, e75_5, e75_8, e75_11, e75_12, e75_15, e75_16, e75_19, e75_20, e75_23, e75_26, e75_27, e75_30, e75_31, e75_33, e75_34, e75_37, e75_40, e75_43, e75_44, e75_46, e75_49, e75_50, e75_53, e75_54, e75_57, e75_60, e75_61, e75_62, e75_63, e75_66, e75_69, e75_72, kv_s, kh_s, kr_s, kr_v, kn_s, z0, z1, z2, nI_ltI, nI_leI, nI_eq, nI_add, oN, bz0, bz1, bw0, bw1, ltT, ltF, leT, leF, eqT, eqF, if_true, if_false, kI_n, wI_n, and_true, true_and, and_false, false_and, not_true, not_false_eq_true, cwo_1, cwr_1, cwg_0, cwg_1, cwg_2, cwa_0, cwl_0, cwo_3, cwr_3, cwg_3, cwa_R, cwl_R, cwo_5, cwr_5, cwg_4, cwg_5, cwg_6, cwg_7, cwg_8, cwa_1, cwl_1, cwo_7, cwr_7, cwg_9, cwg_10, cwg_11, cwg_12, cwg_13, cwa_2, cwl_2, cwo_17, cwr_17, cwg_14, cwa_3, cwl_3, cwp_0, cwp_1, cwp_2, cwp_3, cwp_4, cwp_5, cwp_6, cwp_7, cwp_8, cwp_9, cwp_10, cwp_11, cwp_12, cwp_13, cwp_14, cwu_0, cwu_R, cwu_1, cwu_2, cwu_3, vu_at, vu_ne, pk_us, pk_un, h.x.f0, h.x.f1, h.x.f2, h.x.o, Rw_add, q3, q4, nI_l, tS, Nat.add_zero]
theorem M_tellHand_loop {N : Nat → Int32} (hq : RMh (A 2) (some q)) (ho : okN q) {k a : Nat} (ha : k + a = 4) (hL : L.length = k) (hk : k ≤ 100) {l1 : Value} : ∀ (n j : Nat), j + n = q.2.2.2.length → den 197 7 [.ref m, l1, .int (nI (4 + j))] [] (mw σ m A (rl R (tS L (hg q) j)) (upd I 5 (nI (k + j)))) = some (none, mw σ m A (rl R (tS L (hg q) q.2.2.2.length)) (upd I 5 (nI (k + q.2.2.2.length)))) := by
  obtain ⟨q1, q2, q3, q4, q6⟩ := hq
  have o4 := ho.2.2.2
  intro n
  induction n with
  | zero =>
    intro j hj
    have : j = q.2.2.2.length := by omega
    subst this
    rw [e197_7]
    simp (disch := first | omega | exact tl_l | exact tT_len | (simp only [List.length_cons, List.length_nil])) only [e197_0, e197_1, e197_2, e197_5, e197_6, e197_8, e197_9, e197_10, e197_13, e197_14, e197_15, e197_16, e197_19, e197_20, e197_21, e197_24, e197_25, e197_26, e197_27, e197_30, e197_33, e197_36, kv_s, kh_s, kr_s, kr_v, kn_s, z0, z1, z2, nI_ltI, nI_leI, nI_eq, nI_add, oN, bz0, bz1, bw0, bw1, ltT, ltF, leT, leF, eqT, eqF, if_true, if_false, kI_n, wI_n, and_true, true_and, and_false, false_and, not_true, not_false_eq_true, mwo, mwr_0, mwr_1, mwr_2, mwg_3, mwp_3, mwr_4, mwg_5, mwp_5, mwg_6, mwp_6, mwr_7, mwr_8, mwg_9, mwp_9, mwg_10, mwp_10, mwg_11, mwp_11, mwr_12, mwg_13, mwp_13, mwr_14, mwr_15, mwr_16, mwr_17, mwr_18, mwr_19, mwg_20, mwp_20, mwr_21, mwr_22, mwr_23, mwa_1, mwu_1, mwa_2, mwu_2, mwa_3, mwu_3, mwa_4, mwu_4, mwa_5, mwu_5, mwa_6, mwu_6, mwa_7, mwu_7, mwa_8, mwu_8, mwa_9, mwu_9, mwa_10, mwu_10, mwa_11, mwu_11, mwa_12, mwu_12, mwa_13, mwu_13, mwa_14, mwu_14, mwa_15, mwu_15, mwa_16, mwu_16, vu_at, vu_ne, pk_us, pk_un, kB_n, wB_n, kL_n, wL_n, q1, z4]
  | succ n ih =>
    intro j hj
    have g : (A 2 (4 + j)).toInt64 = hg q j := by
      unfold hg
      rw [← q6 j (by omega)]
      rfl
    have hlen : (tS L (hg q) j).length = k + j := by rw [tS_len, hL]
    rw [← ih (j + 1) (by omega), tS]
    rw [e197_7]
    simp (disch := first | omega | exact tl_l | exact tT_len | (simp only [List.length_cons, List.length_nil])) only [e197_0, e197_1, e197_2, e197_5, e197_6, e197_8, e197_9, e197_10, e197_13, e197_14, e197_15, e197_16, e197_19, e197_20, e197_21, e197_24, e197_25, e197_26, e197_27, e197_30, e197_33, e197_36, kv_s, kh_s, kr_s, kr_v, kn_s, z0, z1, z2, nI_ltI, nI_leI, nI_eq, nI_add, oN, bz0, bz1, bw0, bw1, ltT, ltF, leT, leF, eqT, eqF, if_true, if_false, kI_n, wI_n, and_true, true_and, and_false, false_and, not_true, not_false_eq_true, mwo, mwr_0, mwr_1, mwr_2, mwg_3, mwp_3, mwr_4, mwg_5, mwp_5, mwg_6, mwp_6, mwr_7, mwr_8, mwg_9, mwp_9, mwg_10, mwp_10, mwg_11, mwp_11, mwr_12, mwg_13, mwp_13, mwr_14, mwr_15, mwr_16, mwr_17, mwr_18, mwr_19, mwg_20, mwp_20, mwr_21, mwr_22, mwr_23, mwa_1, mwu_1, mwa_2, mwu_2, mwa_3, mwu_3, mwa_4, mwu_4, mwa_5, mwu_5, mwa_6, mwu_6, mwa_7, mwu_7, mwa_8, mwu_8, mwa_9, mwu_9, mwa_10, mwu_10, mwa_11, mwu_11, mwa_12, mwu_12, mwa_13, mwu_13, mwa_14, mwu_14, mwa_15, mwu_15, mwa_16, mwu_16, vu_at, vu_ne, pk_us, pk_un, kB_n, wB_n, kL_n, wL_n, mwo, q1, z4, g, M_tell]
    rfl
theorem M_tellHand1 (hq : RMh (A 2) (some q)) (ho : okN q) : dcall 197 [.ref m, .int (nI 1)] (mw σ m A R I) = some (none, mw σ m A (rl R (tS ([lN q.1] ++ [lN q.2.1] ++ [lN q.2.2.1]) (hg q) q.2.2.2.length)) (upd I 5 (nI (3 + q.2.2.2.length)))) := by
  have o1 := ho.1
  have o2 := ho.2.1
  have o3 := ho.2.2.1
  have o4 := ho.2.2.2
  rw [← M_tellHand_loop (L := [lN q.1] ++ [lN q.2.1] ++ [lN q.2.2.1]) (N := A 2) (R := R) hq ho (k := 3) (a := 1) (by omega) rfl (by omega) (l1 := .int (nI 1)) _ 0 (Nat.zero_add _)]
  obtain ⟨q1, q2, q3, q4, q6⟩ := hq
  rw [q197]
  simp (disch := first | omega | exact tl_l | exact tT_len | (simp only [List.length_cons, List.length_nil])) only [e197_0, e197_1, e197_2, e197_5, e197_6, e197_8, e197_9, e197_10, e197_13, e197_14, e197_15, e197_16, e197_19, e197_20, e197_21, e197_24, e197_25, e197_26, e197_27, e197_30, e197_33, e197_36, kv_s, kh_s, kr_s, kr_v, kn_s, z0, z1, z2, nI_ltI, nI_leI, nI_eq, nI_add, oN, bz0, bz1, bw0, bw1, ltT, ltF, leT, leF, eqT, eqF, if_true, if_false, kI_n, wI_n, and_true, true_and, and_false, false_and, not_true, not_false_eq_true, mwo, mwr_0, mwr_1, mwr_2, mwg_3, mwp_3, mwr_4, mwg_5, mwp_5, mwg_6, mwp_6, mwr_7, mwr_8, mwg_9, mwp_9, mwg_10, mwp_10, mwg_11, mwp_11, mwr_12, mwg_13, mwp_13, mwr_14, mwr_15, mwr_16, mwr_17, mwr_18, mwr_19, mwg_20, mwp_20, mwr_21, mwr_22, mwr_23, mwa_1, mwu_1, mwa_2, mwu_2, mwa_3, mwu_3, mwa_4, mwu_4, mwa_5, mwu_5, mwa_6, mwu_6, mwa_7, mwu_7, mwa_8, mwu_8, mwa_9, mwu_9, mwa_10, mwu_10, mwa_11, mwu_11, mwa_12, mwu_12, mwa_13, mwu_13, mwa_14, mwu_14, mwa_15, mwu_15, mwa_16, mwu_16, vu_at, vu_ne, pk_us, pk_un, kB_n, wB_n, kL_n, wL_n]
  rw [e197_7]
  simp (disch := first | omega | exact tl_l | exact tT_len | (simp only [List.length_cons, List.length_nil])) only [e197_0, e197_1, e197_2, e197_5, e197_6, e197_8, e197_9, e197_10, e197_13, e197_14, e197_15, e197_16, e197_19, e197_20, e197_21, e197_24, e197_25, e197_26, e197_27, e197_30, e197_33, e197_36, kv_s, kh_s, kr_s, kr_v, kn_s, z0, z1, z2, nI_ltI, nI_leI, nI_eq, nI_add, oN, bz0, bz1, bw0, bw1, ltT, ltF, leT, leF, eqT, eqF, if_true, if_false, kI_n, wI_n, and_true, true_and, and_false, false_and, not_true, not_false_eq_true, mwo, mwr_0, mwr_1, mwr_2, mwg_3, mwp_3, mwr_4, mwg_5, mwp_5, mwg_6, mwp_6, mwr_7, mwr_8, mwg_9, mwp_9, mwg_10, mwp_10, mwg_11, mwp_11, mwr_12, mwg_13, mwp_13, mwr_14, mwr_15, mwr_16, mwr_17, mwr_18, mwr_19, mwg_20, mwp_20, mwr_21, mwr_22, mwr_23, mwa_1, mwu_1, mwa_2, mwu_2, mwa_3, mwu_3, mwa_4, mwu_4, mwa_5, mwu_5, mwa_6, mwu_6, mwa_7, mwu_7, mwa_8, mwu_8, mwa_9, mwu_9, mwa_10, mwu_10, mwa_11, mwu_11, mwa_12, mwu_12, mwa_13, mwu_13, mwa_14, mwu_14, mwa_15, mwu_15, mwa_16, mwu_16, vu_at, vu_ne, pk_us, pk_un, kB_n, wB_n, kL_n, wL_n, mwo, q1, q2, z4, nI_l, M_tell0]
  rw [e197_7]
  simp (disch := first | omega | exact tl_l | exact tT_len | (simp only [List.length_cons, List.length_nil])) only [e197_0, e197_1, e197_2, e197_5, e197_6, e197_8, e197_9, e197_10, e197_13, e197_14, e197_15, e197_16, e197_19, e197_20, e197_21, e197_24, e197_25, e197_26, e197_27, e197_30, e197_33, e197_36, kv_s, kh_s, kr_s, kr_v, kn_s, z0, z1, z2, nI_ltI, nI_leI, nI_eq, nI_add, oN, bz0, bz1, bw0, bw1, ltT, ltF, leT, leF, eqT, eqF, if_true, if_false, kI_n, wI_n, and_true, true_and, and_false, false_and, not_true, not_false_eq_true, mwo, mwr_0, mwr_1, mwr_2, mwg_3, mwp_3, mwr_4, mwg_5, mwp_5, mwg_6, mwp_6, mwr_7, mwr_8, mwg_9, mwp_9, mwg_10, mwp_10, mwg_11, mwp_11, mwr_12, mwg_13, mwp_13, mwr_14, mwr_15, mwr_16, mwr_17, mwr_18, mwr_19, mwg_20, mwp_20, mwr_21, mwr_22, mwr_23, mwa_1, mwu_1, mwa_2, mwu_2, mwa_3, mwu_3, mwa_4, mwu_4, mwa_5, mwu_5, mwa_6, mwu_6, mwa_7, mwu_7, mwa_8, mwu_8, mwa_9, mwu_9, mwa_10, mwu_10, mwa_11, mwu_11, mwa_12, mwu_12, mwa_13, mwu_13, mwa_14, mwu_14, mwa_15, mwu_15, mwa_16, mwu_16, vu_at, vu_ne, pk_us, pk_un, kB_n, wB_n, kL_n, wL_n, mwo, q1, q3, z4, nI_l, M_tell, List.nil_append, List.cons_append]
  rw [e197_7]
  simp (disch := first | omega | exact tl_l | exact tT_len | (simp only [List.length_cons, List.length_nil])) only [e197_0, e197_1, e197_2, e197_5, e197_6, e197_8, e197_9, e197_10, e197_13, e197_14, e197_15, e197_16, e197_19, e197_20, e197_21, e197_24, e197_25, e197_26, e197_27, e197_30, e197_33, e197_36, kv_s, kh_s, kr_s, kr_v, kn_s, z0, z1, z2, nI_ltI, nI_leI, nI_eq, nI_add, oN, bz0, bz1, bw0, bw1, ltT, ltF, leT, leF, eqT, eqF, if_true, if_false, kI_n, wI_n, and_true, true_and, and_false, false_and, not_true, not_false_eq_true, mwo, mwr_0, mwr_1, mwr_2, mwg_3, mwp_3, mwr_4, mwg_5, mwp_5, mwg_6, mwp_6, mwr_7, mwr_8, mwg_9, mwp_9, mwg_10, mwp_10, mwg_11, mwp_11, mwr_12, mwg_13, mwp_13, mwr_14, mwr_15, mwr_16, mwr_17, mwr_18, mwr_19, mwg_20, mwp_20, mwr_21, mwr_22, mwr_23, mwa_1, mwu_1, mwa_2, mwu_2, mwa_3, mwu_3, mwa_4, mwu_4, mwa_5, mwu_5, mwa_6, mwu_6, mwa_7, mwu_7, mwa_8, mwu_8, mwa_9, mwu_9, mwa_10, mwu_10, mwa_11, mwu_11, mwa_12, mwu_12, mwa_13, mwu_13, mwa_14, mwu_14, mwa_15, mwu_15, mwa_16, mwu_16, vu_at, vu_ne, pk_us, pk_un, kB_n, wB_n, kL_n, wL_n, mwo, q1, q4, z4, nI_l, M_tell, List.nil_append, List.cons_append]
  simp only [tS, List.nil_append, List.cons_append, Nat.add_zero]
theorem M_tellHand2 (hq : RMh (A 2) (some q)) (ho : okN q) : dcall 197 [.ref m, .int (nI 2)] (mw σ m A R I) = some (none, mw σ m A (rl R (tS ([lN q.2.1] ++ [lN q.2.2.1]) (hg q) q.2.2.2.length)) (upd I 5 (nI (2 + q.2.2.2.length)))) := by
  have o1 := ho.1
  have o2 := ho.2.1
  have o3 := ho.2.2.1
  have o4 := ho.2.2.2
  rw [← M_tellHand_loop (L := [lN q.2.1] ++ [lN q.2.2.1]) (N := A 2) (R := R) hq ho (k := 2) (a := 2) (by omega) rfl (by omega) (l1 := .int (nI 2)) _ 0 (Nat.zero_add _)]
  obtain ⟨q1, q2, q3, q4, q6⟩ := hq
  rw [q197]
  simp (disch := first | omega | exact tl_l | exact tT_len | (simp only [List.length_cons, List.length_nil])) only [e197_0, e197_1, e197_2, e197_5, e197_6, e197_8, e197_9, e197_10, e197_13, e197_14, e197_15, e197_16, e197_19, e197_20, e197_21, e197_24, e197_25, e197_26, e197_27, e197_30, e197_33, e197_36, kv_s, kh_s, kr_s, kr_v, kn_s, z0, z1, z2, nI_ltI, nI_leI, nI_eq, nI_add, oN, bz0, bz1, bw0, bw1, ltT, ltF, leT, leF, eqT, eqF, if_true, if_false, kI_n, wI_n, and_true, true_and, and_false, false_and, not_true, not_false_eq_true, mwo, mwr_0, mwr_1, mwr_2, mwg_3, mwp_3, mwr_4, mwg_5, mwp_5, mwg_6, mwp_6, mwr_7, mwr_8, mwg_9, mwp_9, mwg_10, mwp_10, mwg_11, mwp_11, mwr_12, mwg_13, mwp_13, mwr_14, mwr_15, mwr_16, mwr_17, mwr_18, mwr_19, mwg_20, mwp_20, mwr_21, mwr_22, mwr_23, mwa_1, mwu_1, mwa_2, mwu_2, mwa_3, mwu_3, mwa_4, mwu_4, mwa_5, mwu_5, mwa_6, mwu_6, mwa_7, mwu_7, mwa_8, mwu_8, mwa_9, mwu_9, mwa_10, mwu_10, mwa_11, mwu_11, mwa_12, mwu_12, mwa_13, mwu_13, mwa_14, mwu_14, mwa_15, mwu_15, mwa_16, mwu_16, vu_at, vu_ne, pk_us, pk_un, kB_n, wB_n, kL_n, wL_n]
  rw [e197_7]
  simp (disch := first | omega | exact tl_l | exact tT_len | (simp only [List.length_cons, List.length_nil])) only [e197_0, e197_1, e197_2, e197_5, e197_6, e197_8, e197_9, e197_10, e197_13, e197_14, e197_15, e197_16, e197_19, e197_20, e197_21, e197_24, e197_25, e197_26, e197_27, e197_30, e197_33, e197_36, kv_s, kh_s, kr_s, kr_v, kn_s, z0, z1, z2, nI_ltI, nI_leI, nI_eq, nI_add, oN, bz0, bz1, bw0, bw1, ltT, ltF, leT, leF, eqT, eqF, if_true, if_false, kI_n, wI_n, and_true, true_and, and_false, false_and, not_true, not_false_eq_true, mwo, mwr_0, mwr_1, mwr_2, mwg_3, mwp_3, mwr_4, mwg_5, mwp_5, mwg_6, mwp_6, mwr_7, mwr_8, mwg_9, mwp_9, mwg_10, mwp_10, mwg_11, mwp_11, mwr_12, mwg_13, mwp_13, mwr_14, mwr_15, mwr_16, mwr_17, mwr_18, mwr_19, mwg_20, mwp_20, mwr_21, mwr_22, mwr_23, mwa_1, mwu_1, mwa_2, mwu_2, mwa_3, mwu_3, mwa_4, mwu_4, mwa_5, mwu_5, mwa_6, mwu_6, mwa_7, mwu_7, mwa_8, mwu_8, mwa_9, mwu_9, mwa_10, mwu_10, mwa_11, mwu_11, mwa_12, mwu_12, mwa_13, mwu_13, mwa_14, mwu_14, mwa_15, mwu_15, mwa_16, mwu_16, vu_at, vu_ne, pk_us, pk_un, kB_n, wB_n, kL_n, wL_n, mwo, q1, q3, z4, nI_l, M_tell0]
  rw [e197_7]
  simp (disch := first | omega | exact tl_l | exact tT_len | (simp only [List.length_cons, List.length_nil])) only [e197_0, e197_1, e197_2, e197_5, e197_6, e197_8, e197_9, e197_10, e197_13, e197_14, e197_15, e197_16, e197_19, e197_20, e197_21, e197_24, e197_25, e197_26, e197_27, e197_30, e197_33, e197_36, kv_s, kh_s, kr_s, kr_v, kn_s, z0, z1, z2, nI_ltI, nI_leI, nI_eq, nI_add, oN, bz0, bz1, bw0, bw1, ltT, ltF, leT, leF, eqT, eqF, if_true, if_false, kI_n, wI_n, and_true, true_and, and_false, false_and, not_true, not_false_eq_true, mwo, mwr_0, mwr_1, mwr_2, mwg_3, mwp_3, mwr_4, mwg_5, mwp_5, mwg_6, mwp_6, mwr_7, mwr_8, mwg_9, mwp_9, mwg_10, mwp_10, mwg_11, mwp_11, mwr_12, mwg_13, mwp_13, mwr_14, mwr_15, mwr_16, mwr_17, mwr_18, mwr_19, mwg_20, mwp_20, mwr_21, mwr_22, mwr_23, mwa_1, mwu_1, mwa_2, mwu_2, mwa_3, mwu_3, mwa_4, mwu_4, mwa_5, mwu_5, mwa_6, mwu_6, mwa_7, mwu_7, mwa_8, mwu_8, mwa_9, mwu_9, mwa_10, mwu_10, mwa_11, mwu_11, mwa_12, mwu_12, mwa_13, mwu_13, mwa_14, mwu_14, mwa_15, mwu_15, mwa_16, mwu_16, vu_at, vu_ne, pk_us, pk_un, kB_n, wB_n, kL_n, wL_n, mwo, q1, q4, z4, nI_l, M_tell, List.nil_append, List.cons_append]
  simp only [tS, List.nil_append, List.cons_append, Nat.add_zero]
end JU
theorem J_hand : Jn 83 199 [] := by
  rintro c i σ hi ⟨z, n, B, L, q, K, A, R, I, A2, R2, I2, h⟩
  obtain ⟨T, hb⟩ := h.rb
  have hS := h
  have hC := h.2.2.2.1.2.2.2.1
  have hM := h.2.2.2.2.1.2.1
  have hO := h.2.2.2.2.2.2.2.2.1
  cases q with
  | none =>
    have hC : I 4 = nI 0 := hC
    have hM : A2 2 0 = -nI 1 := hM
    refine Inv_same hS hi (b := .int (-nI 2)) ?_ ?_
    · have h := hb
      rw [q83]
      simp (disch := first | omega | exact tl_l | exact tT_len | (simp only [List.length_cons, List.length_nil])) only [e83_0, e83_1, e83_4, e83_7, e83_10, e83_12, e83_13, e83_14, e83_17, e83_20, e83_21, e83_24, e83_25, e83_28, e83_31, e83_32, e83_35, e83_36, e83_39, e83_40, e83_43, e83_46, kv_s, kh_s, kr_s, kr_v, kn_s, z0, z1, z2, nI_ltI, nI_leI, nI_eq, nI_add, oN, bz0, bz1, bw0, bw1, ltT, ltF, leT, leF, eqT, eqF, if_true, if_false, kI_n, wI_n, and_true, true_and, and_false, false_and, not_true, not_false_eq_true, cwo_1, cwr_1, cwg_0, cwg_1, cwg_2, cwa_0, cwl_0, cwo_3, cwr_3, cwg_3, cwa_R, cwl_R, cwo_5, cwr_5, cwg_4, cwg_5, cwg_6, cwg_7, cwg_8, cwa_1, cwl_1, cwo_7, cwr_7, cwg_9, cwg_10, cwg_11, cwg_12, cwg_13, cwa_2, cwl_2, cwo_17, cwr_17, cwg_14, cwa_3, cwl_3, cwp_0, cwp_1, cwp_2, cwp_3, cwp_4, cwp_5, cwp_6, cwp_7, cwp_8, cwp_9, cwp_10, cwp_11, cwp_12, cwp_13, cwp_14, cwu_0, cwu_R, cwu_1, cwu_2, cwu_3, vu_at, vu_ne, pk_us, pk_un, h.x.f0, h.x.f1, h.x.f2, h.x.f3, h.x.f4, h.x.f5, h.x.f6, h.x.f7, h.x.o, h.hi.o, h.hi.gd, h.hi.gf, h.hi.gl, Hi_keys h.hi h.d8, Hi_hasKey h.hi h.d8, Rw_empty, Rw_add, List.nil_append, List.cons_append, upd_upd, cwo_1, cwo_3, cwo_5, cwo_7, cwo_17, Bool.false_eq_true, n01, hC]
    · intro τ
      refine ⟨A2, upd I2 6 (nI 0), ?_, stay.rf, pk_un (by omega), pk_un (by omega)⟩
      rw [q199]
      simp (disch := first | omega | exact tl_l | exact tT_len | (simp only [List.length_cons, List.length_nil])) only [e199_0, e199_1, e199_2, e199_5, e199_6, e199_9, e199_10, e199_11, e199_12, e199_15, e199_17, e199_18, e199_19, e199_20, e199_23, e199_24, e199_27, e199_28, e199_29, kv_s, kh_s, kr_s, kr_v, kn_s, z0, z1, z2, nI_ltI, nI_leI, nI_eq, nI_add, oN, bz0, bz1, bw0, bw1, ltT, ltF, leT, leF, eqT, eqF, if_true, if_false, kI_n, wI_n, and_true, true_and, and_false, false_and, not_true, not_false_eq_true, mwo, mwr_0, mwr_1, mwr_2, mwg_3, mwp_3, mwr_4, mwg_5, mwp_5, mwg_6, mwp_6, mwr_7, mwr_8, mwg_9, mwp_9, mwg_10, mwp_10, mwg_11, mwp_11, mwr_12, mwg_13, mwp_13, mwr_14, mwr_15, mwr_16, mwr_17, mwr_18, mwr_19, mwg_20, mwp_20, mwr_21, mwr_22, mwr_23, mwa_1, mwu_1, mwa_2, mwu_2, mwa_3, mwu_3, mwa_4, mwu_4, mwa_5, mwu_5, mwa_6, mwu_6, mwa_7, mwu_7, mwa_8, mwu_8, mwa_9, mwu_9, mwa_10, mwu_10, mwa_11, mwu_11, mwa_12, mwu_12, mwa_13, mwu_13, mwa_14, mwu_14, mwa_15, mwu_15, mwa_16, mwu_16, vu_at, vu_ne, pk_us, pk_un, kB_n, wB_n, kL_n, wL_n, hM, n1_n1]
  | some q =>
    have ho := hO q rfl
    have o1 := ho.1
    have o4 := ho.2.2.2
    refine Inv_tell hS hi (L' := tS ([lN q.1] ++ [lN q.2.1] ++ [lN q.2.2.1]) (hg q) q.2.2.2.length) (k := 3 + q.2.2.2.length) (b := .int (nI q.2.2.2.length)) ?_ ?_ (by rw [tS_len]; rfl) (by omega)
    · have h := hb
      have hC2 := hC
      obtain ⟨q1, q2, q3, q4, q5, q6⟩ := hC2
      have e := A_tellHeld (A := A) (R := R) (I := I) (L := [lN q.1]) (k := 1) hb hC ho rfl (by omega)
      rw [q83]
      simp (disch := first | omega | exact tl_l | exact tT_len | (simp only [List.length_cons, List.length_nil])) only [e83_0, e83_1, e83_4, e83_7, e83_10, e83_12, e83_13, e83_14, e83_17, e83_20, e83_21, e83_24, e83_25, e83_28, e83_31, e83_32, e83_35, e83_36, e83_39, e83_40, e83_43, e83_46, kv_s, kh_s, kr_s, kr_v, kn_s, z0, z1, z2, nI_ltI, nI_leI, nI_eq, nI_add, oN, bz0, bz1, bw0, bw1, ltT, ltF, leT, leF, eqT, eqF, if_true, if_false, kI_n, wI_n, and_true, true_and, and_false, false_and, not_true, not_false_eq_true, cwo_1, cwr_1, cwg_0, cwg_1, cwg_2, cwa_0, cwl_0, cwo_3, cwr_3, cwg_3, cwa_R, cwl_R, cwo_5, cwr_5, cwg_4, cwg_5, cwg_6, cwg_7, cwg_8, cwa_1, cwl_1, cwo_7, cwr_7, cwg_9, cwg_10, cwg_11, cwg_12, cwg_13, cwa_2, cwl_2, cwo_17, cwr_17, cwg_14, cwa_3, cwl_3, cwp_0, cwp_1, cwp_2, cwp_3, cwp_4, cwp_5, cwp_6, cwp_7, cwp_8, cwp_9, cwp_10, cwp_11, cwp_12, cwp_13, cwp_14, cwu_0, cwu_R, cwu_1, cwu_2, cwu_3, vu_at, vu_ne, pk_us, pk_un, h.x.f0, h.x.f1, h.x.f2, h.x.f3, h.x.f4, h.x.f5, h.x.f6, h.x.f7, h.x.o, h.hi.o, h.hi.gd, h.hi.gf, h.hi.gl, Hi_keys h.hi h.d8, Hi_hasKey h.hi h.d8, Rw_empty, Rw_add, List.nil_append, List.cons_append, upd_upd, cwo_1, cwo_3, cwo_5, cwo_7, cwo_17, Bool.false_eq_true, n01, q1, q2, nI_l]
      rw [e]
      simp (disch := first | omega | exact tl_l | exact tT_len | (simp only [List.length_cons, List.length_nil])) only [e83_0, e83_1, e83_4, e83_7, e83_10, e83_12, e83_13, e83_14, e83_17, e83_20, e83_21, e83_24, e83_25, e83_28, e83_31, e83_32, e83_35, e83_36, e83_39, e83_40, e83_43, e83_46, kv_s, kh_s, kr_s, kr_v, kn_s, z0, z1, z2, nI_ltI, nI_leI, nI_eq, nI_add, oN, bz0, bz1, bw0, bw1, ltT, ltF, leT, leF, eqT, eqF, if_true, if_false, kI_n, wI_n, and_true, true_and, and_false, false_and, not_true, not_false_eq_true, cwo_1, cwr_1, cwg_0, cwg_1, cwg_2, cwa_0, cwl_0, cwo_3, cwr_3, cwg_3, cwa_R, cwl_R, cwo_5, cwr_5, cwg_4, cwg_5, cwg_6, cwg_7, cwg_8, cwa_1, cwl_1, cwo_7, cwr_7, cwg_9, cwg_10, cwg_11, cwg_12, cwg_13, cwa_2, cwl_2, cwo_17, cwr_17, cwg_14, cwa_3, cwl_3, cwp_0, cwp_1, cwp_2, cwp_3, cwp_4, cwp_5, cwp_6, cwp_7, cwp_8, cwp_9, cwp_10, cwp_11, cwp_12, cwp_13, cwp_14, cwu_0, cwu_R, cwu_1, cwu_2, cwu_3, vu_at, vu_ne, pk_us, pk_un, h.x.f0, h.x.f1, h.x.f2, h.x.f3, h.x.f4, h.x.f5, h.x.f6, h.x.f7, h.x.o, h.hi.o, h.hi.gd, h.hi.gf, h.hi.gl, Hi_keys h.hi h.d8, Hi_hasKey h.hi h.d8, Rw_empty, Rw_add, List.nil_append, List.cons_append, upd_upd, cwo_1, cwo_3, cwo_5, cwo_7, cwo_17, Bool.false_eq_true, n01, q5]
    · intro τ
      refine ⟨A2, upd (upd I2 6 (nI 0)) 5 (nI (3 + q.2.2.2.length)), ?_, stay.rf, by rw [pk_un (by omega), pk_un (by omega)], pk_us⟩
      have e := M_tellHand1 (σ := τ) (m := c + 24) (A := A2) (R := R2) (I := upd I2 6 (nI 0)) hM ho
      obtain ⟨q1, _⟩ := hM
      rw [q199]
      simp (disch := first | omega | exact tl_l | exact tT_len | (simp only [List.length_cons, List.length_nil])) only [e199_0, e199_1, e199_2, e199_5, e199_6, e199_9, e199_10, e199_11, e199_12, e199_15, e199_17, e199_18, e199_19, e199_20, e199_23, e199_24, e199_27, e199_28, e199_29, kv_s, kh_s, kr_s, kr_v, kn_s, z0, z1, z2, nI_ltI, nI_leI, nI_eq, nI_add, oN, bz0, bz1, bw0, bw1, ltT, ltF, leT, leF, eqT, eqF, if_true, if_false, kI_n, wI_n, and_true, true_and, and_false, false_and, not_true, not_false_eq_true, mwo, mwr_0, mwr_1, mwr_2, mwg_3, mwp_3, mwr_4, mwg_5, mwp_5, mwg_6, mwp_6, mwr_7, mwr_8, mwg_9, mwp_9, mwg_10, mwp_10, mwg_11, mwp_11, mwr_12, mwg_13, mwp_13, mwr_14, mwr_15, mwr_16, mwr_17, mwr_18, mwr_19, mwg_20, mwp_20, mwr_21, mwr_22, mwr_23, mwa_1, mwu_1, mwa_2, mwu_2, mwa_3, mwu_3, mwa_4, mwu_4, mwa_5, mwu_5, mwa_6, mwu_6, mwa_7, mwu_7, mwa_8, mwu_8, mwa_9, mwu_9, mwa_10, mwu_10, mwa_11, mwu_11, mwa_12, mwu_12, mwa_13, mwu_13, mwa_14, mwu_14, mwa_15, mwu_15, mwa_16, mwu_16, vu_at, vu_ne, pk_us, pk_un, kB_n, wB_n, kL_n, wL_n, q1, nI_n1, mwo]
      rw [e]
      simp (disch := first | omega | exact tl_l | exact tT_len | (simp only [List.length_cons, List.length_nil])) only [e199_0, e199_1, e199_2, e199_5, e199_6, e199_9, e199_10, e199_11, e199_12, e199_15, e199_17, e199_18, e199_19, e199_20, e199_23, e199_24, e199_27, e199_28, e199_29, kv_s, kh_s, kr_s, kr_v, kn_s, z0, z1, z2, nI_ltI, nI_leI, nI_eq, nI_add, oN, bz0, bz1, bw0, bw1, ltT, ltF, leT, leF, eqT, eqF, if_true, if_false, kI_n, wI_n, and_true, true_and, and_false, false_and, not_true, not_false_eq_true, mwo, mwr_0, mwr_1, mwr_2, mwg_3, mwp_3, mwr_4, mwg_5, mwp_5, mwg_6, mwp_6, mwr_7, mwr_8, mwg_9, mwp_9, mwg_10, mwp_10, mwg_11, mwp_11, mwr_12, mwg_13, mwp_13, mwr_14, mwr_15, mwr_16, mwr_17, mwr_18, mwr_19, mwg_20, mwp_20, mwr_21, mwr_22, mwr_23, mwa_1, mwu_1, mwa_2, mwu_2, mwa_3, mwu_3, mwa_4, mwu_4, mwa_5, mwu_5, mwa_6, mwu_6, mwa_7, mwu_7, mwa_8, mwu_8, mwa_9, mwu_9, mwa_10, mwu_10, mwa_11, mwu_11, mwa_12, mwu_12, mwa_13, mwu_13, mwa_14, mwu_14, mwa_15, mwu_15, mwa_16, mwu_16, vu_at, vu_ne, pk_us, pk_un, kB_n, wB_n, kL_n, wL_n, q1]
