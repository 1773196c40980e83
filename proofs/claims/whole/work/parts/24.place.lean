/-! place, besideFrom, Tree(); a tree as its values alone -/
theorem s10 : (nI 1 - nI 0 = nI 0) = False := eq_false (by decide)
theorem s01 : (nI 0 - nI 1 = nI 0) = False := eq_false (by decide)
theorem s00 : (nI 0 - nI 0 = nI 0) = True := eq_true rfl
theorem s11 : (nI 1 - nI 1 = nI 0) = True := eq_true rfl
section PL
variable {σ : Hp} {t : Nat} {V M F : Nat → Int32} {d : Nat}
theorem Tr_place_loop {l1 l2 l3 l4 l5 : Value} : ∀ (n p : Nat) (σ : Hp) (M : Nat → Int32), isTr σ t V M F d → p < 256 → p < 2 ^ n → den 38 118 [.ref t, l1, l2, l3, l4, l5, .int (nI p)] [] σ = some (none, hup σ (t + 2) (.inl (0, 512, .inl (jp n p M)))) := by
  intro n
  induction n with
  | zero =>
    intro p σ M h hp hn
    have h0 : p = 0 := by simpa using hn
    subst h0
    rw [e38_118]
    simp (disch := omega) only [e38_0, e38_1, e38_2, e38_5, e38_6, e38_7, e38_10, e38_11, e38_12, e38_15, e38_18, e38_21, e38_22, e38_23, e38_26, e38_27, e38_30, e38_31, e38_32, e38_35, e38_36, e38_37, e38_40, e38_41, e38_42, e38_43, e38_44, e38_47, e38_48, e38_51, e38_52, e38_53, e38_56, e38_57, e38_60, e38_61, e38_62, e38_64, e38_66, e38_69, e38_70, e38_73, e38_74, e38_76, e38_79, e38_80, e38_83, e38_86, e38_87, e38_88, e38_90, e38_92, e38_93, e38_96, e38_97, e38_100, e38_101, e38_104, e38_106, e38_107, e38_108, e38_111, e38_112, e38_114, e38_115, e38_116, e38_120, e38_121, e38_124, e38_125, e38_127, e38_130, e38_132, e38_133, e38_134, e38_136, e38_139, kv_s, kh_s, kr_s, kr_v, kn_s, z0, z1, z2, nI_ltI, nI_leI, nI_eq, nI_add, oN, bz0, bz1, bw0, bw1, ltT, ltF, leT, leF, eqT, eqF, if_true, if_false, kI_n, wI_n, and_true, true_and, and_false, false_and, not_true, not_false_eq_true]
    rw [jp, hup_id h.2.2.1]
  | succ n ih =>
    intro p σ M h hp hn
    rw [e38_118]
    by_cases h0 : p < 1
    · simp (disch := omega) only [e38_0, e38_1, e38_2, e38_5, e38_6, e38_7, e38_10, e38_11, e38_12, e38_15, e38_18, e38_21, e38_22, e38_23, e38_26, e38_27, e38_30, e38_31, e38_32, e38_35, e38_36, e38_37, e38_40, e38_41, e38_42, e38_43, e38_44, e38_47, e38_48, e38_51, e38_52, e38_53, e38_56, e38_57, e38_60, e38_61, e38_62, e38_64, e38_66, e38_69, e38_70, e38_73, e38_74, e38_76, e38_79, e38_80, e38_83, e38_86, e38_87, e38_88, e38_90, e38_92, e38_93, e38_96, e38_97, e38_100, e38_101, e38_104, e38_106, e38_107, e38_108, e38_111, e38_112, e38_114, e38_115, e38_116, e38_120, e38_121, e38_124, e38_125, e38_127, e38_130, e38_132, e38_133, e38_134, e38_136, e38_139, kv_s, kh_s, kr_s, kr_v, kn_s, z0, z1, z2, nI_ltI, nI_leI, nI_eq, nI_add, oN, bz0, bz1, bw0, bw1, ltT, ltF, leT, leF, eqT, eqF, if_true, if_false, kI_n, wI_n, and_true, true_and, and_false, false_and, not_true, not_false_eq_true]
      rw [jp, if_pos (by omega), hup_id h.2.2.1]
    · simp (disch := omega) only [e38_0, e38_1, e38_2, e38_5, e38_6, e38_7, e38_10, e38_11, e38_12, e38_15, e38_18, e38_21, e38_22, e38_23, e38_26, e38_27, e38_30, e38_31, e38_32, e38_35, e38_36, e38_37, e38_40, e38_41, e38_42, e38_43, e38_44, e38_47, e38_48, e38_51, e38_52, e38_53, e38_56, e38_57, e38_60, e38_61, e38_62, e38_64, e38_66, e38_69, e38_70, e38_73, e38_74, e38_76, e38_79, e38_80, e38_83, e38_86, e38_87, e38_88, e38_90, e38_92, e38_93, e38_96, e38_97, e38_100, e38_101, e38_104, e38_106, e38_107, e38_108, e38_111, e38_112, e38_114, e38_115, e38_116, e38_120, e38_121, e38_124, e38_125, e38_127, e38_130, e38_132, e38_133, e38_134, e38_136, e38_139, kv_s, kh_s, kr_s, kr_v, kn_s, z0, z1, z2, nI_ltI, nI_leI, nI_eq, nI_add, oN, bz0, bz1, bw0, bw1, ltT, ltF, leT, leF, eqT, eqF, if_true, if_false, kI_n, wI_n, and_true, true_and, and_false, false_and, not_true, not_false_eq_true, h.o, Tr_join h, shr1, h0]
      rw [ih (p / 2) _ _ (h.upM _) (by omega) (by rw [Nat.pow_succ] at hn; omega), hup_hup, jp, if_neg (by omega)]
theorem Tr_place (h : isTr σ t V M F d) (hd : d ≤ 8) {k : Nat} (hk : k < 2 ^ d) {v : Int32} (hv : v ≠ V k) : ∃ F' x, dcall 38 [.ref t, .int (nI k), .int v] σ = some (none, tput σ t (upd V k v) (jp 9 ((2 ^ d + k) / 2) (upd M (2 ^ d + k) (lf k v))) F' d) ∧ ((if nI 0 < V k then nI 1 else nI 0) + x = if nI 0 < v then nI 1 else nI 0) ∧ ∀ q, F' q = if onb 9 (2 ^ d + k) q = true then F q + x else F q := by
  have hK : 2 ^ d ≤ 256 := Nat.pow_le_pow_right (by omega) hd
  have hK1 : 1 ≤ 2 ^ d := Nat.one_le_two_pow
  have h1 := h.upV (upd V k v)
  have fin : ∀ {F1 : Nat → Int32} (h2 : isTr (kput (hup σ (t + 1) (.inl (0, 256, .inl (upd V k v)))) (t + 3) F1 d) t (upd V k v) M F1 d) {l3 l4 l5 : Value}, den 38 118 [.ref t, .int (nI k), .int v, l3, l4, l5, .int (nI ((2 ^ d + k) / 2))] [] (hup (kput (hup σ (t + 1) (.inl (0, 256, .inl (upd V k v)))) (t + 3) F1 d) (t + 2) (.inl (0, 512, .inl (upd M (2 ^ d + k) (lf k v))))) = some (none, tput σ t (upd V k v) (jp 9 ((2 ^ d + k) / 2) (upd M (2 ^ d + k) (lf k v))) F1 d) := by
    intro F1 h2 l3 l4 l5
    rw [Tr_place_loop 9 _ _ _ (h2.upM _) (by omega) (by omega), hup_hup, tput]
    refine congrArg (fun z => some (none, z)) (Prod.ext (funext fun q => ?_) rfl)
    by_cases q2 : q = t + 2
    · subst q2
      rw [hup_at, kput_ne (by omega) (by omega), hup_at]
    · rw [hup_ne q2]
      by_cases q3 : q = t + 3
      · subst q3
        rw [kput_is.1, kput_is.1]
      · by_cases q4 : q = t + 3 + 1
        · subst q4
          rw [kput_is.2, kput_is.2]
        · rw [kput_ne q3 q4, kput_ne q3 q4, hup_ne q2]
  by_cases hw : V k ≤ nI 0
  · have hw' : ¬ nI 0 < V k := Int32.not_lt.mpr hw
    by_cases hu : v ≤ nI 0
    · have hu' : ¬ nI 0 < v := Int32.not_lt.mpr hu
      refine ⟨F, 0, ?_, by simp [hw', hu'], fun q => by simp⟩
      rw [← fin (F1 := F) (by have := h1.upF F d; exact this) (l3 := .int (V k)) (l4 := .int (nI 0 - nI 0)) (l5 := .int (nI (2 ^ d + k))), kput_id h1.ks]
      rw [q38]
      simp (disch := omega) only [e38_0, e38_1, e38_2, e38_5, e38_6, e38_7, e38_10, e38_11, e38_12, e38_15, e38_18, e38_21, e38_22, e38_23, e38_26, e38_27, e38_30, e38_31, e38_32, e38_35, e38_36, e38_37, e38_40, e38_41, e38_42, e38_43, e38_44, e38_47, e38_48, e38_51, e38_52, e38_53, e38_56, e38_57, e38_60, e38_61, e38_62, e38_64, e38_66, e38_69, e38_70, e38_73, e38_74, e38_76, e38_79, e38_80, e38_83, e38_86, e38_87, e38_88, e38_90, e38_92, e38_93, e38_96, e38_97, e38_100, e38_101, e38_104, e38_106, e38_107, e38_108, e38_111, e38_112, e38_114, e38_115, e38_116, e38_120, e38_121, e38_124, e38_125, e38_127, e38_130, e38_132, e38_133, e38_134, e38_136, e38_139, kv_s, kh_s, kr_s, kr_v, kn_s, z0, z1, z2, nI_ltI, nI_leI, nI_eq, nI_add, oN, bz0, bz1, bw0, bw1, ltT, ltF, leT, leF, eqT, eqF, if_true, if_false, kI_n, wI_n, and_true, true_and, and_false, false_and, not_true, not_false_eq_true, h.o, Tr_val h hd, h.f, h.ks.o, Ks_keys h.ks hd, h.v, h.vl, h.va, hv, hw, hu, s00, h1.f, h1.ks.o, Ks_keys h1.ks hd, h1.m, h1.ml, A_leafMark, h1.ma, shr1]
    · have hu' : nI 0 < v := Int32.not_le.mp hu
      have h2 := h1.upF (chg 9 (2 ^ d + k) F (nI 1 - nI 0)) d
      refine ⟨_, nI 1 - nI 0, ?_, by simp only [hw', hu', if_true, if_false]; decide, fun q => chg_eq 9 _ _ _ (by omega)⟩
      rw [← fin h2 (l3 := .int (V k)) (l4 := .int (nI 1 - nI 0)) (l5 := .int (nI (2 ^ d + k)))]
      rw [q38]
      simp (disch := omega) only [e38_0, e38_1, e38_2, e38_5, e38_6, e38_7, e38_10, e38_11, e38_12, e38_15, e38_18, e38_21, e38_22, e38_23, e38_26, e38_27, e38_30, e38_31, e38_32, e38_35, e38_36, e38_37, e38_40, e38_41, e38_42, e38_43, e38_44, e38_47, e38_48, e38_51, e38_52, e38_53, e38_56, e38_57, e38_60, e38_61, e38_62, e38_64, e38_66, e38_69, e38_70, e38_73, e38_74, e38_76, e38_79, e38_80, e38_83, e38_86, e38_87, e38_88, e38_90, e38_92, e38_93, e38_96, e38_97, e38_100, e38_101, e38_104, e38_106, e38_107, e38_108, e38_111, e38_112, e38_114, e38_115, e38_116, e38_120, e38_121, e38_124, e38_125, e38_127, e38_130, e38_132, e38_133, e38_134, e38_136, e38_139, kv_s, kh_s, kr_s, kr_v, kn_s, z0, z1, z2, nI_ltI, nI_leI, nI_eq, nI_add, oN, bz0, bz1, bw0, bw1, ltT, ltF, leT, leF, eqT, eqF, if_true, if_false, kI_n, wI_n, and_true, true_and, and_false, false_and, not_true, not_false_eq_true, h.o, Tr_val h hd, h.f, h.ks.o, Ks_keys h.ks hd, h.v, h.vl, h.va, hv, hw, hu, s10, h1.f, h1.ks.o, Ks_change h1.ks hd hk, h2.f, h2.ks.o, Ks_keys h2.ks hd, h2.m, h2.ml, A_leafMark, h2.ma, shr1]
  · have hw' : nI 0 < V k := Int32.not_le.mp hw
    by_cases hu : v ≤ nI 0
    · have hu' : ¬ nI 0 < v := Int32.not_lt.mpr hu
      have h2 := h1.upF (chg 9 (2 ^ d + k) F (nI 0 - nI 1)) d
      refine ⟨_, nI 0 - nI 1, ?_, by simp only [hw', hu', if_true, if_false]; decide, fun q => chg_eq 9 _ _ _ (by omega)⟩
      rw [← fin h2 (l3 := .int (V k)) (l4 := .int (nI 0 - nI 1)) (l5 := .int (nI (2 ^ d + k)))]
      rw [q38]
      simp (disch := omega) only [e38_0, e38_1, e38_2, e38_5, e38_6, e38_7, e38_10, e38_11, e38_12, e38_15, e38_18, e38_21, e38_22, e38_23, e38_26, e38_27, e38_30, e38_31, e38_32, e38_35, e38_36, e38_37, e38_40, e38_41, e38_42, e38_43, e38_44, e38_47, e38_48, e38_51, e38_52, e38_53, e38_56, e38_57, e38_60, e38_61, e38_62, e38_64, e38_66, e38_69, e38_70, e38_73, e38_74, e38_76, e38_79, e38_80, e38_83, e38_86, e38_87, e38_88, e38_90, e38_92, e38_93, e38_96, e38_97, e38_100, e38_101, e38_104, e38_106, e38_107, e38_108, e38_111, e38_112, e38_114, e38_115, e38_116, e38_120, e38_121, e38_124, e38_125, e38_127, e38_130, e38_132, e38_133, e38_134, e38_136, e38_139, kv_s, kh_s, kr_s, kr_v, kn_s, z0, z1, z2, nI_ltI, nI_leI, nI_eq, nI_add, oN, bz0, bz1, bw0, bw1, ltT, ltF, leT, leF, eqT, eqF, if_true, if_false, kI_n, wI_n, and_true, true_and, and_false, false_and, not_true, not_false_eq_true, h.o, Tr_val h hd, h.f, h.ks.o, Ks_keys h.ks hd, h.v, h.vl, h.va, hv, hw, hu, s01, h1.f, h1.ks.o, Ks_change h1.ks hd hk, h2.f, h2.ks.o, Ks_keys h2.ks hd, h2.m, h2.ml, A_leafMark, h2.ma, shr1]
    · have hu' : nI 0 < v := Int32.not_le.mp hu
      refine ⟨F, 0, ?_, by simp [hw', hu'], fun q => by simp⟩
      rw [← fin (F1 := F) (by have := h1.upF F d; exact this) (l3 := .int (V k)) (l4 := .int (nI 1 - nI 1)) (l5 := .int (nI (2 ^ d + k))), kput_id h1.ks]
      rw [q38]
      simp (disch := omega) only [e38_0, e38_1, e38_2, e38_5, e38_6, e38_7, e38_10, e38_11, e38_12, e38_15, e38_18, e38_21, e38_22, e38_23, e38_26, e38_27, e38_30, e38_31, e38_32, e38_35, e38_36, e38_37, e38_40, e38_41, e38_42, e38_43, e38_44, e38_47, e38_48, e38_51, e38_52, e38_53, e38_56, e38_57, e38_60, e38_61, e38_62, e38_64, e38_66, e38_69, e38_70, e38_73, e38_74, e38_76, e38_79, e38_80, e38_83, e38_86, e38_87, e38_88, e38_90, e38_92, e38_93, e38_96, e38_97, e38_100, e38_101, e38_104, e38_106, e38_107, e38_108, e38_111, e38_112, e38_114, e38_115, e38_116, e38_120, e38_121, e38_124, e38_125, e38_127, e38_130, e38_132, e38_133, e38_134, e38_136, e38_139, kv_s, kh_s, kr_s, kr_v, kn_s, z0, z1, z2, nI_ltI, nI_leI, nI_eq, nI_add, oN, bz0, bz1, bw0, bw1, ltT, ltF, leT, leF, eqT, eqF, if_true, if_false, kI_n, wI_n, and_true, true_and, and_false, false_and, not_true, not_false_eq_true, h.o, Tr_val h hd, h.f, h.ks.o, Ks_keys h.ks hd, h.v, h.vl, h.va, hv, hw, hu, s11, h1.f, h1.ks.o, Ks_keys h1.ks hd, h1.m, h1.ml, A_leafMark, h1.ma, shr1]
theorem Tr_place_same (h : isTr σ t V M F d) (hd : d ≤ 8) {k : Nat} (hk : k < 2 ^ d) : dcall 38 [.ref t, .int (nI k), .int (V k)] σ = some (none, σ) := by
  rw [q38]
  have hK : 2 ^ d ≤ 256 := Nat.pow_le_pow_right (by omega) hd
  simp (disch := omega) only [e38_0, e38_1, e38_2, e38_5, e38_6, e38_7, e38_10, e38_11, e38_12, e38_15, e38_18, e38_21, e38_22, e38_23, e38_26, e38_27, e38_30, e38_31, e38_32, e38_35, e38_36, e38_37, e38_40, e38_41, e38_42, e38_43, e38_44, e38_47, e38_48, e38_51, e38_52, e38_53, e38_56, e38_57, e38_60, e38_61, e38_62, e38_64, e38_66, e38_69, e38_70, e38_73, e38_74, e38_76, e38_79, e38_80, e38_83, e38_86, e38_87, e38_88, e38_90, e38_92, e38_93, e38_96, e38_97, e38_100, e38_101, e38_104, e38_106, e38_107, e38_108, e38_111, e38_112, e38_114, e38_115, e38_116, e38_120, e38_121, e38_124, e38_125, e38_127, e38_130, e38_132, e38_133, e38_134, e38_136, e38_139, kv_s, kh_s, kr_s, kr_v, kn_s, z0, z1, z2, nI_ltI, nI_leI, nI_eq, nI_add, oN, bz0, bz1, bw0, bw1, ltT, ltF, leT, leF, eqT, eqF, if_true, if_false, kI_n, wI_n, and_true, true_and, and_false, false_and, not_true, not_false_eq_true, h.o, Tr_val h hd, h.f, h.ks.o, Ks_keys h.ks hd, h.v, h.vl]
theorem Tr_place_out (h : isTr σ t V M F d) (hd : d ≤ 8) {k : Nat} (hk : 2 ^ d ≤ k) (hk2 : k < 2 ^ 31) {v : Int32} : dcall 38 [.ref t, .int (nI k), .int v] σ = some (none, σ) := by
  rw [q38]
  have hK : 2 ^ d ≤ 256 := Nat.pow_le_pow_right (by omega) hd
  have e1 : nI (2 ^ d) ≤ nI k := nI_le hk hk2
  simp (disch := omega) only [e38_0, e38_1, e38_2, e38_5, e38_6, e38_7, e38_10, e38_11, e38_12, e38_15, e38_18, e38_21, e38_22, e38_23, e38_26, e38_27, e38_30, e38_31, e38_32, e38_35, e38_36, e38_37, e38_40, e38_41, e38_42, e38_43, e38_44, e38_47, e38_48, e38_51, e38_52, e38_53, e38_56, e38_57, e38_60, e38_61, e38_62, e38_64, e38_66, e38_69, e38_70, e38_73, e38_74, e38_76, e38_79, e38_80, e38_83, e38_86, e38_87, e38_88, e38_90, e38_92, e38_93, e38_96, e38_97, e38_100, e38_101, e38_104, e38_106, e38_107, e38_108, e38_111, e38_112, e38_114, e38_115, e38_116, e38_120, e38_121, e38_124, e38_125, e38_127, e38_130, e38_132, e38_133, e38_134, e38_136, e38_139, kv_s, kh_s, kr_s, kr_v, kn_s, z0, z1, z2, nI_ltI, nI_leI, nI_eq, nI_add, oN, bz0, bz1, bw0, bw1, ltT, ltF, leT, leF, eqT, eqF, if_true, if_false, kI_n, wI_n, and_true, true_and, and_false, false_and, not_true, not_false_eq_true, h.o, Tr_val0 h hd (Or.inr e1), h.f, h.ks.o, Ks_keys h.ks hd]
theorem fr5_tput {V' M' F' : Nat → Int32} {d' : Nat} : fr5 t σ (tput σ t V' M' F' d') := (fr5_V.tr fr5_M).tr fr5_F
theorem tput_is {V' M' F' : Nat → Int32} {d' : Nat} (h : isTr σ t V M F d) : isTr (tput σ t V' M' F' d') t V' M' F' d' := ((h.upV V').upM M').upF F' d'
end PL
/-- a tree, of a depth, of these values -/
def isT (σ : Hp) (t d : Nat) (V : Nat → Int32) : Prop := d ≤ 8 ∧ ∃ V' M F, isTr σ t V' M F d ∧ (∀ k, k < 2 ^ d → V' k = V k) ∧ okM d V M ∧ okF d V F
theorem unN_le {K : Nat} {V : Nat → Int32} : ∀ (n p : Nat), unN K V n p ≤ 2 ^ n := by
  intro n
  induction n with
  | zero => intro p; exact Nat.zero_le _
  | succ n ih =>
    intro p
    by_cases h : K ≤ p
    · rw [unN_hi h]
      have := Nat.one_le_two_pow (n := n + 1)
      split <;> omega
    · rw [unN_lo h, Nat.pow_succ]
      have h1 := ih (2 * p)
      have h2 := ih (2 * p + 1)
      omega
theorem un_le {d : Nat} (hd : d ≤ 8) (V : Nat → Int32) (p : Nat) : un d V p ≤ 512 := by
  have h1 : un d V p ≤ 2 ^ (d + 1) := unN_le _ _
  have h2 : 2 ^ (d + 1) ≤ 2 ^ 9 := Nat.pow_le_pow_right (by omega) (by omega)
  omega
section TT
variable {σ : Hp} {t d : Nat} {V : Nat → Int32}
theorem isT.o (h : isT σ t d V) : hObj σ t = some 5 := by obtain ⟨hd, V', M, F, h, hV, hM, hF⟩ := h; exact h.o
theorem isT.f (h : isT σ t d V) : hGet σ t 5 2 = some (.ref (t + 3)) := by obtain ⟨hd, V', M, F, h, hV, hM, hF⟩ := h; exact h.f
theorem isT.fo (h : isT σ t d V) : hObj σ (t + 3) = some 1 := by obtain ⟨hd, V', M, F, h, hV, hM, hF⟩ := h; exact h.ks.o
theorem isT.fd (h : isT σ t d V) : hGet σ (t + 3) 1 1 = some (.int (nI d)) := by obtain ⟨hd, V', M, F, h, hV, hM, hF⟩ := h; exact h.ks.dd
theorem isT.kept (h : isT σ t d V) {τ : Hp} (hk : ∀ a, t ≤ a → a < t + 5 → τ.1 a = σ.1 a) : isT τ t d V := by
  obtain ⟨hd, V', M, F, h, hV, hM, hF⟩ := h
  exact ⟨hd, V', M, F, ⟨(hk _ (by omega) (by omega)).trans h.1, (hk _ (by omega) (by omega)).trans h.2.1, (hk _ (by omega) (by omega)).trans h.2.2.1, (hk _ (by omega) (by omega)).trans h.2.2.2.1, (hk _ (by omega) (by omega)).trans h.2.2.2.2⟩, hV, hM, hF⟩
theorem isT.congr (h : isT σ t d V) {W : Nat → Int32} (hW : ∀ k, k < 2 ^ d → V k = W k) : isT σ t d W := by
  obtain ⟨hd, V', M, F, h, hV, hM, hF⟩ := h
  exact ⟨hd, V', M, F, h, fun k hk => (hV k hk).trans (hW k hk), okM_of (fun p h1 h2 => (hM.eq p h1 h2).trans (mk_congr hW p h1 h2)), okF_of (fun p h1 h2 => by rw [hF.eq p h1 h2, un_congr hW p h1 h2])⟩
theorem T_val (h : isT σ t d V) {p : Nat} (hp : p < 2 ^ d) : dcall 39 [.ref t, .int (nI p)] σ = some (some (.int (V p)), σ) := by
  obtain ⟨hd, V', M, F, h, hV, hM, hF⟩ := h
  rw [Tr_val h hd hp, hV p hp]
theorem T_val0 (h : isT σ t d V) {x : Int32} (hx : x < nI 0 ∨ nI (2 ^ d) ≤ x) : dcall 39 [.ref t, .int x] σ = some (some (.int (nI 0)), σ) := by
  obtain ⟨hd, V', M, F, h, hV, hM, hF⟩ := h
  exact Tr_val0 h hd hx
theorem T_mark (h : isT σ t d V) {p : Nat} (h1 : 1 ≤ p) (h2 : p < 2 * 2 ^ d) : dcall 12 [.ref t, .int (nI p)] σ = some (some (.int (mk d V p)), σ) := by
  obtain ⟨hd, V', M, F, h, hV, hM, hF⟩ := h
  have hK : 2 ^ d ≤ 256 := Nat.pow_le_pow_right (by omega) hd
  rw [Tr_markAt h h1 (by omega), hM.eq p h1 h2]
theorem T_bare (h : isT σ t d V) {p : Nat} (h1 : 1 ≤ p) (h2 : p < 2 * 2 ^ d) : dcall 60 [.ref t, .int (nI p)] σ = some (some (.int (if un d V p = 0 then nI 1 else nI 0)), σ) := by
  obtain ⟨hd, V', M, F, h, hV, hM, hF⟩ := h
  have hK : 2 ^ d ≤ 256 := Nat.pow_le_pow_right (by omega) hd
  have hu := un_le hd V p
  rw [Tr_bareAt h h1 (by omega), hF.eq p h1 h2]
  simp (disch := omega) only [nI_eq]
theorem T_size (h : isT σ t d V) : dcall 29 [.ref (t + 3)] σ = some (some (.int (nI (un d V 1))), σ) := by
  obtain ⟨hd, V', M, F, h, hV, hM, hF⟩ := h
  have hK1 : 1 ≤ 2 ^ d := Nat.one_le_two_pow
  rw [Ks_size h.ks, hF.eq 1 (by omega) (by omega)]
theorem T_under (h : isT σ t d V) {p : Nat} (h1 : 1 ≤ p) (h2 : p < 2 * 2 ^ d) : dcall 36 [.ref (t + 3), .int (nI p)] σ = some (some (.int (nI (un d V p))), σ) := by
  obtain ⟨hd, V', M, F, h, hV, hM, hF⟩ := h
  have hK : 2 ^ d ≤ 256 := Nat.pow_le_pow_right (by omega) hd
  rw [Ks_under1 h.ks h1 (by omega), hF.eq p h1 h2]
theorem T_keys (h : isT σ t d V) : dcall 10 [.ref (t + 3)] σ = some (some (.int (nI (2 ^ d))), σ) := by
  obtain ⟨hd, V', M, F, h, hV, hM, hF⟩ := h
  exact Ks_keys h.ks hd
/-- a place over some value -/
def nz (d : Nat) (V : Nat → Int32) (p : Nat) : Bool := decide (0 < un d V p)
theorem T_nodesIn (h : isT σ t d V) {a e : Nat} (ha : 1 ≤ a) (he : e ≤ 2 * 2 ^ d) (hae : a ≤ e) : dcall 51 [.ref (t + 3), .int (nI a), .int (nI e)] σ = some (some (.int (nI (cnt (nz d V) a (e - a)))), σ) := by
  obtain ⟨hd, V', M, F, h, hV, hM, hF⟩ := h
  have hK : 2 ^ d ≤ 256 := Nat.pow_le_pow_right (by omega) hd
  rw [Ks_nodesIn h.ks (by omega) (by omega), show min e 512 - a = e - a by omega]
  refine congrArg (fun z => some (some (Value.int (nI z)), σ)) (cnt_congr fun i hi => ?_)
  have hu := un_le hd V (a + i)
  unfold nz
  rw [hF.eq (a + i) (by omega) (by omega)]
  simp (disch := omega) only [nI_ltI]
theorem tsum_congr {W : Nat → Int32} : ∀ {n : Nat}, (∀ k, k < n → V k = W k) → tsum V n = tsum W n := by
  intro n
  induction n with
  | zero => intro _; rfl
  | succ n ih =>
    intro h
    rw [tsum, tsum, ih (fun k hk => h k (by omega)), h n (by omega)]
theorem T_total (h : isT σ t d V) : dcall 63 [.ref t] σ = some (some (.int (tsum V (2 ^ d))), σ) := by
  obtain ⟨hd, V', M, F, h, hV, hM, hF⟩ := h
  rw [Tr_total h hd, tsum_congr hV]
theorem T_clear (h : isT σ t d V) {d' : Nat} (hd' : d' ≤ 8) : ∃ τ, dcall 7 [.ref t, .int (nI d')] σ = some (none, τ) ∧ isT τ t d' (fun _ => nI 0) ∧ fr5 t σ τ := by
  obtain ⟨hd, V', M, F, h, hV, hM, hF⟩ := h
  have hK : 2 ^ d' ≤ 256 := Nat.pow_le_pow_right (by omega) hd'
  obtain ⟨V1, M1, F1, τ, e1, e2, e3, e4, e5⟩ := Tr_clear h hd'
  refine ⟨τ, e1, ⟨hd', V1, _, F1, e2, fun k hk => e4 k (by omega), ⟨fun k hk => ?_, fun p h1 h2 => jd_lo _ _ p h1 (by omega)⟩, okF_of (fun p h1 h2 => ?_)⟩, e3⟩
  · rw [jd_hi _ _ _ (by omega), (e5 _ (by omega)).1, lf_0]
  · rw [(e5 p (by omega)).2, un_zero (fun _ _ => rfl) p h1 h2]
theorem va_cpy0 {f g : Nat → Int32} {n j : Nat} (h : j < n) : va_cpy f g 0 0 n j = f j := by
  unfold va_cpy
  rw [if_pos ⟨Nat.zero_le _, by omega⟩, Nat.zero_add, Nat.sub_zero]
theorem T_take (h : isT σ t d V) {t2 d2 : Nat} {V2 : Nat → Int32} (h2 : isT σ t2 d2 V2) (hne : t2 + 5 ≤ t ∨ t + 5 ≤ t2) : ∃ τ, dcall 17 [.ref t, .ref t2] σ = some (none, τ) ∧ isT τ t d2 V2 ∧ fr5 t σ τ := by
  obtain ⟨hd, V', M, F, h, hV, hM, hF⟩ := h
  obtain ⟨hd2, V2', M2, F2, h2, hV2, hM2, hF2⟩ := h2
  have hK : 2 ^ d2 ≤ 256 := Nat.pow_le_pow_right (by omega) hd2
  obtain ⟨τ, e1, e2, e3⟩ := Tr_take h h2 hne
  refine ⟨τ, e1, ⟨hd2, _, _, _, e2, fun k hk => (va_cpy0 (by omega)).trans (hV2 k hk), okM_of (fun p q1 q2 => (va_cpy0 (by omega)).trans (hM2.eq p q1 q2)), okF_of (fun p q1 q2 => (va_cpy0 (by omega)).trans (hF2.eq p q1 q2))⟩, e3⟩
theorem T_place (h : isT σ t d V) {k : Nat} (hk : k < 2 ^ d) (v : Int32) : ∃ τ, dcall 38 [.ref t, .int (nI k), .int v] σ = some (none, τ) ∧ isT τ t d (upd V k v) ∧ fr5 t σ τ := by
  have h0 := h
  obtain ⟨hd, V', M, F, h, hV, hM, hF⟩ := h
  by_cases hv : v = V' k
  · subst hv
    refine ⟨σ, Tr_place_same h hd hk, h0.congr (fun j hj => ?_), fr5.rf⟩
    by_cases hjk : j = k
    · subst hjk; rw [pk_us, hV j hj]
    · rw [pk_un hjk]
  · obtain ⟨F', x, e1, e2, e3⟩ := Tr_place h hd hk hv
    refine ⟨_, e1, ⟨hd, _, _, _, tput_is h, fun j hj => ?_, ?_, ?_⟩, fr5_tput⟩
    · by_cases hjk : j = k
      · subst hjk; rw [pk_us, pk_us]
      · rw [pk_un hjk, pk_un hjk]; exact hV j hj
    · exact okM_place hM hd hk
    · exact okF_place hF hd hk (by rw [← hV k hk]; exact e2) e3
theorem T_place_out (h : isT σ t d V) {k : Nat} (hk : 2 ^ d ≤ k) (hk2 : k < 2 ^ 31) {v : Int32} : dcall 38 [.ref t, .int (nI k), .int v] σ = some (none, σ) := by
  obtain ⟨hd, V', M, F, h, hV, hM, hF⟩ := h
  exact Tr_place_out h hd hk hk2
end TT
