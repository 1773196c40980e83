/-! calls: forks -/
theorem xor_lev {a b l : Nat} : (a / 2 ^ l = b / 2 ^ l) ↔ (a ^^^ b) / 2 ^ l = 0 := by
  rw [← Nat.shiftRight_eq_div_pow, ← Nat.shiftRight_eq_div_pow, ← Nat.shiftRight_eq_div_pow, Nat.shiftRight_xor_distrib]
  constructor
  · intro h; rw [h, Nat.xor_self]
  · intro h
    have h2 : (a >>> l ^^^ b >>> l) ^^^ b >>> l = 0 ^^^ b >>> l := by rw [h]
    rw [Nat.xor_assoc, Nat.xor_self, Nat.xor_zero, Nat.zero_xor] at h2
    exact h2
/-- so many halvings bring nothing, and one fewer does not -/
theorem lg_div : ∀ (n x : Nat), x < 2 ^ n → x / 2 ^ lg n x = 0 ∧ ∀ l, l < lg n x → x / 2 ^ l ≠ 0 := by
  intro n
  induction n with
  | zero => intro x h; have : x = 0 := by simpa using h
            subst this; exact ⟨rfl, fun l hl => absurd hl (Nat.not_lt_zero _)⟩
  | succ n ih =>
    intro x h
    rw [lg]
    by_cases h0 : x < 1
    · rw [if_pos h0]
      have : x = 0 := by omega
      subst this
      exact ⟨rfl, fun l hl => absurd hl (Nat.not_lt_zero _)⟩
    · rw [if_neg h0]
      obtain ⟨g1, g2⟩ := ih (x / 2) (by rw [Nat.pow_succ] at h; omega)
      refine ⟨?_, fun l hl => ?_⟩
      · rw [Nat.add_comm, Nat.pow_succ, Nat.mul_comm, ← Nat.div_div_eq_div_mul]; exact g1
      · cases l with
        | zero => rw [Nat.pow_zero, Nat.div_one]; omega
        | succ l =>
          rw [Nat.pow_succ, Nat.mul_comm, ← Nat.div_div_eq_div_mul]
          exact g2 l (by omega)
section JY
variable {c i : Nat} {σ : Hp} {m d f l : Nat} {V : Nat → Nat → Int32} {T : Nat → Option Nat} {A : Nat → Nat → Int32} {R : Nat → Int64} {I : Nat → Int32}
theorem C_forks_loop {l1 l2 l3 l4 l0 : Value} : ∀ (n x e : Nat), x < 2 ^ n → n < 31 → den 98 47 [l0, l1, l2, l3, l4, .int (nI e), .int (nI x)] [] σ = den 98 64 [l0, l1, l2, l3, l4, .int (nI (e + lg n x)), .int (nI 0)] [] σ := by
  intro n
  induction n with
  | zero =>
    intro x e h hn
    have : x = 0 := by simpa using h
    subst this
    rw [e98_47]
    simp (disch := omega) only [e98_49, e98_52, e98_55, e98_57, e98_58, e98_59, e98_61, kv_s, kh_s, kr_s, kr_v, kn_s, z0, z1, z2, nI_ltI, nI_leI, nI_eq, nI_add, oN, bz0, bz1, bw0, bw1, ltT, ltF, leT, leF, eqT, eqF, if_true, if_false, kI_n, wI_n, and_true, true_and, and_false, false_and, not_true, not_false_eq_true, lg, Nat.add_zero]
  | succ n ih =>
    intro x e h hn
    have hb : 2 ^ (n + 1) ≤ 2 ^ 30 := Nat.pow_le_pow_right (by omega) (by omega)
    rw [e98_47, lg]
    by_cases h0 : x < 1
    · have : x = 0 := by omega
      subst this
      simp (disch := omega) only [e98_49, e98_52, e98_55, e98_57, e98_58, e98_59, e98_61, kv_s, kh_s, kr_s, kr_v, kn_s, z0, z1, z2, nI_ltI, nI_leI, nI_eq, nI_add, oN, bz0, bz1, bw0, bw1, ltT, ltF, leT, leF, eqT, eqF, if_true, if_false, kI_n, wI_n, and_true, true_and, and_false, false_and, not_true, not_false_eq_true, Nat.add_zero]
    · rw [if_neg h0, ← Nat.add_assoc, ← ih (x / 2) (e + 1) (by rw [Nat.pow_succ] at h; omega) (by omega)]
      simp (disch := omega) only [e98_49, e98_52, e98_55, e98_57, e98_58, e98_59, e98_61, kv_s, kh_s, kr_s, kr_v, kn_s, z0, z1, z2, nI_ltI, nI_leI, nI_eq, nI_add, oN, bz0, bz1, bw0, bw1, ltT, ltF, leT, leF, eqT, eqF, if_true, if_false, kI_n, wI_n, and_true, true_and, and_false, false_and, not_true, not_false_eq_true, shr1]
theorem M_forks_loop1 {a b : Nat} (ha : a < 2 ^ 8) (hb : b < 2 ^ 8) {l0 l1 l5 l6 l7 : Value} : ∀ (n e : Nat), e + n = lg 8 (a ^^^ b) → den 220 34 [l0, l1, .int (nI a), .int (nI b), .int (nI e), l5, l6, l7] [] σ = den 220 51 [l0, l1, .int (nI a), .int (nI b), .int (nI (lg 8 (a ^^^ b))), l5, l6, l7] [] σ := by
  obtain ⟨g1, g2⟩ := lg_div 8 (a ^^^ b) (Nat.xor_lt_two_pow ha hb)
  have hlg : lg 8 (a ^^^ b) ≤ 8 := by
    have key : ∀ n x, lg n x ≤ n := by
      intro n
      induction n with
      | zero => intro x; exact Nat.le_refl _
      | succ n ih => intro x; rw [lg]; have := ih (x / 2); split <;> omega
    exact key _ _
  have hd : ∀ x e : Nat, x < 2 ^ 8 → x / 2 ^ e < 2 ^ 31 := fun x e hx => Nat.lt_of_le_of_lt (Nat.div_le_self _ _) (by omega)
  intro n
  induction n with
  | zero =>
    intro e he
    have he' : e = lg 8 (a ^^^ b) := by omega
    have h1 : a / 2 ^ e = b / 2 ^ e := xor_lev.mpr (by rw [he']; exact g1)
    rw [← he']
    have hb2 := hd b e hb
    rw [e220_34]
    simp (disch := omega) only [e220_35, e220_37, e220_38, e220_39, e220_41, e220_42, e220_45, e220_48, kv_s, kh_s, kr_s, kr_v, kn_s, z0, z1, z2, nI_ltI, nI_leI, nI_eq, nI_add, oN, bz0, bz1, bw0, bw1, ltT, ltF, leT, leF, eqT, eqF, if_true, if_false, kI_n, wI_n, and_true, true_and, and_false, false_and, not_true, not_false_eq_true, shrN, h1]
  | succ n ih =>
    intro e he
    have h1 : ¬ a / 2 ^ e = b / 2 ^ e := fun z => g2 e (by omega) (xor_lev.mp z)
    have ha2 := hd a e ha
    have hb2 := hd b e hb
    rw [← ih (e + 1) (by omega)]
    rw [e220_34]
    simp (disch := omega) only [e220_35, e220_37, e220_38, e220_39, e220_41, e220_42, e220_45, e220_48, kv_s, kh_s, kr_s, kr_v, kn_s, z0, z1, z2, nI_ltI, nI_leI, nI_eq, nI_add, oN, bz0, bz1, bw0, bw1, ltT, ltF, leT, leF, eqT, eqF, if_true, if_false, kI_n, wI_n, and_true, true_and, and_false, false_and, not_true, not_false_eq_true, shrN, h1]
theorem lg_le {d : Nat} : ∀ (n x : Nat), x < 2 ^ d → lg n x ≤ d := by
  intro n x h
  rcases Nat.lt_or_ge d (lg n x) with h1 | h1
  · exfalso
    have key : ∀ n x d, x < 2 ^ d → lg n x ≤ d := by
      intro n
      induction n with
      | zero => intro x d _; exact Nat.zero_le _
      | succ n ih =>
        intro x d hx
        rw [lg]
        split
        · exact Nat.zero_le _
        · cases d with
          | zero => simp at hx; omega
          | succ d =>
            have := ih (x / 2) d (by rw [Nat.pow_succ] at hx; omega)
            omega
    have := key n x d h
    omega
  · exact h1
theorem atl_anc {k w : Nat} (hk : k < 2 ^ d) (hw : w ≤ d) : atl d w (anc d k w) := by
  refine ⟨hw, by rw [anc_eq hw]; exact Nat.le_add_right _ _, ?_⟩
  rw [anc_eq hw, Nat.pow_succ]
  have : k / 2 ^ w < 2 ^ (d - w) := by
    rw [Nat.div_lt_iff_lt_mul (Nat.two_pow_pos w), ← Nat.pow_add, show d - w + w = d by omega]
    exact hk
  omega
theorem anc_from {k w : Nat} (hw : w ≤ d) : anc d k w * 2 ^ w - 2 ^ d = k / 2 ^ w * 2 ^ w := by
  rw [anc_eq hw, Nat.add_mul, ← Nat.pow_add, show d - w + w = d by omega, Nat.add_sub_cancel_left]
theorem M_forks_loop2 (h : nowM (A 1) d f l V) {v : Nat} (h1 : f ≤ v) (h2 : v ≤ l) {a w : Nat} (ha : a + 2 ^ w ≤ 256) (hw : w ≤ 8) {l2 l3 : Value} : ∀ (n j : Nat), j + n = 2 ^ w → den 220 67 [.ref m, .int (nI v), l2, l3, .int (nI w), .int (nI a), .int (nI (cnt (po (V v)) a j)), .int (nI (a + j))] [] (mw σ m A R I) = some (some (.int (nI w)), mw σ m A (rl R [lN (cnt (po (V v)) a (2 ^ w)), lN a]) (upd I 5 (nI 2))) := by
  have e1 : (nI 1) <<< (nI w &&& 31) = nI (2 ^ w) := shl_nI (by omega)
  intro n
  induction n with
  | zero =>
    intro j hj
    have : j = 2 ^ w := by omega
    subst this
    have hc := cnt_le (po (V v)) a (2 ^ w)
    rw [e220_67]
    simp (disch := first | omega | exact tl_l | exact tT_len | (simp only [List.length_cons, List.length_nil])) only [e220_0, e220_1, e220_2, e220_5, e220_6, e220_7, e220_10, e220_13, e220_14, e220_15, e220_18, e220_21, e220_22, e220_23, e220_26, e220_29, e220_30, e220_31, e220_32, e220_35, e220_37, e220_38, e220_39, e220_41, e220_42, e220_45, e220_48, e220_51, e220_52, e220_54, e220_55, e220_57, e220_58, e220_60, e220_61, e220_63, e220_65, e220_69, e220_71, e220_72, e220_74, e220_75, e220_76, e220_79, e220_81, e220_82, e220_83, e220_85, e220_88, e220_91, e220_92, e220_95, e220_96, e220_97, e220_99, e220_102, e220_105, e220_106, e220_107, e220_110, e220_111, e220_113, e220_114, e220_117, e220_118, e220_120, e220_121, e220_124, e220_126, kv_s, kh_s, kr_s, kr_v, kn_s, z0, z1, z2, nI_ltI, nI_leI, nI_eq, nI_add, oN, bz0, bz1, bw0, bw1, ltT, ltF, leT, leF, eqT, eqF, if_true, if_false, kI_n, wI_n, and_true, true_and, and_false, false_and, not_true, not_false_eq_true, mwo, mwr_0, mwr_1, mwr_2, mwg_3, mwp_3, mwr_4, mwg_5, mwp_5, mwg_6, mwp_6, mwr_7, mwr_8, mwg_9, mwp_9, mwg_10, mwp_10, mwg_11, mwp_11, mwr_12, mwg_13, mwp_13, mwr_14, mwr_15, mwr_16, mwr_17, mwr_18, mwr_19, mwg_20, mwp_20, mwr_21, mwr_22, mwr_23, mwa_1, mwu_1, mwa_2, mwu_2, mwa_3, mwu_3, mwa_4, mwu_4, mwa_5, mwu_5, mwa_6, mwu_6, mwa_7, mwu_7, mwa_8, mwu_8, mwa_9, mwu_9, mwa_10, mwu_10, mwa_11, mwu_11, mwa_12, mwu_12, mwa_13, mwu_13, mwa_14, mwu_14, mwa_15, mwu_15, mwa_16, mwu_16, vu_at, vu_ne, pk_us, pk_un, kB_n, wB_n, kL_n, wL_n, mwo, e1, nI_l, M_tell0, M_tell, List.nil_append, List.cons_append]
  | succ n ih =>
    intro j hj
    rw [← ih (j + 1) (by omega), cnt_po, show a + (j + 1) = a + j + 1 from rfl]
    by_cases hv : V v (a + j) ≤ nI 0
    · have hv2 : ¬ nI 0 < V v (a + j) := Int32.not_lt.mpr hv
      rw [e220_67]
      simp (disch := first | omega | exact tl_l | exact tT_len | (simp only [List.length_cons, List.length_nil])) only [e220_0, e220_1, e220_2, e220_5, e220_6, e220_7, e220_10, e220_13, e220_14, e220_15, e220_18, e220_21, e220_22, e220_23, e220_26, e220_29, e220_30, e220_31, e220_32, e220_35, e220_37, e220_38, e220_39, e220_41, e220_42, e220_45, e220_48, e220_51, e220_52, e220_54, e220_55, e220_57, e220_58, e220_60, e220_61, e220_63, e220_65, e220_69, e220_71, e220_72, e220_74, e220_75, e220_76, e220_79, e220_81, e220_82, e220_83, e220_85, e220_88, e220_91, e220_92, e220_95, e220_96, e220_97, e220_99, e220_102, e220_105, e220_106, e220_107, e220_110, e220_111, e220_113, e220_114, e220_117, e220_118, e220_120, e220_121, e220_124, e220_126, kv_s, kh_s, kr_s, kr_v, kn_s, z0, z1, z2, nI_ltI, nI_leI, nI_eq, nI_add, oN, bz0, bz1, bw0, bw1, ltT, ltF, leT, leF, eqT, eqF, if_true, if_false, kI_n, wI_n, and_true, true_and, and_false, false_and, not_true, not_false_eq_true, mwo, mwr_0, mwr_1, mwr_2, mwg_3, mwp_3, mwr_4, mwg_5, mwp_5, mwg_6, mwp_6, mwr_7, mwr_8, mwg_9, mwp_9, mwg_10, mwp_10, mwg_11, mwp_11, mwr_12, mwg_13, mwp_13, mwr_14, mwr_15, mwr_16, mwr_17, mwr_18, mwr_19, mwg_20, mwp_20, mwr_21, mwr_22, mwr_23, mwa_1, mwu_1, mwa_2, mwu_2, mwa_3, mwu_3, mwa_4, mwu_4, mwa_5, mwu_5, mwa_6, mwu_6, mwa_7, mwu_7, mwa_8, mwu_8, mwa_9, mwu_9, mwa_10, mwu_10, mwa_11, mwu_11, mwa_12, mwu_12, mwa_13, mwu_13, mwa_14, mwu_14, mwa_15, mwu_15, mwa_16, mwu_16, vu_at, vu_ne, pk_us, pk_un, kB_n, wB_n, kL_n, wL_n, mwo, e1, M_value h h1 h2, hv, hv2, Nat.add_zero]
    · have hv2 : nI 0 < V v (a + j) := Int32.not_le.mp hv
      rw [e220_67]
      simp (disch := first | omega | exact tl_l | exact tT_len | (simp only [List.length_cons, List.length_nil])) only [e220_0, e220_1, e220_2, e220_5, e220_6, e220_7, e220_10, e220_13, e220_14, e220_15, e220_18, e220_21, e220_22, e220_23, e220_26, e220_29, e220_30, e220_31, e220_32, e220_35, e220_37, e220_38, e220_39, e220_41, e220_42, e220_45, e220_48, e220_51, e220_52, e220_54, e220_55, e220_57, e220_58, e220_60, e220_61, e220_63, e220_65, e220_69, e220_71, e220_72, e220_74, e220_75, e220_76, e220_79, e220_81, e220_82, e220_83, e220_85, e220_88, e220_91, e220_92, e220_95, e220_96, e220_97, e220_99, e220_102, e220_105, e220_106, e220_107, e220_110, e220_111, e220_113, e220_114, e220_117, e220_118, e220_120, e220_121, e220_124, e220_126, kv_s, kh_s, kr_s, kr_v, kn_s, z0, z1, z2, nI_ltI, nI_leI, nI_eq, nI_add, oN, bz0, bz1, bw0, bw1, ltT, ltF, leT, leF, eqT, eqF, if_true, if_false, kI_n, wI_n, and_true, true_and, and_false, false_and, not_true, not_false_eq_true, mwo, mwr_0, mwr_1, mwr_2, mwg_3, mwp_3, mwr_4, mwg_5, mwp_5, mwg_6, mwp_6, mwr_7, mwr_8, mwg_9, mwp_9, mwg_10, mwp_10, mwg_11, mwp_11, mwr_12, mwg_13, mwp_13, mwr_14, mwr_15, mwr_16, mwr_17, mwr_18, mwr_19, mwg_20, mwp_20, mwr_21, mwr_22, mwr_23, mwa_1, mwu_1, mwa_2, mwu_2, mwa_3, mwu_3, mwa_4, mwu_4, mwa_5, mwu_5, mwa_6, mwu_6, mwa_7, mwu_7, mwa_8, mwu_8, mwa_9, mwu_9, mwa_10, mwu_10, mwa_11, mwu_11, mwa_12, mwu_12, mwa_13, mwu_13, mwa_14, mwu_14, mwa_15, mwu_15, mwa_16, mwu_16, vu_at, vu_ne, pk_us, pk_un, kB_n, wB_n, kL_n, wL_n, mwo, e1, M_value h h1 h2, hv, hv2]
end JY
section JZ
variable {c i : Nat} {σ : Hp} {m d f l : Nat} {V : Nat → Nat → Int32} {T : Nat → Option Nat} {A : Nat → Nat → Int32} {R : Nat → Int64} {I : Nat → Int32}
theorem C_forks0 (h : RB c σ T d f l V) {x y w : Int32} (hx : out f l x ∨ isK d y = false ∨ isK d w = false) : dcall 98 [.ref c, .int x, .int y, .int w] (cw σ c A R I) = some (some (.int (-nI 1)), cw σ c A R I) := by
  have hl := h.fl
  rcases C_find h x with ⟨_, e1⟩ | ⟨v, t, a1, a2, rfl, _, _, e1⟩
  · rw [q98]
    simp (disch := first | omega | exact tl_l | exact tT_len | (simp only [List.length_cons, List.length_nil])) only [e98_0, e98_1, e98_4, e98_5, e98_8, e98_8n, e98_10, e98_10n, e98_12, e98_12n, e98_15, e98_16, e98_19, e98_20, e98_23, e98_26, e98_27, e98_30, e98_31, e98_34, e98_37, e98_38, e98_39, e98_40, e98_42, e98_43, e98_44, e98_45, e98_49, e98_52, e98_55, e98_57, e98_58, e98_59, e98_61, e98_64, e98_65, e98_68, e98_71, e98_72, e98_75, e98_75n, e98_77, e98_80, e98_81, e98_84, e98_87, e98_88, e98_89, e98_91, e98_92, e98_95, e98_96, e98_99, e98_100, e98_103, e98_104, e98_106, e98_107, e98_109, e98_110, e98_111, e98_114, e98_116, kv_s, kh_s, kr_s, kr_v, kn_s, z0, z1, z2, nI_ltI, nI_leI, nI_eq, nI_add, oN, bz0, bz1, bw0, bw1, ltT, ltF, leT, leF, eqT, eqF, if_true, if_false, kI_n, wI_n, and_true, true_and, and_false, false_and, not_true, not_false_eq_true, cwo_1, cwr_1, cwg_0, cwg_1, cwg_2, cwa_0, cwl_0, cwo_3, cwr_3, cwg_3, cwa_R, cwl_R, cwo_5, cwr_5, cwg_4, cwg_5, cwg_6, cwg_7, cwg_8, cwa_1, cwl_1, cwo_7, cwr_7, cwg_9, cwg_10, cwg_11, cwg_12, cwg_13, cwa_2, cwl_2, cwo_17, cwr_17, cwg_14, cwa_3, cwl_3, cwp_0, cwp_1, cwp_2, cwp_3, cwp_4, cwp_5, cwp_6, cwp_7, cwp_8, cwp_9, cwp_10, cwp_11, cwp_12, cwp_13, cwp_14, cwu_0, cwu_R, cwu_1, cwu_2, cwu_3, vu_at, vu_ne, pk_us, pk_un, h.x.f0, h.x.f1, h.x.f2, h.x.f3, h.x.f4, h.x.f5, h.x.f6, h.x.f7, h.x.o, h.hi.o, h.hi.gd, h.hi.gf, h.hi.gl, Hi_keys h.hi h.d8, Hi_hasKey h.hi h.d8, Rw_empty, Rw_add, List.nil_append, List.cons_append, upd_upd, cwo_1, cwo_3, cwo_5, cwo_7, cwo_17, Bool.false_eq_true, n01, e1]
  · have hs := hx.resolve_left (not_out a1 a2 (by omega))
    cases hy : isK d y with
    | false =>
      rw [q98]
      simp (disch := first | omega | exact tl_l | exact tT_len | (simp only [List.length_cons, List.length_nil])) only [e98_0, e98_1, e98_4, e98_5, e98_8, e98_8n, e98_10, e98_10n, e98_12, e98_12n, e98_15, e98_16, e98_19, e98_20, e98_23, e98_26, e98_27, e98_30, e98_31, e98_34, e98_37, e98_38, e98_39, e98_40, e98_42, e98_43, e98_44, e98_45, e98_49, e98_52, e98_55, e98_57, e98_58, e98_59, e98_61, e98_64, e98_65, e98_68, e98_71, e98_72, e98_75, e98_75n, e98_77, e98_80, e98_81, e98_84, e98_87, e98_88, e98_89, e98_91, e98_92, e98_95, e98_96, e98_99, e98_100, e98_103, e98_104, e98_106, e98_107, e98_109, e98_110, e98_111, e98_114, e98_116, kv_s, kh_s, kr_s, kr_v, kn_s, z0, z1, z2, nI_ltI, nI_leI, nI_eq, nI_add, oN, bz0, bz1, bw0, bw1, ltT, ltF, leT, leF, eqT, eqF, if_true, if_false, kI_n, wI_n, and_true, true_and, and_false, false_and, not_true, not_false_eq_true, cwo_1, cwr_1, cwg_0, cwg_1, cwg_2, cwa_0, cwl_0, cwo_3, cwr_3, cwg_3, cwa_R, cwl_R, cwo_5, cwr_5, cwg_4, cwg_5, cwg_6, cwg_7, cwg_8, cwa_1, cwl_1, cwo_7, cwr_7, cwg_9, cwg_10, cwg_11, cwg_12, cwg_13, cwa_2, cwl_2, cwo_17, cwr_17, cwg_14, cwa_3, cwl_3, cwp_0, cwp_1, cwp_2, cwp_3, cwp_4, cwp_5, cwp_6, cwp_7, cwp_8, cwp_9, cwp_10, cwp_11, cwp_12, cwp_13, cwp_14, cwu_0, cwu_R, cwu_1, cwu_2, cwu_3, vu_at, vu_ne, pk_us, pk_un, h.x.f0, h.x.f1, h.x.f2, h.x.f3, h.x.f4, h.x.f5, h.x.f6, h.x.f7, h.x.o, h.hi.o, h.hi.gd, h.hi.gf, h.hi.gl, Hi_keys h.hi h.d8, Hi_hasKey h.hi h.d8, Rw_empty, Rw_add, List.nil_append, List.cons_append, upd_upd, cwo_1, cwo_3, cwo_5, cwo_7, cwo_17, Bool.false_eq_true, n01, e1, hy]
    | true =>
      have hw := hs.resolve_left (by rw [hy]; exact Bool.noConfusion)
      rw [q98]
      simp (disch := first | omega | exact tl_l | exact tT_len | (simp only [List.length_cons, List.length_nil])) only [e98_0, e98_1, e98_4, e98_5, e98_8, e98_8n, e98_10, e98_10n, e98_12, e98_12n, e98_15, e98_16, e98_19, e98_20, e98_23, e98_26, e98_27, e98_30, e98_31, e98_34, e98_37, e98_38, e98_39, e98_40, e98_42, e98_43, e98_44, e98_45, e98_49, e98_52, e98_55, e98_57, e98_58, e98_59, e98_61, e98_64, e98_65, e98_68, e98_71, e98_72, e98_75, e98_75n, e98_77, e98_80, e98_81, e98_84, e98_87, e98_88, e98_89, e98_91, e98_92, e98_95, e98_96, e98_99, e98_100, e98_103, e98_104, e98_106, e98_107, e98_109, e98_110, e98_111, e98_114, e98_116, kv_s, kh_s, kr_s, kr_v, kn_s, z0, z1, z2, nI_ltI, nI_leI, nI_eq, nI_add, oN, bz0, bz1, bw0, bw1, ltT, ltF, leT, leF, eqT, eqF, if_true, if_false, kI_n, wI_n, and_true, true_and, and_false, false_and, not_true, not_false_eq_true, cwo_1, cwr_1, cwg_0, cwg_1, cwg_2, cwa_0, cwl_0, cwo_3, cwr_3, cwg_3, cwa_R, cwl_R, cwo_5, cwr_5, cwg_4, cwg_5, cwg_6, cwg_7, cwg_8, cwa_1, cwl_1, cwo_7, cwr_7, cwg_9, cwg_10, cwg_11, cwg_12, cwg_13, cwa_2, cwl_2, cwo_17, cwr_17, cwg_14, cwa_3, cwl_3, cwp_0, cwp_1, cwp_2, cwp_3, cwp_4, cwp_5, cwp_6, cwp_7, cwp_8, cwp_9, cwp_10, cwp_11, cwp_12, cwp_13, cwp_14, cwu_0, cwu_R, cwu_1, cwu_2, cwu_3, vu_at, vu_ne, pk_us, pk_un, h.x.f0, h.x.f1, h.x.f2, h.x.f3, h.x.f4, h.x.f5, h.x.f6, h.x.f7, h.x.o, h.hi.o, h.hi.gd, h.hi.gf, h.hi.gl, Hi_keys h.hi h.d8, Hi_hasKey h.hi h.d8, Rw_empty, Rw_add, List.nil_append, List.cons_append, upd_upd, cwo_1, cwo_3, cwo_5, cwo_7, cwo_17, Bool.false_eq_true, n01, e1, hy, hw]
theorem Ms_forks (h : nowM (A 1) d f l V) {x y w : Int32} (hx : out f l x ∨ isK d y = false ∨ isK d w = false) : Ms 220 [.ref m, .int x, .int y, .int w] σ m A R I (.int (-nI 1)) := by
  have hK := h.K
  rcases ver_in (x := x) (show l < 2 ^ 31 by omega) hK.2.2.2.1 with ⟨v, h1, h2, rfl⟩ | h0
  · have hs := hx.resolve_left (not_out h1 h2 (by omega))
    cases hy : isK d y with
    | false =>
      refine ⟨A, upd I 6 (nI 0), ?_, stay.rf, pk_un (by omega), pk_un (by omega)⟩
      rw [q220]
      simp (disch := first | omega | exact tl_l | exact tT_len | (simp only [List.length_cons, List.length_nil])) only [e220_0, e220_1, e220_2, e220_5, e220_6, e220_7, e220_10, e220_13, e220_14, e220_15, e220_18, e220_21, e220_22, e220_23, e220_26, e220_29, e220_30, e220_31, e220_32, e220_35, e220_37, e220_38, e220_39, e220_41, e220_42, e220_45, e220_48, e220_51, e220_52, e220_54, e220_55, e220_57, e220_58, e220_60, e220_61, e220_63, e220_65, e220_69, e220_71, e220_72, e220_74, e220_75, e220_76, e220_79, e220_81, e220_82, e220_83, e220_85, e220_88, e220_91, e220_92, e220_95, e220_96, e220_97, e220_99, e220_102, e220_105, e220_106, e220_107, e220_110, e220_111, e220_113, e220_114, e220_117, e220_118, e220_120, e220_121, e220_124, e220_126, kv_s, kh_s, kr_s, kr_v, kn_s, z0, z1, z2, nI_ltI, nI_leI, nI_eq, nI_add, oN, bz0, bz1, bw0, bw1, ltT, ltF, leT, leF, eqT, eqF, if_true, if_false, kI_n, wI_n, and_true, true_and, and_false, false_and, not_true, not_false_eq_true, mwo, mwr_0, mwr_1, mwr_2, mwg_3, mwp_3, mwr_4, mwg_5, mwp_5, mwg_6, mwp_6, mwr_7, mwr_8, mwg_9, mwp_9, mwg_10, mwp_10, mwg_11, mwp_11, mwr_12, mwg_13, mwp_13, mwr_14, mwr_15, mwr_16, mwr_17, mwr_18, mwr_19, mwg_20, mwp_20, mwr_21, mwr_22, mwr_23, mwa_1, mwu_1, mwa_2, mwu_2, mwa_3, mwu_3, mwa_4, mwu_4, mwa_5, mwu_5, mwa_6, mwu_6, mwa_7, mwu_7, mwa_8, mwu_8, mwa_9, mwu_9, mwa_10, mwu_10, mwa_11, mwu_11, mwa_12, mwu_12, mwa_13, mwu_13, mwa_14, mwu_14, mwa_15, mwu_15, mwa_16, mwu_16, vu_at, vu_ne, pk_us, pk_un, kB_n, wB_n, kL_n, wL_n, M_ver h h1 h2, M_isKey h, hy, n01, Bool.false_eq_true]
    | true =>
      have hw := hs.resolve_left (by rw [hy]; exact Bool.noConfusion)
      refine ⟨A, upd I 6 (nI 0), ?_, stay.rf, pk_un (by omega), pk_un (by omega)⟩
      rw [q220]
      simp (disch := first | omega | exact tl_l | exact tT_len | (simp only [List.length_cons, List.length_nil])) only [e220_0, e220_1, e220_2, e220_5, e220_6, e220_7, e220_10, e220_13, e220_14, e220_15, e220_18, e220_21, e220_22, e220_23, e220_26, e220_29, e220_30, e220_31, e220_32, e220_35, e220_37, e220_38, e220_39, e220_41, e220_42, e220_45, e220_48, e220_51, e220_52, e220_54, e220_55, e220_57, e220_58, e220_60, e220_61, e220_63, e220_65, e220_69, e220_71, e220_72, e220_74, e220_75, e220_76, e220_79, e220_81, e220_82, e220_83, e220_85, e220_88, e220_91, e220_92, e220_95, e220_96, e220_97, e220_99, e220_102, e220_105, e220_106, e220_107, e220_110, e220_111, e220_113, e220_114, e220_117, e220_118, e220_120, e220_121, e220_124, e220_126, kv_s, kh_s, kr_s, kr_v, kn_s, z0, z1, z2, nI_ltI, nI_leI, nI_eq, nI_add, oN, bz0, bz1, bw0, bw1, ltT, ltF, leT, leF, eqT, eqF, if_true, if_false, kI_n, wI_n, and_true, true_and, and_false, false_and, not_true, not_false_eq_true, mwo, mwr_0, mwr_1, mwr_2, mwg_3, mwp_3, mwr_4, mwg_5, mwp_5, mwg_6, mwp_6, mwr_7, mwr_8, mwg_9, mwp_9, mwg_10, mwp_10, mwg_11, mwp_11, mwr_12, mwg_13, mwp_13, mwr_14, mwr_15, mwr_16, mwr_17, mwr_18, mwr_19, mwg_20, mwp_20, mwr_21, mwr_22, mwr_23, mwa_1, mwu_1, mwa_2, mwu_2, mwa_3, mwu_3, mwa_4, mwu_4, mwa_5, mwu_5, mwa_6, mwu_6, mwa_7, mwu_7, mwa_8, mwu_8, mwa_9, mwu_9, mwa_10, mwu_10, mwa_11, mwu_11, mwa_12, mwu_12, mwa_13, mwu_13, mwa_14, mwu_14, mwa_15, mwu_15, mwa_16, mwu_16, vu_at, vu_ne, pk_us, pk_un, kB_n, wB_n, kL_n, wL_n, M_ver h h1 h2, M_isKey h, hy, hw, n01, Bool.false_eq_true]
  · refine ⟨A, upd I 6 (nI 0), ?_, stay.rf, pk_un (by omega), pk_un (by omega)⟩
    rw [q220]
    simp (disch := first | omega | exact tl_l | exact tT_len | (simp only [List.length_cons, List.length_nil])) only [e220_0, e220_1, e220_2, e220_5, e220_6, e220_7, e220_10, e220_13, e220_14, e220_15, e220_18, e220_21, e220_22, e220_23, e220_26, e220_29, e220_30, e220_31, e220_32, e220_35, e220_37, e220_38, e220_39, e220_41, e220_42, e220_45, e220_48, e220_51, e220_52, e220_54, e220_55, e220_57, e220_58, e220_60, e220_61, e220_63, e220_65, e220_69, e220_71, e220_72, e220_74, e220_75, e220_76, e220_79, e220_81, e220_82, e220_83, e220_85, e220_88, e220_91, e220_92, e220_95, e220_96, e220_97, e220_99, e220_102, e220_105, e220_106, e220_107, e220_110, e220_111, e220_113, e220_114, e220_117, e220_118, e220_120, e220_121, e220_124, e220_126, kv_s, kh_s, kr_s, kr_v, kn_s, z0, z1, z2, nI_ltI, nI_leI, nI_eq, nI_add, oN, bz0, bz1, bw0, bw1, ltT, ltF, leT, leF, eqT, eqF, if_true, if_false, kI_n, wI_n, and_true, true_and, and_false, false_and, not_true, not_false_eq_true, mwo, mwr_0, mwr_1, mwr_2, mwg_3, mwp_3, mwr_4, mwg_5, mwp_5, mwg_6, mwp_6, mwr_7, mwr_8, mwg_9, mwp_9, mwg_10, mwp_10, mwg_11, mwp_11, mwr_12, mwg_13, mwp_13, mwr_14, mwr_15, mwr_16, mwr_17, mwr_18, mwr_19, mwg_20, mwp_20, mwr_21, mwr_22, mwr_23, mwa_1, mwu_1, mwa_2, mwu_2, mwa_3, mwu_3, mwa_4, mwu_4, mwa_5, mwu_5, mwa_6, mwu_6, mwa_7, mwu_7, mwa_8, mwu_8, mwa_9, mwu_9, mwa_10, mwu_10, mwa_11, mwu_11, mwa_12, mwu_12, mwa_13, mwu_13, mwa_14, mwu_14, mwa_15, mwu_15, mwa_16, mwu_16, vu_at, vu_ne, pk_us, pk_un, kB_n, wB_n, kL_n, wL_n, M_ver0 h h0]
end JZ
theorem J_forks (x y w : Int32) : Jn 98 220 [.int x, .int y, .int w] := by
  rintro c i σ hi ⟨z, n, B, L, q, K, A, R, I, A2, R2, I2, h⟩
  obtain ⟨T, hb⟩ := h.rb
  have hN := h.nm
  have hK := hb.K
  have hd := hb.d8
  rcases C_find hb x with ⟨ho, _⟩ | ⟨v, t, a1, a2, rfl, t1, t2, e1⟩
  · exact Inv_same h hi (C_forks0 hb (Or.inl ho)) (Ms_forks hN (Or.inl ho))
  cases hs : isK z.1 y with
  | false => exact Inv_same h hi (C_forks0 hb (Or.inr (Or.inl hs))) (Ms_forks hN (Or.inr (Or.inl hs)))
  | true =>
    cases hs2 : isK z.1 w with
    | false => exact Inv_same h hi (C_forks0 hb (Or.inr (Or.inr hs2))) (Ms_forks hN (Or.inr (Or.inr hs2)))
    | true =>
      obtain ⟨a, ha, rfl⟩ := isK_of hd hs
      obtain ⟨b, hb2, rfl⟩ := isK_of hd hs2
      have hxor : a ^^^ b < 2 ^ z.1 := Nat.xor_lt_two_pow ha hb2
      have hx8 : a ^^^ b < 2 ^ 8 := Nat.xor_lt_two_pow (by omega) (by omega)
      have hw : lg 8 (a ^^^ b) ≤ z.1 := lg_le 8 _ hxor
      have cl := fun σ => C_forks_loop (σ := σ) (l0 := .ref c) (l1 := .int (nI v)) (l2 := .int (nI a)) (l3 := .int (nI b)) (l4 := .ref t) 8 (a ^^^ b) 0 hx8 (by omega)
      have ml := fun σ => M_forks_loop1 (σ := σ) (a := a) (b := b) (by omega) (by omega) (l0 := .ref (c + 24)) (l1 := .int (nI v)) (l5 := junk) (l6 := junk) (l7 := junk) (lg 8 (a ^^^ b)) 0 (Nat.zero_add _)
      generalize lg 8 (a ^^^ b) = w at hw cl ml
      have hanc := anc_bd ha hw
      have hun := un_le hd (z.2.2.2 v) (anc z.1 a w)
      have hucnt := un_cnt (V := z.2.2.2 v) w _ (atl_anc ha hw)
      rw [anc_from hw] at hucnt
      have hfrom : a / 2 ^ w * 2 ^ w ≤ a := Nat.div_mul_le_self _ _
      have hbd := atl_bd (atl_anc ha hw)
      have hf2 : a / 2 ^ w * 2 ^ w + 2 ^ w ≤ 2 ^ z.1 := by
        rw [← anc_from hw]
        rw [Nat.add_mul] at hbd
        omega
      have hsh : nI (2 ^ z.1 + a) >>> (nI w &&& 31) = nI (anc z.1 a w) := shrN (by omega) (by omega)
      refine Inv_tell h hi (L' := [lN (un z.1 (z.2.2.2 v) (anc z.1 a w)), lN (a / 2 ^ w * 2 ^ w)]) (k := 2) (b := .int (nI w)) ?_ ?_ rfl (by omega)
      · have h := hb
        rw [q98]
        simp (disch := first | omega | exact tl_l | exact tT_len | (simp only [List.length_cons, List.length_nil])) only [e98_0, e98_1, e98_4, e98_5, e98_8, e98_8n, e98_10, e98_10n, e98_12, e98_12n, e98_15, e98_16, e98_19, e98_20, e98_23, e98_26, e98_27, e98_30, e98_31, e98_34, e98_37, e98_38, e98_39, e98_40, e98_42, e98_43, e98_44, e98_45, e98_49, e98_52, e98_55, e98_57, e98_58, e98_59, e98_61, e98_64, e98_65, e98_68, e98_71, e98_72, e98_75, e98_75n, e98_77, e98_80, e98_81, e98_84, e98_87, e98_88, e98_89, e98_91, e98_92, e98_95, e98_96, e98_99, e98_100, e98_103, e98_104, e98_106, e98_107, e98_109, e98_110, e98_111, e98_114, e98_116, kv_s, kh_s, kr_s, kr_v, kn_s, z0, z1, z2, nI_ltI, nI_leI, nI_eq, nI_add, oN, bz0, bz1, bw0, bw1, ltT, ltF, leT, leF, eqT, eqF, if_true, if_false, kI_n, wI_n, and_true, true_and, and_false, false_and, not_true, not_false_eq_true, cwo_1, cwr_1, cwg_0, cwg_1, cwg_2, cwa_0, cwl_0, cwo_3, cwr_3, cwg_3, cwa_R, cwl_R, cwo_5, cwr_5, cwg_4, cwg_5, cwg_6, cwg_7, cwg_8, cwa_1, cwl_1, cwo_7, cwr_7, cwg_9, cwg_10, cwg_11, cwg_12, cwg_13, cwa_2, cwl_2, cwo_17, cwr_17, cwg_14, cwa_3, cwl_3, cwp_0, cwp_1, cwp_2, cwp_3, cwp_4, cwp_5, cwp_6, cwp_7, cwp_8, cwp_9, cwp_10, cwp_11, cwp_12, cwp_13, cwp_14, cwu_0, cwu_R, cwu_1, cwu_2, cwu_3, vu_at, vu_ne, pk_us, pk_un, h.x.f0, h.x.f1, h.x.f2, h.x.f3, h.x.f4, h.x.f5, h.x.f6, h.x.f7, h.x.o, h.hi.o, h.hi.gd, h.hi.gf, h.hi.gl, Hi_keys h.hi h.d8, Hi_hasKey h.hi h.d8, Rw_empty, Rw_add, List.nil_append, List.cons_append, upd_upd, cwo_1, cwo_3, cwo_5, cwo_7, cwo_17, Bool.false_eq_true, n01, e1, hs, hs2, nI_xor]
        rw [cl, Nat.zero_add]
        simp (disch := first | omega | exact tl_l | exact tT_len | (simp only [List.length_cons, List.length_nil])) only [e98_0, e98_1, e98_4, e98_5, e98_8, e98_8n, e98_10, e98_10n, e98_12, e98_12n, e98_15, e98_16, e98_19, e98_20, e98_23, e98_26, e98_27, e98_30, e98_31, e98_34, e98_37, e98_38, e98_39, e98_40, e98_42, e98_43, e98_44, e98_45, e98_49, e98_52, e98_55, e98_57, e98_58, e98_59, e98_61, e98_64, e98_65, e98_68, e98_71, e98_72, e98_75, e98_75n, e98_77, e98_80, e98_81, e98_84, e98_87, e98_88, e98_89, e98_91, e98_92, e98_95, e98_96, e98_99, e98_100, e98_103, e98_104, e98_106, e98_107, e98_109, e98_110, e98_111, e98_114, e98_116, kv_s, kh_s, kr_s, kr_v, kn_s, z0, z1, z2, nI_ltI, nI_leI, nI_eq, nI_add, oN, bz0, bz1, bw0, bw1, ltT, ltF, leT, leF, eqT, eqF, if_true, if_false, kI_n, wI_n, and_true, true_and, and_false, false_and, not_true, not_false_eq_true, cwo_1, cwr_1, cwg_0, cwg_1, cwg_2, cwa_0, cwl_0, cwo_3, cwr_3, cwg_3, cwa_R, cwl_R, cwo_5, cwr_5, cwg_4, cwg_5, cwg_6, cwg_7, cwg_8, cwa_1, cwl_1, cwo_7, cwr_7, cwg_9, cwg_10, cwg_11, cwg_12, cwg_13, cwa_2, cwl_2, cwo_17, cwr_17, cwg_14, cwa_3, cwl_3, cwp_0, cwp_1, cwp_2, cwp_3, cwp_4, cwp_5, cwp_6, cwp_7, cwp_8, cwp_9, cwp_10, cwp_11, cwp_12, cwp_13, cwp_14, cwu_0, cwu_R, cwu_1, cwu_2, cwu_3, vu_at, vu_ne, pk_us, pk_un, h.x.f0, h.x.f1, h.x.f2, h.x.f3, h.x.f4, h.x.f5, h.x.f6, h.x.f7, h.x.o, h.hi.o, h.hi.gd, h.hi.gf, h.hi.gl, Hi_keys h.hi h.d8, Hi_hasKey h.hi h.d8, Rw_empty, Rw_add, List.nil_append, List.cons_append, upd_upd, cwo_1, cwo_3, cwo_5, cwo_7, cwo_17, Bool.false_eq_true, n01, hsh, t2.f, t2.fo, T_under t2 hanc.1 hanc.2, nI_l, shrN, shlN]
      · intro τ
        refine ⟨A2, upd (upd I2 6 (nI 0)) 5 (nI 2), ?_, stay.rf, by rw [pk_un (by omega), pk_un (by omega)], pk_us⟩
        have e := M_forks_loop2 (σ := τ) (m := c + 24) (A := A2) (R := R2) (I := upd I2 6 (nI 0)) hN a1 a2 (a := a / 2 ^ w * 2 ^ w) (w := w) (by omega) (by omega) (l2 := .int (nI a)) (l3 := .int (nI b)) (2 ^ w) 0 (Nat.zero_add _)
        rw [hucnt]
        rw [q220]
        simp (disch := first | omega | exact tl_l | exact tT_len | (simp only [List.length_cons, List.length_nil])) only [e220_0, e220_1, e220_2, e220_5, e220_6, e220_7, e220_10, e220_13, e220_14, e220_15, e220_18, e220_21, e220_22, e220_23, e220_26, e220_29, e220_30, e220_31, e220_32, e220_35, e220_37, e220_38, e220_39, e220_41, e220_42, e220_45, e220_48, e220_51, e220_52, e220_54, e220_55, e220_57, e220_58, e220_60, e220_61, e220_63, e220_65, e220_69, e220_71, e220_72, e220_74, e220_75, e220_76, e220_79, e220_81, e220_82, e220_83, e220_85, e220_88, e220_91, e220_92, e220_95, e220_96, e220_97, e220_99, e220_102, e220_105, e220_106, e220_107, e220_110, e220_111, e220_113, e220_114, e220_117, e220_118, e220_120, e220_121, e220_124, e220_126, kv_s, kh_s, kr_s, kr_v, kn_s, z0, z1, z2, nI_ltI, nI_leI, nI_eq, nI_add, oN, bz0, bz1, bw0, bw1, ltT, ltF, leT, leF, eqT, eqF, if_true, if_false, kI_n, wI_n, and_true, true_and, and_false, false_and, not_true, not_false_eq_true, mwo, mwr_0, mwr_1, mwr_2, mwg_3, mwp_3, mwr_4, mwg_5, mwp_5, mwg_6, mwp_6, mwr_7, mwr_8, mwg_9, mwp_9, mwg_10, mwp_10, mwg_11, mwp_11, mwr_12, mwg_13, mwp_13, mwr_14, mwr_15, mwr_16, mwr_17, mwr_18, mwr_19, mwg_20, mwp_20, mwr_21, mwr_22, mwr_23, mwa_1, mwu_1, mwa_2, mwu_2, mwa_3, mwu_3, mwa_4, mwu_4, mwa_5, mwu_5, mwa_6, mwu_6, mwa_7, mwu_7, mwa_8, mwu_8, mwa_9, mwu_9, mwa_10, mwu_10, mwa_11, mwu_11, mwa_12, mwu_12, mwa_13, mwu_13, mwa_14, mwu_14, mwa_15, mwu_15, mwa_16, mwu_16, vu_at, vu_ne, pk_us, pk_un, kB_n, wB_n, kL_n, wL_n, M_ver hN a1 a2, M_isKey hN, hs, hs2, n01]
        rw [ml]
        simp (disch := first | omega | exact tl_l | exact tT_len | (simp only [List.length_cons, List.length_nil])) only [e220_0, e220_1, e220_2, e220_5, e220_6, e220_7, e220_10, e220_13, e220_14, e220_15, e220_18, e220_21, e220_22, e220_23, e220_26, e220_29, e220_30, e220_31, e220_32, e220_35, e220_37, e220_38, e220_39, e220_41, e220_42, e220_45, e220_48, e220_51, e220_52, e220_54, e220_55, e220_57, e220_58, e220_60, e220_61, e220_63, e220_65, e220_69, e220_71, e220_72, e220_74, e220_75, e220_76, e220_79, e220_81, e220_82, e220_83, e220_85, e220_88, e220_91, e220_92, e220_95, e220_96, e220_97, e220_99, e220_102, e220_105, e220_106, e220_107, e220_110, e220_111, e220_113, e220_114, e220_117, e220_118, e220_120, e220_121, e220_124, e220_126, kv_s, kh_s, kr_s, kr_v, kn_s, z0, z1, z2, nI_ltI, nI_leI, nI_eq, nI_add, oN, bz0, bz1, bw0, bw1, ltT, ltF, leT, leF, eqT, eqF, if_true, if_false, kI_n, wI_n, and_true, true_and, and_false, false_and, not_true, not_false_eq_true, mwo, mwr_0, mwr_1, mwr_2, mwg_3, mwp_3, mwr_4, mwg_5, mwp_5, mwg_6, mwp_6, mwr_7, mwr_8, mwg_9, mwp_9, mwg_10, mwp_10, mwg_11, mwp_11, mwr_12, mwg_13, mwp_13, mwr_14, mwr_15, mwr_16, mwr_17, mwr_18, mwr_19, mwg_20, mwp_20, mwr_21, mwr_22, mwr_23, mwa_1, mwu_1, mwa_2, mwu_2, mwa_3, mwu_3, mwa_4, mwu_4, mwa_5, mwu_5, mwa_6, mwu_6, mwa_7, mwu_7, mwa_8, mwu_8, mwa_9, mwu_9, mwa_10, mwu_10, mwa_11, mwu_11, mwa_12, mwu_12, mwa_13, mwu_13, mwa_14, mwu_14, mwa_15, mwu_15, mwa_16, mwu_16, vu_at, vu_ne, pk_us, pk_un, kB_n, wB_n, kL_n, wL_n, shrN, shlN]
        exact e
