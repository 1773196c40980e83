/-! calls: bare -/
/-- up, as long as what is above is bare -/
def upB (B : Nat → Bool) : Nat → Nat → Nat → Nat × Nat
  | 0, p, v => (p, v)
  | n + 1, p, v => if 2 ≤ p ∧ B (p / 2) = true then upB B n (p / 2) (v + 1) else (p, v)
theorem anc_top {d k : Nat} (hk : k < 2 ^ d) : anc d k d = 1 := by
  rw [anc_eq (Nat.le_refl _), Nat.sub_self, Nat.div_eq_of_lt hk]
theorem anc_0 {d k : Nat} : anc d k 0 = 2 ^ d + k := by
  unfold anc
  rw [Nat.pow_zero, Nat.div_one]
theorem upB_anc {B : Nat → Bool} {d k : Nat} (hk : k < 2 ^ d) : ∀ (n v : Nat), v ≤ d → (upB B n (anc d k v) v).1 = anc d k (upB B n (anc d k v) v).2 ∧ (upB B n (anc d k v) v).2 ≤ d := by
  intro n
  induction n with
  | zero => intro v hv; exact ⟨rfl, hv⟩
  | succ n ih =>
    intro v hv
    rw [upB]
    by_cases h : 2 ≤ anc d k v ∧ B (anc d k v / 2) = true
    · rw [if_pos h, ← anc_s]
      refine ih (v + 1) ?_
      rcases Nat.lt_or_ge v d with h1 | h1
      · exact h1
      · have : v = d := by omega
        subst this
        rw [anc_top hk] at h
        omega
    · rw [if_neg h]
      exact ⟨rfl, hv⟩
section JQ
variable {c i : Nat} {σ : Hp} {m d f l : Nat} {V : Nat → Nat → Int32} {T : Nat → Option Nat} {A : Nat → Nat → Int32} {R : Nat → Int64} {I : Nat → Int32}
theorem M_sibling {p : Nat} (h1 : 1 ≤ p) (h2 : p < 2 ^ 30) : dcall 196 [.int (nI p)] σ = some (some (.int (nI (sib p))), σ) := by
  have e1 := pk_rem (a := p) (d := 2) (by omega) (by omega) (by omega)
  rw [q196]
  unfold sib
  by_cases h : p % 2 = 0
  · simp (disch := omega) only [e196_0, e196_1, e196_2, e196_3, e196_6, e196_7, e196_8, e196_9, e196_12, e196_13, e196_14, e196_15, kv_s, kh_s, kr_s, kr_v, kn_s, z0, z1, z2, nI_ltI, nI_leI, nI_eq, nI_add, oN, bz0, bz1, bw0, bw1, ltT, ltF, leT, leF, eqT, eqF, if_true, if_false, kI_n, wI_n, and_true, true_and, and_false, false_and, not_true, not_false_eq_true, e1, h]
  · simp (disch := omega) only [e196_0, e196_1, e196_2, e196_3, e196_6, e196_7, e196_8, e196_9, e196_12, e196_13, e196_14, e196_15, kv_s, kh_s, kr_s, kr_v, kn_s, z0, z1, z2, nI_ltI, nI_leI, nI_eq, nI_add, oN, bz0, bz1, bw0, bw1, ltT, ltF, leT, leF, eqT, eqF, if_true, if_false, kI_n, wI_n, and_true, true_and, and_false, false_and, not_true, not_false_eq_true, e1, h, pk_sub]
theorem div2 {p : Nat} (h : p < 2 ^ 31) : nI p / nI 2 = nI (p / 2) := pk_div h (by omega) (by omega)
theorem C_bare_loop (h : RB c σ T d f l V) {W : Nat → Int32} {t : Nat} (t2 : ∀ {A R I}, isT (cw σ c A R I) t d W) {k : Nat} (hk : k < 2 ^ d) {l1 : Value} : ∀ (n v : Nat), v ≤ d → anc d k v < 2 ^ n → den 88 57 [.ref c, l1, .int (nI k), .ref t, .int (nI (anc d k v)), .int (nI v), .int (nI (anc d k v / 2))] [] (cw σ c A R I) = some (some (.int (nI (upB (br d W) n (anc d k v) v).2)), cw σ c A (rl R [lN (k / 2 ^ (upB (br d W) n (anc d k v) v).2 * 2 ^ (upB (br d W) n (anc d k v) v).2), lN (2 ^ (upB (br d W) n (anc d k v) v).2), lN (bes (br d W) 9 (upB (br d W) n (anc d k v) v).1)]) (upd I 3 (nI 3))) := by
  have hK := h.K
  have hd := h.d8
  have fin : ∀ {v x6 : Nat}, v ≤ d → den 88 88 [.ref c, l1, .int (nI k), .ref t, .int (nI (anc d k v)), .int (nI v), .int (nI x6)] [] (cw σ c A R I) = some (some (.int (nI v)), cw σ c A (rl R [lN (k / 2 ^ v * 2 ^ v), lN (2 ^ v), lN (bes (br d W) 9 (anc d k v))]) (upd I 3 (nI 3))) := by
    intro v x6 hv
    have ha := anc_bd hk hv
    have hv8 : 2 ^ v ≤ 2 ^ 8 := Nat.pow_le_pow_right (by omega) (by omega)
    have hdm : k / 2 ^ v * 2 ^ v ≤ k := Nat.div_mul_le_self _ _
    have hb9 : bes (br d W) 9 (anc d k v) < 2 ^ 31 := by
      have key : ∀ n p, bes (br d W) n p ≤ n := by
        intro n
        induction n with
        | zero => intro p; exact Nat.le_refl _
        | succ n ih =>
          intro p
          rw [bes]
          have := ih (p / 2)
          split
          · omega
          · split <;> omega
      have := key 9 (anc d k v)
      omega
    simp (disch := first | omega | exact tl_l | exact tT_len | (simp only [List.length_cons, List.length_nil])) only [e88_0, e88_1, e88_4, e88_5, e88_8, e88_8n, e88_9, e88_9n, e88_10, e88_10n, e88_13, e88_14, e88_17, e88_18, e88_21, e88_24, e88_25, e88_26, e88_26n, e88_27, e88_28, e88_31, e88_34, e88_36, e88_37, e88_38, e88_41, e88_44, e88_45, e88_46, e88_48, e88_49, e88_51, e88_53, e88_54, e88_55, e88_59, e88_60, e88_63, e88_63n, e88_64, e88_66, e88_69, e88_72, e88_74, e88_76, e88_79, e88_81, e88_82, e88_83, e88_85, e88_88, e88_89, e88_92, e88_95, e88_96, e88_99, e88_100, e88_102, e88_103, e88_105, e88_106, e88_107, e88_110, e88_111, e88_114, e88_115, e88_117, e88_118, e88_119, e88_122, e88_123, e88_126, e88_126n, e88_127, e88_129, e88_132, e88_133, e88_136, e88_138, kv_s, kh_s, kr_s, kr_v, kn_s, z0, z1, z2, nI_ltI, nI_leI, nI_eq, nI_add, oN, bz0, bz1, bw0, bw1, ltT, ltF, leT, leF, eqT, eqF, if_true, if_false, kI_n, wI_n, and_true, true_and, and_false, false_and, not_true, not_false_eq_true, cwo_1, cwr_1, cwg_0, cwg_1, cwg_2, cwa_0, cwl_0, cwo_3, cwr_3, cwg_3, cwa_R, cwl_R, cwo_5, cwr_5, cwg_4, cwg_5, cwg_6, cwg_7, cwg_8, cwa_1, cwl_1, cwo_7, cwr_7, cwg_9, cwg_10, cwg_11, cwg_12, cwg_13, cwa_2, cwl_2, cwo_17, cwr_17, cwg_14, cwa_3, cwl_3, cwp_0, cwp_1, cwp_2, cwp_3, cwp_4, cwp_5, cwp_6, cwp_7, cwp_8, cwp_9, cwp_10, cwp_11, cwp_12, cwp_13, cwp_14, cwu_0, cwu_R, cwu_1, cwu_2, cwu_3, vu_at, vu_ne, pk_us, pk_un, h.x.f0, h.x.f1, h.x.f2, h.x.f3, h.x.f4, h.x.f5, h.x.f6, h.x.f7, h.x.o, h.hi.o, h.hi.gd, h.hi.gf, h.hi.gl, Hi_keys h.hi h.d8, Hi_hasKey h.hi h.d8, Rw_empty, Rw_add, List.nil_append, List.cons_append, upd_upd, cwo_1, cwo_3, cwo_5, cwo_7, cwo_17, Bool.false_eq_true, n01, shrN, shlN, shl_nI, nI_l, t2.o, T_beside t2, Nat.one_mul]
  intro n
  induction n with
  | zero => intro v hv h1; have := anc_bd hk hv; rw [Nat.pow_zero] at h1; omega
  | succ n ih =>
    intro v hv h1
    have ha := anc_bd hk hv
    rw [upB]
    by_cases h2 : 2 ≤ anc d k v
    · have hbb := fun A R I => T_bareb (t2 (A := A) (R := R) (I := I)) (p := anc d k v / 2) (by omega) (by omega)
      cases hb : br d W (anc d k v / 2) with
      | true =>
        rw [hb] at hbb
        have hv2 : v + 1 ≤ d := by
          rcases Nat.lt_or_ge v d with h3 | h3
          · exact h3
          · have : v = d := by omega
            subst this
            rw [anc_top hk] at h2
            omega
        have := ih (v + 1) hv2 (by rw [anc_s]; rw [Nat.pow_succ] at h1; omega)
        rw [if_pos ⟨h2, rfl⟩]
        rw [anc_s] at this
        rw [← this]
        rw [e88_57]
        simp (disch := first | omega | exact tl_l | exact tT_len | (simp only [List.length_cons, List.length_nil])) only [e88_0, e88_1, e88_4, e88_5, e88_8, e88_8n, e88_9, e88_9n, e88_10, e88_10n, e88_13, e88_14, e88_17, e88_18, e88_21, e88_24, e88_25, e88_26, e88_26n, e88_27, e88_28, e88_31, e88_34, e88_36, e88_37, e88_38, e88_41, e88_44, e88_45, e88_46, e88_48, e88_49, e88_51, e88_53, e88_54, e88_55, e88_59, e88_60, e88_63, e88_63n, e88_64, e88_66, e88_69, e88_72, e88_74, e88_76, e88_79, e88_81, e88_82, e88_83, e88_85, e88_88, e88_89, e88_92, e88_95, e88_96, e88_99, e88_100, e88_102, e88_103, e88_105, e88_106, e88_107, e88_110, e88_111, e88_114, e88_115, e88_117, e88_118, e88_119, e88_122, e88_123, e88_126, e88_126n, e88_127, e88_129, e88_132, e88_133, e88_136, e88_138, kv_s, kh_s, kr_s, kr_v, kn_s, z0, z1, z2, nI_ltI, nI_leI, nI_eq, nI_add, oN, bz0, bz1, bw0, bw1, ltT, ltF, leT, leF, eqT, eqF, if_true, if_false, kI_n, wI_n, and_true, true_and, and_false, false_and, not_true, not_false_eq_true, cwo_1, cwr_1, cwg_0, cwg_1, cwg_2, cwa_0, cwl_0, cwo_3, cwr_3, cwg_3, cwa_R, cwl_R, cwo_5, cwr_5, cwg_4, cwg_5, cwg_6, cwg_7, cwg_8, cwa_1, cwl_1, cwo_7, cwr_7, cwg_9, cwg_10, cwg_11, cwg_12, cwg_13, cwa_2, cwl_2, cwo_17, cwr_17, cwg_14, cwa_3, cwl_3, cwp_0, cwp_1, cwp_2, cwp_3, cwp_4, cwp_5, cwp_6, cwp_7, cwp_8, cwp_9, cwp_10, cwp_11, cwp_12, cwp_13, cwp_14, cwu_0, cwu_R, cwu_1, cwu_2, cwu_3, vu_at, vu_ne, pk_us, pk_un, h.x.f0, h.x.f1, h.x.f2, h.x.f3, h.x.f4, h.x.f5, h.x.f6, h.x.f7, h.x.o, h.hi.o, h.hi.gd, h.hi.gf, h.hi.gl, Hi_keys h.hi h.d8, Hi_hasKey h.hi h.d8, Rw_empty, Rw_add, List.nil_append, List.cons_append, upd_upd, cwo_1, cwo_3, cwo_5, cwo_7, cwo_17, Bool.false_eq_true, n01, t2.o, hbb, shr1]
      | false =>
        rw [hb] at hbb
        rw [if_neg (by simp)]
        rw [← fin hv (x6 := anc d k v / 2)]
        rw [e88_57]
        simp (disch := omega) only [e88_59, e88_60, e88_63, e88_63n, e88_64, e88_66, e88_69, kv_s, kh_s, kr_s, kr_v, kn_s, z0, z1, z2, nI_ltI, nI_leI, nI_eq, nI_add, oN, bz0, bz1, bw0, bw1, ltT, ltF, leT, leF, eqT, eqF, if_true, if_false, kI_n, wI_n, and_true, true_and, and_false, false_and, not_true, not_false_eq_true, t2.o, hbb, Bool.false_eq_true]
    · rw [if_neg (fun z => h2 z.1)]
      rw [← fin hv (x6 := anc d k v / 2)]
      rw [e88_57]
      simp (disch := omega) only [e88_59, e88_60, e88_63, e88_63n, e88_64, e88_66, e88_69, kv_s, kh_s, kr_s, kr_v, kn_s, z0, z1, z2, nI_ltI, nI_leI, nI_eq, nI_add, oN, bz0, bz1, bw0, bw1, ltT, ltF, leT, leF, eqT, eqF, if_true, if_false, kI_n, wI_n, and_true, true_and, and_false, false_and, not_true, not_false_eq_true]
theorem M_bes_loop (h : nowM (A 1) d f l V) {W : Nat → Int32} {M' B' : Nat → Int32} (e2 : laid d W M' B' 1) {l1 l2 : Value} {p v : Nat} (hp : p < 2 * 2 ^ d) (hp1 : p - 2 ^ (d - v) < 2 ^ 8) (hp2 : 2 ^ (d - v) ≤ p) (hv : v ≤ d) : ∀ (n q s : Nat), q < 2 * 2 ^ d → q < 2 ^ n → s + n ≤ 2 ^ 20 → den 205 82 [.ref m, l1, l2, .int (nI p), .int (nI v), .int (nI s), .int (nI q)] [] (mw σ m (lA A M' B') R I) = some (some (.int (nI v)), mw σ m (lA A M' B') (rl R [lN ((p - 2 ^ (d - v)) * 2 ^ v), lN (2 ^ v), lN (s + bes (br d W) n q)]) (upd I 5 (nI 3))) := by
  have hK := h.K
  have hh : ∀ {M B}, nowM (lA A M B 1) d f l V := h
  have hv8 : 2 ^ v ≤ 2 ^ 8 := Nat.pow_le_pow_right (by omega) (by omega)
  have hmul : (p - 2 ^ (d - v)) * 2 ^ v ≤ 2 ^ 8 * 2 ^ 8 := Nat.mul_le_mul (by omega) hv8
  have fin : ∀ {q s : Nat}, q < 2 → s < 2 ^ 30 → den 205 82 [.ref m, l1, l2, .int (nI p), .int (nI v), .int (nI s), .int (nI q)] [] (mw σ m (lA A M' B') R I) = some (some (.int (nI v)), mw σ m (lA A M' B') (rl R [lN ((p - 2 ^ (d - v)) * 2 ^ v), lN (2 ^ v), lN s]) (upd I 5 (nI 3))) := by
    intro q s hq hs
    rw [e205_82]
    simp (disch := first | omega | exact tl_l | exact tT_len | (simp only [List.length_cons, List.length_nil])) only [e205_0, e205_1, e205_2, e205_5, e205_6, e205_7, e205_10, e205_13, e205_14, e205_15, e205_18, e205_21, e205_22, e205_23, e205_24, e205_25, e205_26, e205_29, e205_32, e205_34, e205_35, e205_36, e205_37, e205_40, e205_41, e205_44, e205_45, e205_46, e205_47, e205_48, e205_51, e205_52, e205_55, e205_56, e205_59, e205_60, e205_61, e205_62, e205_63, e205_66, e205_67, e205_68, e205_69, e205_70, e205_73, e205_76, e205_77, e205_79, e205_80, e205_84, e205_85, e205_88, e205_90, e205_91, e205_94, e205_96, e205_99, e205_100, e205_103, e205_104, e205_107, e205_108, e205_109, e205_111, e205_113, e205_114, e205_115, e205_117, e205_120, e205_121, e205_122, e205_125, e205_126, e205_127, e205_128, e205_129, e205_132, e205_134, e205_135, e205_136, e205_137, e205_139, e205_140, e205_141, e205_144, e205_145, e205_146, e205_148, e205_149, e205_150, e205_153, e205_154, e205_156, e205_157, e205_160, e205_162, kv_s, kh_s, kr_s, kr_v, kn_s, z0, z1, z2, nI_ltI, nI_leI, nI_eq, nI_add, oN, bz0, bz1, bw0, bw1, ltT, ltF, leT, leF, eqT, eqF, if_true, if_false, kI_n, wI_n, and_true, true_and, and_false, false_and, not_true, not_false_eq_true, mwo, mwr_0, mwr_1, mwr_2, mwg_3, mwp_3, mwr_4, mwg_5, mwp_5, mwg_6, mwp_6, mwr_7, mwr_8, mwg_9, mwp_9, mwg_10, mwp_10, mwg_11, mwp_11, mwr_12, mwg_13, mwp_13, mwr_14, mwr_15, mwr_16, mwr_17, mwr_18, mwr_19, mwg_20, mwp_20, mwr_21, mwr_22, mwr_23, mwa_1, mwu_1, mwa_2, mwu_2, mwa_3, mwu_3, mwa_4, mwu_4, mwa_5, mwu_5, mwa_6, mwu_6, mwa_7, mwu_7, mwa_8, mwu_8, mwa_9, mwu_9, mwa_10, mwu_10, mwa_11, mwu_11, mwa_12, mwu_12, mwa_13, mwu_13, mwa_14, mwu_14, mwa_15, mwu_15, mwa_16, mwu_16, vu_at, vu_ne, pk_us, pk_un, kB_n, wB_n, kL_n, wL_n, M_depth hh, pk_sub, shl_nI, shlN, nI_l, M_tell0, M_tell, List.nil_append, List.cons_append, Nat.one_mul]
  intro n
  induction n with
  | zero => intro q s h1 h2 h3; rw [bes, Nat.add_zero]; exact fin (by omega) (by omega)
  | succ n ih =>
    intro q s h1 h2 h3
    rw [bes]
    by_cases h5 : q ≤ 1
    · rw [if_pos h5, Nat.add_zero]
      exact fin (by omega) (by omega)
    · rw [if_neg h5]
      have es := sib_bd (d := d) (p := q) (by omega) h1
      have g := (e2 _ es.1 es.2).2
      have hn : q / 2 < 2 ^ n := by rw [Nat.pow_succ] at h2; omega
      cases hb : br d W (sib q) with
      | true =>
        rw [hb] at g
        have := ih (q / 2) s (by omega) hn (by omega)
        simp only [if_true, Nat.zero_add]
        rw [← this]
        rw [e205_82]
        simp (disch := omega) only [e205_84, e205_85, e205_88, e205_90, e205_91, e205_94, e205_96, e205_99, e205_100, e205_103, e205_104, e205_107, e205_108, e205_109, e205_111, e205_113, e205_114, e205_115, e205_117, kv_s, kh_s, kr_s, kr_v, kn_s, z0, z1, z2, nI_ltI, nI_leI, nI_eq, nI_add, oN, bz0, bz1, bw0, bw1, ltT, ltF, leT, leF, eqT, eqF, if_true, if_false, kI_n, wI_n, and_true, true_and, and_false, false_and, not_true, not_false_eq_true, mwo, mwr_0, mwr_1, mwr_2, mwg_3, mwp_3, mwr_4, mwg_5, mwp_5, mwg_6, mwp_6, mwr_7, mwr_8, mwg_9, mwp_9, mwg_10, mwp_10, mwg_11, mwp_11, mwr_12, mwg_13, mwp_13, mwr_14, mwr_15, mwr_16, mwr_17, mwr_18, mwr_19, mwg_20, mwp_20, mwr_21, mwr_22, mwr_23, mwa_1, mwu_1, mwa_2, mwu_2, mwa_3, mwu_3, mwa_4, mwu_4, mwa_5, mwu_5, mwa_6, mwu_6, mwa_7, mwu_7, mwa_8, mwu_8, mwa_9, mwu_9, mwa_10, mwu_10, mwa_11, mwu_11, mwa_12, mwu_12, mwa_13, mwu_13, mwa_14, mwu_14, mwa_15, mwu_15, mwa_16, mwu_16, vu_at, vu_ne, pk_us, pk_un, kB_n, wB_n, kL_n, wL_n, M_sibling, lA_6, g, bI, n01, div2, Nat.add_zero, eq_false (show ¬ (nI 2 = nI 0) by decide)]
      | false =>
        rw [hb] at g
        have := ih (q / 2) (s + 1) (by omega) hn (by omega)
        simp only [Bool.false_eq_true, if_false]
        rw [← Nat.add_assoc, ← this]
        rw [e205_82]
        simp (disch := omega) only [e205_84, e205_85, e205_88, e205_90, e205_91, e205_94, e205_96, e205_99, e205_100, e205_103, e205_104, e205_107, e205_108, e205_109, e205_111, e205_113, e205_114, e205_115, e205_117, kv_s, kh_s, kr_s, kr_v, kn_s, z0, z1, z2, nI_ltI, nI_leI, nI_eq, nI_add, oN, bz0, bz1, bw0, bw1, ltT, ltF, leT, leF, eqT, eqF, if_true, if_false, kI_n, wI_n, and_true, true_and, and_false, false_and, not_true, not_false_eq_true, mwo, mwr_0, mwr_1, mwr_2, mwg_3, mwp_3, mwr_4, mwg_5, mwp_5, mwg_6, mwp_6, mwr_7, mwr_8, mwg_9, mwp_9, mwg_10, mwp_10, mwg_11, mwp_11, mwr_12, mwg_13, mwp_13, mwr_14, mwr_15, mwr_16, mwr_17, mwr_18, mwr_19, mwg_20, mwp_20, mwr_21, mwr_22, mwr_23, mwa_1, mwu_1, mwa_2, mwu_2, mwa_3, mwu_3, mwa_4, mwu_4, mwa_5, mwu_5, mwa_6, mwu_6, mwa_7, mwu_7, mwa_8, mwu_8, mwa_9, mwu_9, mwa_10, mwu_10, mwa_11, mwu_11, mwa_12, mwu_12, mwa_13, mwu_13, mwa_14, mwu_14, mwa_15, mwu_15, mwa_16, mwu_16, vu_at, vu_ne, pk_us, pk_un, kB_n, wB_n, kL_n, wL_n, M_sibling, lA_6, g, bI, Bool.false_eq_true, div2, eq_false (show ¬ (nI 2 = nI 0) by decide)]
theorem M_bare_up (h : nowM (A 1) d f l V) {W : Nat → Int32} {M' B' : Nat → Int32} (e2 : laid d W M' B' 1) {l1 l5 l6 : Value} {k : Nat} (hk : k < 2 ^ d) : ∀ (n v : Nat), v ≤ d → anc d k v < 2 ^ n → den 205 50 [.ref m, l1, .int (nI k), .int (nI (anc d k v)), .int (nI v), l5, l6] [] (mw σ m (lA A M' B') R I) = den 205 76 [.ref m, l1, .int (nI k), .int (nI (upB (br d W) n (anc d k v) v).1), .int (nI (upB (br d W) n (anc d k v) v).2), l5, l6] [] (mw σ m (lA A M' B') R I) := by
  have hK := h.K
  intro n
  induction n with
  | zero => intro v hv h1; have := anc_bd hk hv; rw [Nat.pow_zero] at h1; omega
  | succ n ih =>
    intro v hv h1
    have ha := anc_bd hk hv
    rw [upB]
    by_cases h2 : 2 ≤ anc d k v
    · have g := (e2 (anc d k v / 2) (by omega) (by omega)).2
      cases hb : br d W (anc d k v / 2) with
      | true =>
        rw [hb] at g
        have hv2 : v + 1 ≤ d := by
          rcases Nat.lt_or_ge v d with h3 | h3
          · exact h3
          · have : v = d := by omega
            subst this
            rw [anc_top hk] at h2
            omega
        have := ih (v + 1) hv2 (by rw [anc_s]; rw [Nat.pow_succ] at h1; omega)
        rw [if_pos ⟨h2, rfl⟩]
        rw [anc_s] at this
        rw [← this]
        rw [e205_50]
        simp (disch := omega) only [e205_51, e205_52, e205_55, e205_56, e205_59, e205_60, e205_61, e205_62, e205_63, e205_66, e205_67, e205_68, e205_69, e205_70, e205_73, kv_s, kh_s, kr_s, kr_v, kn_s, z0, z1, z2, nI_ltI, nI_leI, nI_eq, nI_add, oN, bz0, bz1, bw0, bw1, ltT, ltF, leT, leF, eqT, eqF, if_true, if_false, kI_n, wI_n, and_true, true_and, and_false, false_and, not_true, not_false_eq_true, mwo, mwr_0, mwr_1, mwr_2, mwg_3, mwp_3, mwr_4, mwg_5, mwp_5, mwg_6, mwp_6, mwr_7, mwr_8, mwg_9, mwp_9, mwg_10, mwp_10, mwg_11, mwp_11, mwr_12, mwg_13, mwp_13, mwr_14, mwr_15, mwr_16, mwr_17, mwr_18, mwr_19, mwg_20, mwp_20, mwr_21, mwr_22, mwr_23, mwa_1, mwu_1, mwa_2, mwu_2, mwa_3, mwu_3, mwa_4, mwu_4, mwa_5, mwu_5, mwa_6, mwu_6, mwa_7, mwu_7, mwa_8, mwu_8, mwa_9, mwu_9, mwa_10, mwu_10, mwa_11, mwu_11, mwa_12, mwu_12, mwa_13, mwu_13, mwa_14, mwu_14, mwa_15, mwu_15, mwa_16, mwu_16, vu_at, vu_ne, pk_us, pk_un, kB_n, wB_n, kL_n, wL_n, lA_6, g, bI, n01, div2, eq_false (show ¬ (nI 2 = nI 0) by decide)]
      | false =>
        rw [hb] at g
        rw [if_neg (by simp)]
        rw [e205_50]
        simp (disch := omega) only [e205_51, e205_52, e205_55, e205_56, e205_59, e205_60, e205_61, e205_62, e205_63, e205_66, e205_67, e205_68, e205_69, e205_70, e205_73, kv_s, kh_s, kr_s, kr_v, kn_s, z0, z1, z2, nI_ltI, nI_leI, nI_eq, nI_add, oN, bz0, bz1, bw0, bw1, ltT, ltF, leT, leF, eqT, eqF, if_true, if_false, kI_n, wI_n, and_true, true_and, and_false, false_and, not_true, not_false_eq_true, mwo, mwr_0, mwr_1, mwr_2, mwg_3, mwp_3, mwr_4, mwg_5, mwp_5, mwg_6, mwp_6, mwr_7, mwr_8, mwg_9, mwp_9, mwg_10, mwp_10, mwg_11, mwp_11, mwr_12, mwg_13, mwp_13, mwr_14, mwr_15, mwr_16, mwr_17, mwr_18, mwr_19, mwg_20, mwp_20, mwr_21, mwr_22, mwr_23, mwa_1, mwu_1, mwa_2, mwu_2, mwa_3, mwu_3, mwa_4, mwu_4, mwa_5, mwu_5, mwa_6, mwu_6, mwa_7, mwu_7, mwa_8, mwu_8, mwa_9, mwu_9, mwa_10, mwu_10, mwa_11, mwu_11, mwa_12, mwu_12, mwa_13, mwu_13, mwa_14, mwu_14, mwa_15, mwu_15, mwa_16, mwu_16, vu_at, vu_ne, pk_us, pk_un, kB_n, wB_n, kL_n, wL_n, lA_6, g, bI, Bool.false_eq_true, div2, eq_false (show ¬ (nI 2 = nI 0) by decide)]
    · rw [if_neg (fun z => h2 z.1)]
      rw [e205_50]
      simp (disch := omega) only [e205_51, e205_52, e205_55, e205_56, e205_59, e205_60, e205_61, e205_62, e205_63, e205_66, e205_67, e205_68, e205_69, e205_70, e205_73, kv_s, kh_s, kr_s, kr_v, kn_s, z0, z1, z2, nI_ltI, nI_leI, nI_eq, nI_add, oN, bz0, bz1, bw0, bw1, ltT, ltF, leT, leF, eqT, eqF, if_true, if_false, kI_n, wI_n, and_true, true_and, and_false, false_and, not_true, not_false_eq_true]
theorem C_bare0 (h : RB c σ T d f l V) {x y : Int32} (hx : out f l x ∨ isK d y = false) : dcall 88 [.ref c, .int x, .int y] (cw σ c A R I) = some (some (.int (-nI 1)), cw σ c A R I) := by
  have hl := h.fl
  rcases C_find h x with ⟨_, e1⟩ | ⟨v, t, a1, a2, rfl, _, _, e1⟩
  · rw [q88]
    simp (disch := first | omega | exact tl_l | exact tT_len | (simp only [List.length_cons, List.length_nil])) only [e88_0, e88_1, e88_4, e88_5, e88_8, e88_8n, e88_9, e88_9n, e88_10, e88_10n, e88_13, e88_14, e88_17, e88_18, e88_21, e88_24, e88_25, e88_26, e88_26n, e88_27, e88_28, e88_31, e88_34, e88_36, e88_37, e88_38, e88_41, e88_44, e88_45, e88_46, e88_48, e88_49, e88_51, e88_53, e88_54, e88_55, e88_59, e88_60, e88_63, e88_63n, e88_64, e88_66, e88_69, e88_72, e88_74, e88_76, e88_79, e88_81, e88_82, e88_83, e88_85, e88_88, e88_89, e88_92, e88_95, e88_96, e88_99, e88_100, e88_102, e88_103, e88_105, e88_106, e88_107, e88_110, e88_111, e88_114, e88_115, e88_117, e88_118, e88_119, e88_122, e88_123, e88_126, e88_126n, e88_127, e88_129, e88_132, e88_133, e88_136, e88_138, kv_s, kh_s, kr_s, kr_v, kn_s, z0, z1, z2, nI_ltI, nI_leI, nI_eq, nI_add, oN, bz0, bz1, bw0, bw1, ltT, ltF, leT, leF, eqT, eqF, if_true, if_false, kI_n, wI_n, and_true, true_and, and_false, false_and, not_true, not_false_eq_true, cwo_1, cwr_1, cwg_0, cwg_1, cwg_2, cwa_0, cwl_0, cwo_3, cwr_3, cwg_3, cwa_R, cwl_R, cwo_5, cwr_5, cwg_4, cwg_5, cwg_6, cwg_7, cwg_8, cwa_1, cwl_1, cwo_7, cwr_7, cwg_9, cwg_10, cwg_11, cwg_12, cwg_13, cwa_2, cwl_2, cwo_17, cwr_17, cwg_14, cwa_3, cwl_3, cwp_0, cwp_1, cwp_2, cwp_3, cwp_4, cwp_5, cwp_6, cwp_7, cwp_8, cwp_9, cwp_10, cwp_11, cwp_12, cwp_13, cwp_14, cwu_0, cwu_R, cwu_1, cwu_2, cwu_3, vu_at, vu_ne, pk_us, pk_un, h.x.f0, h.x.f1, h.x.f2, h.x.f3, h.x.f4, h.x.f5, h.x.f6, h.x.f7, h.x.o, h.hi.o, h.hi.gd, h.hi.gf, h.hi.gl, Hi_keys h.hi h.d8, Hi_hasKey h.hi h.d8, Rw_empty, Rw_add, List.nil_append, List.cons_append, upd_upd, cwo_1, cwo_3, cwo_5, cwo_7, cwo_17, Bool.false_eq_true, n01, e1]
  · have hs := hx.resolve_left (not_out a1 a2 (by omega))
    rw [q88]
    simp (disch := first | omega | exact tl_l | exact tT_len | (simp only [List.length_cons, List.length_nil])) only [e88_0, e88_1, e88_4, e88_5, e88_8, e88_8n, e88_9, e88_9n, e88_10, e88_10n, e88_13, e88_14, e88_17, e88_18, e88_21, e88_24, e88_25, e88_26, e88_26n, e88_27, e88_28, e88_31, e88_34, e88_36, e88_37, e88_38, e88_41, e88_44, e88_45, e88_46, e88_48, e88_49, e88_51, e88_53, e88_54, e88_55, e88_59, e88_60, e88_63, e88_63n, e88_64, e88_66, e88_69, e88_72, e88_74, e88_76, e88_79, e88_81, e88_82, e88_83, e88_85, e88_88, e88_89, e88_92, e88_95, e88_96, e88_99, e88_100, e88_102, e88_103, e88_105, e88_106, e88_107, e88_110, e88_111, e88_114, e88_115, e88_117, e88_118, e88_119, e88_122, e88_123, e88_126, e88_126n, e88_127, e88_129, e88_132, e88_133, e88_136, e88_138, kv_s, kh_s, kr_s, kr_v, kn_s, z0, z1, z2, nI_ltI, nI_leI, nI_eq, nI_add, oN, bz0, bz1, bw0, bw1, ltT, ltF, leT, leF, eqT, eqF, if_true, if_false, kI_n, wI_n, and_true, true_and, and_false, false_and, not_true, not_false_eq_true, cwo_1, cwr_1, cwg_0, cwg_1, cwg_2, cwa_0, cwl_0, cwo_3, cwr_3, cwg_3, cwa_R, cwl_R, cwo_5, cwr_5, cwg_4, cwg_5, cwg_6, cwg_7, cwg_8, cwa_1, cwl_1, cwo_7, cwr_7, cwg_9, cwg_10, cwg_11, cwg_12, cwg_13, cwa_2, cwl_2, cwo_17, cwr_17, cwg_14, cwa_3, cwl_3, cwp_0, cwp_1, cwp_2, cwp_3, cwp_4, cwp_5, cwp_6, cwp_7, cwp_8, cwp_9, cwp_10, cwp_11, cwp_12, cwp_13, cwp_14, cwu_0, cwu_R, cwu_1, cwu_2, cwu_3, vu_at, vu_ne, pk_us, pk_un, h.x.f0, h.x.f1, h.x.f2, h.x.f3, h.x.f4, h.x.f5, h.x.f6, h.x.f7, h.x.o, h.hi.o, h.hi.gd, h.hi.gf, h.hi.gl, Hi_keys h.hi h.d8, Hi_hasKey h.hi h.d8, Rw_empty, Rw_add, List.nil_append, List.cons_append, upd_upd, cwo_1, cwo_3, cwo_5, cwo_7, cwo_17, Bool.false_eq_true, n01, e1, hs]
theorem Ms_bare (h : nowM (A 1) d f l V) {x y : Int32} (hx : out f l x ∨ isK d y = false) : Ms 205 [.ref m, .int x, .int y] σ m A R I (.int (-nI 1)) := by
  have hK := h.K
  rcases ver_in (x := x) (show l < 2 ^ 31 by omega) hK.2.2.2.1 with ⟨v, h1, h2, rfl⟩ | h0
  · have hs := hx.resolve_left (not_out h1 h2 (by omega))
    refine ⟨A, upd I 6 (nI 0), ?_, stay.rf, pk_un (by omega), pk_un (by omega)⟩
    rw [q205]
    simp (disch := first | omega | exact tl_l | exact tT_len | (simp only [List.length_cons, List.length_nil])) only [e205_0, e205_1, e205_2, e205_5, e205_6, e205_7, e205_10, e205_13, e205_14, e205_15, e205_18, e205_21, e205_22, e205_23, e205_24, e205_25, e205_26, e205_29, e205_32, e205_34, e205_35, e205_36, e205_37, e205_40, e205_41, e205_44, e205_45, e205_46, e205_47, e205_48, e205_51, e205_52, e205_55, e205_56, e205_59, e205_60, e205_61, e205_62, e205_63, e205_66, e205_67, e205_68, e205_69, e205_70, e205_73, e205_76, e205_77, e205_79, e205_80, e205_84, e205_85, e205_88, e205_90, e205_91, e205_94, e205_96, e205_99, e205_100, e205_103, e205_104, e205_107, e205_108, e205_109, e205_111, e205_113, e205_114, e205_115, e205_117, e205_120, e205_121, e205_122, e205_125, e205_126, e205_127, e205_128, e205_129, e205_132, e205_134, e205_135, e205_136, e205_137, e205_139, e205_140, e205_141, e205_144, e205_145, e205_146, e205_148, e205_149, e205_150, e205_153, e205_154, e205_156, e205_157, e205_160, e205_162, kv_s, kh_s, kr_s, kr_v, kn_s, z0, z1, z2, nI_ltI, nI_leI, nI_eq, nI_add, oN, bz0, bz1, bw0, bw1, ltT, ltF, leT, leF, eqT, eqF, if_true, if_false, kI_n, wI_n, and_true, true_and, and_false, false_and, not_true, not_false_eq_true, mwo, mwr_0, mwr_1, mwr_2, mwg_3, mwp_3, mwr_4, mwg_5, mwp_5, mwg_6, mwp_6, mwr_7, mwr_8, mwg_9, mwp_9, mwg_10, mwp_10, mwg_11, mwp_11, mwr_12, mwg_13, mwp_13, mwr_14, mwr_15, mwr_16, mwr_17, mwr_18, mwr_19, mwg_20, mwp_20, mwr_21, mwr_22, mwr_23, mwa_1, mwu_1, mwa_2, mwu_2, mwa_3, mwu_3, mwa_4, mwu_4, mwa_5, mwu_5, mwa_6, mwu_6, mwa_7, mwu_7, mwa_8, mwu_8, mwa_9, mwu_9, mwa_10, mwu_10, mwa_11, mwu_11, mwa_12, mwu_12, mwa_13, mwu_13, mwa_14, mwu_14, mwa_15, mwu_15, mwa_16, mwu_16, vu_at, vu_ne, pk_us, pk_un, kB_n, wB_n, kL_n, wL_n, M_ver h h1 h2, M_isKey h, hs, n01, Bool.false_eq_true]
  · refine ⟨A, upd I 6 (nI 0), ?_, stay.rf, pk_un (by omega), pk_un (by omega)⟩
    rw [q205]
    simp (disch := first | omega | exact tl_l | exact tT_len | (simp only [List.length_cons, List.length_nil])) only [e205_0, e205_1, e205_2, e205_5, e205_6, e205_7, e205_10, e205_13, e205_14, e205_15, e205_18, e205_21, e205_22, e205_23, e205_24, e205_25, e205_26, e205_29, e205_32, e205_34, e205_35, e205_36, e205_37, e205_40, e205_41, e205_44, e205_45, e205_46, e205_47, e205_48, e205_51, e205_52, e205_55, e205_56, e205_59, e205_60, e205_61, e205_62, e205_63, e205_66, e205_67, e205_68, e205_69, e205_70, e205_73, e205_76, e205_77, e205_79, e205_80, e205_84, e205_85, e205_88, e205_90, e205_91, e205_94, e205_96, e205_99, e205_100, e205_103, e205_104, e205_107, e205_108, e205_109, e205_111, e205_113, e205_114, e205_115, e205_117, e205_120, e205_121, e205_122, e205_125, e205_126, e205_127, e205_128, e205_129, e205_132, e205_134, e205_135, e205_136, e205_137, e205_139, e205_140, e205_141, e205_144, e205_145, e205_146, e205_148, e205_149, e205_150, e205_153, e205_154, e205_156, e205_157, e205_160, e205_162, kv_s, kh_s, kr_s, kr_v, kn_s, z0, z1, z2, nI_ltI, nI_leI, nI_eq, nI_add, oN, bz0, bz1, bw0, bw1, ltT, ltF, leT, leF, eqT, eqF, if_true, if_false, kI_n, wI_n, and_true, true_and, and_false, false_and, not_true, not_false_eq_true, mwo, mwr_0, mwr_1, mwr_2, mwg_3, mwp_3, mwr_4, mwg_5, mwp_5, mwg_6, mwp_6, mwr_7, mwr_8, mwg_9, mwp_9, mwg_10, mwp_10, mwg_11, mwp_11, mwr_12, mwg_13, mwp_13, mwr_14, mwr_15, mwr_16, mwr_17, mwr_18, mwr_19, mwg_20, mwp_20, mwr_21, mwr_22, mwr_23, mwa_1, mwu_1, mwa_2, mwu_2, mwa_3, mwu_3, mwa_4, mwu_4, mwa_5, mwu_5, mwa_6, mwu_6, mwa_7, mwu_7, mwa_8, mwu_8, mwa_9, mwu_9, mwa_10, mwu_10, mwa_11, mwu_11, mwa_12, mwu_12, mwa_13, mwu_13, mwa_14, mwu_14, mwa_15, mwu_15, mwa_16, mwu_16, vu_at, vu_ne, pk_us, pk_un, kB_n, wB_n, kL_n, wL_n, M_ver0 h h0]
theorem J_bare (x y : Int32) : Jn 88 205 [.int x, .int y] := by
  rintro c i σ hi ⟨z, n, B, L, q, K, A, R, I, A2, R2, I2, h⟩
  obtain ⟨T, hb⟩ := h.rb
  rcases C_find hb x with ⟨ho, _⟩ | ⟨v, t, a1, a2, rfl, t1, t2, e1⟩
  · exact Inv_same h hi (C_bare0 hb (Or.inl ho)) (Ms_bare h.nm (Or.inl ho))
  · cases hs : isK z.1 y with
    | false => exact Inv_same h hi (C_bare0 hb (Or.inr hs)) (Ms_bare h.nm (Or.inr hs))
    | true =>
      obtain ⟨k, hk, rfl⟩ := isK_of hb.d8 hs
      have hK := hb.K
      have hd := hb.d8
      have hN := h.nm
      by_cases hv : nI 0 < z.2.2.2 v k
      · have hv2 : ¬ z.2.2.2 v k ≤ nI 0 := Int32.not_le.mpr hv
        refine Inv_same h hi (b := .int (-nI 2)) ?_ ?_
        · have h := hb
          rw [q88]
          simp (disch := first | omega | exact tl_l | exact tT_len | (simp only [List.length_cons, List.length_nil])) only [e88_0, e88_1, e88_4, e88_5, e88_8, e88_8n, e88_9, e88_9n, e88_10, e88_10n, e88_13, e88_14, e88_17, e88_18, e88_21, e88_24, e88_25, e88_26, e88_26n, e88_27, e88_28, e88_31, e88_34, e88_36, e88_37, e88_38, e88_41, e88_44, e88_45, e88_46, e88_48, e88_49, e88_51, e88_53, e88_54, e88_55, e88_59, e88_60, e88_63, e88_63n, e88_64, e88_66, e88_69, e88_72, e88_74, e88_76, e88_79, e88_81, e88_82, e88_83, e88_85, e88_88, e88_89, e88_92, e88_95, e88_96, e88_99, e88_100, e88_102, e88_103, e88_105, e88_106, e88_107, e88_110, e88_111, e88_114, e88_115, e88_117, e88_118, e88_119, e88_122, e88_123, e88_126, e88_126n, e88_127, e88_129, e88_132, e88_133, e88_136, e88_138, kv_s, kh_s, kr_s, kr_v, kn_s, z0, z1, z2, nI_ltI, nI_leI, nI_eq, nI_add, oN, bz0, bz1, bw0, bw1, ltT, ltF, leT, leF, eqT, eqF, if_true, if_false, kI_n, wI_n, and_true, true_and, and_false, false_and, not_true, not_false_eq_true, cwo_1, cwr_1, cwg_0, cwg_1, cwg_2, cwa_0, cwl_0, cwo_3, cwr_3, cwg_3, cwa_R, cwl_R, cwo_5, cwr_5, cwg_4, cwg_5, cwg_6, cwg_7, cwg_8, cwa_1, cwl_1, cwo_7, cwr_7, cwg_9, cwg_10, cwg_11, cwg_12, cwg_13, cwa_2, cwl_2, cwo_17, cwr_17, cwg_14, cwa_3, cwl_3, cwp_0, cwp_1, cwp_2, cwp_3, cwp_4, cwp_5, cwp_6, cwp_7, cwp_8, cwp_9, cwp_10, cwp_11, cwp_12, cwp_13, cwp_14, cwu_0, cwu_R, cwu_1, cwu_2, cwu_3, vu_at, vu_ne, pk_us, pk_un, h.x.f0, h.x.f1, h.x.f2, h.x.f3, h.x.f4, h.x.f5, h.x.f6, h.x.f7, h.x.o, h.hi.o, h.hi.gd, h.hi.gf, h.hi.gl, Hi_keys h.hi h.d8, Hi_hasKey h.hi h.d8, Rw_empty, Rw_add, List.nil_append, List.cons_append, upd_upd, cwo_1, cwo_3, cwo_5, cwo_7, cwo_17, Bool.false_eq_true, n01, e1, hs, t2.o, T_val t2, hv2]
        · intro τ
          refine ⟨A2, upd I2 6 (nI 0), ?_, stay.rf, pk_un (by omega), pk_un (by omega)⟩
          rw [q205]
          simp (disch := first | omega | exact tl_l | exact tT_len | (simp only [List.length_cons, List.length_nil])) only [e205_0, e205_1, e205_2, e205_5, e205_6, e205_7, e205_10, e205_13, e205_14, e205_15, e205_18, e205_21, e205_22, e205_23, e205_24, e205_25, e205_26, e205_29, e205_32, e205_34, e205_35, e205_36, e205_37, e205_40, e205_41, e205_44, e205_45, e205_46, e205_47, e205_48, e205_51, e205_52, e205_55, e205_56, e205_59, e205_60, e205_61, e205_62, e205_63, e205_66, e205_67, e205_68, e205_69, e205_70, e205_73, e205_76, e205_77, e205_79, e205_80, e205_84, e205_85, e205_88, e205_90, e205_91, e205_94, e205_96, e205_99, e205_100, e205_103, e205_104, e205_107, e205_108, e205_109, e205_111, e205_113, e205_114, e205_115, e205_117, e205_120, e205_121, e205_122, e205_125, e205_126, e205_127, e205_128, e205_129, e205_132, e205_134, e205_135, e205_136, e205_137, e205_139, e205_140, e205_141, e205_144, e205_145, e205_146, e205_148, e205_149, e205_150, e205_153, e205_154, e205_156, e205_157, e205_160, e205_162, kv_s, kh_s, kr_s, kr_v, kn_s, z0, z1, z2, nI_ltI, nI_leI, nI_eq, nI_add, oN, bz0, bz1, bw0, bw1, ltT, ltF, leT, leF, eqT, eqF, if_true, if_false, kI_n, wI_n, and_true, true_and, and_false, false_and, not_true, not_false_eq_true, mwo, mwr_0, mwr_1, mwr_2, mwg_3, mwp_3, mwr_4, mwg_5, mwp_5, mwg_6, mwp_6, mwr_7, mwr_8, mwg_9, mwp_9, mwg_10, mwp_10, mwg_11, mwp_11, mwr_12, mwg_13, mwp_13, mwr_14, mwr_15, mwr_16, mwr_17, mwr_18, mwr_19, mwg_20, mwp_20, mwr_21, mwr_22, mwr_23, mwa_1, mwu_1, mwa_2, mwu_2, mwa_3, mwu_3, mwa_4, mwu_4, mwa_5, mwu_5, mwa_6, mwu_6, mwa_7, mwu_7, mwa_8, mwu_8, mwa_9, mwu_9, mwa_10, mwu_10, mwa_11, mwu_11, mwa_12, mwu_12, mwa_13, mwu_13, mwa_14, mwu_14, mwa_15, mwu_15, mwa_16, mwu_16, vu_at, vu_ne, pk_us, pk_un, kB_n, wB_n, kL_n, wL_n, M_ver hN a1 a2, M_isKey hN, hs, n01, M_value hN a1 a2, hv2]
      · have hv2 : z.2.2.2 v k ≤ nI 0 := Int32.not_lt.mp hv
        obtain ⟨u1, u2⟩ := upB_anc (B := br z.1 (z.2.2.2 v)) hk 9 0 (Nat.zero_le _)
        rw [anc_0] at u1 u2
        generalize hu : (upB (br z.1 (z.2.2.2 v)) 9 (2 ^ z.1 + k) 0).2 = w at u1 u2
        refine Inv_tell h hi (L' := [lN (k / 2 ^ w * 2 ^ w), lN (2 ^ w), lN (bes (br z.1 (z.2.2.2 v)) 9 (anc z.1 k w))]) (k := 3) (b := .int (nI w)) ?_ ?_ rfl (by omega)
        · have e := C_bare_loop (A := A) (R := R) (I := I) hb t2 hk (l1 := .int (nI v)) 9 0 (Nat.zero_le _) (by rw [anc_0]; omega)
          rw [anc_0, u1, hu] at e
          rw [← e]
          have h := hb
          rw [q88]
          simp (disch := first | omega | exact tl_l | exact tT_len | (simp only [List.length_cons, List.length_nil])) only [e88_0, e88_1, e88_4, e88_5, e88_8, e88_8n, e88_9, e88_9n, e88_10, e88_10n, e88_13, e88_14, e88_17, e88_18, e88_21, e88_24, e88_25, e88_26, e88_26n, e88_27, e88_28, e88_31, e88_34, e88_36, e88_37, e88_38, e88_41, e88_44, e88_45, e88_46, e88_48, e88_49, e88_51, e88_53, e88_54, e88_55, e88_59, e88_60, e88_63, e88_63n, e88_64, e88_66, e88_69, e88_72, e88_74, e88_76, e88_79, e88_81, e88_82, e88_83, e88_85, e88_88, e88_89, e88_92, e88_95, e88_96, e88_99, e88_100, e88_102, e88_103, e88_105, e88_106, e88_107, e88_110, e88_111, e88_114, e88_115, e88_117, e88_118, e88_119, e88_122, e88_123, e88_126, e88_126n, e88_127, e88_129, e88_132, e88_133, e88_136, e88_138, kv_s, kh_s, kr_s, kr_v, kn_s, z0, z1, z2, nI_ltI, nI_leI, nI_eq, nI_add, oN, bz0, bz1, bw0, bw1, ltT, ltF, leT, leF, eqT, eqF, if_true, if_false, kI_n, wI_n, and_true, true_and, and_false, false_and, not_true, not_false_eq_true, cwo_1, cwr_1, cwg_0, cwg_1, cwg_2, cwa_0, cwl_0, cwo_3, cwr_3, cwg_3, cwa_R, cwl_R, cwo_5, cwr_5, cwg_4, cwg_5, cwg_6, cwg_7, cwg_8, cwa_1, cwl_1, cwo_7, cwr_7, cwg_9, cwg_10, cwg_11, cwg_12, cwg_13, cwa_2, cwl_2, cwo_17, cwr_17, cwg_14, cwa_3, cwl_3, cwp_0, cwp_1, cwp_2, cwp_3, cwp_4, cwp_5, cwp_6, cwp_7, cwp_8, cwp_9, cwp_10, cwp_11, cwp_12, cwp_13, cwp_14, cwu_0, cwu_R, cwu_1, cwu_2, cwu_3, vu_at, vu_ne, pk_us, pk_un, h.x.f0, h.x.f1, h.x.f2, h.x.f3, h.x.f4, h.x.f5, h.x.f6, h.x.f7, h.x.o, h.hi.o, h.hi.gd, h.hi.gf, h.hi.gl, Hi_keys h.hi h.d8, Hi_hasKey h.hi h.d8, Rw_empty, Rw_add, List.nil_append, List.cons_append, upd_upd, cwo_1, cwo_3, cwo_5, cwo_7, cwo_17, Bool.false_eq_true, n01, e1, hs, t2.o, T_val t2, hv2, shr1]
        · intro τ
          obtain ⟨M', B', g1, g2⟩ := M_lay (σ := τ) (m := c + 24) (R := R2) (I := upd I2 6 (nI 0)) hN a1 a2 (h.ok v a1 a2).1
          refine ⟨lA A2 M' B', upd (upd I2 6 (nI 0)) 5 (nI 3), ?_, stay_lA, by rw [pk_un (by omega), pk_un (by omega)], pk_us⟩
          have hh : ∀ {M B}, nowM (lA A2 M B 1) z.1 z.2.1 z.2.2.1 z.2.2.2 := hN
          have e := M_bare_up (σ := τ) (m := c + 24) (A := A2) (R := R2) (I := upd I2 6 (nI 0)) hN g2 (l1 := .int (nI v)) (l5 := junk) (l6 := junk) hk 9 0 (Nat.zero_le _) (by rw [anc_0]; omega)
          rw [anc_0, u1, hu] at e
          have ha := anc_bd hk u2
          have hae := anc_eq (k := k) u2
          have e3 : anc z.1 k w - 2 ^ (z.1 - w) = k / 2 ^ w := by rw [hae, Nat.add_sub_cancel_left]
          have hkd : k / 2 ^ w ≤ k := Nat.div_le_self _ _
          have e2 := M_bes_loop (σ := τ) (m := c + 24) (A := A2) (R := R2) (I := upd I2 6 (nI 0)) hN g2 (l1 := .int (nI v)) (l2 := .int (nI k)) (p := anc z.1 k w) (v := w) ha.2 (by omega) (by omega) u2 9 (anc z.1 k w) 0 ha.2 (by omega) (by omega)
          rw [e3, Nat.zero_add] at e2
          rw [← e2]
          rw [q205]
          simp (disch := first | omega | exact tl_l | exact tT_len | (simp only [List.length_cons, List.length_nil])) only [e205_0, e205_1, e205_2, e205_5, e205_6, e205_7, e205_10, e205_13, e205_14, e205_15, e205_18, e205_21, e205_22, e205_23, e205_24, e205_25, e205_26, e205_29, e205_32, e205_34, e205_35, e205_36, e205_37, e205_40, e205_41, e205_44, e205_45, e205_46, e205_47, e205_48, e205_51, e205_52, e205_55, e205_56, e205_59, e205_60, e205_61, e205_62, e205_63, e205_66, e205_67, e205_68, e205_69, e205_70, e205_73, e205_76, e205_77, e205_79, e205_80, e205_84, e205_85, e205_88, e205_90, e205_91, e205_94, e205_96, e205_99, e205_100, e205_103, e205_104, e205_107, e205_108, e205_109, e205_111, e205_113, e205_114, e205_115, e205_117, e205_120, e205_121, e205_122, e205_125, e205_126, e205_127, e205_128, e205_129, e205_132, e205_134, e205_135, e205_136, e205_137, e205_139, e205_140, e205_141, e205_144, e205_145, e205_146, e205_148, e205_149, e205_150, e205_153, e205_154, e205_156, e205_157, e205_160, e205_162, kv_s, kh_s, kr_s, kr_v, kn_s, z0, z1, z2, nI_ltI, nI_leI, nI_eq, nI_add, oN, bz0, bz1, bw0, bw1, ltT, ltF, leT, leF, eqT, eqF, if_true, if_false, kI_n, wI_n, and_true, true_and, and_false, false_and, not_true, not_false_eq_true, mwo, mwr_0, mwr_1, mwr_2, mwg_3, mwp_3, mwr_4, mwg_5, mwp_5, mwg_6, mwp_6, mwr_7, mwr_8, mwg_9, mwp_9, mwg_10, mwp_10, mwg_11, mwp_11, mwr_12, mwg_13, mwp_13, mwr_14, mwr_15, mwr_16, mwr_17, mwr_18, mwr_19, mwg_20, mwp_20, mwr_21, mwr_22, mwr_23, mwa_1, mwu_1, mwa_2, mwu_2, mwa_3, mwu_3, mwa_4, mwu_4, mwa_5, mwu_5, mwa_6, mwu_6, mwa_7, mwu_7, mwa_8, mwu_8, mwa_9, mwu_9, mwa_10, mwu_10, mwa_11, mwu_11, mwa_12, mwu_12, mwa_13, mwu_13, mwa_14, mwu_14, mwa_15, mwu_15, mwa_16, mwu_16, vu_at, vu_ne, pk_us, pk_un, kB_n, wB_n, kL_n, wL_n, M_ver hN a1 a2, M_isKey hN, hs, n01, M_value hN a1 a2, hv2, g1, M_keys hh]
          rw [e]
          simp (disch := first | omega | exact tl_l | exact tT_len | (simp only [List.length_cons, List.length_nil])) only [e205_0, e205_1, e205_2, e205_5, e205_6, e205_7, e205_10, e205_13, e205_14, e205_15, e205_18, e205_21, e205_22, e205_23, e205_24, e205_25, e205_26, e205_29, e205_32, e205_34, e205_35, e205_36, e205_37, e205_40, e205_41, e205_44, e205_45, e205_46, e205_47, e205_48, e205_51, e205_52, e205_55, e205_56, e205_59, e205_60, e205_61, e205_62, e205_63, e205_66, e205_67, e205_68, e205_69, e205_70, e205_73, e205_76, e205_77, e205_79, e205_80, e205_84, e205_85, e205_88, e205_90, e205_91, e205_94, e205_96, e205_99, e205_100, e205_103, e205_104, e205_107, e205_108, e205_109, e205_111, e205_113, e205_114, e205_115, e205_117, e205_120, e205_121, e205_122, e205_125, e205_126, e205_127, e205_128, e205_129, e205_132, e205_134, e205_135, e205_136, e205_137, e205_139, e205_140, e205_141, e205_144, e205_145, e205_146, e205_148, e205_149, e205_150, e205_153, e205_154, e205_156, e205_157, e205_160, e205_162, kv_s, kh_s, kr_s, kr_v, kn_s, z0, z1, z2, nI_ltI, nI_leI, nI_eq, nI_add, oN, bz0, bz1, bw0, bw1, ltT, ltF, leT, leF, eqT, eqF, if_true, if_false, kI_n, wI_n, and_true, true_and, and_false, false_and, not_true, not_false_eq_true, mwo, mwr_0, mwr_1, mwr_2, mwg_3, mwp_3, mwr_4, mwg_5, mwp_5, mwg_6, mwp_6, mwr_7, mwr_8, mwg_9, mwp_9, mwg_10, mwp_10, mwg_11, mwp_11, mwr_12, mwg_13, mwp_13, mwr_14, mwr_15, mwr_16, mwr_17, mwr_18, mwr_19, mwg_20, mwp_20, mwr_21, mwr_22, mwr_23, mwa_1, mwu_1, mwa_2, mwu_2, mwa_3, mwu_3, mwa_4, mwu_4, mwa_5, mwu_5, mwa_6, mwu_6, mwa_7, mwu_7, mwa_8, mwu_8, mwa_9, mwu_9, mwa_10, mwu_10, mwa_11, mwu_11, mwa_12, mwu_12, mwa_13, mwu_13, mwa_14, mwu_14, mwa_15, mwu_15, mwa_16, mwu_16, vu_at, vu_ne, pk_us, pk_un, kB_n, wB_n, kL_n, wL_n]
end JQ
