/-! calls: path, bare -/
def tT (g : Nat → Int64) : Nat → List Int64
  | 0 => []
  | n + 1 => tT g n ++ [g n]
theorem tT_len {g : Nat → Int64} {n : Nat} : (tT g n).length = n := by
  induction n with
  | zero => rfl
  | succ n ih => rw [tT, List.length_append, ih]; rfl
/-- the first place of a stretch with P -/
def fN (P : Nat → Bool) (z : Nat) : Nat → Nat → Nat
  | _, 0 => z
  | a, n + 1 => if P a = true then a else fN P z (a + 1) n
theorem fN_le {P : Nat → Bool} {z : Nat} : ∀ (n a : Nat), a + n ≤ z → fN P z a n ≤ z := by
  intro n
  induction n with
  | zero => intro a _; exact Nat.le_refl _
  | succ n ih =>
    intro a h
    rw [fN]
    split
    · omega
    · exact ih _ (by omega)
/-- the place above a key's, so many levels up -/
def anc (d k l : Nat) : Nat := (2 ^ d + k) / 2 ^ l
theorem anc_eq {d k l : Nat} (hl : l ≤ d) : anc d k l = 2 ^ (d - l) + k / 2 ^ l := by
  unfold anc
  have e : 2 ^ d = 2 ^ l * 2 ^ (d - l) := by rw [← Nat.pow_add]; congr 1; omega
  rw [e, Nat.mul_add_div (Nat.two_pow_pos l)]
theorem anc_bd {d k l : Nat} (hk : k < 2 ^ d) (hl : l ≤ d) : 1 ≤ anc d k l ∧ anc d k l < 2 * 2 ^ d := by
  have h1 := Nat.one_le_two_pow (n := d - l)
  refine ⟨by rw [anc_eq hl]; exact Nat.le_trans h1 (Nat.le_add_right _ _), ?_⟩
  exact Nat.lt_of_le_of_lt (Nat.div_le_self _ _) (by omega)
theorem anc_s {d k l : Nat} : anc d k (l + 1) = anc d k l / 2 := by
  unfold anc
  rw [Nat.pow_succ, Nat.div_div_eq_div_mul]
theorem shrN {n k : Nat} (hk : k < 31) (h : n < 2 ^ 31) : nI n >>> (nI k &&& 31) = nI (n / 2 ^ k) := by
  have key : ∀ k, k < 31 → ((nI k &&& 31).toBitVec.smod 32).toNat = k := by decide +kernel
  exact pk_shrN h _ k (key k hk)
section JP
variable {c i : Nat} {σ : Hp} {m d f l : Nat} {V : Nat → Nat → Int32} {T : Nat → Option Nat} {A : Nat → Nat → Int32} {R : Nat → Int64} {I : Nat → Int32}
theorem C_path_loop (h : RB c σ T d f l V) {W : Nat → Int32} {t : Nat} (t2 : ∀ {A R I}, isT (cw σ c A R I) t d W) {k : Nat} (hk : k < 2 ^ d) {l1 l2 : Value} : ∀ (n j x : Nat), j + n = d + 1 → x ≤ d + 1 → den 95 58 [.ref c, l1, l2, .ref t, .int (nI x), .int (nI (2 ^ d + k)), .int (nI j)] [] (cw σ c A (rl R (tT (fun l => (mk d W (anc d k l)).toInt64) j)) (upd I 3 (nI j))) = some (some (.int (nI (if x ≤ d then x else fN (fun l => !br d W (anc d k l)) (d + 1) j n))), cw σ c A (rl R (tT (fun l => (mk d W (anc d k l)).toInt64) (d + 1))) (upd I 3 (nI (d + 1)))) := by
  have hK := h.K
  have hd := h.d8
  intro n
  induction n with
  | zero =>
    intro j x hj hx
    have : j = d + 1 := by omega
    subst this
    have e : (if x ≤ d then x else fN (fun l => !br d W (anc d k l)) (d + 1) (d + 1) 0) = x := by
      rw [fN]; split <;> omega
    rw [e]
    rw [e95_58]
    simp (disch := first | omega | exact tl_l | exact tT_len | (simp only [List.length_cons, List.length_nil])) only [e95_0, e95_1, e95_4, e95_5, e95_8, e95_8n, e95_9, e95_9n, e95_10, e95_10n, e95_13, e95_14, e95_17, e95_18, e95_21, e95_24, e95_25, e95_26, e95_27, e95_30, e95_33, e95_34, e95_35, e95_37, e95_38, e95_41, e95_44, e95_45, e95_46, e95_48, e95_49, e95_52, e95_55, e95_56, e95_60, e95_61, e95_64, e95_67, e95_70, e95_71, e95_74, e95_74n, e95_75, e95_77, e95_79, e95_80, e95_83, e95_84, e95_87, e95_89, e95_90, e95_93, e95_96, e95_99, e95_99n, e95_100, e95_102, e95_104, e95_105, e95_108, e95_111, e95_113, e95_115, e95_118, e95_121, e95_123, kv_s, kh_s, kr_s, kr_v, kn_s, z0, z1, z2, nI_ltI, nI_leI, nI_eq, nI_add, oN, bz0, bz1, bw0, bw1, ltT, ltF, leT, leF, eqT, eqF, if_true, if_false, kI_n, wI_n, and_true, true_and, and_false, false_and, not_true, not_false_eq_true, cwo_1, cwr_1, cwg_0, cwg_1, cwg_2, cwa_0, cwl_0, cwo_3, cwr_3, cwg_3, cwa_R, cwl_R, cwo_5, cwr_5, cwg_4, cwg_5, cwg_6, cwg_7, cwg_8, cwa_1, cwl_1, cwo_7, cwr_7, cwg_9, cwg_10, cwg_11, cwg_12, cwg_13, cwa_2, cwl_2, cwo_17, cwr_17, cwg_14, cwa_3, cwl_3, cwp_0, cwp_1, cwp_2, cwp_3, cwp_4, cwp_5, cwp_6, cwp_7, cwp_8, cwp_9, cwp_10, cwp_11, cwp_12, cwp_13, cwp_14, cwu_0, cwu_R, cwu_1, cwu_2, cwu_3, vu_at, vu_ne, pk_us, pk_un, h.x.f0, h.x.f1, h.x.f2, h.x.f3, h.x.f4, h.x.f5, h.x.f6, h.x.f7, h.x.o, h.hi.o, h.hi.gd, h.hi.gf, h.hi.gl, Hi_keys h.hi h.d8, Hi_hasKey h.hi h.d8, Rw_empty, Rw_add, List.nil_append, List.cons_append, upd_upd, cwo_1, cwo_3, cwo_5, cwo_7, cwo_17, Bool.false_eq_true, n01]
  | succ n ih =>
    intro j x hj hx
    have ha := anc_bd hk (show j ≤ d by omega)
    have e2 : nI (2 ^ d + k) >>> (nI j &&& 31) = nI (anc d k j) := shrN (by omega) (by omega)
    by_cases h1 : x ≤ d
    · have := ih (j + 1) x (by omega) hx
      rw [if_pos h1] at this ⊢
      rw [← this]
      have h2 : ¬ d < x := by omega
      rw [e95_58]
      simp (disch := first | omega | exact tl_l | exact tT_len | (simp only [List.length_cons, List.length_nil])) only [e95_0, e95_1, e95_4, e95_5, e95_8, e95_8n, e95_9, e95_9n, e95_10, e95_10n, e95_13, e95_14, e95_17, e95_18, e95_21, e95_24, e95_25, e95_26, e95_27, e95_30, e95_33, e95_34, e95_35, e95_37, e95_38, e95_41, e95_44, e95_45, e95_46, e95_48, e95_49, e95_52, e95_55, e95_56, e95_60, e95_61, e95_64, e95_67, e95_70, e95_71, e95_74, e95_74n, e95_75, e95_77, e95_79, e95_80, e95_83, e95_84, e95_87, e95_89, e95_90, e95_93, e95_96, e95_99, e95_99n, e95_100, e95_102, e95_104, e95_105, e95_108, e95_111, e95_113, e95_115, e95_118, e95_121, e95_123, kv_s, kh_s, kr_s, kr_v, kn_s, z0, z1, z2, nI_ltI, nI_leI, nI_eq, nI_add, oN, bz0, bz1, bw0, bw1, ltT, ltF, leT, leF, eqT, eqF, if_true, if_false, kI_n, wI_n, and_true, true_and, and_false, false_and, not_true, not_false_eq_true, cwo_1, cwr_1, cwg_0, cwg_1, cwg_2, cwa_0, cwl_0, cwo_3, cwr_3, cwg_3, cwa_R, cwl_R, cwo_5, cwr_5, cwg_4, cwg_5, cwg_6, cwg_7, cwg_8, cwa_1, cwl_1, cwo_7, cwr_7, cwg_9, cwg_10, cwg_11, cwg_12, cwg_13, cwa_2, cwl_2, cwo_17, cwr_17, cwg_14, cwa_3, cwl_3, cwp_0, cwp_1, cwp_2, cwp_3, cwp_4, cwp_5, cwp_6, cwp_7, cwp_8, cwp_9, cwp_10, cwp_11, cwp_12, cwp_13, cwp_14, cwu_0, cwu_R, cwu_1, cwu_2, cwu_3, vu_at, vu_ne, pk_us, pk_un, h.x.f0, h.x.f1, h.x.f2, h.x.f3, h.x.f4, h.x.f5, h.x.f6, h.x.f7, h.x.o, h.hi.o, h.hi.gd, h.hi.gf, h.hi.gl, Hi_keys h.hi h.d8, Hi_hasKey h.hi h.d8, Rw_empty, Rw_add, List.nil_append, List.cons_append, upd_upd, cwo_1, cwo_3, cwo_5, cwo_7, cwo_17, Bool.false_eq_true, n01, e2, t2.o, T_mark t2 ha.1 ha.2, h1, tT]
    · have h2 : x = d + 1 := by omega
      subst h2
      rw [if_neg h1, fN]
      cases hb : br d W (anc d k j) with
      | true =>
        have := ih (j + 1) (d + 1) (by omega) hx
        rw [if_neg h1] at this
        have e3 : ((!true) = true) = False := by simp
        have hbb := fun A R I => T_bareb (t2 (A := A) (R := R) (I := I)) ha.1 ha.2
        rw [hb] at hbb
        simp only [e3, if_false]
        rw [← this]
        rw [e95_58]
        simp (disch := first | omega | exact tl_l | exact tT_len | (simp only [List.length_cons, List.length_nil])) only [e95_0, e95_1, e95_4, e95_5, e95_8, e95_8n, e95_9, e95_9n, e95_10, e95_10n, e95_13, e95_14, e95_17, e95_18, e95_21, e95_24, e95_25, e95_26, e95_27, e95_30, e95_33, e95_34, e95_35, e95_37, e95_38, e95_41, e95_44, e95_45, e95_46, e95_48, e95_49, e95_52, e95_55, e95_56, e95_60, e95_61, e95_64, e95_67, e95_70, e95_71, e95_74, e95_74n, e95_75, e95_77, e95_79, e95_80, e95_83, e95_84, e95_87, e95_89, e95_90, e95_93, e95_96, e95_99, e95_99n, e95_100, e95_102, e95_104, e95_105, e95_108, e95_111, e95_113, e95_115, e95_118, e95_121, e95_123, kv_s, kh_s, kr_s, kr_v, kn_s, z0, z1, z2, nI_ltI, nI_leI, nI_eq, nI_add, oN, bz0, bz1, bw0, bw1, ltT, ltF, leT, leF, eqT, eqF, if_true, if_false, kI_n, wI_n, and_true, true_and, and_false, false_and, not_true, not_false_eq_true, cwo_1, cwr_1, cwg_0, cwg_1, cwg_2, cwa_0, cwl_0, cwo_3, cwr_3, cwg_3, cwa_R, cwl_R, cwo_5, cwr_5, cwg_4, cwg_5, cwg_6, cwg_7, cwg_8, cwa_1, cwl_1, cwo_7, cwr_7, cwg_9, cwg_10, cwg_11, cwg_12, cwg_13, cwa_2, cwl_2, cwo_17, cwr_17, cwg_14, cwa_3, cwl_3, cwp_0, cwp_1, cwp_2, cwp_3, cwp_4, cwp_5, cwp_6, cwp_7, cwp_8, cwp_9, cwp_10, cwp_11, cwp_12, cwp_13, cwp_14, cwu_0, cwu_R, cwu_1, cwu_2, cwu_3, vu_at, vu_ne, pk_us, pk_un, h.x.f0, h.x.f1, h.x.f2, h.x.f3, h.x.f4, h.x.f5, h.x.f6, h.x.f7, h.x.o, h.hi.o, h.hi.gd, h.hi.gf, h.hi.gl, Hi_keys h.hi h.d8, Hi_hasKey h.hi h.d8, Rw_empty, Rw_add, List.nil_append, List.cons_append, upd_upd, cwo_1, cwo_3, cwo_5, cwo_7, cwo_17, Bool.false_eq_true, n01, e2, t2.o, T_mark t2 ha.1 ha.2, hbb, tT]
      | false =>
        have := ih (j + 1) j (by omega) (by omega)
        rw [if_pos (show j ≤ d by omega)] at this
        have hbb := fun A R I => T_bareb (t2 (A := A) (R := R) (I := I)) ha.1 ha.2
        rw [hb] at hbb
        simp only [Bool.not_false, if_true]
        rw [← this]
        rw [e95_58]
        simp (disch := first | omega | exact tl_l | exact tT_len | (simp only [List.length_cons, List.length_nil])) only [e95_0, e95_1, e95_4, e95_5, e95_8, e95_8n, e95_9, e95_9n, e95_10, e95_10n, e95_13, e95_14, e95_17, e95_18, e95_21, e95_24, e95_25, e95_26, e95_27, e95_30, e95_33, e95_34, e95_35, e95_37, e95_38, e95_41, e95_44, e95_45, e95_46, e95_48, e95_49, e95_52, e95_55, e95_56, e95_60, e95_61, e95_64, e95_67, e95_70, e95_71, e95_74, e95_74n, e95_75, e95_77, e95_79, e95_80, e95_83, e95_84, e95_87, e95_89, e95_90, e95_93, e95_96, e95_99, e95_99n, e95_100, e95_102, e95_104, e95_105, e95_108, e95_111, e95_113, e95_115, e95_118, e95_121, e95_123, kv_s, kh_s, kr_s, kr_v, kn_s, z0, z1, z2, nI_ltI, nI_leI, nI_eq, nI_add, oN, bz0, bz1, bw0, bw1, ltT, ltF, leT, leF, eqT, eqF, if_true, if_false, kI_n, wI_n, and_true, true_and, and_false, false_and, not_true, not_false_eq_true, cwo_1, cwr_1, cwg_0, cwg_1, cwg_2, cwa_0, cwl_0, cwo_3, cwr_3, cwg_3, cwa_R, cwl_R, cwo_5, cwr_5, cwg_4, cwg_5, cwg_6, cwg_7, cwg_8, cwa_1, cwl_1, cwo_7, cwr_7, cwg_9, cwg_10, cwg_11, cwg_12, cwg_13, cwa_2, cwl_2, cwo_17, cwr_17, cwg_14, cwa_3, cwl_3, cwp_0, cwp_1, cwp_2, cwp_3, cwp_4, cwp_5, cwp_6, cwp_7, cwp_8, cwp_9, cwp_10, cwp_11, cwp_12, cwp_13, cwp_14, cwu_0, cwu_R, cwu_1, cwu_2, cwu_3, vu_at, vu_ne, pk_us, pk_un, h.x.f0, h.x.f1, h.x.f2, h.x.f3, h.x.f4, h.x.f5, h.x.f6, h.x.f7, h.x.o, h.hi.o, h.hi.gd, h.hi.gf, h.hi.gl, Hi_keys h.hi h.d8, Hi_hasKey h.hi h.d8, Rw_empty, Rw_add, List.nil_append, List.cons_append, upd_upd, cwo_1, cwo_3, cwo_5, cwo_7, cwo_17, Bool.false_eq_true, n01, e2, t2.o, T_mark t2 ha.1 ha.2, hbb, tT]
theorem M_path_loop2 (h : nowM (A 1) d f l V) {W : Nat → Int32} {k : Nat} (hk : k < 2 ^ d) {M' B' : Nat → Int32} (e2 : laid d W M' B' 1) {l1 : Value} {x : Int32} : ∀ (n j : Nat), j + n = d + 1 → den 217 81 [.ref m, l1, .int (nI k), .int x, .int (nI j)] [] (mw σ m (lA A M' B') (rl R (tT (fun l => (mk d W (anc d k l)).toInt64) j)) (upd I 5 (nI j))) = some (some (.int x), mw σ m (lA A M' B') (rl R (tT (fun l => (mk d W (anc d k l)).toInt64) (d + 1))) (upd I 5 (nI (d + 1)))) := by
  have hK := h.K
  have hh : ∀ {M B}, nowM (lA A M B 1) d f l V := h
  intro n
  induction n with
  | zero =>
    intro j hj
    have : j = d + 1 := by omega
    subst this
    rw [e217_81]
    simp (disch := first | omega | exact tl_l | exact tT_len | (simp only [List.length_cons, List.length_nil])) only [e217_0, e217_1, e217_2, e217_5, e217_6, e217_7, e217_10, e217_13, e217_14, e217_15, e217_18, e217_21, e217_22, e217_23, e217_24, e217_25, e217_28, e217_29, e217_30, e217_33, e217_34, e217_37, e217_38, e217_39, e217_40, e217_41, e217_44, e217_48, e217_51, e217_52, e217_55, e217_56, e217_58, e217_59, e217_61, e217_62, e217_65, e217_66, e217_69, e217_71, e217_72, e217_75, e217_78, e217_79, e217_83, e217_84, e217_87, e217_90, e217_91, e217_92, e217_95, e217_96, e217_98, e217_99, e217_101, e217_102, e217_105, e217_106, e217_107, e217_110, e217_113, e217_116, e217_117, kv_s, kh_s, kr_s, kr_v, kn_s, z0, z1, z2, nI_ltI, nI_leI, nI_eq, nI_add, oN, bz0, bz1, bw0, bw1, ltT, ltF, leT, leF, eqT, eqF, if_true, if_false, kI_n, wI_n, and_true, true_and, and_false, false_and, not_true, not_false_eq_true, mwo, mwr_0, mwr_1, mwr_2, mwg_3, mwp_3, mwr_4, mwg_5, mwp_5, mwg_6, mwp_6, mwr_7, mwr_8, mwg_9, mwp_9, mwg_10, mwp_10, mwg_11, mwp_11, mwr_12, mwg_13, mwp_13, mwr_14, mwr_15, mwr_16, mwr_17, mwr_18, mwr_19, mwg_20, mwp_20, mwr_21, mwr_22, mwr_23, mwa_1, mwu_1, mwa_2, mwu_2, mwa_3, mwu_3, mwa_4, mwu_4, mwa_5, mwu_5, mwa_6, mwu_6, mwa_7, mwu_7, mwa_8, mwu_8, mwa_9, mwu_9, mwa_10, mwu_10, mwa_11, mwu_11, mwa_12, mwu_12, mwa_13, mwu_13, mwa_14, mwu_14, mwa_15, mwu_15, mwa_16, mwu_16, vu_at, vu_ne, pk_us, pk_un, kB_n, wB_n, kL_n, wL_n, M_depth hh]
  | succ n ih =>
    intro j hj
    rw [← ih (j + 1) (by omega)]
    have ha := anc_bd hk (show j ≤ d by omega)
    have g := (e2 _ ha.1 ha.2).1
    have hae := anc_eq (k := k) (show j ≤ d by omega)
    rw [e217_81]
    simp (disch := first | omega | exact tl_l | exact tT_len | (simp only [List.length_cons, List.length_nil])) only [e217_0, e217_1, e217_2, e217_5, e217_6, e217_7, e217_10, e217_13, e217_14, e217_15, e217_18, e217_21, e217_22, e217_23, e217_24, e217_25, e217_28, e217_29, e217_30, e217_33, e217_34, e217_37, e217_38, e217_39, e217_40, e217_41, e217_44, e217_48, e217_51, e217_52, e217_55, e217_56, e217_58, e217_59, e217_61, e217_62, e217_65, e217_66, e217_69, e217_71, e217_72, e217_75, e217_78, e217_79, e217_83, e217_84, e217_87, e217_90, e217_91, e217_92, e217_95, e217_96, e217_98, e217_99, e217_101, e217_102, e217_105, e217_106, e217_107, e217_110, e217_113, e217_116, e217_117, kv_s, kh_s, kr_s, kr_v, kn_s, z0, z1, z2, nI_ltI, nI_leI, nI_eq, nI_add, oN, bz0, bz1, bw0, bw1, ltT, ltF, leT, leF, eqT, eqF, if_true, if_false, kI_n, wI_n, and_true, true_and, and_false, false_and, not_true, not_false_eq_true, mwo, mwr_0, mwr_1, mwr_2, mwg_3, mwp_3, mwr_4, mwg_5, mwp_5, mwg_6, mwp_6, mwr_7, mwr_8, mwg_9, mwp_9, mwg_10, mwp_10, mwg_11, mwp_11, mwr_12, mwg_13, mwp_13, mwr_14, mwr_15, mwr_16, mwr_17, mwr_18, mwr_19, mwg_20, mwp_20, mwr_21, mwr_22, mwr_23, mwa_1, mwu_1, mwa_2, mwu_2, mwa_3, mwu_3, mwa_4, mwu_4, mwa_5, mwu_5, mwa_6, mwu_6, mwa_7, mwu_7, mwa_8, mwu_8, mwa_9, mwu_9, mwa_10, mwu_10, mwa_11, mwu_11, mwa_12, mwu_12, mwa_13, mwu_13, mwa_14, mwu_14, mwa_15, mwu_15, mwa_16, mwu_16, vu_at, vu_ne, pk_us, pk_un, kB_n, wB_n, kL_n, wL_n, M_depth hh, shrN, M_place hh (show j ≤ d by omega), ← hae, lA_5, g, M_tell, tT]
theorem M_path_loop1 (h : nowM (A 1) d f l V) {W : Nat → Int32} {k : Nat} (hk : k < 2 ^ d) {M' B' : Nat → Int32} (e2 : laid d W M' B' 1) {l1 : Value} : ∀ (j : Nat), j ≤ d + 1 → den 217 46 [.ref m, l1, .int (nI k), .int (nI (fN (fun l => !br d W (anc d k l)) (d + 1) j (d + 1 - j))), .int (nI j - nI 1)] [] (mw σ m (lA A M' B') R (upd I 5 (nI 0))) = some (some (.int (nI (fN (fun l => !br d W (anc d k l)) (d + 1) 0 (d + 1)))), mw σ m (lA A M' B') (rl R (tT (fun l => (mk d W (anc d k l)).toInt64) (d + 1))) (upd I 5 (nI (d + 1)))) := by
  have hK := h.K
  have hh : ∀ {M B}, nowM (lA A M B 1) d f l V := h
  intro j
  induction j with
  | zero =>
    intro _
    rw [← M_path_loop2 (A := A) (R := R) (I := I) h hk e2 (l1 := l1) (d + 1) 0 (Nat.zero_add _)]
    have e3 : nI 0 - nI 1 < nI 0 := by decide
    rw [e217_46]
    simp (disch := first | omega | exact tl_l | exact tT_len | (simp only [List.length_cons, List.length_nil])) only [e217_0, e217_1, e217_2, e217_5, e217_6, e217_7, e217_10, e217_13, e217_14, e217_15, e217_18, e217_21, e217_22, e217_23, e217_24, e217_25, e217_28, e217_29, e217_30, e217_33, e217_34, e217_37, e217_38, e217_39, e217_40, e217_41, e217_44, e217_48, e217_51, e217_52, e217_55, e217_56, e217_58, e217_59, e217_61, e217_62, e217_65, e217_66, e217_69, e217_71, e217_72, e217_75, e217_78, e217_79, e217_83, e217_84, e217_87, e217_90, e217_91, e217_92, e217_95, e217_96, e217_98, e217_99, e217_101, e217_102, e217_105, e217_106, e217_107, e217_110, e217_113, e217_116, e217_117, kv_s, kh_s, kr_s, kr_v, kn_s, z0, z1, z2, nI_ltI, nI_leI, nI_eq, nI_add, oN, bz0, bz1, bw0, bw1, ltT, ltF, leT, leF, eqT, eqF, if_true, if_false, kI_n, wI_n, and_true, true_and, and_false, false_and, not_true, not_false_eq_true, mwo, mwr_0, mwr_1, mwr_2, mwg_3, mwp_3, mwr_4, mwg_5, mwp_5, mwg_6, mwp_6, mwr_7, mwr_8, mwg_9, mwp_9, mwg_10, mwp_10, mwg_11, mwp_11, mwr_12, mwg_13, mwp_13, mwr_14, mwr_15, mwr_16, mwr_17, mwr_18, mwr_19, mwg_20, mwp_20, mwr_21, mwr_22, mwr_23, mwa_1, mwu_1, mwa_2, mwu_2, mwa_3, mwu_3, mwa_4, mwu_4, mwa_5, mwu_5, mwa_6, mwu_6, mwa_7, mwu_7, mwa_8, mwu_8, mwa_9, mwu_9, mwa_10, mwu_10, mwa_11, mwu_11, mwa_12, mwu_12, mwa_13, mwu_13, mwa_14, mwu_14, mwa_15, mwu_15, mwa_16, mwu_16, vu_at, vu_ne, pk_us, pk_un, kB_n, wB_n, kL_n, wL_n, e3, Nat.sub_zero, tT, rl_nil]
  | succ j ih =>
    intro hj
    rw [← ih (by omega)]
    have ha := anc_bd hk (show j ≤ d by omega)
    have g := (e2 _ ha.1 ha.2).2
    have hae := anc_eq (k := k) (show j ≤ d by omega)
    have e4 : nI (j + 1) - nI 1 = nI j := pk_sub (by omega)
    have e5 : nI j + -nI 1 = nI j - nI 1 := (Int32.sub_eq_add_neg ..).symm
    have e6 : d + 1 - j = d + 1 - (j + 1) + 1 := by omega
    rw [e6, fN]
    cases hb : br d W (anc d k j) with
    | true =>
      rw [hb] at g
      have e3 : ((!true) = true) = False := by simp
      rw [e217_46]
      simp (disch := first | omega | exact tl_l | exact tT_len | (simp only [List.length_cons, List.length_nil])) only [e217_0, e217_1, e217_2, e217_5, e217_6, e217_7, e217_10, e217_13, e217_14, e217_15, e217_18, e217_21, e217_22, e217_23, e217_24, e217_25, e217_28, e217_29, e217_30, e217_33, e217_34, e217_37, e217_38, e217_39, e217_40, e217_41, e217_44, e217_48, e217_51, e217_52, e217_55, e217_56, e217_58, e217_59, e217_61, e217_62, e217_65, e217_66, e217_69, e217_71, e217_72, e217_75, e217_78, e217_79, e217_83, e217_84, e217_87, e217_90, e217_91, e217_92, e217_95, e217_96, e217_98, e217_99, e217_101, e217_102, e217_105, e217_106, e217_107, e217_110, e217_113, e217_116, e217_117, kv_s, kh_s, kr_s, kr_v, kn_s, z0, z1, z2, nI_ltI, nI_leI, nI_eq, nI_add, oN, bz0, bz1, bw0, bw1, ltT, ltF, leT, leF, eqT, eqF, if_true, if_false, kI_n, wI_n, and_true, true_and, and_false, false_and, not_true, not_false_eq_true, mwo, mwr_0, mwr_1, mwr_2, mwg_3, mwp_3, mwr_4, mwg_5, mwp_5, mwg_6, mwp_6, mwr_7, mwr_8, mwg_9, mwp_9, mwg_10, mwp_10, mwg_11, mwp_11, mwr_12, mwg_13, mwp_13, mwr_14, mwr_15, mwr_16, mwr_17, mwr_18, mwr_19, mwg_20, mwp_20, mwr_21, mwr_22, mwr_23, mwa_1, mwu_1, mwa_2, mwu_2, mwa_3, mwu_3, mwa_4, mwu_4, mwa_5, mwu_5, mwa_6, mwu_6, mwa_7, mwu_7, mwa_8, mwu_8, mwa_9, mwu_9, mwa_10, mwu_10, mwa_11, mwu_11, mwa_12, mwu_12, mwa_13, mwu_13, mwa_14, mwu_14, mwa_15, mwu_15, mwa_16, mwu_16, vu_at, vu_ne, pk_us, pk_un, kB_n, wB_n, kL_n, wL_n, e4, shrN, M_place hh (show j ≤ d by omega), ← hae, lA_6, g, bI, n01, e5, e3]
    | false =>
      rw [hb] at g
      rw [e217_46]
      simp (disch := first | omega | exact tl_l | exact tT_len | (simp only [List.length_cons, List.length_nil])) only [e217_0, e217_1, e217_2, e217_5, e217_6, e217_7, e217_10, e217_13, e217_14, e217_15, e217_18, e217_21, e217_22, e217_23, e217_24, e217_25, e217_28, e217_29, e217_30, e217_33, e217_34, e217_37, e217_38, e217_39, e217_40, e217_41, e217_44, e217_48, e217_51, e217_52, e217_55, e217_56, e217_58, e217_59, e217_61, e217_62, e217_65, e217_66, e217_69, e217_71, e217_72, e217_75, e217_78, e217_79, e217_83, e217_84, e217_87, e217_90, e217_91, e217_92, e217_95, e217_96, e217_98, e217_99, e217_101, e217_102, e217_105, e217_106, e217_107, e217_110, e217_113, e217_116, e217_117, kv_s, kh_s, kr_s, kr_v, kn_s, z0, z1, z2, nI_ltI, nI_leI, nI_eq, nI_add, oN, bz0, bz1, bw0, bw1, ltT, ltF, leT, leF, eqT, eqF, if_true, if_false, kI_n, wI_n, and_true, true_and, and_false, false_and, not_true, not_false_eq_true, mwo, mwr_0, mwr_1, mwr_2, mwg_3, mwp_3, mwr_4, mwg_5, mwp_5, mwg_6, mwp_6, mwr_7, mwr_8, mwg_9, mwp_9, mwg_10, mwp_10, mwg_11, mwp_11, mwr_12, mwg_13, mwp_13, mwr_14, mwr_15, mwr_16, mwr_17, mwr_18, mwr_19, mwg_20, mwp_20, mwr_21, mwr_22, mwr_23, mwa_1, mwu_1, mwa_2, mwu_2, mwa_3, mwu_3, mwa_4, mwu_4, mwa_5, mwu_5, mwa_6, mwu_6, mwa_7, mwu_7, mwa_8, mwu_8, mwa_9, mwu_9, mwa_10, mwu_10, mwa_11, mwu_11, mwa_12, mwu_12, mwa_13, mwu_13, mwa_14, mwu_14, mwa_15, mwu_15, mwa_16, mwu_16, vu_at, vu_ne, pk_us, pk_un, kB_n, wB_n, kL_n, wL_n, e4, shrN, M_place hh (show j ≤ d by omega), ← hae, lA_6, g, bI, e5, Bool.not_false, Bool.false_eq_true]
theorem C_path0 (h : RB c σ T d f l V) {x y : Int32} (hx : out f l x ∨ isK d y = false) : dcall 95 [.ref c, .int x, .int y] (cw σ c A R I) = some (some (.int (-nI 1)), cw σ c A R I) := by
  have hl := h.fl
  rcases C_find h x with ⟨_, e1⟩ | ⟨v, t, a1, a2, rfl, _, _, e1⟩
  · rw [q95]
    simp (disch := first | omega | exact tl_l | exact tT_len | (simp only [List.length_cons, List.length_nil])) only [e95_0, e95_1, e95_4, e95_5, e95_8, e95_8n, e95_9, e95_9n, e95_10, e95_10n, e95_13, e95_14, e95_17, e95_18, e95_21, e95_24, e95_25, e95_26, e95_27, e95_30, e95_33, e95_34, e95_35, e95_37, e95_38, e95_41, e95_44, e95_45, e95_46, e95_48, e95_49, e95_52, e95_55, e95_56, e95_60, e95_61, e95_64, e95_67, e95_70, e95_71, e95_74, e95_74n, e95_75, e95_77, e95_79, e95_80, e95_83, e95_84, e95_87, e95_89, e95_90, e95_93, e95_96, e95_99, e95_99n, e95_100, e95_102, e95_104, e95_105, e95_108, e95_111, e95_113, e95_115, e95_118, e95_121, e95_123, kv_s, kh_s, kr_s, kr_v, kn_s, z0, z1, z2, nI_ltI, nI_leI, nI_eq, nI_add, oN, bz0, bz1, bw0, bw1, ltT, ltF, leT, leF, eqT, eqF, if_true, if_false, kI_n, wI_n, and_true, true_and, and_false, false_and, not_true, not_false_eq_true, cwo_1, cwr_1, cwg_0, cwg_1, cwg_2, cwa_0, cwl_0, cwo_3, cwr_3, cwg_3, cwa_R, cwl_R, cwo_5, cwr_5, cwg_4, cwg_5, cwg_6, cwg_7, cwg_8, cwa_1, cwl_1, cwo_7, cwr_7, cwg_9, cwg_10, cwg_11, cwg_12, cwg_13, cwa_2, cwl_2, cwo_17, cwr_17, cwg_14, cwa_3, cwl_3, cwp_0, cwp_1, cwp_2, cwp_3, cwp_4, cwp_5, cwp_6, cwp_7, cwp_8, cwp_9, cwp_10, cwp_11, cwp_12, cwp_13, cwp_14, cwu_0, cwu_R, cwu_1, cwu_2, cwu_3, vu_at, vu_ne, pk_us, pk_un, h.x.f0, h.x.f1, h.x.f2, h.x.f3, h.x.f4, h.x.f5, h.x.f6, h.x.f7, h.x.o, h.hi.o, h.hi.gd, h.hi.gf, h.hi.gl, Hi_keys h.hi h.d8, Hi_hasKey h.hi h.d8, Rw_empty, Rw_add, List.nil_append, List.cons_append, upd_upd, cwo_1, cwo_3, cwo_5, cwo_7, cwo_17, Bool.false_eq_true, n01, e1]
  · have hs := hx.resolve_left (not_out a1 a2 (by omega))
    rw [q95]
    simp (disch := first | omega | exact tl_l | exact tT_len | (simp only [List.length_cons, List.length_nil])) only [e95_0, e95_1, e95_4, e95_5, e95_8, e95_8n, e95_9, e95_9n, e95_10, e95_10n, e95_13, e95_14, e95_17, e95_18, e95_21, e95_24, e95_25, e95_26, e95_27, e95_30, e95_33, e95_34, e95_35, e95_37, e95_38, e95_41, e95_44, e95_45, e95_46, e95_48, e95_49, e95_52, e95_55, e95_56, e95_60, e95_61, e95_64, e95_67, e95_70, e95_71, e95_74, e95_74n, e95_75, e95_77, e95_79, e95_80, e95_83, e95_84, e95_87, e95_89, e95_90, e95_93, e95_96, e95_99, e95_99n, e95_100, e95_102, e95_104, e95_105, e95_108, e95_111, e95_113, e95_115, e95_118, e95_121, e95_123, kv_s, kh_s, kr_s, kr_v, kn_s, z0, z1, z2, nI_ltI, nI_leI, nI_eq, nI_add, oN, bz0, bz1, bw0, bw1, ltT, ltF, leT, leF, eqT, eqF, if_true, if_false, kI_n, wI_n, and_true, true_and, and_false, false_and, not_true, not_false_eq_true, cwo_1, cwr_1, cwg_0, cwg_1, cwg_2, cwa_0, cwl_0, cwo_3, cwr_3, cwg_3, cwa_R, cwl_R, cwo_5, cwr_5, cwg_4, cwg_5, cwg_6, cwg_7, cwg_8, cwa_1, cwl_1, cwo_7, cwr_7, cwg_9, cwg_10, cwg_11, cwg_12, cwg_13, cwa_2, cwl_2, cwo_17, cwr_17, cwg_14, cwa_3, cwl_3, cwp_0, cwp_1, cwp_2, cwp_3, cwp_4, cwp_5, cwp_6, cwp_7, cwp_8, cwp_9, cwp_10, cwp_11, cwp_12, cwp_13, cwp_14, cwu_0, cwu_R, cwu_1, cwu_2, cwu_3, vu_at, vu_ne, pk_us, pk_un, h.x.f0, h.x.f1, h.x.f2, h.x.f3, h.x.f4, h.x.f5, h.x.f6, h.x.f7, h.x.o, h.hi.o, h.hi.gd, h.hi.gf, h.hi.gl, Hi_keys h.hi h.d8, Hi_hasKey h.hi h.d8, Rw_empty, Rw_add, List.nil_append, List.cons_append, upd_upd, cwo_1, cwo_3, cwo_5, cwo_7, cwo_17, Bool.false_eq_true, n01, e1, hs]
theorem Ms_path (h : nowM (A 1) d f l V) {x y : Int32} (hx : out f l x ∨ isK d y = false) : Ms 217 [.ref m, .int x, .int y] σ m A R I (.int (-nI 1)) := by
  have hK := h.K
  rcases ver_in (x := x) (show l < 2 ^ 31 by omega) hK.2.2.2.1 with ⟨v, h1, h2, rfl⟩ | h0
  · have hs := hx.resolve_left (not_out h1 h2 (by omega))
    refine ⟨A, upd I 6 (nI 0), ?_, stay.rf, pk_un (by omega), pk_un (by omega)⟩
    rw [q217]
    simp (disch := first | omega | exact tl_l | exact tT_len | (simp only [List.length_cons, List.length_nil])) only [e217_0, e217_1, e217_2, e217_5, e217_6, e217_7, e217_10, e217_13, e217_14, e217_15, e217_18, e217_21, e217_22, e217_23, e217_24, e217_25, e217_28, e217_29, e217_30, e217_33, e217_34, e217_37, e217_38, e217_39, e217_40, e217_41, e217_44, e217_48, e217_51, e217_52, e217_55, e217_56, e217_58, e217_59, e217_61, e217_62, e217_65, e217_66, e217_69, e217_71, e217_72, e217_75, e217_78, e217_79, e217_83, e217_84, e217_87, e217_90, e217_91, e217_92, e217_95, e217_96, e217_98, e217_99, e217_101, e217_102, e217_105, e217_106, e217_107, e217_110, e217_113, e217_116, e217_117, kv_s, kh_s, kr_s, kr_v, kn_s, z0, z1, z2, nI_ltI, nI_leI, nI_eq, nI_add, oN, bz0, bz1, bw0, bw1, ltT, ltF, leT, leF, eqT, eqF, if_true, if_false, kI_n, wI_n, and_true, true_and, and_false, false_and, not_true, not_false_eq_true, mwo, mwr_0, mwr_1, mwr_2, mwg_3, mwp_3, mwr_4, mwg_5, mwp_5, mwg_6, mwp_6, mwr_7, mwr_8, mwg_9, mwp_9, mwg_10, mwp_10, mwg_11, mwp_11, mwr_12, mwg_13, mwp_13, mwr_14, mwr_15, mwr_16, mwr_17, mwr_18, mwr_19, mwg_20, mwp_20, mwr_21, mwr_22, mwr_23, mwa_1, mwu_1, mwa_2, mwu_2, mwa_3, mwu_3, mwa_4, mwu_4, mwa_5, mwu_5, mwa_6, mwu_6, mwa_7, mwu_7, mwa_8, mwu_8, mwa_9, mwu_9, mwa_10, mwu_10, mwa_11, mwu_11, mwa_12, mwu_12, mwa_13, mwu_13, mwa_14, mwu_14, mwa_15, mwu_15, mwa_16, mwu_16, vu_at, vu_ne, pk_us, pk_un, kB_n, wB_n, kL_n, wL_n, M_ver h h1 h2, M_isKey h, hs, n01, Bool.false_eq_true]
  · refine ⟨A, upd I 6 (nI 0), ?_, stay.rf, pk_un (by omega), pk_un (by omega)⟩
    rw [q217]
    simp (disch := first | omega | exact tl_l | exact tT_len | (simp only [List.length_cons, List.length_nil])) only [e217_0, e217_1, e217_2, e217_5, e217_6, e217_7, e217_10, e217_13, e217_14, e217_15, e217_18, e217_21, e217_22, e217_23, e217_24, e217_25, e217_28, e217_29, e217_30, e217_33, e217_34, e217_37, e217_38, e217_39, e217_40, e217_41, e217_44, e217_48, e217_51, e217_52, e217_55, e217_56, e217_58, e217_59, e217_61, e217_62, e217_65, e217_66, e217_69, e217_71, e217_72, e217_75, e217_78, e217_79, e217_83, e217_84, e217_87, e217_90, e217_91, e217_92, e217_95, e217_96, e217_98, e217_99, e217_101, e217_102, e217_105, e217_106, e217_107, e217_110, e217_113, e217_116, e217_117, kv_s, kh_s, kr_s, kr_v, kn_s, z0, z1, z2, nI_ltI, nI_leI, nI_eq, nI_add, oN, bz0, bz1, bw0, bw1, ltT, ltF, leT, leF, eqT, eqF, if_true, if_false, kI_n, wI_n, and_true, true_and, and_false, false_and, not_true, not_false_eq_true, mwo, mwr_0, mwr_1, mwr_2, mwg_3, mwp_3, mwr_4, mwg_5, mwp_5, mwg_6, mwp_6, mwr_7, mwr_8, mwg_9, mwp_9, mwg_10, mwp_10, mwg_11, mwp_11, mwr_12, mwg_13, mwp_13, mwr_14, mwr_15, mwr_16, mwr_17, mwr_18, mwr_19, mwg_20, mwp_20, mwr_21, mwr_22, mwr_23, mwa_1, mwu_1, mwa_2, mwu_2, mwa_3, mwu_3, mwa_4, mwu_4, mwa_5, mwu_5, mwa_6, mwu_6, mwa_7, mwu_7, mwa_8, mwu_8, mwa_9, mwu_9, mwa_10, mwu_10, mwa_11, mwu_11, mwa_12, mwu_12, mwa_13, mwu_13, mwa_14, mwu_14, mwa_15, mwu_15, mwa_16, mwu_16, vu_at, vu_ne, pk_us, pk_un, kB_n, wB_n, kL_n, wL_n, M_ver0 h h0]
theorem J_path (x y : Int32) : Jn 95 217 [.int x, .int y] := by
  rintro c i σ hi ⟨z, n, B, L, q, K, A, R, I, A2, R2, I2, h⟩
  obtain ⟨T, hb⟩ := h.rb
  rcases C_find hb x with ⟨ho, _⟩ | ⟨v, t, a1, a2, rfl, t1, t2, e1⟩
  · exact Inv_same h hi (C_path0 hb (Or.inl ho)) (Ms_path h.nm (Or.inl ho))
  · cases hs : isK z.1 y with
    | false => exact Inv_same h hi (C_path0 hb (Or.inr hs)) (Ms_path h.nm (Or.inr hs))
    | true =>
      obtain ⟨k, hk, rfl⟩ := isK_of hb.d8 hs
      have hK := hb.K
      have hd := hb.d8
      refine Inv_tell h hi (L' := tT (fun l => (mk z.1 (z.2.2.2 v) (anc z.1 k l)).toInt64) (z.1 + 1)) (k := z.1 + 1) (b := .int (nI (fN (fun l => !br z.1 (z.2.2.2 v) (anc z.1 k l)) (z.1 + 1) 0 (z.1 + 1)))) ?_ ?_ tT_len (by omega)
      · have e := C_path_loop (A := A) (R := R) (I := I) hb t2 hk (l1 := .int (nI v)) (l2 := .int (nI k)) (z.1 + 1) 0 (z.1 + 1) (by omega) (by omega)
        rw [if_neg (by omega)] at e
        rw [← e]
        have h := hb
        rw [q95]
        simp (disch := first | omega | exact tl_l | exact tT_len | (simp only [List.length_cons, List.length_nil])) only [e95_0, e95_1, e95_4, e95_5, e95_8, e95_8n, e95_9, e95_9n, e95_10, e95_10n, e95_13, e95_14, e95_17, e95_18, e95_21, e95_24, e95_25, e95_26, e95_27, e95_30, e95_33, e95_34, e95_35, e95_37, e95_38, e95_41, e95_44, e95_45, e95_46, e95_48, e95_49, e95_52, e95_55, e95_56, e95_60, e95_61, e95_64, e95_67, e95_70, e95_71, e95_74, e95_74n, e95_75, e95_77, e95_79, e95_80, e95_83, e95_84, e95_87, e95_89, e95_90, e95_93, e95_96, e95_99, e95_99n, e95_100, e95_102, e95_104, e95_105, e95_108, e95_111, e95_113, e95_115, e95_118, e95_121, e95_123, kv_s, kh_s, kr_s, kr_v, kn_s, z0, z1, z2, nI_ltI, nI_leI, nI_eq, nI_add, oN, bz0, bz1, bw0, bw1, ltT, ltF, leT, leF, eqT, eqF, if_true, if_false, kI_n, wI_n, and_true, true_and, and_false, false_and, not_true, not_false_eq_true, cwo_1, cwr_1, cwg_0, cwg_1, cwg_2, cwa_0, cwl_0, cwo_3, cwr_3, cwg_3, cwa_R, cwl_R, cwo_5, cwr_5, cwg_4, cwg_5, cwg_6, cwg_7, cwg_8, cwa_1, cwl_1, cwo_7, cwr_7, cwg_9, cwg_10, cwg_11, cwg_12, cwg_13, cwa_2, cwl_2, cwo_17, cwr_17, cwg_14, cwa_3, cwl_3, cwp_0, cwp_1, cwp_2, cwp_3, cwp_4, cwp_5, cwp_6, cwp_7, cwp_8, cwp_9, cwp_10, cwp_11, cwp_12, cwp_13, cwp_14, cwu_0, cwu_R, cwu_1, cwu_2, cwu_3, vu_at, vu_ne, pk_us, pk_un, h.x.f0, h.x.f1, h.x.f2, h.x.f3, h.x.f4, h.x.f5, h.x.f6, h.x.f7, h.x.o, h.hi.o, h.hi.gd, h.hi.gf, h.hi.gl, Hi_keys h.hi h.d8, Hi_hasKey h.hi h.d8, Rw_empty, Rw_add, List.nil_append, List.cons_append, upd_upd, cwo_1, cwo_3, cwo_5, cwo_7, cwo_17, Bool.false_eq_true, n01, e1, hs, tT]
      · intro τ
        obtain ⟨M', B', g1, g2⟩ := M_lay (σ := τ) (m := c + 24) (R := R2) (I := upd I2 6 (nI 0)) h.nm a1 a2 (h.ok v a1 a2).1
        refine ⟨lA A2 M' B', upd (upd I2 6 (nI 0)) 5 (nI (z.1 + 1)), ?_, stay_lA, by rw [pk_un (by omega), pk_un (by omega)], pk_us⟩
        have hN := h.nm
        have hh : ∀ {M B}, nowM (lA A2 M B 1) z.1 z.2.1 z.2.2.1 z.2.2.2 := hN
        have e := M_path_loop1 (σ := τ) (m := c + 24) (A := A2) (R := R2) (I := upd I2 6 (nI 0)) hN hk g2 (l1 := .int (nI v)) (z.1 + 1) (Nat.le_refl _)
        rw [← e]
        have e4 : nI (z.1 + 1) - nI 1 = nI z.1 := pk_sub (by omega)
        rw [q217]
        simp (disch := first | omega | exact tl_l | exact tT_len | (simp only [List.length_cons, List.length_nil])) only [e217_0, e217_1, e217_2, e217_5, e217_6, e217_7, e217_10, e217_13, e217_14, e217_15, e217_18, e217_21, e217_22, e217_23, e217_24, e217_25, e217_28, e217_29, e217_30, e217_33, e217_34, e217_37, e217_38, e217_39, e217_40, e217_41, e217_44, e217_48, e217_51, e217_52, e217_55, e217_56, e217_58, e217_59, e217_61, e217_62, e217_65, e217_66, e217_69, e217_71, e217_72, e217_75, e217_78, e217_79, e217_83, e217_84, e217_87, e217_90, e217_91, e217_92, e217_95, e217_96, e217_98, e217_99, e217_101, e217_102, e217_105, e217_106, e217_107, e217_110, e217_113, e217_116, e217_117, kv_s, kh_s, kr_s, kr_v, kn_s, z0, z1, z2, nI_ltI, nI_leI, nI_eq, nI_add, oN, bz0, bz1, bw0, bw1, ltT, ltF, leT, leF, eqT, eqF, if_true, if_false, kI_n, wI_n, and_true, true_and, and_false, false_and, not_true, not_false_eq_true, mwo, mwr_0, mwr_1, mwr_2, mwg_3, mwp_3, mwr_4, mwg_5, mwp_5, mwg_6, mwp_6, mwr_7, mwr_8, mwg_9, mwp_9, mwg_10, mwp_10, mwg_11, mwp_11, mwr_12, mwg_13, mwp_13, mwr_14, mwr_15, mwr_16, mwr_17, mwr_18, mwr_19, mwg_20, mwp_20, mwr_21, mwr_22, mwr_23, mwa_1, mwu_1, mwa_2, mwu_2, mwa_3, mwu_3, mwa_4, mwu_4, mwa_5, mwu_5, mwa_6, mwu_6, mwa_7, mwu_7, mwa_8, mwu_8, mwa_9, mwu_9, mwa_10, mwu_10, mwa_11, mwu_11, mwa_12, mwu_12, mwa_13, mwu_13, mwa_14, mwu_14, mwa_15, mwu_15, mwa_16, mwu_16, vu_at, vu_ne, pk_us, pk_un, kB_n, wB_n, kL_n, wL_n, M_ver hN a1 a2, M_isKey hN, hs, n01, g1, M_depth hh, Nat.sub_self, fN, e4]
end JP
