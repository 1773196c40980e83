/-! calls: all -/
/-- is a node alike in one of the versions ahead? -/
def sb (d : Nat) (V : Nat → Nat → Int32) (v f : Nat) : Nat → Nat → Bool
  | 0, _ => false
  | j + 1, p => sb d V v f j p || br d (dl (V v) (V (f + j))) p
/-- is a node new in a version? -/
def nw (d : Nat) (V : Nat → Nat → Int32) (f v p : Nat) : Bool := !br d (V v) p && !sb d V v f (v - f) p
/-- new nodes, and all nodes, of so many versions -/
def nwS (d : Nat) (V : Nat → Nat → Int32) (f : Nat) : Nat → Nat
  | 0 => 0
  | j + 1 => nwS d V f j + cnt (nw d V f (f + j)) 1 (2 * 2 ^ d - 1)
def evS (d : Nat) (V : Nat → Nat → Int32) (f : Nat) : Nat → Nat
  | 0 => 0
  | j + 1 => evS d V f j + cnt (nz d (V (f + j))) 1 (2 * 2 ^ d - 1)
section AA
variable {c : Nat} {σ : Hp} {m d f l : Nat} {V : Nat → Nat → Int32} {T : Nat → Option Nat} {A : Nat → Nat → Int32} {R : Nat → Int64} {I : Nat → Int32}
theorem nw_first : cnt (nw d V f (f + 0)) 1 (2 * 2 ^ d - 1) = cnt (nz d (V f)) 1 (2 * 2 ^ d - 1) := cnt_congr fun i hi => by
  rw [nw, Nat.add_zero, Nat.sub_self, sb, nz_br]
  exact Bool.and_true _
theorem A_was_loop (h : RB c σ T d f l V) {t : Nat} {W : Nat → Int32} (t2 : ∀ {A R I}, isT (cw σ c A R I) t d W) {v p : Nat} (hv : v ≤ l) (hw : W = V v) (hp : 1 ≤ p) (hp2 : p < 2 * 2 ^ d) {e : Nat} (he : f + e ≤ l + 1) : ∀ (n j : Nat), j + n = e → sb d V v f j p = false → den 105 9 [.ref c, .int (nI (f + e)), .ref t, .int (nI p), .int (nI (f + j))] [] (cw σ c A R I) = some (some (.int (bI (sb d V v f e p))), cw σ c A R I) := by
  have hK := h.K
  have hl := h.fl
  obtain ⟨lev, hlev⟩ := atl_ex hp hp2
  intro n
  induction n with
  | zero =>
    intro j hj hs
    have : j = e := by omega
    subst this
    rw [hs]
    rw [e105_9]
    simp (disch := first | omega | exact tl_l | exact tT_len | (simp only [List.length_cons, List.length_nil])) only [e105_0, e105_1, e105_4, e105_7, e105_11, e105_12, e105_15, e105_16, e105_19, e105_21, e105_24, e105_25, e105_26, e105_29, e105_32, e105_33, e105_34, e105_37, e105_40, e105_41, kv_s, kh_s, kr_s, kr_v, kn_s, z0, z1, z2, nI_ltI, nI_leI, nI_eq, nI_add, oN, bz0, bz1, bw0, bw1, ltT, ltF, leT, leF, eqT, eqF, if_true, if_false, kI_n, wI_n, and_true, true_and, and_false, false_and, not_true, not_false_eq_true, cwo_1, cwr_1, cwg_0, cwg_1, cwg_2, cwa_0, cwl_0, cwo_3, cwr_3, cwg_3, cwa_R, cwl_R, cwo_5, cwr_5, cwg_4, cwg_5, cwg_6, cwg_7, cwg_8, cwa_1, cwl_1, cwo_7, cwr_7, cwg_9, cwg_10, cwg_11, cwg_12, cwg_13, cwa_2, cwl_2, cwo_17, cwr_17, cwg_14, cwa_3, cwl_3, cwp_0, cwp_1, cwp_2, cwp_3, cwp_4, cwp_5, cwp_6, cwp_7, cwp_8, cwp_9, cwp_10, cwp_11, cwp_12, cwp_13, cwp_14, cwu_0, cwu_R, cwu_1, cwu_2, cwu_3, vu_at, vu_ne, pk_us, pk_un, h.x.f0, h.x.f1, h.x.f2, h.x.f3, h.x.f4, h.x.f5, h.x.f6, h.x.f7, h.x.o, h.hi.o, h.hi.gd, h.hi.gf, h.hi.gl, Hi_keys h.hi h.d8, Hi_hasKey h.hi h.d8, Rw_empty, Rw_add, List.nil_append, List.cons_append, upd_upd, cwo_1, cwo_3, cwo_5, cwo_7, cwo_17, Bool.false_eq_true, n01, bI, Bool.false_eq_true]
  | succ n ih =>
    intro j hj hs
    obtain ⟨t', t1', t3⟩ := h.t (v := f + j) (by omega) (by omega)
    have ea := T_alike (t3 (A := A) (R := R) (I := I)) (t2 (A := A) (R := R) (I := I)) hlev
    have eb : (un d (dl (V (f + j)) W) p = 0) = (br d (dl (V v) (V (f + j))) p = true) := by
      rw [hw, dl_sym, br]
      exact propext (decide_eq_true_iff).symm
    have es : sb d V v f (j + 1) p = br d (dl (V v) (V (f + j))) p := by rw [sb, hs, Bool.false_or]
    have hmono : ∀ k, j + 1 ≤ k → br d (dl (V v) (V (f + j))) p = true → sb d V v f k p = true := by
      intro k hk hb
      induction k with
      | zero => omega
      | succ k ih2 =>
        rcases Nat.lt_or_ge j k with h1 | h1
        · rw [sb, ih2 (by omega), Bool.true_or]
        · have : k = j := by omega
          subst this
          rw [es, hb]
    cases hb : br d (dl (V v) (V (f + j))) p with
    | true =>
      rw [hmono e (by omega) hb]
      rw [if_pos (by rw [eb]; exact hb)] at ea
      rw [e105_9]
      simp (disch := first | omega | exact tl_l | exact tT_len | (simp only [List.length_cons, List.length_nil])) only [e105_0, e105_1, e105_4, e105_7, e105_11, e105_12, e105_15, e105_16, e105_19, e105_21, e105_24, e105_25, e105_26, e105_29, e105_32, e105_33, e105_34, e105_37, e105_40, e105_41, kv_s, kh_s, kr_s, kr_v, kn_s, z0, z1, z2, nI_ltI, nI_leI, nI_eq, nI_add, oN, bz0, bz1, bw0, bw1, ltT, ltF, leT, leF, eqT, eqF, if_true, if_false, kI_n, wI_n, and_true, true_and, and_false, false_and, not_true, not_false_eq_true, cwo_1, cwr_1, cwg_0, cwg_1, cwg_2, cwa_0, cwl_0, cwo_3, cwr_3, cwg_3, cwa_R, cwl_R, cwo_5, cwr_5, cwg_4, cwg_5, cwg_6, cwg_7, cwg_8, cwa_1, cwl_1, cwo_7, cwr_7, cwg_9, cwg_10, cwg_11, cwg_12, cwg_13, cwa_2, cwl_2, cwo_17, cwr_17, cwg_14, cwa_3, cwl_3, cwp_0, cwp_1, cwp_2, cwp_3, cwp_4, cwp_5, cwp_6, cwp_7, cwp_8, cwp_9, cwp_10, cwp_11, cwp_12, cwp_13, cwp_14, cwu_0, cwu_R, cwu_1, cwu_2, cwu_3, vu_at, vu_ne, pk_us, pk_un, h.x.f0, h.x.f1, h.x.f2, h.x.f3, h.x.f4, h.x.f5, h.x.f6, h.x.f7, h.x.o, h.hi.o, h.hi.gd, h.hi.gf, h.hi.gl, Hi_keys h.hi h.d8, Hi_hasKey h.hi h.d8, Rw_empty, Rw_add, List.nil_append, List.cons_append, upd_upd, cwo_1, cwo_3, cwo_5, cwo_7, cwo_17, Bool.false_eq_true, n01, Hi_hold_is h.hi (show f + j < 2 ^ 31 by omega) t1', t3.o, ea, bI, n01]
    | false =>
      rw [if_neg (fun z => by rw [eb, hb] at z; cases z)] at ea
      rw [← ih (j + 1) (by omega) (by rw [es, hb])]
      rw [e105_9]
      simp (disch := first | omega | exact tl_l | exact tT_len | (simp only [List.length_cons, List.length_nil])) only [e105_0, e105_1, e105_4, e105_7, e105_11, e105_12, e105_15, e105_16, e105_19, e105_21, e105_24, e105_25, e105_26, e105_29, e105_32, e105_33, e105_34, e105_37, e105_40, e105_41, kv_s, kh_s, kr_s, kr_v, kn_s, z0, z1, z2, nI_ltI, nI_leI, nI_eq, nI_add, oN, bz0, bz1, bw0, bw1, ltT, ltF, leT, leF, eqT, eqF, if_true, if_false, kI_n, wI_n, and_true, true_and, and_false, false_and, not_true, not_false_eq_true, cwo_1, cwr_1, cwg_0, cwg_1, cwg_2, cwa_0, cwl_0, cwo_3, cwr_3, cwg_3, cwa_R, cwl_R, cwo_5, cwr_5, cwg_4, cwg_5, cwg_6, cwg_7, cwg_8, cwa_1, cwl_1, cwo_7, cwr_7, cwg_9, cwg_10, cwg_11, cwg_12, cwg_13, cwa_2, cwl_2, cwo_17, cwr_17, cwg_14, cwa_3, cwl_3, cwp_0, cwp_1, cwp_2, cwp_3, cwp_4, cwp_5, cwp_6, cwp_7, cwp_8, cwp_9, cwp_10, cwp_11, cwp_12, cwp_13, cwp_14, cwu_0, cwu_R, cwu_1, cwu_2, cwu_3, vu_at, vu_ne, pk_us, pk_un, h.x.f0, h.x.f1, h.x.f2, h.x.f3, h.x.f4, h.x.f5, h.x.f6, h.x.f7, h.x.o, h.hi.o, h.hi.gd, h.hi.gf, h.hi.gl, Hi_keys h.hi h.d8, Hi_hasKey h.hi h.d8, Rw_empty, Rw_add, List.nil_append, List.cons_append, upd_upd, cwo_1, cwo_3, cwo_5, cwo_7, cwo_17, Bool.false_eq_true, n01, Hi_hold_is h.hi (show f + j < 2 ^ 31 by omega) t1', t3.o, ea, Nat.add_assoc]
theorem A_was (h : RB c σ T d f l V) {t : Nat} {W : Nat → Int32} (t2 : ∀ {A R I}, isT (cw σ c A R I) t d W) {v p : Nat} (hv : v ≤ l) (hw : W = V v) (hp : 1 ≤ p) (hp2 : p < 2 * 2 ^ d) {e : Nat} (he : f + e ≤ l + 1) : dcall 105 [.ref c, .int (nI (f + e)), .ref t, .int (nI p)] (cw σ c A R I) = some (some (.int (bI (sb d V v f e p))), cw σ c A R I) := by
  rw [← A_was_loop (A := A) (R := R) (I := I) h t2 hv hw hp hp2 he e 0 (Nat.zero_add _) rfl]
  rw [q105]
  simp (disch := first | omega | exact tl_l | exact tT_len | (simp only [List.length_cons, List.length_nil])) only [e105_0, e105_1, e105_4, e105_7, e105_11, e105_12, e105_15, e105_16, e105_19, e105_21, e105_24, e105_25, e105_26, e105_29, e105_32, e105_33, e105_34, e105_37, e105_40, e105_41, kv_s, kh_s, kr_s, kr_v, kn_s, z0, z1, z2, nI_ltI, nI_leI, nI_eq, nI_add, oN, bz0, bz1, bw0, bw1, ltT, ltF, leT, leF, eqT, eqF, if_true, if_false, kI_n, wI_n, and_true, true_and, and_false, false_and, not_true, not_false_eq_true, cwo_1, cwr_1, cwg_0, cwg_1, cwg_2, cwa_0, cwl_0, cwo_3, cwr_3, cwg_3, cwa_R, cwl_R, cwo_5, cwr_5, cwg_4, cwg_5, cwg_6, cwg_7, cwg_8, cwa_1, cwl_1, cwo_7, cwr_7, cwg_9, cwg_10, cwg_11, cwg_12, cwg_13, cwa_2, cwl_2, cwo_17, cwr_17, cwg_14, cwa_3, cwl_3, cwp_0, cwp_1, cwp_2, cwp_3, cwp_4, cwp_5, cwp_6, cwp_7, cwp_8, cwp_9, cwp_10, cwp_11, cwp_12, cwp_13, cwp_14, cwu_0, cwu_R, cwu_1, cwu_2, cwu_3, vu_at, vu_ne, pk_us, pk_un, h.x.f0, h.x.f1, h.x.f2, h.x.f3, h.x.f4, h.x.f5, h.x.f6, h.x.f7, h.x.o, h.hi.o, h.hi.gd, h.hi.gf, h.hi.gl, Hi_keys h.hi h.d8, Hi_hasKey h.hi h.d8, Rw_empty, Rw_add, List.nil_append, List.cons_append, upd_upd, cwo_1, cwo_3, cwo_5, cwo_7, cwo_17, Bool.false_eq_true, n01, Nat.add_zero]
theorem C_new_loop (h : RB c σ T d f l V) {t v : Nat} (t2 : ∀ {A R I}, isT (cw σ c A R I) t d (V v)) (hf : f < v) (hv : v ≤ l) (hI : I 14 = nI d) (hF : okF d (dl (V (v - 1)) (V v)) (A 3)) : ∀ (n k : Nat), k + n = 2 * 2 ^ d - 1 → den 104 29 [.ref c, .int (nI v), .ref t, .int (nI (cnt (nw d V f v) 1 k)), .int (nI (1 + k))] [] (cw σ c A R I) = some (some (.int (nI (cnt (nw d V f v) 1 (2 * 2 ^ d - 1)))), cw σ c A R I) := by
  have hK := h.K
  have hd := h.d8
  have hl := h.fl
  intro n
  induction n with
  | zero =>
    intro k hk
    have : k = 2 * 2 ^ d - 1 := by omega
    subst this
    have : ¬ 1 + (2 * 2 ^ d - 1) < 2 * 2 ^ d := by omega
    rw [e104_29]
    simp (disch := first | omega | exact tl_l | exact tT_len | (simp only [List.length_cons, List.length_nil])) only [e104_0, e104_1, e104_4, e104_5, e104_8, e104_9, e104_10, e104_11, e104_14, e104_15, e104_16, e104_17, e104_20, e104_21, e104_24, e104_25, e104_26, e104_27, e104_31, e104_32, e104_33, e104_36, e104_39, e104_40, e104_43, e104_44, e104_46, e104_49, e104_52, e104_53, e104_56, e104_58, e104_61, e104_64, e104_65, e104_66, e104_67, e104_68, e104_69, e104_71, e104_74, e104_77, e104_80, e104_83, e104_86, e104_87, kv_s, kh_s, kr_s, kr_v, kn_s, z0, z1, z2, nI_ltI, nI_leI, nI_eq, nI_add, oN, bz0, bz1, bw0, bw1, ltT, ltF, leT, leF, eqT, eqF, if_true, if_false, kI_n, wI_n, and_true, true_and, and_false, false_and, not_true, not_false_eq_true, cwo_1, cwr_1, cwg_0, cwg_1, cwg_2, cwa_0, cwl_0, cwo_3, cwr_3, cwg_3, cwa_R, cwl_R, cwo_5, cwr_5, cwg_4, cwg_5, cwg_6, cwg_7, cwg_8, cwa_1, cwl_1, cwo_7, cwr_7, cwg_9, cwg_10, cwg_11, cwg_12, cwg_13, cwa_2, cwl_2, cwo_17, cwr_17, cwg_14, cwa_3, cwl_3, cwp_0, cwp_1, cwp_2, cwp_3, cwp_4, cwp_5, cwp_6, cwp_7, cwp_8, cwp_9, cwp_10, cwp_11, cwp_12, cwp_13, cwp_14, cwu_0, cwu_R, cwu_1, cwu_2, cwu_3, vu_at, vu_ne, pk_us, pk_un, h.x.f0, h.x.f1, h.x.f2, h.x.f3, h.x.f4, h.x.f5, h.x.f6, h.x.f7, h.x.o, h.hi.o, h.hi.gd, h.hi.gf, h.hi.gl, Hi_keys h.hi h.d8, Hi_hasKey h.hi h.d8, Rw_empty, Rw_add, List.nil_append, List.cons_append, upd_upd, cwo_1, cwo_3, cwo_5, cwo_7, cwo_17, Bool.false_eq_true, n01, nI_two]
  | succ n ih =>
    intro k hk
    have ec : cnt (nw d V f v) 1 (k + 1) = cnt (nw d V f v) 1 k + if nw d V f v (1 + k) = true then 1 else 0 := rfl
    have hbb := T_bareb (t2 (A := A) (R := R) (I := I)) (p := 1 + k) (by omega) (by omega)
    have ku := Ch_under (σ := σ) (c := c) (A := A) (R := R) (I := I) (S := dl (V (v - 1)) (V v)) ⟨hI, hF⟩ hd (p := 1 + k) (by omega) (by omega)
    have hu := un_le hd (dl (V (v - 1)) (V v)) (1 + k)
    have hw := A_was (A := A) (R := R) (I := I) h t2 hv rfl (p := 1 + k) (by omega) (by omega) (e := v - 1 - f) (by omega)
    rw [show f + (v - 1 - f) = v - 1 by omega] at hw
    have e1 : nI v - nI 1 = nI (v - 1) := pk_sub (by omega)
    have esb : sb d V v f (v - f) (1 + k) = (sb d V v f (v - 1 - f) (1 + k) || br d (dl (V v) (V (v - 1))) (1 + k)) := by
      rw [show v - f = v - 1 - f + 1 by omega, sb, show f + (v - 1 - f) = v - 1 by omega]
    rw [← ih (k + 1) (by omega), ec, nw, esb, dl_sym]
    cases hb : br d (V v) (1 + k) with
    | true =>
      rw [hb] at hbb
      rw [e104_29]
      simp (disch := first | omega | exact tl_l | exact tT_len | (simp only [List.length_cons, List.length_nil])) only [e104_0, e104_1, e104_4, e104_5, e104_8, e104_9, e104_10, e104_11, e104_14, e104_15, e104_16, e104_17, e104_20, e104_21, e104_24, e104_25, e104_26, e104_27, e104_31, e104_32, e104_33, e104_36, e104_39, e104_40, e104_43, e104_44, e104_46, e104_49, e104_52, e104_53, e104_56, e104_58, e104_61, e104_64, e104_65, e104_66, e104_67, e104_68, e104_69, e104_71, e104_74, e104_77, e104_80, e104_83, e104_86, e104_87, kv_s, kh_s, kr_s, kr_v, kn_s, z0, z1, z2, nI_ltI, nI_leI, nI_eq, nI_add, oN, bz0, bz1, bw0, bw1, ltT, ltF, leT, leF, eqT, eqF, if_true, if_false, kI_n, wI_n, and_true, true_and, and_false, false_and, not_true, not_false_eq_true, cwo_1, cwr_1, cwg_0, cwg_1, cwg_2, cwa_0, cwl_0, cwo_3, cwr_3, cwg_3, cwa_R, cwl_R, cwo_5, cwr_5, cwg_4, cwg_5, cwg_6, cwg_7, cwg_8, cwa_1, cwl_1, cwo_7, cwr_7, cwg_9, cwg_10, cwg_11, cwg_12, cwg_13, cwa_2, cwl_2, cwo_17, cwr_17, cwg_14, cwa_3, cwl_3, cwp_0, cwp_1, cwp_2, cwp_3, cwp_4, cwp_5, cwp_6, cwp_7, cwp_8, cwp_9, cwp_10, cwp_11, cwp_12, cwp_13, cwp_14, cwu_0, cwu_R, cwu_1, cwu_2, cwu_3, vu_at, vu_ne, pk_us, pk_un, h.x.f0, h.x.f1, h.x.f2, h.x.f3, h.x.f4, h.x.f5, h.x.f6, h.x.f7, h.x.o, h.hi.o, h.hi.gd, h.hi.gf, h.hi.gl, Hi_keys h.hi h.d8, Hi_hasKey h.hi h.d8, Rw_empty, Rw_add, List.nil_append, List.cons_append, upd_upd, cwo_1, cwo_3, cwo_5, cwo_7, cwo_17, Bool.false_eq_true, n01, nI_two, t2.o, hbb, n01, Bool.not_true, Bool.false_and, Bool.false_eq_true, Nat.add_zero, Nat.add_assoc]
    | false =>
      rw [hb] at hbb
      by_cases h0 : un d (dl (V (v - 1)) (V v)) (1 + k) ≤ 0
      · have hbr : br d (dl (V (v - 1)) (V v)) (1 + k) = true := decide_eq_true (by omega)
        rw [e104_29]
        simp (disch := first | omega | exact tl_l | exact tT_len | (simp only [List.length_cons, List.length_nil])) only [e104_0, e104_1, e104_4, e104_5, e104_8, e104_9, e104_10, e104_11, e104_14, e104_15, e104_16, e104_17, e104_20, e104_21, e104_24, e104_25, e104_26, e104_27, e104_31, e104_32, e104_33, e104_36, e104_39, e104_40, e104_43, e104_44, e104_46, e104_49, e104_52, e104_53, e104_56, e104_58, e104_61, e104_64, e104_65, e104_66, e104_67, e104_68, e104_69, e104_71, e104_74, e104_77, e104_80, e104_83, e104_86, e104_87, kv_s, kh_s, kr_s, kr_v, kn_s, z0, z1, z2, nI_ltI, nI_leI, nI_eq, nI_add, oN, bz0, bz1, bw0, bw1, ltT, ltF, leT, leF, eqT, eqF, if_true, if_false, kI_n, wI_n, and_true, true_and, and_false, false_and, not_true, not_false_eq_true, cwo_1, cwr_1, cwg_0, cwg_1, cwg_2, cwa_0, cwl_0, cwo_3, cwr_3, cwg_3, cwa_R, cwl_R, cwo_5, cwr_5, cwg_4, cwg_5, cwg_6, cwg_7, cwg_8, cwa_1, cwl_1, cwo_7, cwr_7, cwg_9, cwg_10, cwg_11, cwg_12, cwg_13, cwa_2, cwl_2, cwo_17, cwr_17, cwg_14, cwa_3, cwl_3, cwp_0, cwp_1, cwp_2, cwp_3, cwp_4, cwp_5, cwp_6, cwp_7, cwp_8, cwp_9, cwp_10, cwp_11, cwp_12, cwp_13, cwp_14, cwu_0, cwu_R, cwu_1, cwu_2, cwu_3, vu_at, vu_ne, pk_us, pk_un, h.x.f0, h.x.f1, h.x.f2, h.x.f3, h.x.f4, h.x.f5, h.x.f6, h.x.f7, h.x.o, h.hi.o, h.hi.gd, h.hi.gf, h.hi.gl, Hi_keys h.hi h.d8, Hi_hasKey h.hi h.d8, Rw_empty, Rw_add, List.nil_append, List.cons_append, upd_upd, cwo_1, cwo_3, cwo_5, cwo_7, cwo_17, Bool.false_eq_true, n01, nI_two, t2.o, hbb, ku, h0, hbr, Bool.not_false, Bool.true_and, Bool.or_true, Bool.not_true, Bool.false_eq_true, Nat.add_assoc, Nat.add_zero]
      · have hbr : br d (dl (V (v - 1)) (V v)) (1 + k) = false := decide_eq_false (by omega)
        cases hs : sb d V v f (v - 1 - f) (1 + k) with
        | true =>
          rw [hs] at hw
          rw [e104_29]
          simp (disch := first | omega | exact tl_l | exact tT_len | (simp only [List.length_cons, List.length_nil])) only [e104_0, e104_1, e104_4, e104_5, e104_8, e104_9, e104_10, e104_11, e104_14, e104_15, e104_16, e104_17, e104_20, e104_21, e104_24, e104_25, e104_26, e104_27, e104_31, e104_32, e104_33, e104_36, e104_39, e104_40, e104_43, e104_44, e104_46, e104_49, e104_52, e104_53, e104_56, e104_58, e104_61, e104_64, e104_65, e104_66, e104_67, e104_68, e104_69, e104_71, e104_74, e104_77, e104_80, e104_83, e104_86, e104_87, kv_s, kh_s, kr_s, kr_v, kn_s, z0, z1, z2, nI_ltI, nI_leI, nI_eq, nI_add, oN, bz0, bz1, bw0, bw1, ltT, ltF, leT, leF, eqT, eqF, if_true, if_false, kI_n, wI_n, and_true, true_and, and_false, false_and, not_true, not_false_eq_true, cwo_1, cwr_1, cwg_0, cwg_1, cwg_2, cwa_0, cwl_0, cwo_3, cwr_3, cwg_3, cwa_R, cwl_R, cwo_5, cwr_5, cwg_4, cwg_5, cwg_6, cwg_7, cwg_8, cwa_1, cwl_1, cwo_7, cwr_7, cwg_9, cwg_10, cwg_11, cwg_12, cwg_13, cwa_2, cwl_2, cwo_17, cwr_17, cwg_14, cwa_3, cwl_3, cwp_0, cwp_1, cwp_2, cwp_3, cwp_4, cwp_5, cwp_6, cwp_7, cwp_8, cwp_9, cwp_10, cwp_11, cwp_12, cwp_13, cwp_14, cwu_0, cwu_R, cwu_1, cwu_2, cwu_3, vu_at, vu_ne, pk_us, pk_un, h.x.f0, h.x.f1, h.x.f2, h.x.f3, h.x.f4, h.x.f5, h.x.f6, h.x.f7, h.x.o, h.hi.o, h.hi.gd, h.hi.gf, h.hi.gl, Hi_keys h.hi h.d8, Hi_hasKey h.hi h.d8, Rw_empty, Rw_add, List.nil_append, List.cons_append, upd_upd, cwo_1, cwo_3, cwo_5, cwo_7, cwo_17, Bool.false_eq_true, n01, nI_two, t2.o, hbb, ku, h0, hbr, e1, hw, bI, Bool.not_false, Bool.true_and, Bool.true_or, Bool.not_true, Bool.false_eq_true, Nat.add_assoc, Nat.add_zero]
        | false =>
          rw [hs] at hw
          rw [e104_29]
          simp (disch := first | omega | exact tl_l | exact tT_len | (simp only [List.length_cons, List.length_nil])) only [e104_0, e104_1, e104_4, e104_5, e104_8, e104_9, e104_10, e104_11, e104_14, e104_15, e104_16, e104_17, e104_20, e104_21, e104_24, e104_25, e104_26, e104_27, e104_31, e104_32, e104_33, e104_36, e104_39, e104_40, e104_43, e104_44, e104_46, e104_49, e104_52, e104_53, e104_56, e104_58, e104_61, e104_64, e104_65, e104_66, e104_67, e104_68, e104_69, e104_71, e104_74, e104_77, e104_80, e104_83, e104_86, e104_87, kv_s, kh_s, kr_s, kr_v, kn_s, z0, z1, z2, nI_ltI, nI_leI, nI_eq, nI_add, oN, bz0, bz1, bw0, bw1, ltT, ltF, leT, leF, eqT, eqF, if_true, if_false, kI_n, wI_n, and_true, true_and, and_false, false_and, not_true, not_false_eq_true, cwo_1, cwr_1, cwg_0, cwg_1, cwg_2, cwa_0, cwl_0, cwo_3, cwr_3, cwg_3, cwa_R, cwl_R, cwo_5, cwr_5, cwg_4, cwg_5, cwg_6, cwg_7, cwg_8, cwa_1, cwl_1, cwo_7, cwr_7, cwg_9, cwg_10, cwg_11, cwg_12, cwg_13, cwa_2, cwl_2, cwo_17, cwr_17, cwg_14, cwa_3, cwl_3, cwp_0, cwp_1, cwp_2, cwp_3, cwp_4, cwp_5, cwp_6, cwp_7, cwp_8, cwp_9, cwp_10, cwp_11, cwp_12, cwp_13, cwp_14, cwu_0, cwu_R, cwu_1, cwu_2, cwu_3, vu_at, vu_ne, pk_us, pk_un, h.x.f0, h.x.f1, h.x.f2, h.x.f3, h.x.f4, h.x.f5, h.x.f6, h.x.f7, h.x.o, h.hi.o, h.hi.gd, h.hi.gf, h.hi.gl, Hi_keys h.hi h.d8, Hi_hasKey h.hi h.d8, Rw_empty, Rw_add, List.nil_append, List.cons_append, upd_upd, cwo_1, cwo_3, cwo_5, cwo_7, cwo_17, Bool.false_eq_true, n01, nI_two, t2.o, hbb, ku, h0, hbr, e1, hw, bI, Bool.not_false, Bool.true_and, Bool.false_or, Bool.not_true, Bool.false_eq_true, Nat.add_assoc, Nat.add_zero]
theorem A_newNodes (h : RB c σ T d f l V) {v dc : Nat} (hf : f < v) (hv : v ≤ l) (hI : I 14 = nI dc) : ∃ F, dcall 104 [.ref c, .int (nI v)] (cw σ c A R I) = some (some (.int (nI (cnt (nw d V f v) 1 (2 * 2 ^ d - 1)))), cw σ c (va_up A 3 F) R (upd I 14 (nI d))) := by
  have hK := h.K
  have hl := h.fl
  obtain ⟨t, t1, t2⟩ := h.t (v := v) (by omega) hv
  obtain ⟨t', t1', t3⟩ := h.t (v := v - 1) (by omega) (by omega)
  obtain ⟨F, k1, k2⟩ := A_chooseUnlike (A := A) (R := R) (I := I) h t3 t2 hI
  have e1 : nI v - nI 1 = nI (v - 1) := pk_sub (by omega)
  refine ⟨F, ?_⟩
  rw [← C_new_loop (A := va_up A 3 F) (R := R) (I := upd I 14 (nI d)) h t2 hf hv pk_us (by rw [vu_at]; exact k2) (2 * 2 ^ d - 1) 0 (Nat.zero_add _)]
  rw [q104]
  simp (disch := first | omega | exact tl_l | exact tT_len | (simp only [List.length_cons, List.length_nil])) only [e104_0, e104_1, e104_4, e104_5, e104_8, e104_9, e104_10, e104_11, e104_14, e104_15, e104_16, e104_17, e104_20, e104_21, e104_24, e104_25, e104_26, e104_27, e104_31, e104_32, e104_33, e104_36, e104_39, e104_40, e104_43, e104_44, e104_46, e104_49, e104_52, e104_53, e104_56, e104_58, e104_61, e104_64, e104_65, e104_66, e104_67, e104_68, e104_69, e104_71, e104_74, e104_77, e104_80, e104_83, e104_86, e104_87, kv_s, kh_s, kr_s, kr_v, kn_s, z0, z1, z2, nI_ltI, nI_leI, nI_eq, nI_add, oN, bz0, bz1, bw0, bw1, ltT, ltF, leT, leF, eqT, eqF, if_true, if_false, kI_n, wI_n, and_true, true_and, and_false, false_and, not_true, not_false_eq_true, cwo_1, cwr_1, cwg_0, cwg_1, cwg_2, cwa_0, cwl_0, cwo_3, cwr_3, cwg_3, cwa_R, cwl_R, cwo_5, cwr_5, cwg_4, cwg_5, cwg_6, cwg_7, cwg_8, cwa_1, cwl_1, cwo_7, cwr_7, cwg_9, cwg_10, cwg_11, cwg_12, cwg_13, cwa_2, cwl_2, cwo_17, cwr_17, cwg_14, cwa_3, cwl_3, cwp_0, cwp_1, cwp_2, cwp_3, cwp_4, cwp_5, cwp_6, cwp_7, cwp_8, cwp_9, cwp_10, cwp_11, cwp_12, cwp_13, cwp_14, cwu_0, cwu_R, cwu_1, cwu_2, cwu_3, vu_at, vu_ne, pk_us, pk_un, h.x.f0, h.x.f1, h.x.f2, h.x.f3, h.x.f4, h.x.f5, h.x.f6, h.x.f7, h.x.o, h.hi.o, h.hi.gd, h.hi.gf, h.hi.gl, Hi_keys h.hi h.d8, Hi_hasKey h.hi h.d8, Rw_empty, Rw_add, List.nil_append, List.cons_append, upd_upd, cwo_1, cwo_3, cwo_5, cwo_7, cwo_17, Bool.false_eq_true, n01, Hi_hold_is h.hi (show v < 2 ^ 31 by omega) t1, Hi_hold_is h.hi (show v - 1 < 2 ^ 31 by omega) t1', e1, k1, cnt, Nat.add_zero]
theorem C_all_loop (h : RB c σ T d f l V) (hI : I 14 = nI d) : ∀ (n j : Nat) (F : Nat → Int32), f + 1 + j + n = l + 1 → ∃ F', den 103 46 [.ref c, .int (nI (2 * 2 ^ d)), .int (nI (nwS d V f (j + 1))), .int (nI (evS d V f (j + 1))), .int (nI (f + 1 + j))] [] (cw σ c (va_up A 3 F) R I) = some (some (.int (nI (nwS d V f (l + 1 - f)))), cw σ c (va_up A 3 F') (rl R [(nI (evS d V f (l + 1 - f))).toInt64]) (upd I 3 (nI 1))) := by
  have hK := h.K
  have hl := h.fl
  intro n
  induction n with
  | zero =>
    intro j F hj
    refine ⟨F, ?_⟩
    have e : j + 1 = l + 1 - f := by omega
    have : l < f + 1 + j := by omega
    rw [e]
    rw [e103_46]
    simp (disch := first | omega | exact tl_l | exact tT_len | (simp only [List.length_cons, List.length_nil])) only [e103_0, e103_1, e103_2, e103_5, e103_8, e103_9, e103_10, e103_11, e103_14, e103_15, e103_18, e103_21, e103_24, e103_27, e103_28, e103_29, e103_32, e103_33, e103_34, e103_35, e103_36, e103_39, e103_42, e103_43, e103_44, e103_48, e103_49, e103_52, e103_55, e103_58, e103_59, e103_60, e103_63, e103_65, e103_68, e103_71, e103_72, e103_73, e103_76, e103_77, e103_78, e103_79, e103_80, e103_82, e103_85, e103_86, e103_87, e103_90, e103_93, e103_94, e103_97, e103_100, e103_101, e103_104, e103_105, e103_106, e103_109, e103_110, kv_s, kh_s, kr_s, kr_v, kn_s, z0, z1, z2, nI_ltI, nI_leI, nI_eq, nI_add, oN, bz0, bz1, bw0, bw1, ltT, ltF, leT, leF, eqT, eqF, if_true, if_false, kI_n, wI_n, and_true, true_and, and_false, false_and, not_true, not_false_eq_true, cwo_1, cwr_1, cwg_0, cwg_1, cwg_2, cwa_0, cwl_0, cwo_3, cwr_3, cwg_3, cwa_R, cwl_R, cwo_5, cwr_5, cwg_4, cwg_5, cwg_6, cwg_7, cwg_8, cwa_1, cwl_1, cwo_7, cwr_7, cwg_9, cwg_10, cwg_11, cwg_12, cwg_13, cwa_2, cwl_2, cwo_17, cwr_17, cwg_14, cwa_3, cwl_3, cwp_0, cwp_1, cwp_2, cwp_3, cwp_4, cwp_5, cwp_6, cwp_7, cwp_8, cwp_9, cwp_10, cwp_11, cwp_12, cwp_13, cwp_14, cwu_0, cwu_R, cwu_1, cwu_2, cwu_3, vu_at, vu_ne, pk_us, pk_un, h.x.f0, h.x.f1, h.x.f2, h.x.f3, h.x.f4, h.x.f5, h.x.f6, h.x.f7, h.x.o, h.hi.o, h.hi.gd, h.hi.gf, h.hi.gl, Hi_keys h.hi h.d8, Hi_hasKey h.hi h.d8, Rw_empty, Rw_add, List.nil_append, List.cons_append, upd_upd, cwo_1, cwo_3, cwo_5, cwo_7, cwo_17, Bool.false_eq_true, n01]
  | succ n ih =>
    intro j F hj
    obtain ⟨t, t1, t2⟩ := h.t (v := f + 1 + j) (by omega) (by omega)
    obtain ⟨F1, k1⟩ := A_newNodes (A := va_up A 3 F) (R := R) (I := I) h (v := f + 1 + j) (by omega) (by omega) hI
    rw [vu_vu, upd_id hI] at k1
    obtain ⟨F', e1⟩ := ih (j + 1) F1 (by omega)
    refine ⟨F', ?_⟩
    have e2 : nwS d V f (j + 1 + 1) = nwS d V f (j + 1) + cnt (nw d V f (f + 1 + j)) 1 (2 * 2 ^ d - 1) := by rw [nwS, show f + (j + 1) = f + 1 + j by omega]
    have e3 : evS d V f (j + 1 + 1) = evS d V f (j + 1) + cnt (nz d (V (f + 1 + j))) 1 (2 * 2 ^ d - 1) := by rw [evS, show f + (j + 1) = f + 1 + j by omega]
    rw [e2, e3, show f + 1 + (j + 1) = f + 1 + j + 1 by omega] at e1
    rw [← e1]
    rw [e103_46]
    simp (disch := first | omega | exact tl_l | exact tT_len | (simp only [List.length_cons, List.length_nil])) only [e103_0, e103_1, e103_2, e103_5, e103_8, e103_9, e103_10, e103_11, e103_14, e103_15, e103_18, e103_21, e103_24, e103_27, e103_28, e103_29, e103_32, e103_33, e103_34, e103_35, e103_36, e103_39, e103_42, e103_43, e103_44, e103_48, e103_49, e103_52, e103_55, e103_58, e103_59, e103_60, e103_63, e103_65, e103_68, e103_71, e103_72, e103_73, e103_76, e103_77, e103_78, e103_79, e103_80, e103_82, e103_85, e103_86, e103_87, e103_90, e103_93, e103_94, e103_97, e103_100, e103_101, e103_104, e103_105, e103_106, e103_109, e103_110, kv_s, kh_s, kr_s, kr_v, kn_s, z0, z1, z2, nI_ltI, nI_leI, nI_eq, nI_add, oN, bz0, bz1, bw0, bw1, ltT, ltF, leT, leF, eqT, eqF, if_true, if_false, kI_n, wI_n, and_true, true_and, and_false, false_and, not_true, not_false_eq_true, cwo_1, cwr_1, cwg_0, cwg_1, cwg_2, cwa_0, cwl_0, cwo_3, cwr_3, cwg_3, cwa_R, cwl_R, cwo_5, cwr_5, cwg_4, cwg_5, cwg_6, cwg_7, cwg_8, cwa_1, cwl_1, cwo_7, cwr_7, cwg_9, cwg_10, cwg_11, cwg_12, cwg_13, cwa_2, cwl_2, cwo_17, cwr_17, cwg_14, cwa_3, cwl_3, cwp_0, cwp_1, cwp_2, cwp_3, cwp_4, cwp_5, cwp_6, cwp_7, cwp_8, cwp_9, cwp_10, cwp_11, cwp_12, cwp_13, cwp_14, cwu_0, cwu_R, cwu_1, cwu_2, cwu_3, vu_at, vu_ne, pk_us, pk_un, h.x.f0, h.x.f1, h.x.f2, h.x.f3, h.x.f4, h.x.f5, h.x.f6, h.x.f7, h.x.o, h.hi.o, h.hi.gd, h.hi.gf, h.hi.gl, Hi_keys h.hi h.d8, Hi_hasKey h.hi h.d8, Rw_empty, Rw_add, List.nil_append, List.cons_append, upd_upd, cwo_1, cwo_3, cwo_5, cwo_7, cwo_17, Bool.false_eq_true, n01, Hi_hold_is h.hi (show f + 1 + j < 2 ^ 31 by omega) t1, t2.o, t2.f, t2.fo, T_nodesIn t2, k1]
theorem M_all_seen0 (h : nowM (A 1) d f l V) {l1 l2 l3 l5 : Value} : ∀ (n k : Nat) (N : Nat → Int32), k + n = 2 * 2 ^ d - 1 → (∀ p, 1 ≤ p → p < 1 + k → N p = nI 0) → ∃ N', den 214 35 [.ref m, l1, l2, l3, .int (nI (1 + k)), l5] [] (mw σ m (va_up A 12 N) R I) = den 214 60 [.ref m, l1, l2, l3, .int (nI (2 * 2 ^ d)), l5] [] (mw σ m (va_up A 12 N') R I) ∧ ∀ p, 1 ≤ p → p < 2 * 2 ^ d → N' p = nI 0 := by
  have hK := h.K
  have hh : ∀ {N}, nowM (va_up A 12 N 1) d f l V := fun {N} => by rw [vu_ne (by omega)]; exact h
  intro n
  induction n with
  | zero =>
    intro k N hk h0
    have : k = 2 * 2 ^ d - 1 := by omega
    subst this
    refine ⟨N, ?_, fun p q1 q2 => h0 p q1 (by omega)⟩
    have e : 1 + (2 * 2 ^ d - 1) = 2 * 2 ^ d := by omega
    rw [e]
    rw [e214_35]
    simp (disch := first | omega | exact tl_l | exact tT_len | (simp only [List.length_cons, List.length_nil])) only [e214_37, e214_38, e214_39, e214_42, e214_43, e214_46, e214_47, e214_50, e214_52, e214_53, e214_54, e214_57, kv_s, kh_s, kr_s, kr_v, kn_s, z0, z1, z2, nI_ltI, nI_leI, nI_eq, nI_add, oN, bz0, bz1, bw0, bw1, ltT, ltF, leT, leF, eqT, eqF, if_true, if_false, kI_n, wI_n, and_true, true_and, and_false, false_and, not_true, not_false_eq_true, mwo, M_keys hh, nI_two]
  | succ n ih =>
    intro k N hk h0
    obtain ⟨N', e1, e2⟩ := ih (k + 1) (upd N (1 + k) (nI 0)) (by omega) (fun p q1 q2 => by
      by_cases hp : p = 1 + k
      · subst hp; rw [pk_us]
      · rw [pk_un hp]; exact h0 p q1 (by omega))
    refine ⟨N', ?_, e2⟩
    rw [← e1]
    rw [e214_35]
    simp (disch := first | omega | exact tl_l | exact tT_len | (simp only [List.length_cons, List.length_nil])) only [e214_37, e214_38, e214_39, e214_42, e214_43, e214_46, e214_47, e214_50, e214_52, e214_53, e214_54, e214_57, kv_s, kh_s, kr_s, kr_v, kn_s, z0, z1, z2, nI_ltI, nI_leI, nI_eq, nI_add, oN, bz0, bz1, bw0, bw1, ltT, ltF, leT, leF, eqT, eqF, if_true, if_false, kI_n, wI_n, and_true, true_and, and_false, false_and, not_true, not_false_eq_true, mwo, mwr_0, mwr_1, mwr_2, mwg_3, mwp_3, mwr_4, mwg_5, mwp_5, mwg_6, mwp_6, mwr_7, mwr_8, mwg_9, mwp_9, mwg_10, mwp_10, mwg_11, mwp_11, mwr_12, mwg_13, mwp_13, mwr_14, mwr_15, mwr_16, mwr_17, mwr_18, mwr_19, mwg_20, mwp_20, mwr_21, mwr_22, mwr_23, mwa_1, mwu_1, mwa_2, mwu_2, mwa_3, mwu_3, mwa_4, mwu_4, mwa_5, mwu_5, mwa_6, mwu_6, mwa_7, mwu_7, mwa_8, mwu_8, mwa_9, mwu_9, mwa_10, mwu_10, mwa_11, mwu_11, mwa_12, mwu_12, mwa_13, mwu_13, mwa_14, mwu_14, mwa_15, mwu_15, mwa_16, mwu_16, vu_at, vu_ne, pk_us, pk_un, kB_n, wB_n, kL_n, wL_n, M_keys hh, nI_two, vnb0, vu_vu, Nat.add_assoc]
theorem M_all_or (h : nowM (A 1) d f l V) {v u : Nat} {P : Nat → Bool} {U : Nat → Int32} (hU : AL d U (A 11) 1) {l1 l2 l3 l4 : Value} : ∀ (n k : Nat) (N : Nat → Int32), k + n = 2 * 2 ^ d - 1 → (∀ p, 1 ≤ p → p < 2 * 2 ^ d → N p = bI (if p < 1 + k then P p || br d U p else P p)) → ∃ N' l5', den 214 84 [.ref m, l1, l2, l3, l4, .int (nI (1 + k))] [] (mw σ m (va_up A 12 N) R I) = den 214 133 [.ref m, l1, l2, l3, l4, l5'] [] (mw σ m (va_up A 12 N') R I) ∧ ∀ p, 1 ≤ p → p < 2 * 2 ^ d → N' p = bI (P p || br d U p) := by
  have hK := h.K
  have hh : ∀ {N}, nowM (va_up A 12 N 1) d f l V := fun {N} => by rw [vu_ne (by omega)]; exact h
  have h11 : ∀ {N}, va_up A 12 N 11 = A 11 := fun {N} => vu_ne (by omega)
  intro n
  induction n with
  | zero =>
    intro k N hk h0
    have : k = 2 * 2 ^ d - 1 := by omega
    subst this
    refine ⟨N, .int (nI (1 + (2 * 2 ^ d - 1))), ?_, fun p q1 q2 => by rw [h0 p q1 q2, if_pos (by omega)]⟩
    have : ¬ 1 + (2 * 2 ^ d - 1) < 2 * 2 ^ d := by omega
    rw [e214_84]
    simp (disch := first | omega | exact tl_l | exact tT_len | (simp only [List.length_cons, List.length_nil])) only [e214_86, e214_87, e214_88, e214_91, e214_92, e214_95, e214_96, e214_99, e214_101, e214_102, e214_105, e214_107, e214_108, e214_111, e214_112, e214_115, e214_117, e214_118, e214_121, e214_122, e214_125, e214_126, e214_127, e214_130, kv_s, kh_s, kr_s, kr_v, kn_s, z0, z1, z2, nI_ltI, nI_leI, nI_eq, nI_add, oN, bz0, bz1, bw0, bw1, ltT, ltF, leT, leF, eqT, eqF, if_true, if_false, kI_n, wI_n, and_true, true_and, and_false, false_and, not_true, not_false_eq_true, mwo, M_keys hh, nI_two]
  | succ n ih =>
    intro k N hk h0
    obtain ⟨N', l5', e1, e2⟩ := ih (k + 1) (upd N (1 + k) (bI (P (1 + k) || br d U (1 + k)))) (by omega) (fun p q1 q2 => by
      by_cases hp : p = 1 + k
      · subst hp; rw [pk_us, if_pos (by omega)]
      · rw [pk_un hp, h0 p q1 q2]
        by_cases hz : p < 1 + k
        · rw [if_pos hz, if_pos (by omega)]
        · rw [if_neg hz, if_neg (by omega)])
    refine ⟨N', l5', ?_, e2⟩
    rw [← e1]
    have n1 := h0 (1 + k) (by omega) (by omega)
    rw [if_neg (by omega)] at n1
    have u1 := hU (1 + k) (by omega) (by omega)
    rw [e214_84]
    cases hP : P (1 + k) with
    | true =>
      rw [hP] at n1
      simp (disch := first | omega | exact tl_l | exact tT_len | (simp only [List.length_cons, List.length_nil])) only [e214_86, e214_87, e214_88, e214_91, e214_92, e214_95, e214_96, e214_99, e214_101, e214_102, e214_105, e214_107, e214_108, e214_111, e214_112, e214_115, e214_117, e214_118, e214_121, e214_122, e214_125, e214_126, e214_127, e214_130, kv_s, kh_s, kr_s, kr_v, kn_s, z0, z1, z2, nI_ltI, nI_leI, nI_eq, nI_add, oN, bz0, bz1, bw0, bw1, ltT, ltF, leT, leF, eqT, eqF, if_true, if_false, kI_n, wI_n, and_true, true_and, and_false, false_and, not_true, not_false_eq_true, mwo, mwr_0, mwr_1, mwr_2, mwg_3, mwp_3, mwr_4, mwg_5, mwp_5, mwg_6, mwp_6, mwr_7, mwr_8, mwg_9, mwp_9, mwg_10, mwp_10, mwg_11, mwp_11, mwr_12, mwg_13, mwp_13, mwr_14, mwr_15, mwr_16, mwr_17, mwr_18, mwr_19, mwg_20, mwp_20, mwr_21, mwr_22, mwr_23, mwa_1, mwu_1, mwa_2, mwu_2, mwa_3, mwu_3, mwa_4, mwu_4, mwa_5, mwu_5, mwa_6, mwu_6, mwa_7, mwu_7, mwa_8, mwu_8, mwa_9, mwu_9, mwa_10, mwu_10, mwa_11, mwu_11, mwa_12, mwu_12, mwa_13, mwu_13, mwa_14, mwu_14, mwa_15, mwu_15, mwa_16, mwu_16, vu_at, vu_ne, pk_us, pk_un, kB_n, wB_n, kL_n, wL_n, M_keys hh, nI_two, h11, n1, bI, n01, vnb1, vu_vu, Bool.true_or, Nat.add_assoc]
    | false =>
      rw [hP] at n1
      cases hu : br d U (1 + k) with
      | true =>
        rw [hu] at u1
        simp (disch := first | omega | exact tl_l | exact tT_len | (simp only [List.length_cons, List.length_nil])) only [e214_86, e214_87, e214_88, e214_91, e214_92, e214_95, e214_96, e214_99, e214_101, e214_102, e214_105, e214_107, e214_108, e214_111, e214_112, e214_115, e214_117, e214_118, e214_121, e214_122, e214_125, e214_126, e214_127, e214_130, kv_s, kh_s, kr_s, kr_v, kn_s, z0, z1, z2, nI_ltI, nI_leI, nI_eq, nI_add, oN, bz0, bz1, bw0, bw1, ltT, ltF, leT, leF, eqT, eqF, if_true, if_false, kI_n, wI_n, and_true, true_and, and_false, false_and, not_true, not_false_eq_true, mwo, mwr_0, mwr_1, mwr_2, mwg_3, mwp_3, mwr_4, mwg_5, mwp_5, mwg_6, mwp_6, mwr_7, mwr_8, mwg_9, mwp_9, mwg_10, mwp_10, mwg_11, mwp_11, mwr_12, mwg_13, mwp_13, mwr_14, mwr_15, mwr_16, mwr_17, mwr_18, mwr_19, mwg_20, mwp_20, mwr_21, mwr_22, mwr_23, mwa_1, mwu_1, mwa_2, mwu_2, mwa_3, mwu_3, mwa_4, mwu_4, mwa_5, mwu_5, mwa_6, mwu_6, mwa_7, mwu_7, mwa_8, mwu_8, mwa_9, mwu_9, mwa_10, mwu_10, mwa_11, mwu_11, mwa_12, mwu_12, mwa_13, mwu_13, mwa_14, mwu_14, mwa_15, mwu_15, mwa_16, mwu_16, vu_at, vu_ne, pk_us, pk_un, kB_n, wB_n, kL_n, wL_n, M_keys hh, nI_two, h11, n1, u1, bI, n01, vnb1, vu_vu, Bool.false_or, Bool.false_eq_true, Nat.add_assoc]
      | false =>
        rw [hu] at u1
        simp (disch := first | omega | exact tl_l | exact tT_len | (simp only [List.length_cons, List.length_nil])) only [e214_86, e214_87, e214_88, e214_91, e214_92, e214_95, e214_96, e214_99, e214_101, e214_102, e214_105, e214_107, e214_108, e214_111, e214_112, e214_115, e214_117, e214_118, e214_121, e214_122, e214_125, e214_126, e214_127, e214_130, kv_s, kh_s, kr_s, kr_v, kn_s, z0, z1, z2, nI_ltI, nI_leI, nI_eq, nI_add, oN, bz0, bz1, bw0, bw1, ltT, ltF, leT, leF, eqT, eqF, if_true, if_false, kI_n, wI_n, and_true, true_and, and_false, false_and, not_true, not_false_eq_true, mwo, mwr_0, mwr_1, mwr_2, mwg_3, mwp_3, mwr_4, mwg_5, mwp_5, mwg_6, mwp_6, mwr_7, mwr_8, mwg_9, mwp_9, mwg_10, mwp_10, mwg_11, mwp_11, mwr_12, mwg_13, mwp_13, mwr_14, mwr_15, mwr_16, mwr_17, mwr_18, mwr_19, mwg_20, mwp_20, mwr_21, mwr_22, mwr_23, mwa_1, mwu_1, mwa_2, mwu_2, mwa_3, mwu_3, mwa_4, mwu_4, mwa_5, mwu_5, mwa_6, mwu_6, mwa_7, mwu_7, mwa_8, mwu_8, mwa_9, mwu_9, mwa_10, mwu_10, mwa_11, mwu_11, mwa_12, mwu_12, mwa_13, mwu_13, mwa_14, mwu_14, mwa_15, mwu_15, mwa_16, mwu_16, vu_at, vu_ne, pk_us, pk_un, kB_n, wB_n, kL_n, wL_n, M_keys hh, nI_two, h11, n1, u1, bI, n01, vnb0, vu_vu, Bool.false_or, Bool.false_eq_true, Nat.add_assoc]
theorem M_all_u {v : Nat} (h1 : f ≤ v) (h2 : v ≤ l) {l1 l2 : Value} : ∀ (n j : Nat) (A : Nat → Nat → Int32) {l5 : Value}, nowM (A 1) d f l V → f + j + n = v → (∀ p, 1 ≤ p → p < 2 * 2 ^ d → A 12 p = bI (sb d V v f j p)) → ∃ N11 N12 l5', den 214 68 [.ref m, l1, l2, .int (nI v), .int (nI (f + j)), l5] [] (mw σ m A R I) = den 214 139 [.ref m, l1, l2, .int (nI v), .int (nI v), l5'] [] (mw σ m (va_up (va_up A 11 N11) 12 N12) R I) ∧ ∀ p, 1 ≤ p → p < 2 * 2 ^ d → N12 p = bI (sb d V v f (v - f) p) := by
  intro n
  induction n with
  | zero =>
    intro j A l5 h hj hs
    have hK := h.K
    have e : f + j = v := by omega
    refine ⟨A 11, A 12, l5, ?_, fun p q1 q2 => by rw [hs p q1 q2, show v - f = j by omega]⟩
    rw [vu_id, vu_id, e]
    rw [e214_68]
    simp (disch := first | omega | exact tl_l | exact tT_len | (simp only [List.length_cons, List.length_nil])) only [e214_70, e214_71, kv_s, kh_s, kr_s, kr_v, kn_s, z0, z1, z2, nI_ltI, nI_leI, nI_eq, nI_add, oN, bz0, bz1, bw0, bw1, ltT, ltF, leT, leF, eqT, eqF, if_true, if_false, kI_n, wI_n, and_true, true_and, and_false, false_and, not_true, not_false_eq_true]
  | succ n ih =>
    intro j A l5 h hj hs
    have hK := h.K
    obtain ⟨N, n1, n2⟩ := M_layAlike (σ := σ) (m := m) (R := R) (I := I) h h1 h2 (show f ≤ f + j by omega) (show f + j ≤ l by omega)
    have g1 : nowM (va_up A 11 N 1) d f l V := by rw [vu_ne (by omega)]; exact h
    obtain ⟨N', l5', o1, o2⟩ := M_all_or (σ := σ) (m := m) (A := va_up A 11 N) (R := R) (I := I) g1 (v := v) (u := f + j) (P := sb d V v f j) (U := dl (V v) (V (f + j))) (by rw [vu_at]; exact n2) (l1 := l1) (l2 := l2) (l3 := .int (nI v)) (l4 := .int (nI (f + j))) (2 * 2 ^ d - 1) 0 (A 12) (Nat.zero_add _) (fun p q1 q2 => by rw [if_neg (by omega)]; exact hs p q1 q2)
    have hid : va_up (va_up A 11 N) 12 (A 12) = va_up A 11 N := by
      have : (va_up A 11 N) 12 = A 12 := vu_ne (by omega)
      rw [← this, vu_id]
    rw [hid] at o1
    obtain ⟨N11, N12, l5'', e1, e2⟩ := ih (j + 1) (va_up (va_up A 11 N) 12 N') (l5 := l5') (by rw [vu_ne (by omega)]; exact g1) (by omega) (fun p q1 q2 => by rw [vu_at, o2 p q1 q2, sb])
    have hsw : va_up (va_up (va_up (va_up A 11 N) 12 N') 11 N11) 12 N12 = va_up (va_up A 11 N11) 12 N12 := by
      funext i
      by_cases i1 : i = 12
      · subst i1; rw [vu_at, vu_at]
      · rw [vu_ne i1, vu_ne i1]
        by_cases i2 : i = 11
        · subst i2; rw [vu_at, vu_at]
        · rw [vu_ne i2, vu_ne i2, vu_ne i1, vu_ne i2]
    rw [hsw] at e1
    refine ⟨N11, N12, l5'', ?_, e2⟩
    rw [← e1]
    rw [e214_68]
    simp (disch := first | omega | exact tl_l | exact tT_len | (simp only [List.length_cons, List.length_nil])) only [e214_70, e214_71, e214_74, e214_75, e214_76, e214_78, e214_81, e214_82, kv_s, kh_s, kr_s, kr_v, kn_s, z0, z1, z2, nI_ltI, nI_leI, nI_eq, nI_add, oN, bz0, bz1, bw0, bw1, ltT, ltF, leT, leF, eqT, eqF, if_true, if_false, kI_n, wI_n, and_true, true_and, and_false, false_and, not_true, not_false_eq_true, mwo, n1]
    rw [o1]
    simp (disch := first | omega | exact tl_l | exact tT_len | (simp only [List.length_cons, List.length_nil])) only [e214_133, e214_136, kv_s, kh_s, kr_s, kr_v, kn_s, z0, z1, z2, nI_ltI, nI_leI, nI_eq, nI_add, oN, bz0, bz1, bw0, bw1, ltT, ltF, leT, leF, eqT, eqF, if_true, if_false, kI_n, wI_n, and_true, true_and, and_false, false_and, not_true, not_false_eq_true, Nat.add_assoc]
theorem M_all_cnt (h : nowM (A 1) d f l V) {v : Nat} (hB : ∀ p, 1 ≤ p → p < 2 * 2 ^ d → A 6 p = bI (br d (V v) p)) (hS : ∀ p, 1 ≤ p → p < 2 * 2 ^ d → A 12 p = bI (sb d V v f (v - f) p)) {x : Nat} {l2 l3 l5 : Value} : ∀ (n k : Nat), k + n = 2 * 2 ^ d - 1 → den 214 142 [.ref m, .int (nI (x + cnt (nw d V f v) 1 k)), l2, l3, .int (nI (1 + k)), l5] [] (mw σ m A R I) = den 214 187 [.ref m, .int (nI (x + cnt (nw d V f v) 1 (2 * 2 ^ d - 1))), l2, l3, .int (nI (2 * 2 ^ d)), l5] [] (mw σ m A R I) := by
  have hK := h.K
  intro n
  induction n with
  | zero =>
    intro k hk
    have : k = 2 * 2 ^ d - 1 := by omega
    subst this
    have e : 1 + (2 * 2 ^ d - 1) = 2 * 2 ^ d := by omega
    rw [e]
    rw [e214_142]
    simp (disch := first | omega | exact tl_l | exact tT_len | (simp only [List.length_cons, List.length_nil])) only [e214_144, e214_145, e214_146, e214_149, e214_150, e214_153, e214_154, e214_155, e214_158, e214_160, e214_161, e214_164, e214_165, e214_168, e214_170, e214_171, e214_174, e214_175, e214_178, e214_179, e214_180, e214_181, e214_184, kv_s, kh_s, kr_s, kr_v, kn_s, z0, z1, z2, nI_ltI, nI_leI, nI_eq, nI_add, oN, bz0, bz1, bw0, bw1, ltT, ltF, leT, leF, eqT, eqF, if_true, if_false, kI_n, wI_n, and_true, true_and, and_false, false_and, not_true, not_false_eq_true, mwo, M_keys h, nI_two]
  | succ n ih =>
    intro k hk
    have ec : cnt (nw d V f v) 1 (k + 1) = cnt (nw d V f v) 1 k + if nw d V f v (1 + k) = true then 1 else 0 := rfl
    have b1 := hB (1 + k) (by omega) (by omega)
    have s1 := hS (1 + k) (by omega) (by omega)
    rw [← ih (k + 1) (by omega), ec, nw]
    rw [e214_142]
    cases hb : br d (V v) (1 + k) with
    | true =>
      rw [hb] at b1
      simp (disch := first | omega | exact tl_l | exact tT_len | (simp only [List.length_cons, List.length_nil])) only [e214_144, e214_145, e214_146, e214_149, e214_150, e214_153, e214_154, e214_155, e214_158, e214_160, e214_161, e214_164, e214_165, e214_168, e214_170, e214_171, e214_174, e214_175, e214_178, e214_179, e214_180, e214_181, e214_184, kv_s, kh_s, kr_s, kr_v, kn_s, z0, z1, z2, nI_ltI, nI_leI, nI_eq, nI_add, oN, bz0, bz1, bw0, bw1, ltT, ltF, leT, leF, eqT, eqF, if_true, if_false, kI_n, wI_n, and_true, true_and, and_false, false_and, not_true, not_false_eq_true, mwo, mwr_0, mwr_1, mwr_2, mwg_3, mwp_3, mwr_4, mwg_5, mwp_5, mwg_6, mwp_6, mwr_7, mwr_8, mwg_9, mwp_9, mwg_10, mwp_10, mwg_11, mwp_11, mwr_12, mwg_13, mwp_13, mwr_14, mwr_15, mwr_16, mwr_17, mwr_18, mwr_19, mwg_20, mwp_20, mwr_21, mwr_22, mwr_23, mwa_1, mwu_1, mwa_2, mwu_2, mwa_3, mwu_3, mwa_4, mwu_4, mwa_5, mwu_5, mwa_6, mwu_6, mwa_7, mwu_7, mwa_8, mwu_8, mwa_9, mwu_9, mwa_10, mwu_10, mwa_11, mwu_11, mwa_12, mwu_12, mwa_13, mwu_13, mwa_14, mwu_14, mwa_15, mwu_15, mwa_16, mwu_16, vu_at, vu_ne, pk_us, pk_un, kB_n, wB_n, kL_n, wL_n, M_keys h, nI_two, b1, bI, n01, Bool.not_true, Bool.false_and, Bool.false_eq_true, Nat.add_zero, Nat.add_assoc]
    | false =>
      rw [hb] at b1
      cases hs : sb d V v f (v - f) (1 + k) with
      | true =>
        rw [hs] at s1
        simp (disch := first | omega | exact tl_l | exact tT_len | (simp only [List.length_cons, List.length_nil])) only [e214_144, e214_145, e214_146, e214_149, e214_150, e214_153, e214_154, e214_155, e214_158, e214_160, e214_161, e214_164, e214_165, e214_168, e214_170, e214_171, e214_174, e214_175, e214_178, e214_179, e214_180, e214_181, e214_184, kv_s, kh_s, kr_s, kr_v, kn_s, z0, z1, z2, nI_ltI, nI_leI, nI_eq, nI_add, oN, bz0, bz1, bw0, bw1, ltT, ltF, leT, leF, eqT, eqF, if_true, if_false, kI_n, wI_n, and_true, true_and, and_false, false_and, not_true, not_false_eq_true, mwo, mwr_0, mwr_1, mwr_2, mwg_3, mwp_3, mwr_4, mwg_5, mwp_5, mwg_6, mwp_6, mwr_7, mwr_8, mwg_9, mwp_9, mwg_10, mwp_10, mwg_11, mwp_11, mwr_12, mwg_13, mwp_13, mwr_14, mwr_15, mwr_16, mwr_17, mwr_18, mwr_19, mwg_20, mwp_20, mwr_21, mwr_22, mwr_23, mwa_1, mwu_1, mwa_2, mwu_2, mwa_3, mwu_3, mwa_4, mwu_4, mwa_5, mwu_5, mwa_6, mwu_6, mwa_7, mwu_7, mwa_8, mwu_8, mwa_9, mwu_9, mwa_10, mwu_10, mwa_11, mwu_11, mwa_12, mwu_12, mwa_13, mwu_13, mwa_14, mwu_14, mwa_15, mwu_15, mwa_16, mwu_16, vu_at, vu_ne, pk_us, pk_un, kB_n, wB_n, kL_n, wL_n, M_keys h, nI_two, b1, s1, bI, n01, Bool.not_true, Bool.not_false, Bool.true_and, Bool.false_eq_true, Nat.add_zero, Nat.add_assoc]
      | false =>
        rw [hs] at s1
        simp (disch := first | omega | exact tl_l | exact tT_len | (simp only [List.length_cons, List.length_nil])) only [e214_144, e214_145, e214_146, e214_149, e214_150, e214_153, e214_154, e214_155, e214_158, e214_160, e214_161, e214_164, e214_165, e214_168, e214_170, e214_171, e214_174, e214_175, e214_178, e214_179, e214_180, e214_181, e214_184, kv_s, kh_s, kr_s, kr_v, kn_s, z0, z1, z2, nI_ltI, nI_leI, nI_eq, nI_add, oN, bz0, bz1, bw0, bw1, ltT, ltF, leT, leF, eqT, eqF, if_true, if_false, kI_n, wI_n, and_true, true_and, and_false, false_and, not_true, not_false_eq_true, mwo, mwr_0, mwr_1, mwr_2, mwg_3, mwp_3, mwr_4, mwg_5, mwp_5, mwg_6, mwp_6, mwr_7, mwr_8, mwg_9, mwp_9, mwg_10, mwp_10, mwg_11, mwp_11, mwr_12, mwg_13, mwp_13, mwr_14, mwr_15, mwr_16, mwr_17, mwr_18, mwr_19, mwg_20, mwp_20, mwr_21, mwr_22, mwr_23, mwa_1, mwu_1, mwa_2, mwu_2, mwa_3, mwu_3, mwa_4, mwu_4, mwa_5, mwu_5, mwa_6, mwu_6, mwa_7, mwu_7, mwa_8, mwu_8, mwa_9, mwu_9, mwa_10, mwu_10, mwa_11, mwu_11, mwa_12, mwu_12, mwa_13, mwu_13, mwa_14, mwu_14, mwa_15, mwu_15, mwa_16, mwu_16, vu_at, vu_ne, pk_us, pk_un, kB_n, wB_n, kL_n, wL_n, M_keys h, nI_two, b1, s1, bI, n01, Bool.not_true, Bool.not_false, Bool.true_and, Bool.false_eq_true, Nat.add_zero, Nat.add_assoc]
theorem M_every_loop (hW : ∀ v, f ≤ v → v ≤ l → plW d (V v)) : ∀ (n j : Nat) (A : Nat → Nat → Int32) {l4 l5 : Value}, nowM (A 1) d f l V → f + j + n = l + 1 → ∃ A', den 214 16 [.ref m, .int (nI (nwS d V f j)), .int (nI (evS d V f j)), .int (nI (f + j)), l4, l5] [] (mw σ m A R I) = some (some (.int (nI (nwS d V f (l + 1 - f)))), mw σ m A' (rl R [(nI (evS d V f (l + 1 - f))).toInt64]) (upd I 5 (nI 1))) ∧ stay A A' := by
  intro n
  induction n with
  | zero =>
    intro j A l4 l5 h hj
    have hK := h.K
    refine ⟨A, ?_, stay.rf⟩
    have e : j = l + 1 - f := by omega
    have : l < f + j := by omega
    subst e
    rw [e214_16]
    simp (disch := first | omega | exact tl_l | exact tT_len | (simp only [List.length_cons, List.length_nil])) only [e214_0, e214_1, e214_2, e214_5, e214_6, e214_7, e214_8, e214_9, e214_10, e214_13, e214_14, e214_15, e214_17, e214_18, e214_21, e214_24, e214_25, e214_26, e214_27, e214_30, e214_31, e214_32, e214_33, e214_37, e214_38, e214_39, e214_42, e214_43, e214_46, e214_47, e214_50, e214_52, e214_53, e214_54, e214_57, e214_60, e214_61, e214_64, e214_65, e214_66, e214_70, e214_71, e214_74, e214_75, e214_76, e214_78, e214_81, e214_82, e214_86, e214_87, e214_88, e214_91, e214_92, e214_95, e214_96, e214_99, e214_101, e214_102, e214_105, e214_107, e214_108, e214_111, e214_112, e214_115, e214_117, e214_118, e214_121, e214_122, e214_125, e214_126, e214_127, e214_130, e214_133, e214_136, e214_139, e214_140, e214_144, e214_145, e214_146, e214_149, e214_150, e214_153, e214_154, e214_155, e214_158, e214_160, e214_161, e214_164, e214_165, e214_168, e214_170, e214_171, e214_174, e214_175, e214_178, e214_179, e214_180, e214_181, e214_184, e214_187, e214_190, e214_193, e214_194, e214_195, e214_198, e214_199, e214_200, e214_201, e214_204, e214_205, kv_s, kh_s, kr_s, kr_v, kn_s, z0, z1, z2, nI_ltI, nI_leI, nI_eq, nI_add, oN, bz0, bz1, bw0, bw1, ltT, ltF, leT, leF, eqT, eqF, if_true, if_false, kI_n, wI_n, and_true, true_and, and_false, false_and, not_true, not_false_eq_true, mwo, mwr_0, mwr_1, mwr_2, mwg_3, mwp_3, mwr_4, mwg_5, mwp_5, mwg_6, mwp_6, mwr_7, mwr_8, mwg_9, mwp_9, mwg_10, mwp_10, mwg_11, mwp_11, mwr_12, mwg_13, mwp_13, mwr_14, mwr_15, mwr_16, mwr_17, mwr_18, mwr_19, mwg_20, mwp_20, mwr_21, mwr_22, mwr_23, mwa_1, mwu_1, mwa_2, mwu_2, mwa_3, mwu_3, mwa_4, mwu_4, mwa_5, mwu_5, mwa_6, mwu_6, mwa_7, mwu_7, mwa_8, mwu_8, mwa_9, mwu_9, mwa_10, mwu_10, mwa_11, mwu_11, mwa_12, mwu_12, mwa_13, mwu_13, mwa_14, mwu_14, mwa_15, mwu_15, mwa_16, mwu_16, vu_at, vu_ne, pk_us, pk_un, kB_n, wB_n, kL_n, wL_n, mwo, M_latest h, M_tell0]
  | succ n ih =>
    intro j A l4 l5 h hj
    have hK := h.K
    obtain ⟨M1, B1, m1, m2⟩ := M_filledAll (σ := σ) (m := m) (A := A) (R := R) (I := I) h (show f ≤ f + j by omega) (show f + j ≤ l by omega) (hW (f + j) (by omega) (by omega))
    have g1 : nowM (lA A M1 B1 1) d f l V := h
    obtain ⟨N0, s1, s2⟩ := M_all_seen0 (σ := σ) (m := m) (A := lA A M1 B1) (R := R) (I := I) g1 (l1 := .int (nI (nwS d V f j))) (l2 := .int (nI (evS d V f j + cnt (nz d (V (f + j))) 1 (2 * 2 ^ d - 1)))) (l3 := .int (nI (f + j))) (l5 := l5) (2 * 2 ^ d - 1) 0 (lA A M1 B1 12) (Nat.zero_add _) (fun p q1 q2 => absurd q2 (by omega))
    rw [vu_id] at s1
    have g2 : nowM (va_up (lA A M1 B1) 12 N0 1) d f l V := by rw [vu_ne (by omega)]; exact g1
    obtain ⟨N11, N12, l5', u1, u2⟩ := M_all_u (σ := σ) (m := m) (R := R) (I := I) (d := d) (f := f) (l := l) (V := V) (v := f + j) (by omega) (by omega) (l1 := .int (nI (nwS d V f j))) (l2 := .int (nI (evS d V f j + cnt (nz d (V (f + j))) 1 (2 * 2 ^ d - 1)))) j 0 (va_up (lA A M1 B1) 12 N0) (l5 := l5) g2 (by omega) (fun p q1 q2 => by rw [vu_at, s2 p q1 q2]; rfl)
    rw [Nat.add_zero] at u1
    have g3 : nowM (va_up (va_up (va_up (lA A M1 B1) 12 N0) 11 N11) 12 N12 1) d f l V := by rw [vu_ne (by omega), vu_ne (by omega)]; exact g2
    have c1 := M_all_cnt (σ := σ) (m := m) (A := va_up (va_up (va_up (lA A M1 B1) 12 N0) 11 N11) 12 N12) (R := R) (I := I) g3 (v := f + j) (fun p q1 q2 => by rw [vu_ne (by omega), vu_ne (by omega), vu_ne (by omega)]; exact (m2 p q1 q2).2) (fun p q1 q2 => by rw [vu_at]; exact u2 p q1 q2) (x := nwS d V f j) (l2 := .int (nI (evS d V f j + cnt (nz d (V (f + j))) 1 (2 * 2 ^ d - 1)))) (l3 := .int (nI (f + j))) (l5 := l5') (2 * 2 ^ d - 1) 0 (Nat.zero_add _)
    obtain ⟨A', e1, e2⟩ := ih (j + 1) (va_up (va_up (va_up (lA A M1 B1) 12 N0) 11 N11) 12 N12) (l4 := .int (nI (2 * 2 ^ d))) (l5 := l5') g3 (by omega)
    refine ⟨A', ?_, (((stay_lA.tr (stay_up (by omega))).tr (stay_up (by omega))).tr (stay_up (by omega))).tr e2⟩
    rw [← e1, nwS, evS]
    rw [e214_16]
    simp (disch := first | omega | exact tl_l | exact tT_len | (simp only [List.length_cons, List.length_nil])) only [e214_17, e214_18, e214_21, e214_24, e214_25, e214_26, e214_27, e214_30, e214_31, e214_32, e214_33, kv_s, kh_s, kr_s, kr_v, kn_s, z0, z1, z2, nI_ltI, nI_leI, nI_eq, nI_add, oN, bz0, bz1, bw0, bw1, ltT, ltF, leT, leF, eqT, eqF, if_true, if_false, kI_n, wI_n, and_true, true_and, and_false, false_and, not_true, not_false_eq_true, mwo, M_latest h, m1]
    rw [s1]
    simp (disch := first | omega | exact tl_l | exact tT_len | (simp only [List.length_cons, List.length_nil])) only [e214_60, e214_61, e214_64, e214_65, e214_66, kv_s, kh_s, kr_s, kr_v, kn_s, z0, z1, z2, nI_ltI, nI_leI, nI_eq, nI_add, oN, bz0, bz1, bw0, bw1, ltT, ltF, leT, leF, eqT, eqF, if_true, if_false, kI_n, wI_n, and_true, true_and, and_false, false_and, not_true, not_false_eq_true, mwo, mwr_0, mwr_1, mwr_2, mwg_3, mwp_3, mwr_4, mwg_5, mwp_5, mwg_6, mwp_6, mwr_7, mwr_8, mwg_9, mwp_9, mwg_10, mwp_10, mwg_11, mwp_11, mwr_12, mwg_13, mwp_13, mwr_14, mwr_15, mwr_16, mwr_17, mwr_18, mwr_19, mwg_20, mwp_20, mwr_21, mwr_22, mwr_23, mwa_1, mwu_1, mwa_2, mwu_2, mwa_3, mwu_3, mwa_4, mwu_4, mwa_5, mwu_5, mwa_6, mwu_6, mwa_7, mwu_7, mwa_8, mwu_8, mwa_9, mwu_9, mwa_10, mwu_10, mwa_11, mwu_11, mwa_12, mwu_12, mwa_13, mwu_13, mwa_14, mwu_14, mwa_15, mwu_15, mwa_16, mwu_16, vu_at, vu_ne, pk_us, pk_un, kB_n, wB_n, kL_n, wL_n, g2.2.1, g1.2.1]
    rw [u1]
    simp (disch := first | omega | exact tl_l | exact tT_len | (simp only [List.length_cons, List.length_nil])) only [e214_139, e214_140, kv_s, kh_s, kr_s, kr_v, kn_s, z0, z1, z2, nI_ltI, nI_leI, nI_eq, nI_add, oN, bz0, bz1, bw0, bw1, ltT, ltF, leT, leF, eqT, eqF, if_true, if_false, kI_n, wI_n, and_true, true_and, and_false, false_and, not_true, not_false_eq_true]
    rw [cnt, Nat.add_zero] at c1
    rw [c1]
    simp (disch := first | omega | exact tl_l | exact tT_len | (simp only [List.length_cons, List.length_nil])) only [e214_187, e214_190, kv_s, kh_s, kr_s, kr_v, kn_s, z0, z1, z2, nI_ltI, nI_leI, nI_eq, nI_add, oN, bz0, bz1, bw0, bw1, ltT, ltF, leT, leF, eqT, eqF, if_true, if_false, kI_n, wI_n, and_true, true_and, and_false, false_and, not_true, not_false_eq_true, Nat.add_assoc]
end AA
theorem J_all : Jn 103 214 [] := by
  rintro c i σ hi ⟨z, n, B, L, q, K, A, R, I, A2, R2, I2, h⟩
  obtain ⟨T, hb⟩ := h.rb
  have hN := h.nm
  have hd := hb.d8
  have hK := hb.K
  have hl := hb.fl
  obtain ⟨dc, dc1, hI⟩ := h.2.2.2.1.2.2.2.2
  obtain ⟨t, t1, t2⟩ := hb.t (v := z.2.1) (by omega) (by omega)
  by_cases hfl : z.2.1 = z.2.2.1
  · -- one version alone: nothing is chosen
    have e1' : nwS z.1 z.2.2.2 z.2.1 (z.2.2.1 + 1 - z.2.1) = cnt (nz z.1 (z.2.2.2 z.2.1)) 1 (2 * 2 ^ z.1 - 1) := by
      rw [show z.2.2.1 + 1 - z.2.1 = 0 + 1 by omega, nwS, nwS, nw_first, Nat.zero_add]
    have e2' : evS z.1 z.2.2.2 z.2.1 (z.2.2.1 + 1 - z.2.1) = cnt (nz z.1 (z.2.2.2 z.2.1)) 1 (2 * 2 ^ z.1 - 1) := by
      rw [show z.2.2.1 + 1 - z.2.1 = 0 + 1 by omega, evS, evS, Nat.add_zero, Nat.zero_add]
    refine Inv_tell h hi (L' := [(nI (evS z.1 z.2.2.2 z.2.1 (z.2.2.1 + 1 - z.2.1))).toInt64]) (k := 1) (b := .int (nI (nwS z.1 z.2.2.2 z.2.1 (z.2.2.1 + 1 - z.2.1)))) ?_ ?_ rfl (by omega)
    · have h := hb
      rw [e1', e2']
      rw [q103]
      simp (disch := first | omega | exact tl_l | exact tT_len | (simp only [List.length_cons, List.length_nil])) only [e103_0, e103_1, e103_2, e103_5, e103_8, e103_9, e103_10, e103_11, e103_14, e103_15, e103_18, e103_21, e103_24, e103_27, e103_28, e103_29, e103_32, e103_33, e103_34, e103_35, e103_36, e103_39, e103_42, e103_43, e103_44, e103_48, e103_49, e103_52, e103_55, e103_58, e103_59, e103_60, e103_63, e103_65, e103_68, e103_71, e103_72, e103_73, e103_76, e103_77, e103_78, e103_79, e103_80, e103_82, e103_85, e103_86, e103_87, e103_90, e103_93, e103_94, e103_97, e103_100, e103_101, e103_104, e103_105, e103_106, e103_109, e103_110, kv_s, kh_s, kr_s, kr_v, kn_s, z0, z1, z2, nI_ltI, nI_leI, nI_eq, nI_add, oN, bz0, bz1, bw0, bw1, ltT, ltF, leT, leF, eqT, eqF, if_true, if_false, kI_n, wI_n, and_true, true_and, and_false, false_and, not_true, not_false_eq_true, cwo_1, cwr_1, cwg_0, cwg_1, cwg_2, cwa_0, cwl_0, cwo_3, cwr_3, cwg_3, cwa_R, cwl_R, cwo_5, cwr_5, cwg_4, cwg_5, cwg_6, cwg_7, cwg_8, cwa_1, cwl_1, cwo_7, cwr_7, cwg_9, cwg_10, cwg_11, cwg_12, cwg_13, cwa_2, cwl_2, cwo_17, cwr_17, cwg_14, cwa_3, cwl_3, cwp_0, cwp_1, cwp_2, cwp_3, cwp_4, cwp_5, cwp_6, cwp_7, cwp_8, cwp_9, cwp_10, cwp_11, cwp_12, cwp_13, cwp_14, cwu_0, cwu_R, cwu_1, cwu_2, cwu_3, vu_at, vu_ne, pk_us, pk_un, h.x.f0, h.x.f1, h.x.f2, h.x.f3, h.x.f4, h.x.f5, h.x.f6, h.x.f7, h.x.o, h.hi.o, h.hi.gd, h.hi.gf, h.hi.gl, Hi_keys h.hi h.d8, Hi_hasKey h.hi h.d8, Rw_empty, Rw_add, List.nil_append, List.cons_append, upd_upd, cwo_1, cwo_3, cwo_5, cwo_7, cwo_17, Bool.false_eq_true, n01, Hi_hold_is h.hi (show z.2.1 < 2 ^ 31 by omega) t1, t2.o, t2.f, t2.fo, T_nodesIn t2, nI_two]
      have : z.2.2.1 < z.2.1 + 1 := by omega
      rw [e103_46]
      simp (disch := first | omega | exact tl_l | exact tT_len | (simp only [List.length_cons, List.length_nil])) only [e103_0, e103_1, e103_2, e103_5, e103_8, e103_9, e103_10, e103_11, e103_14, e103_15, e103_18, e103_21, e103_24, e103_27, e103_28, e103_29, e103_32, e103_33, e103_34, e103_35, e103_36, e103_39, e103_42, e103_43, e103_44, e103_48, e103_49, e103_52, e103_55, e103_58, e103_59, e103_60, e103_63, e103_65, e103_68, e103_71, e103_72, e103_73, e103_76, e103_77, e103_78, e103_79, e103_80, e103_82, e103_85, e103_86, e103_87, e103_90, e103_93, e103_94, e103_97, e103_100, e103_101, e103_104, e103_105, e103_106, e103_109, e103_110, kv_s, kh_s, kr_s, kr_v, kn_s, z0, z1, z2, nI_ltI, nI_leI, nI_eq, nI_add, oN, bz0, bz1, bw0, bw1, ltT, ltF, leT, leF, eqT, eqF, if_true, if_false, kI_n, wI_n, and_true, true_and, and_false, false_and, not_true, not_false_eq_true, cwo_1, cwr_1, cwg_0, cwg_1, cwg_2, cwa_0, cwl_0, cwo_3, cwr_3, cwg_3, cwa_R, cwl_R, cwo_5, cwr_5, cwg_4, cwg_5, cwg_6, cwg_7, cwg_8, cwa_1, cwl_1, cwo_7, cwr_7, cwg_9, cwg_10, cwg_11, cwg_12, cwg_13, cwa_2, cwl_2, cwo_17, cwr_17, cwg_14, cwa_3, cwl_3, cwp_0, cwp_1, cwp_2, cwp_3, cwp_4, cwp_5, cwp_6, cwp_7, cwp_8, cwp_9, cwp_10, cwp_11, cwp_12, cwp_13, cwp_14, cwu_0, cwu_R, cwu_1, cwu_2, cwu_3, vu_at, vu_ne, pk_us, pk_un, h.x.f0, h.x.f1, h.x.f2, h.x.f3, h.x.f4, h.x.f5, h.x.f6, h.x.f7, h.x.o, h.hi.o, h.hi.gd, h.hi.gf, h.hi.gl, Hi_keys h.hi h.d8, Hi_hasKey h.hi h.d8, Rw_empty, Rw_add, List.nil_append, List.cons_append, upd_upd, cwo_1, cwo_3, cwo_5, cwo_7, cwo_17, Bool.false_eq_true, n01]
    · intro τ
      obtain ⟨A', e1, e2⟩ := M_every_loop (σ := τ) (m := c + 24) (R := R2) (I := upd I2 6 (nI 0)) (d := z.1) (f := z.2.1) (l := z.2.2.1) (V := z.2.2.2) (fun v a b => (h.ok v a b).1) (z.2.2.1 + 1 - z.2.1) 0 A2 (l4 := junk) (l5 := junk) hN (by omega)
      refine ⟨A', upd (upd I2 6 (nI 0)) 5 (nI 1), ?_, e2, by rw [pk_un (by omega), pk_un (by omega)], pk_us⟩
      rw [← e1]
      rw [q214]
      simp (disch := first | omega | exact tl_l | exact tT_len | (simp only [List.length_cons, List.length_nil])) only [e214_0, e214_1, e214_2, e214_5, e214_6, e214_7, e214_8, e214_9, e214_10, e214_13, e214_14, e214_15, e214_17, e214_18, e214_21, e214_24, e214_25, e214_26, e214_27, e214_30, e214_31, e214_32, e214_33, e214_37, e214_38, e214_39, e214_42, e214_43, e214_46, e214_47, e214_50, e214_52, e214_53, e214_54, e214_57, e214_60, e214_61, e214_64, e214_65, e214_66, e214_70, e214_71, e214_74, e214_75, e214_76, e214_78, e214_81, e214_82, e214_86, e214_87, e214_88, e214_91, e214_92, e214_95, e214_96, e214_99, e214_101, e214_102, e214_105, e214_107, e214_108, e214_111, e214_112, e214_115, e214_117, e214_118, e214_121, e214_122, e214_125, e214_126, e214_127, e214_130, e214_133, e214_136, e214_139, e214_140, e214_144, e214_145, e214_146, e214_149, e214_150, e214_153, e214_154, e214_155, e214_158, e214_160, e214_161, e214_164, e214_165, e214_168, e214_170, e214_171, e214_174, e214_175, e214_178, e214_179, e214_180, e214_181, e214_184, e214_187, e214_190, e214_193, e214_194, e214_195, e214_198, e214_199, e214_200, e214_201, e214_204, e214_205, kv_s, kh_s, kr_s, kr_v, kn_s, z0, z1, z2, nI_ltI, nI_leI, nI_eq, nI_add, oN, bz0, bz1, bw0, bw1, ltT, ltF, leT, leF, eqT, eqF, if_true, if_false, kI_n, wI_n, and_true, true_and, and_false, false_and, not_true, not_false_eq_true, mwo, mwr_0, mwr_1, mwr_2, mwg_3, mwp_3, mwr_4, mwg_5, mwp_5, mwg_6, mwp_6, mwr_7, mwr_8, mwg_9, mwp_9, mwg_10, mwp_10, mwg_11, mwp_11, mwr_12, mwg_13, mwp_13, mwr_14, mwr_15, mwr_16, mwr_17, mwr_18, mwr_19, mwg_20, mwp_20, mwr_21, mwr_22, mwr_23, mwa_1, mwu_1, mwa_2, mwu_2, mwa_3, mwu_3, mwa_4, mwu_4, mwa_5, mwu_5, mwa_6, mwu_6, mwa_7, mwu_7, mwa_8, mwu_8, mwa_9, mwu_9, mwa_10, mwu_10, mwa_11, mwu_11, mwa_12, mwu_12, mwa_13, mwu_13, mwa_14, mwu_14, mwa_15, mwu_15, mwa_16, mwu_16, vu_at, vu_ne, pk_us, pk_un, kB_n, wB_n, kL_n, wL_n, hN.2.1, nwS, evS, Nat.add_zero]
  · have hck : ∃ F, dcall 103 [.ref c] (cw σ c A R I) = some (some (.int (nI (nwS z.1 z.2.2.2 z.2.1 (z.2.2.1 + 1 - z.2.1)))), cw σ c (va_up A 3 F) (rl R [(nI (evS z.1 z.2.2.2 z.2.1 (z.2.2.1 + 1 - z.2.1))).toInt64]) (upd (upd I 14 (nI z.1)) 3 (nI 1))) := by
      obtain ⟨t', t1', t2'⟩ := hb.t (v := z.2.1 + 1) (by omega) (by omega)
      obtain ⟨F1, k1⟩ := A_newNodes (A := A) (R := R) (I := I) hb (v := z.2.1 + 1) (by omega) (by omega) hI
      obtain ⟨F', e1⟩ := C_all_loop (A := A) (R := R) (I := upd I 14 (nI z.1)) hb pk_us (z.2.2.1 - z.2.1 - 1) 1 F1 (by omega)
      refine ⟨F', ?_⟩
      have q1 : nwS z.1 z.2.2.2 z.2.1 (1 + 1) = cnt (nz z.1 (z.2.2.2 z.2.1)) 1 (2 * 2 ^ z.1 - 1) + cnt (nw z.1 z.2.2.2 z.2.1 (z.2.1 + 1)) 1 (2 * 2 ^ z.1 - 1) := by rw [nwS, nwS, nwS, nw_first, Nat.zero_add]
      have q2 : evS z.1 z.2.2.2 z.2.1 (1 + 1) = cnt (nz z.1 (z.2.2.2 z.2.1)) 1 (2 * 2 ^ z.1 - 1) + cnt (nz z.1 (z.2.2.2 (z.2.1 + 1))) 1 (2 * 2 ^ z.1 - 1) := by rw [evS, evS, evS, Nat.add_zero, Nat.zero_add]
      rw [q1, q2] at e1
      rw [← e1]
      have h := hb
      rw [q103]
      simp (disch := first | omega | exact tl_l | exact tT_len | (simp only [List.length_cons, List.length_nil])) only [e103_0, e103_1, e103_2, e103_5, e103_8, e103_9, e103_10, e103_11, e103_14, e103_15, e103_18, e103_21, e103_24, e103_27, e103_28, e103_29, e103_32, e103_33, e103_34, e103_35, e103_36, e103_39, e103_42, e103_43, e103_44, e103_48, e103_49, e103_52, e103_55, e103_58, e103_59, e103_60, e103_63, e103_65, e103_68, e103_71, e103_72, e103_73, e103_76, e103_77, e103_78, e103_79, e103_80, e103_82, e103_85, e103_86, e103_87, e103_90, e103_93, e103_94, e103_97, e103_100, e103_101, e103_104, e103_105, e103_106, e103_109, e103_110, kv_s, kh_s, kr_s, kr_v, kn_s, z0, z1, z2, nI_ltI, nI_leI, nI_eq, nI_add, oN, bz0, bz1, bw0, bw1, ltT, ltF, leT, leF, eqT, eqF, if_true, if_false, kI_n, wI_n, and_true, true_and, and_false, false_and, not_true, not_false_eq_true, cwo_1, cwr_1, cwg_0, cwg_1, cwg_2, cwa_0, cwl_0, cwo_3, cwr_3, cwg_3, cwa_R, cwl_R, cwo_5, cwr_5, cwg_4, cwg_5, cwg_6, cwg_7, cwg_8, cwa_1, cwl_1, cwo_7, cwr_7, cwg_9, cwg_10, cwg_11, cwg_12, cwg_13, cwa_2, cwl_2, cwo_17, cwr_17, cwg_14, cwa_3, cwl_3, cwp_0, cwp_1, cwp_2, cwp_3, cwp_4, cwp_5, cwp_6, cwp_7, cwp_8, cwp_9, cwp_10, cwp_11, cwp_12, cwp_13, cwp_14, cwu_0, cwu_R, cwu_1, cwu_2, cwu_3, vu_at, vu_ne, pk_us, pk_un, h.x.f0, h.x.f1, h.x.f2, h.x.f3, h.x.f4, h.x.f5, h.x.f6, h.x.f7, h.x.o, h.hi.o, h.hi.gd, h.hi.gf, h.hi.gl, Hi_keys h.hi h.d8, Hi_hasKey h.hi h.d8, Rw_empty, Rw_add, List.nil_append, List.cons_append, upd_upd, cwo_1, cwo_3, cwo_5, cwo_7, cwo_17, Bool.false_eq_true, n01, Hi_hold_is h.hi (show z.2.1 < 2 ^ 31 by omega) t1, t2.o, t2.f, t2.fo, T_nodesIn t2, nI_two]
      rw [e103_46]
      simp (disch := first | omega | exact tl_l | exact tT_len | (simp only [List.length_cons, List.length_nil])) only [e103_0, e103_1, e103_2, e103_5, e103_8, e103_9, e103_10, e103_11, e103_14, e103_15, e103_18, e103_21, e103_24, e103_27, e103_28, e103_29, e103_32, e103_33, e103_34, e103_35, e103_36, e103_39, e103_42, e103_43, e103_44, e103_48, e103_49, e103_52, e103_55, e103_58, e103_59, e103_60, e103_63, e103_65, e103_68, e103_71, e103_72, e103_73, e103_76, e103_77, e103_78, e103_79, e103_80, e103_82, e103_85, e103_86, e103_87, e103_90, e103_93, e103_94, e103_97, e103_100, e103_101, e103_104, e103_105, e103_106, e103_109, e103_110, kv_s, kh_s, kr_s, kr_v, kn_s, z0, z1, z2, nI_ltI, nI_leI, nI_eq, nI_add, oN, bz0, bz1, bw0, bw1, ltT, ltF, leT, leF, eqT, eqF, if_true, if_false, kI_n, wI_n, and_true, true_and, and_false, false_and, not_true, not_false_eq_true, cwo_1, cwr_1, cwg_0, cwg_1, cwg_2, cwa_0, cwl_0, cwo_3, cwr_3, cwg_3, cwa_R, cwl_R, cwo_5, cwr_5, cwg_4, cwg_5, cwg_6, cwg_7, cwg_8, cwa_1, cwl_1, cwo_7, cwr_7, cwg_9, cwg_10, cwg_11, cwg_12, cwg_13, cwa_2, cwl_2, cwo_17, cwr_17, cwg_14, cwa_3, cwl_3, cwp_0, cwp_1, cwp_2, cwp_3, cwp_4, cwp_5, cwp_6, cwp_7, cwp_8, cwp_9, cwp_10, cwp_11, cwp_12, cwp_13, cwp_14, cwu_0, cwu_R, cwu_1, cwu_2, cwu_3, vu_at, vu_ne, pk_us, pk_un, h.x.f0, h.x.f1, h.x.f2, h.x.f3, h.x.f4, h.x.f5, h.x.f6, h.x.f7, h.x.o, h.hi.o, h.hi.gd, h.hi.gf, h.hi.gl, Hi_keys h.hi h.d8, Hi_hasKey h.hi h.d8, Rw_empty, Rw_add, List.nil_append, List.cons_append, upd_upd, cwo_1, cwo_3, cwo_5, cwo_7, cwo_17, Bool.false_eq_true, n01, Hi_hold_is h.hi (show z.2.1 + 1 < 2 ^ 31 by omega) t1', t2'.o, t2'.f, t2'.fo, T_nodesIn t2', k1]
    obtain ⟨F, hF⟩ := hck
    refine Inv_cho h hi hd (F := F) (L' := [(nI (evS z.1 z.2.2.2 z.2.1 (z.2.2.1 + 1 - z.2.1))).toInt64]) (k := 1) (b := .int (nI (nwS z.1 z.2.2.2 z.2.1 (z.2.2.1 + 1 - z.2.1)))) hF ?_ rfl (by omega)
    intro τ
    obtain ⟨A', e1, e2⟩ := M_every_loop (σ := τ) (m := c + 24) (R := R2) (I := upd I2 6 (nI 0)) (d := z.1) (f := z.2.1) (l := z.2.2.1) (V := z.2.2.2) (fun v a b => (h.ok v a b).1) (z.2.2.1 + 1 - z.2.1) 0 A2 (l4 := junk) (l5 := junk) hN (by omega)
    refine ⟨A', upd (upd I2 6 (nI 0)) 5 (nI 1), ?_, e2, by rw [pk_un (by omega), pk_un (by omega)], pk_us⟩
    rw [← e1]
    rw [q214]
    simp (disch := first | omega | exact tl_l | exact tT_len | (simp only [List.length_cons, List.length_nil])) only [e214_0, e214_1, e214_2, e214_5, e214_6, e214_7, e214_8, e214_9, e214_10, e214_13, e214_14, e214_15, e214_17, e214_18, e214_21, e214_24, e214_25, e214_26, e214_27, e214_30, e214_31, e214_32, e214_33, e214_37, e214_38, e214_39, e214_42, e214_43, e214_46, e214_47, e214_50, e214_52, e214_53, e214_54, e214_57, e214_60, e214_61, e214_64, e214_65, e214_66, e214_70, e214_71, e214_74, e214_75, e214_76, e214_78, e214_81, e214_82, e214_86, e214_87, e214_88, e214_91, e214_92, e214_95, e214_96, e214_99, e214_101, e214_102, e214_105, e214_107, e214_108, e214_111, e214_112, e214_115, e214_117, e214_118, e214_121, e214_122, e214_125, e214_126, e214_127, e214_130, e214_133, e214_136, e214_139, e214_140, e214_144, e214_145, e214_146, e214_149, e214_150, e214_153, e214_154, e214_155, e214_158, e214_160, e214_161, e214_164, e214_165, e214_168, e214_170, e214_171, e214_174, e214_175, e214_178, e214_179, e214_180, e214_181, e214_184, e214_187, e214_190, e214_193, e214_194, e214_195, e214_198, e214_199, e214_200, e214_201, e214_204, e214_205, kv_s, kh_s, kr_s, kr_v, kn_s, z0, z1, z2, nI_ltI, nI_leI, nI_eq, nI_add, oN, bz0, bz1, bw0, bw1, ltT, ltF, leT, leF, eqT, eqF, if_true, if_false, kI_n, wI_n, and_true, true_and, and_false, false_and, not_true, not_false_eq_true, mwo, mwr_0, mwr_1, mwr_2, mwg_3, mwp_3, mwr_4, mwg_5, mwp_5, mwg_6, mwp_6, mwr_7, mwr_8, mwg_9, mwp_9, mwg_10, mwp_10, mwg_11, mwp_11, mwr_12, mwg_13, mwp_13, mwr_14, mwr_15, mwr_16, mwr_17, mwr_18, mwr_19, mwg_20, mwp_20, mwr_21, mwr_22, mwr_23, mwa_1, mwu_1, mwa_2, mwu_2, mwa_3, mwu_3, mwa_4, mwu_4, mwa_5, mwu_5, mwa_6, mwu_6, mwa_7, mwu_7, mwa_8, mwu_8, mwa_9, mwu_9, mwa_10, mwu_10, mwa_11, mwu_11, mwa_12, mwu_12, mwa_13, mwu_13, mwa_14, mwu_14, mwa_15, mwu_15, mwa_16, mwu_16, vu_at, vu_ne, pk_us, pk_un, kB_n, wB_n, kL_n, wL_n, hN.2.1, nwS, evS, Nat.add_zero]
