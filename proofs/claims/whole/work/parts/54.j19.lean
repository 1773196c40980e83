/-! calls: holes -/
/-- a hole -/
def hP (d : Nat) (W : Nat → Int32) (p : Nat) : Bool := br d W p && (decide (p = 1) || !br d W (p / 2))
/-- the first of a level, below a number -/
def fsN (P : Nat → Bool) (a : Nat) : Nat → Option Nat
  | 0 => none
  | i + 1 => match fsN P a i with
    | some x => some x
    | none => if P (a + i) = true then some i else none
theorem fsN_cnt {P : Nat → Bool} {a : Nat} : ∀ i, (fsN P a i = none ↔ cnt P a i = 0) ∧ ∀ x, fsN P a i = some x → x < i := by
  intro i
  induction i with
  | zero => exact ⟨⟨fun _ => rfl, fun _ => rfl⟩, fun x hx => by cases hx⟩
  | succ i ih =>
    obtain ⟨h1, h2⟩ := ih
    have ec : cnt P a (i + 1) = cnt P a i + if P (a + i) = true then 1 else 0 := rfl
    rw [ec, fsN]
    cases hf : fsN P a i with
    | some x =>
      refine ⟨⟨fun z => (nomatch z), fun z => ?_⟩, fun y hy => by cases hy; have := h2 _ hf; omega⟩
      have : cnt P a i = 0 := by omega
      rw [h1.mpr this] at hf
      cases hf
    | none =>
      have := h1.mp hf
      by_cases hp : P (a + i) = true
      · simp only [hp, if_true]
        exact ⟨⟨fun z => (nomatch z), fun z => by omega⟩, fun y hy => by cases hy; omega⟩
      · simp only [hp]
        exact ⟨⟨fun _ => by simpa using this, fun _ => rfl⟩, fun y hy => by cases hy⟩
/-- the greatest level with a hole, and the first there, of those below a level -/
def hG (d : Nat) (W : Nat → Int32) : Nat → Int32 × Int32
  | 0 => (-nI 1, -nI 1)
  | j + 1 => match fsN (hP d W) (2 ^ (d - j)) (2 ^ (d - j)) with
    | some x => (nI j, nI x)
    | none => hG d W j
def hS (d : Nat) (W : Nat → Int32) : Nat → Nat
  | 0 => 0
  | j + 1 => hS d W j + cnt (hP d W) (2 ^ (d - j)) (2 ^ (d - j))
theorem hG_lv {d : Nat} {W : Nat → Int32} : ∀ j, (hG d W j).1 = -nI 1 ∨ ∃ e, e < j ∧ (hG d W j).1 = nI e := by
  intro j
  induction j with
  | zero => exact Or.inl rfl
  | succ j ih =>
    rw [hG]
    split
    · exact Or.inr ⟨j, Nat.lt_succ_self _, rfl⟩
    · rcases ih with h | ⟨e, h1, h2⟩
      · exact Or.inl h
      · exact Or.inr ⟨e, by omega, h2⟩
section HO
variable {c i : Nat} {σ : Hp} {m d f l : Nat} {V : Nat → Nat → Int32} {T : Nat → Option Nat} {A : Nat → Nat → Int32} {R : Nat → Int64} {I : Nat → Int32}
/-- a pair after so many of a level -/
def hN (o : Option Nat) (j : Nat) (g : Int32 × Int32) : Int32 × Int32 := match o with
  | some x => (nI j, nI x)
  | none => g
theorem hP_c {W : Nat → Int32} {j i : Nat} : hP d W (2 ^ (d - j) + i) = true ↔ br d W (2 ^ (d - j) + i) = true ∧ (2 ^ (d - j) + i = 1 ∨ br d W ((2 ^ (d - j) + i) / 2) = false) := by
  unfold hP
  simp
theorem C_holes_in (h : RB c σ T d f l V) {W : Nat → Int32} {t : Nat} (t2 : ∀ {A R I}, isT (cw σ c A R I) t d W) {j : Nat} (hj : j ≤ d) {C : Nat} (hC : C ≤ 10000) {g : Int32 × Int32} {l1 : Value} : ∀ (n k : Nat), k + n = 2 ^ (d - j) → den 61 54 [.ref c, l1, .ref t, .int (nI (C + cnt (hP d W) (2 ^ (d - j)) k)), .int (if C = 0 then hN (fsN (hP d W) (2 ^ (d - j)) k) j g else g).1, .int (if C = 0 then hN (fsN (hP d W) (2 ^ (d - j)) k) j g else g).2, .int (nI j), .int (nI (2 ^ (d - j))), .int (nI k)] [] (cw σ c A R I) = den 61 114 [.ref c, l1, .ref t, .int (nI (C + cnt (hP d W) (2 ^ (d - j)) (2 ^ (d - j)))), .int (if C = 0 then hN (fsN (hP d W) (2 ^ (d - j)) (2 ^ (d - j))) j g else g).1, .int (if C = 0 then hN (fsN (hP d W) (2 ^ (d - j)) (2 ^ (d - j))) j g else g).2, .int (nI j), .int (nI (2 ^ (d - j))), .int (nI (2 ^ (d - j)))] [] (cw σ c A R I) := by
  have hK := h.K
  have hd := h.d8
  have h1 := Nat.one_le_two_pow (n := d - j)
  have h2 : 2 ^ (d - j) ≤ 2 ^ d := Nat.pow_le_pow_right (by omega) (by omega)
  intro n
  induction n with
  | zero =>
    intro k hk
    have : k = 2 ^ (d - j) := by omega
    subst this
    rw [e61_54]
    simp (disch := first | omega | exact tl_l | exact tT_len | (simp only [List.length_cons, List.length_nil])) only [e61_56, e61_58, kv_s, kh_s, kr_s, kr_v, kn_s, z0, z1, z2, nI_ltI, nI_leI, nI_eq, nI_add, oN, bz0, bz1, bw0, bw1, ltT, ltF, leT, leF, eqT, eqF, if_true, if_false, kI_n, wI_n, and_true, true_and, and_false, false_and, not_true, not_false_eq_true]
  | succ n ih =>
    intro k hk
    have hcl := cnt_le (hP d W) (2 ^ (d - j)) k
    have ec : cnt (hP d W) (2 ^ (d - j)) (k + 1) = cnt (hP d W) (2 ^ (d - j)) k + if hP d W (2 ^ (d - j) + k) = true then 1 else 0 := rfl
    have ef : fsN (hP d W) (2 ^ (d - j)) (k + 1) = match fsN (hP d W) (2 ^ (d - j)) k with
      | some x => some x
      | none => if hP d W (2 ^ (d - j) + k) = true then some k else none := rfl
    obtain ⟨fc1, fc2⟩ := fsN_cnt (P := hP d W) (a := 2 ^ (d - j)) k
    rw [← ih (k + 1) (by omega)]
    have hp1 : 2 ^ (d - j) + k < 2 * 2 ^ d := by omega
    have hbb := fun A R I => T_bareb (t2 (A := A) (R := R) (I := I)) (p := 2 ^ (d - j) + k) (by omega) hp1
    rw [e61_54]
    have hno : hP d W (2 ^ (d - j) + k) = false → fsN (hP d W) (2 ^ (d - j)) (k + 1) = fsN (hP d W) (2 ^ (d - j)) k ∧ cnt (hP d W) (2 ^ (d - j)) (k + 1) = cnt (hP d W) (2 ^ (d - j)) k := fun z => by
      rw [ef, ec, z]
      refine ⟨?_, rfl⟩
      cases fsN (hP d W) (2 ^ (d - j)) k <;> rfl
    have hyes : hP d W (2 ^ (d - j) + k) = true → cnt (hP d W) (2 ^ (d - j)) (k + 1) = cnt (hP d W) (2 ^ (d - j)) k + 1 ∧ (fsN (hP d W) (2 ^ (d - j)) k = none → fsN (hP d W) (2 ^ (d - j)) (k + 1) = some k) ∧ (fsN (hP d W) (2 ^ (d - j)) k ≠ none → fsN (hP d W) (2 ^ (d - j)) (k + 1) = fsN (hP d W) (2 ^ (d - j)) k) := fun z => by
      rw [ef, ec, z]
      refine ⟨rfl, fun y => by rw [y]; rfl, fun y => ?_⟩
      cases hf : fsN (hP d W) (2 ^ (d - j)) k with
      | none => exact absurd hf y
      | some x => rfl
    cases hb : br d W (2 ^ (d - j) + k) with
    | false =>
      rw [hb] at hbb
      have hP0 : hP d W (2 ^ (d - j) + k) = false := by rw [hP, hb]; rfl
      rw [(hno hP0).1, (hno hP0).2]
      simp (disch := first | omega | exact tl_l | exact tT_len | (simp only [List.length_cons, List.length_nil])) only [e61_56, e61_58, e61_61, e61_61n, e61_62, e61_64, e61_66, e61_67, e61_70, e61_73, e61_75, e61_76, e61_79, e61_79n, e61_80, e61_82, e61_84, e61_85, e61_86, e61_87, e61_90, e61_93, e61_94, e61_97, e61_99, e61_101, e61_103, e61_105, e61_108, e61_111, kv_s, kh_s, kr_s, kr_v, kn_s, z0, z1, z2, nI_ltI, nI_leI, nI_eq, nI_add, oN, bz0, bz1, bw0, bw1, ltT, ltF, leT, leF, eqT, eqF, if_true, if_false, kI_n, wI_n, and_true, true_and, and_false, false_and, not_true, not_false_eq_true, t2.o, hbb, Bool.false_eq_true]
    | true =>
      rw [hb] at hbb
      have fin : hP d W (2 ^ (d - j) + k) = true → den 61 93 [.ref c, l1, .ref t, .int (nI (C + cnt (hP d W) (2 ^ (d - j)) k)), .int (if C = 0 then hN (fsN (hP d W) (2 ^ (d - j)) k) j g else g).1, .int (if C = 0 then hN (fsN (hP d W) (2 ^ (d - j)) k) j g else g).2, .int (nI j), .int (nI (2 ^ (d - j))), .int (nI k)] [] (cw σ c A R I) = den 61 54 [.ref c, l1, .ref t, .int (nI (C + cnt (hP d W) (2 ^ (d - j)) (k + 1))), .int (if C = 0 then hN (fsN (hP d W) (2 ^ (d - j)) (k + 1)) j g else g).1, .int (if C = 0 then hN (fsN (hP d W) (2 ^ (d - j)) (k + 1)) j g else g).2, .int (nI j), .int (nI (2 ^ (d - j))), .int (nI (k + 1))] [] (cw σ c A R I) := fun hP1 => by
        obtain ⟨y1, y2, y3⟩ := hyes hP1
        rw [y1]
        by_cases hC0 : C = 0
        · by_cases hf : fsN (hP d W) (2 ^ (d - j)) k = none
          · have hc0 := fc1.mp hf
            rw [y2 hf, hf, hc0, if_pos hC0, if_pos hC0]
            subst hC0
            simp (disch := first | omega | exact tl_l | exact tT_len | (simp only [List.length_cons, List.length_nil])) only [e61_93, e61_94, e61_97, e61_99, e61_101, e61_103, e61_105, e61_108, e61_111, kv_s, kh_s, kr_s, kr_v, kn_s, z0, z1, z2, nI_ltI, nI_leI, nI_eq, nI_add, oN, bz0, bz1, bw0, bw1, ltT, ltF, leT, leF, eqT, eqF, if_true, if_false, kI_n, wI_n, and_true, true_and, and_false, false_and, not_true, not_false_eq_true, hN, Nat.add_zero]
          · have hc0 : ¬ cnt (hP d W) (2 ^ (d - j)) k = 0 := fun z => hf (fc1.mpr z)
            have hc1 : ¬ C + cnt (hP d W) (2 ^ (d - j)) k = 0 := by omega
            rw [y3 hf]
            simp (disch := first | omega | exact tl_l | exact tT_len | (simp only [List.length_cons, List.length_nil])) only [e61_93, e61_94, e61_97, e61_99, e61_101, e61_103, e61_105, e61_108, e61_111, kv_s, kh_s, kr_s, kr_v, kn_s, z0, z1, z2, nI_ltI, nI_leI, nI_eq, nI_add, oN, bz0, bz1, bw0, bw1, ltT, ltF, leT, leF, eqT, eqF, if_true, if_false, kI_n, wI_n, and_true, true_and, and_false, false_and, not_true, not_false_eq_true, hc1, Nat.add_assoc]
        · have hc1 : ¬ C + cnt (hP d W) (2 ^ (d - j)) k = 0 := by omega
          rw [if_neg hC0, if_neg hC0]
          simp (disch := first | omega | exact tl_l | exact tT_len | (simp only [List.length_cons, List.length_nil])) only [e61_93, e61_94, e61_97, e61_99, e61_101, e61_103, e61_105, e61_108, e61_111, kv_s, kh_s, kr_s, kr_v, kn_s, z0, z1, z2, nI_ltI, nI_leI, nI_eq, nI_add, oN, bz0, bz1, bw0, bw1, ltT, ltF, leT, leF, eqT, eqF, if_true, if_false, kI_n, wI_n, and_true, true_and, and_false, false_and, not_true, not_false_eq_true, hc1, Nat.add_assoc]
      by_cases hs : 2 ^ (d - j) = 1
      · have hk0 : k = 0 := by omega
        have hP1 : hP d W (2 ^ (d - j) + k) = true := hP_c.mpr ⟨hb, Or.inl (by omega)⟩
        rw [← fin hP1]
        simp (disch := first | omega | exact tl_l | exact tT_len | (simp only [List.length_cons, List.length_nil])) only [e61_56, e61_58, e61_61, e61_61n, e61_62, e61_64, e61_66, e61_67, e61_70, e61_73, e61_75, e61_76, e61_79, e61_79n, e61_80, e61_82, e61_84, e61_85, e61_86, e61_87, e61_90, kv_s, kh_s, kr_s, kr_v, kn_s, z0, z1, z2, nI_ltI, nI_leI, nI_eq, nI_add, oN, bz0, bz1, bw0, bw1, ltT, ltF, leT, leF, eqT, eqF, if_true, if_false, kI_n, wI_n, and_true, true_and, and_false, false_and, not_true, not_false_eq_true, t2.o, hbb]
      · have h3 : 2 ≤ 2 ^ (d - j) := by omega
        have hb2 := fun A R I => T_bareb (t2 (A := A) (R := R) (I := I)) (p := (2 ^ (d - j) + k) / 2) (by omega) (by omega)
        cases hbu : br d W ((2 ^ (d - j) + k) / 2) with
        | true =>
          rw [hbu] at hb2
          have hP0 : hP d W (2 ^ (d - j) + k) = false := by
            cases hh : hP d W (2 ^ (d - j) + k) with
            | false => rfl
            | true =>
              rcases (hP_c.mp hh).2 with z | z
              · omega
              · rw [hbu] at z; cases z
          rw [(hno hP0).1, (hno hP0).2]
          simp (disch := first | omega | exact tl_l | exact tT_len | (simp only [List.length_cons, List.length_nil])) only [e61_56, e61_58, e61_61, e61_61n, e61_62, e61_64, e61_66, e61_67, e61_70, e61_73, e61_75, e61_76, e61_79, e61_79n, e61_80, e61_82, e61_84, e61_85, e61_86, e61_87, e61_90, e61_108, e61_111, kv_s, kh_s, kr_s, kr_v, kn_s, z0, z1, z2, nI_ltI, nI_leI, nI_eq, nI_add, oN, bz0, bz1, bw0, bw1, ltT, ltF, leT, leF, eqT, eqF, if_true, if_false, kI_n, wI_n, and_true, true_and, and_false, false_and, not_true, not_false_eq_true, t2.o, hbb, hb2, shr1, n01]
        | false =>
          rw [hbu] at hb2
          have hP1 : hP d W (2 ^ (d - j) + k) = true := hP_c.mpr ⟨hb, Or.inr hbu⟩
          rw [← fin hP1]
          simp (disch := first | omega | exact tl_l | exact tT_len | (simp only [List.length_cons, List.length_nil])) only [e61_56, e61_58, e61_61, e61_61n, e61_62, e61_64, e61_66, e61_67, e61_70, e61_73, e61_75, e61_76, e61_79, e61_79n, e61_80, e61_82, e61_84, e61_85, e61_86, e61_87, e61_90, kv_s, kh_s, kr_s, kr_v, kn_s, z0, z1, z2, nI_ltI, nI_leI, nI_eq, nI_add, oN, bz0, bz1, bw0, bw1, ltT, ltF, leT, leF, eqT, eqF, if_true, if_false, kI_n, wI_n, and_true, true_and, and_false, false_and, not_true, not_false_eq_true, t2.o, hbb, hb2, shr1, n01, Bool.false_eq_true]
theorem C_holes_out (h : RB c σ T d f l V) {W : Nat → Int32} {t : Nat} (t2 : ∀ {A R I}, isT (cw σ c A R I) t d W) {l1 : Value} : ∀ (j C : Nat) (g : Int32 × Int32) {l7 l8 : Value}, j ≤ d + 1 → C + 256 * j ≤ 10000 → den 61 32 [.ref c, l1, .ref t, .int (nI C), .int g.1, .int g.2, .int (nI j - nI 1), l7, l8] [] (cw σ c A R I) = some (some (.int (nI (C + hS d W j))), cw σ c A (rl R [(if C = 0 then (if j = 0 then g else if hS d W j = 0 then g else hG d W j) else g).1.toInt64, (if C = 0 then (if j = 0 then g else if hS d W j = 0 then g else hG d W j) else g).2.toInt64, (nI (2 ^ d) - nI (un d W 1)).toInt64]) (upd I 3 (nI 3))) := by
  have hK := h.K
  have hd := h.d8
  intro j
  induction j with
  | zero =>
    intro C g l7 l8 hj hC
    have e3 : nI 0 - nI 1 < nI 0 := by decide
    have e4 : (if C = 0 then (if (0 : Nat) = 0 then g else if hS d W 0 = 0 then g else hG d W 0) else g) = g := by rw [if_pos rfl]; split <;> rfl
    rw [e4]
    rw [e61_32]
    simp (disch := first | omega | exact tl_l | exact tT_len | (simp only [List.length_cons, List.length_nil])) only [e61_0, e61_1, e61_4, e61_5, e61_8, e61_8n, e61_9, e61_9n, e61_10, e61_10n, e61_13, e61_14, e61_15, e61_16, e61_17, e61_18, e61_20, e61_21, e61_23, e61_24, e61_27, e61_30, e61_34, e61_37, e61_38, e61_39, e61_42, e61_45, e61_47, e61_48, e61_49, e61_51, e61_52, e61_56, e61_58, e61_61, e61_61n, e61_62, e61_64, e61_66, e61_67, e61_70, e61_73, e61_75, e61_76, e61_79, e61_79n, e61_80, e61_82, e61_84, e61_85, e61_86, e61_87, e61_90, e61_93, e61_94, e61_97, e61_99, e61_101, e61_103, e61_105, e61_108, e61_111, e61_114, e61_117, e61_120, e61_121, e61_124, e61_127, e61_128, e61_131, e61_133, e61_134, e61_137, e61_138, e61_141, e61_143, e61_144, e61_147, e61_148, e61_151, e61_152, e61_155, e61_158, e61_158n, e61_159, e61_162, e61_165, e61_166, e61_167, e61_170, e61_171, kv_s, kh_s, kr_s, kr_v, kn_s, z0, z1, z2, nI_ltI, nI_leI, nI_eq, nI_add, oN, bz0, bz1, bw0, bw1, ltT, ltF, leT, leF, eqT, eqF, if_true, if_false, kI_n, wI_n, and_true, true_and, and_false, false_and, not_true, not_false_eq_true, cwo_1, cwr_1, cwg_0, cwg_1, cwg_2, cwa_0, cwl_0, cwo_3, cwr_3, cwg_3, cwa_R, cwl_R, cwo_5, cwr_5, cwg_4, cwg_5, cwg_6, cwg_7, cwg_8, cwa_1, cwl_1, cwo_7, cwr_7, cwg_9, cwg_10, cwg_11, cwg_12, cwg_13, cwa_2, cwl_2, cwo_17, cwr_17, cwg_14, cwa_3, cwl_3, cwp_0, cwp_1, cwp_2, cwp_3, cwp_4, cwp_5, cwp_6, cwp_7, cwp_8, cwp_9, cwp_10, cwp_11, cwp_12, cwp_13, cwp_14, cwu_0, cwu_R, cwu_1, cwu_2, cwu_3, vu_at, vu_ne, pk_us, pk_un, h.x.f0, h.x.f1, h.x.f2, h.x.f3, h.x.f4, h.x.f5, h.x.f6, h.x.f7, h.x.o, h.hi.o, h.hi.gd, h.hi.gf, h.hi.gl, Hi_keys h.hi h.d8, Hi_hasKey h.hi h.d8, Rw_empty, Rw_add, List.nil_append, List.cons_append, upd_upd, cwo_1, cwo_3, cwo_5, cwo_7, cwo_17, Bool.false_eq_true, n01, e3, t2.o, t2.f, t2.fo, T_size t2, hS, Nat.add_zero]
  | succ j ih =>
    intro C g l7 l8 hj hC
    have e4 : nI (j + 1) - nI 1 = nI j := pk_sub (by omega)
    have e5 : nI j + -nI 1 = nI j - nI 1 := (Int32.sub_eq_add_neg ..).symm
    have e6 : nI d - nI j = nI (d - j) := pk_sub (by omega)
    have hcl := cnt_le (hP d W) (2 ^ (d - j)) (2 ^ (d - j))
    have h2 : 2 ^ (d - j) ≤ 2 ^ d := Nat.pow_le_pow_right (by omega) (by omega)
    have e := C_holes_in (A := A) (R := R) (I := I) h t2 (j := j) (by omega) (C := C) (by omega) (g := g) (l1 := l1) (2 ^ (d - j)) 0 (Nat.zero_add _)
    have e0 : cnt (hP d W) (2 ^ (d - j)) 0 = 0 := rfl
    have e1 : (if C = 0 then hN (fsN (hP d W) (2 ^ (d - j)) 0) j g else g) = g := by split <;> rfl
    rw [e0, e1, Nat.add_zero] at e
    have i1 := ih (C + cnt (hP d W) (2 ^ (d - j)) (2 ^ (d - j))) (if C = 0 then hN (fsN (hP d W) (2 ^ (d - j)) (2 ^ (d - j))) j g else g) (l7 := .int (nI (2 ^ (d - j)))) (l8 := .int (nI (2 ^ (d - j)))) (by omega) (by omega)
    rw [e61_32]
    simp (disch := first | omega | exact tl_l | exact tT_len | (simp only [List.length_cons, List.length_nil])) only [e61_34, e61_37, e61_38, e61_39, e61_42, e61_45, e61_47, e61_48, e61_49, e61_51, e61_52, kv_s, kh_s, kr_s, kr_v, kn_s, z0, z1, z2, nI_ltI, nI_leI, nI_eq, nI_add, oN, bz0, bz1, bw0, bw1, ltT, ltF, leT, leF, eqT, eqF, if_true, if_false, kI_n, wI_n, and_true, true_and, and_false, false_and, not_true, not_false_eq_true, cwo_1, cwr_1, cwg_0, cwg_1, cwg_2, cwa_0, cwl_0, cwo_3, cwr_3, cwg_3, cwa_R, cwl_R, cwo_5, cwr_5, cwg_4, cwg_5, cwg_6, cwg_7, cwg_8, cwa_1, cwl_1, cwo_7, cwr_7, cwg_9, cwg_10, cwg_11, cwg_12, cwg_13, cwa_2, cwl_2, cwo_17, cwr_17, cwg_14, cwa_3, cwl_3, cwp_0, cwp_1, cwp_2, cwp_3, cwp_4, cwp_5, cwp_6, cwp_7, cwp_8, cwp_9, cwp_10, cwp_11, cwp_12, cwp_13, cwp_14, cwu_0, cwu_R, cwu_1, cwu_2, cwu_3, vu_at, vu_ne, pk_us, pk_un, h.x.f0, h.x.f1, h.x.f2, h.x.f3, h.x.f4, h.x.f5, h.x.f6, h.x.f7, h.x.o, h.hi.o, h.hi.gd, h.hi.gf, h.hi.gl, Hi_keys h.hi h.d8, Hi_hasKey h.hi h.d8, Rw_empty, Rw_add, List.nil_append, List.cons_append, upd_upd, cwo_1, cwo_3, cwo_5, cwo_7, cwo_17, Bool.false_eq_true, n01, e4, e6, shl_nI]
    rw [e]
    simp (disch := first | omega | exact tl_l | exact tT_len | (simp only [List.length_cons, List.length_nil])) only [e61_114, e61_117, kv_s, kh_s, kr_s, kr_v, kn_s, z0, z1, z2, nI_ltI, nI_leI, nI_eq, nI_add, oN, bz0, bz1, bw0, bw1, ltT, ltF, leT, leF, eqT, eqF, if_true, if_false, kI_n, wI_n, and_true, true_and, and_false, false_and, not_true, not_false_eq_true, e5]
    rw [i1]
    have eS : hS d W (j + 1) = hS d W j + cnt (hP d W) (2 ^ (d - j)) (2 ^ (d - j)) := rfl
    have eN : C + cnt (hP d W) (2 ^ (d - j)) (2 ^ (d - j)) + hS d W j = C + hS d W (j + 1) := by rw [eS]; omega
    rw [eN]
    have eG : (if C + cnt (hP d W) (2 ^ (d - j)) (2 ^ (d - j)) = 0 then (if j = 0 then (if C = 0 then hN (fsN (hP d W) (2 ^ (d - j)) (2 ^ (d - j))) j g else g) else if hS d W j = 0 then (if C = 0 then hN (fsN (hP d W) (2 ^ (d - j)) (2 ^ (d - j))) j g else g) else hG d W j) else (if C = 0 then hN (fsN (hP d W) (2 ^ (d - j)) (2 ^ (d - j))) j g else g)) = (if C = 0 then (if j + 1 = 0 then g else if hS d W (j + 1) = 0 then g else hG d W (j + 1)) else g) := by
      by_cases hC0 : C = 0
      · rw [if_pos hC0, if_pos hC0, if_neg (show ¬ j + 1 = 0 by omega)]
        have hf := (fsN_cnt (P := hP d W) (a := 2 ^ (d - j)) (2 ^ (d - j))).1
        rw [eS, hG]
        cases hx : fsN (hP d W) (2 ^ (d - j)) (2 ^ (d - j)) with
        | none =>
          have h0 := hf.mp hx
          rw [if_pos (by omega)]
          by_cases hj0 : j = 0
          · subst hj0
            rw [if_pos rfl, if_pos (by rw [h0]; rfl)]
            rfl
          · rw [if_neg hj0, h0, Nat.add_zero]
            rfl
        | some x =>
          have h0 : ¬ cnt (hP d W) (2 ^ (d - j)) (2 ^ (d - j)) = 0 := fun z => by rw [hf.mpr z] at hx; cases hx
          rw [if_neg (by omega), if_neg (by omega)]
          rfl
      · rw [if_neg (by omega), if_neg hC0, if_neg hC0]
    rw [eG]
    simp only [if_neg (show ¬ j + 1 = 0 by omega)]
theorem M_holes_in (h : nowM (A 1) d f l V) {W : Nat → Int32} {M' B' : Nat → Int32} (e2 : laid d W M' B' 1) {j : Nat} (hj : j ≤ d) {C : Nat} {g : Int32 × Int32} (hg : g.1 ≠ nI j) {l1 : Value} : ∀ (n k : Nat) {l7 : Value}, k + n = 2 ^ (d - j) → ∃ l7', den 185 42 [.ref m, l1, .int (nI (C + cnt (hP d W) (2 ^ (d - j)) k)), .int (hN (fsN (hP d W) (2 ^ (d - j)) k) j g).1, .int (hN (fsN (hP d W) (2 ^ (d - j)) k) j g).2, .int (nI j), .int (nI k), l7] [] (mw σ m (lA A M' B') R I) = den 185 122 [.ref m, l1, .int (nI (C + cnt (hP d W) (2 ^ (d - j)) (2 ^ (d - j)))), .int (hN (fsN (hP d W) (2 ^ (d - j)) (2 ^ (d - j))) j g).1, .int (hN (fsN (hP d W) (2 ^ (d - j)) (2 ^ (d - j))) j g).2, .int (nI j), .int (nI (2 ^ (d - j))), l7'] [] (mw σ m (lA A M' B') R I) := by
  have hK := h.K
  have hh : ∀ {M B}, nowM (lA A M B 1) d f l V := h
  have h1 := Nat.one_le_two_pow (n := d - j)
  have h2 : 2 ^ (d - j) ≤ 2 ^ d := Nat.pow_le_pow_right (by omega) (by omega)
  have e6 : nI d - nI j = nI (d - j) := pk_sub (by omega)
  intro n
  induction n with
  | zero =>
    intro k l7 hk
    have : k = 2 ^ (d - j) := by omega
    subst this
    refine ⟨l7, ?_⟩
    rw [e185_42]
    simp (disch := first | omega | exact tl_l | exact tT_len | (simp only [List.length_cons, List.length_nil])) only [e185_44, e185_45, e185_46, e185_49, e185_51, e185_52, e185_53, kv_s, kh_s, kr_s, kr_v, kn_s, z0, z1, z2, nI_ltI, nI_leI, nI_eq, nI_add, oN, bz0, bz1, bw0, bw1, ltT, ltF, leT, leF, eqT, eqF, if_true, if_false, kI_n, wI_n, and_true, true_and, and_false, false_and, not_true, not_false_eq_true, mwo, M_depth hh, e6, shl_nI]
  | succ n ih =>
    intro k l7 hk
    have ec : cnt (hP d W) (2 ^ (d - j)) (k + 1) = cnt (hP d W) (2 ^ (d - j)) k + if hP d W (2 ^ (d - j) + k) = true then 1 else 0 := rfl
    have ef : fsN (hP d W) (2 ^ (d - j)) (k + 1) = match fsN (hP d W) (2 ^ (d - j)) k with
      | some x => some x
      | none => if hP d W (2 ^ (d - j) + k) = true then some k else none := rfl
    obtain ⟨l7', i1⟩ := ih (k + 1) (l7 := .int (nI (2 ^ (d - j) + k))) (by omega)
    refine ⟨l7', ?_⟩
    rw [← i1]
    have hp1 : 2 ^ (d - j) + k < 2 * 2 ^ d := by omega
    have b1 := (e2 (2 ^ (d - j) + k) (by omega) hp1).2
    rw [e185_42]
    have hno : hP d W (2 ^ (d - j) + k) = false → fsN (hP d W) (2 ^ (d - j)) (k + 1) = fsN (hP d W) (2 ^ (d - j)) k ∧ cnt (hP d W) (2 ^ (d - j)) (k + 1) = cnt (hP d W) (2 ^ (d - j)) k := fun z => by
      rw [ef, ec, z]
      refine ⟨?_, rfl⟩
      cases fsN (hP d W) (2 ^ (d - j)) k <;> rfl
    have fin : hP d W (2 ^ (d - j) + k) = true → den 185 97 [.ref m, l1, .int (nI (C + cnt (hP d W) (2 ^ (d - j)) k)), .int (hN (fsN (hP d W) (2 ^ (d - j)) k) j g).1, .int (hN (fsN (hP d W) (2 ^ (d - j)) k) j g).2, .int (nI j), .int (nI k), .int (nI (2 ^ (d - j) + k))] [] (mw σ m (lA A M' B') R I) = den 185 42 [.ref m, l1, .int (nI (C + cnt (hP d W) (2 ^ (d - j)) (k + 1))), .int (hN (fsN (hP d W) (2 ^ (d - j)) (k + 1)) j g).1, .int (hN (fsN (hP d W) (2 ^ (d - j)) (k + 1)) j g).2, .int (nI j), .int (nI (k + 1)), .int (nI (2 ^ (d - j) + k))] [] (mw σ m (lA A M' B') R I) := fun z => by
      rw [ef, ec, z]
      cases hf : fsN (hP d W) (2 ^ (d - j)) k with
      | some x =>
        simp (disch := first | omega | exact tl_l | exact tT_len | (simp only [List.length_cons, List.length_nil])) only [e185_97, e185_100, e185_102, e185_103, e185_106, e185_109, e185_111, e185_112, e185_114, e185_116, e185_119, kv_s, kh_s, kr_s, kr_v, kn_s, z0, z1, z2, nI_ltI, nI_leI, nI_eq, nI_add, oN, bz0, bz1, bw0, bw1, ltT, ltF, leT, leF, eqT, eqF, if_true, if_false, kI_n, wI_n, and_true, true_and, and_false, false_and, not_true, not_false_eq_true, hN, Nat.add_assoc]
      | none =>
        have hg1 : (nI j = g.1) = False := eq_false fun y => hg y.symm
        simp (disch := first | omega | exact tl_l | exact tT_len | (simp only [List.length_cons, List.length_nil])) only [e185_97, e185_100, e185_102, e185_103, e185_106, e185_109, e185_111, e185_112, e185_114, e185_116, e185_119, kv_s, kh_s, kr_s, kr_v, kn_s, z0, z1, z2, nI_ltI, nI_leI, nI_eq, nI_add, oN, bz0, bz1, bw0, bw1, ltT, ltF, leT, leF, eqT, eqF, if_true, if_false, kI_n, wI_n, and_true, true_and, and_false, false_and, not_true, not_false_eq_true, hN, Nat.add_assoc, hg1]
    cases hb : br d W (2 ^ (d - j) + k) with
    | false =>
      rw [hb] at b1
      have hP0 : hP d W (2 ^ (d - j) + k) = false := by rw [hP, hb]; rfl
      rw [(hno hP0).1, (hno hP0).2]
      simp (disch := first | omega | exact tl_l | exact tT_len | (simp only [List.length_cons, List.length_nil])) only [e185_44, e185_45, e185_46, e185_49, e185_51, e185_52, e185_53, e185_56, e185_57, e185_59, e185_61, e185_64, e185_66, e185_67, e185_70, e185_72, e185_73, e185_76, e185_78, e185_79, e185_82, e185_83, e185_86, e185_88, e185_89, e185_90, e185_91, e185_94, e185_116, e185_119, kv_s, kh_s, kr_s, kr_v, kn_s, z0, z1, z2, nI_ltI, nI_leI, nI_eq, nI_add, oN, bz0, bz1, bw0, bw1, ltT, ltF, leT, leF, eqT, eqF, if_true, if_false, kI_n, wI_n, and_true, true_and, and_false, false_and, not_true, not_false_eq_true, mwo, mwr_0, mwr_1, mwr_2, mwg_3, mwp_3, mwr_4, mwg_5, mwp_5, mwg_6, mwp_6, mwr_7, mwr_8, mwg_9, mwp_9, mwg_10, mwp_10, mwg_11, mwp_11, mwr_12, mwg_13, mwp_13, mwr_14, mwr_15, mwr_16, mwr_17, mwr_18, mwr_19, mwg_20, mwp_20, mwr_21, mwr_22, mwr_23, mwa_1, mwu_1, mwa_2, mwu_2, mwa_3, mwu_3, mwa_4, mwu_4, mwa_5, mwu_5, mwa_6, mwu_6, mwa_7, mwu_7, mwa_8, mwu_8, mwa_9, mwu_9, mwa_10, mwu_10, mwa_11, mwu_11, mwa_12, mwu_12, mwa_13, mwu_13, mwa_14, mwu_14, mwa_15, mwu_15, mwa_16, mwu_16, vu_at, vu_ne, pk_us, pk_un, kB_n, wB_n, kL_n, wL_n, M_depth hh, e6, shl_nI, M_place hh hj, lA_6, b1, bI, Bool.false_eq_true]
    | true =>
      rw [hb] at b1
      by_cases hs : 2 ^ (d - j) = 1
      · have hk0 : k = 0 := by omega
        have hP1 : hP d W (2 ^ (d - j) + k) = true := hP_c.mpr ⟨hb, Or.inl (by omega)⟩
        rw [← fin hP1]
        simp (disch := first | omega | exact tl_l | exact tT_len | (simp only [List.length_cons, List.length_nil])) only [e185_44, e185_45, e185_46, e185_49, e185_51, e185_52, e185_53, e185_56, e185_57, e185_59, e185_61, e185_64, e185_66, e185_67, e185_70, e185_72, e185_73, e185_76, e185_78, e185_79, e185_82, e185_83, e185_86, e185_88, e185_89, e185_90, e185_91, e185_94, kv_s, kh_s, kr_s, kr_v, kn_s, z0, z1, z2, nI_ltI, nI_leI, nI_eq, nI_add, oN, bz0, bz1, bw0, bw1, ltT, ltF, leT, leF, eqT, eqF, if_true, if_false, kI_n, wI_n, and_true, true_and, and_false, false_and, not_true, not_false_eq_true, mwo, mwr_0, mwr_1, mwr_2, mwg_3, mwp_3, mwr_4, mwg_5, mwp_5, mwg_6, mwp_6, mwr_7, mwr_8, mwg_9, mwp_9, mwg_10, mwp_10, mwg_11, mwp_11, mwr_12, mwg_13, mwp_13, mwr_14, mwr_15, mwr_16, mwr_17, mwr_18, mwr_19, mwg_20, mwp_20, mwr_21, mwr_22, mwr_23, mwa_1, mwu_1, mwa_2, mwu_2, mwa_3, mwu_3, mwa_4, mwu_4, mwa_5, mwu_5, mwa_6, mwu_6, mwa_7, mwu_7, mwa_8, mwu_8, mwa_9, mwu_9, mwa_10, mwu_10, mwa_11, mwu_11, mwa_12, mwu_12, mwa_13, mwu_13, mwa_14, mwu_14, mwa_15, mwu_15, mwa_16, mwu_16, vu_at, vu_ne, pk_us, pk_un, kB_n, wB_n, kL_n, wL_n, M_depth hh, e6, shl_nI, M_place hh hj, lA_6, b1, bI, n01]
      · have h3 : 2 ≤ 2 ^ (d - j) := by omega
        have b2 := (e2 ((2 ^ (d - j) + k) / 2) (by omega) (by omega)).2
        cases hbu : br d W ((2 ^ (d - j) + k) / 2) with
        | true =>
          rw [hbu] at b2
          have hP0 : hP d W (2 ^ (d - j) + k) = false := by
            cases hh : hP d W (2 ^ (d - j) + k) with
            | false => rfl
            | true =>
              rcases (hP_c.mp hh).2 with z | z
              · omega
              · rw [hbu] at z; cases z
          rw [(hno hP0).1, (hno hP0).2]
          simp (disch := first | omega | exact tl_l | exact tT_len | (simp only [List.length_cons, List.length_nil])) only [e185_44, e185_45, e185_46, e185_49, e185_51, e185_52, e185_53, e185_56, e185_57, e185_59, e185_61, e185_64, e185_66, e185_67, e185_70, e185_72, e185_73, e185_76, e185_78, e185_79, e185_82, e185_83, e185_86, e185_88, e185_89, e185_90, e185_91, e185_94, e185_116, e185_119, kv_s, kh_s, kr_s, kr_v, kn_s, z0, z1, z2, nI_ltI, nI_leI, nI_eq, nI_add, oN, bz0, bz1, bw0, bw1, ltT, ltF, leT, leF, eqT, eqF, if_true, if_false, kI_n, wI_n, and_true, true_and, and_false, false_and, not_true, not_false_eq_true, mwo, mwr_0, mwr_1, mwr_2, mwg_3, mwp_3, mwr_4, mwg_5, mwp_5, mwg_6, mwp_6, mwr_7, mwr_8, mwg_9, mwp_9, mwg_10, mwp_10, mwg_11, mwp_11, mwr_12, mwg_13, mwp_13, mwr_14, mwr_15, mwr_16, mwr_17, mwr_18, mwr_19, mwg_20, mwp_20, mwr_21, mwr_22, mwr_23, mwa_1, mwu_1, mwa_2, mwu_2, mwa_3, mwu_3, mwa_4, mwu_4, mwa_5, mwu_5, mwa_6, mwu_6, mwa_7, mwu_7, mwa_8, mwu_8, mwa_9, mwu_9, mwa_10, mwu_10, mwa_11, mwu_11, mwa_12, mwu_12, mwa_13, mwu_13, mwa_14, mwu_14, mwa_15, mwu_15, mwa_16, mwu_16, vu_at, vu_ne, pk_us, pk_un, kB_n, wB_n, kL_n, wL_n, M_depth hh, e6, shl_nI, M_place hh hj, lA_6, b1, b2, bI, n01, div2, eq_false (show ¬ (nI 2 = nI 0) by decide)]
        | false =>
          rw [hbu] at b2
          have hP1 : hP d W (2 ^ (d - j) + k) = true := hP_c.mpr ⟨hb, Or.inr hbu⟩
          rw [← fin hP1]
          simp (disch := first | omega | exact tl_l | exact tT_len | (simp only [List.length_cons, List.length_nil])) only [e185_44, e185_45, e185_46, e185_49, e185_51, e185_52, e185_53, e185_56, e185_57, e185_59, e185_61, e185_64, e185_66, e185_67, e185_70, e185_72, e185_73, e185_76, e185_78, e185_79, e185_82, e185_83, e185_86, e185_88, e185_89, e185_90, e185_91, e185_94, kv_s, kh_s, kr_s, kr_v, kn_s, z0, z1, z2, nI_ltI, nI_leI, nI_eq, nI_add, oN, bz0, bz1, bw0, bw1, ltT, ltF, leT, leF, eqT, eqF, if_true, if_false, kI_n, wI_n, and_true, true_and, and_false, false_and, not_true, not_false_eq_true, mwo, mwr_0, mwr_1, mwr_2, mwg_3, mwp_3, mwr_4, mwg_5, mwp_5, mwg_6, mwp_6, mwr_7, mwr_8, mwg_9, mwp_9, mwg_10, mwp_10, mwg_11, mwp_11, mwr_12, mwg_13, mwp_13, mwr_14, mwr_15, mwr_16, mwr_17, mwr_18, mwr_19, mwg_20, mwp_20, mwr_21, mwr_22, mwr_23, mwa_1, mwu_1, mwa_2, mwu_2, mwa_3, mwu_3, mwa_4, mwu_4, mwa_5, mwu_5, mwa_6, mwu_6, mwa_7, mwu_7, mwa_8, mwu_8, mwa_9, mwu_9, mwa_10, mwu_10, mwa_11, mwu_11, mwa_12, mwu_12, mwa_13, mwu_13, mwa_14, mwu_14, mwa_15, mwu_15, mwa_16, mwu_16, vu_at, vu_ne, pk_us, pk_un, kB_n, wB_n, kL_n, wL_n, M_depth hh, e6, shl_nI, M_place hh hj, lA_6, b1, b2, bI, n01, div2, Bool.false_eq_true, eq_false (show ¬ (nI 2 = nI 0) by decide)]
theorem M_holes_out (h : nowM (A 1) d f l V) {v : Nat} (h1 : f ≤ v) (h2 : v ≤ l) {M' B' : Nat → Int32} (e2 : laid d (V v) M' B' 1) : ∀ (n j : Nat) {l6 l7 : Value}, j + n = d + 1 → den 185 30 [.ref m, .int (nI v), .int (nI (hS d (V v) j)), .int (hG d (V v) j).1, .int (hG d (V v) j).2, .int (nI j), l6, l7] [] (mw σ m (lA A M' B') R I) = some (some (.int (nI (hS d (V v) (d + 1)))), mw σ m (lA A M' B') (rl R [(hG d (V v) (d + 1)).1.toInt64, (hG d (V v) (d + 1)).2.toInt64, (nI (2 ^ d) - nI (un d (V v) 1)).toInt64]) (upd I 5 (nI 3))) := by
  have hK := h.K
  have hh : ∀ {M B}, nowM (lA A M B 1) d f l V := h
  intro n
  induction n with
  | zero =>
    intro j l6 l7 hj
    have : j = d + 1 := by omega
    subst this
    rw [e185_30]
    simp (disch := first | omega | exact tl_l | exact tT_len | (simp only [List.length_cons, List.length_nil])) only [e185_0, e185_1, e185_2, e185_5, e185_6, e185_7, e185_10, e185_13, e185_14, e185_15, e185_16, e185_17, e185_20, e185_21, e185_22, e185_23, e185_24, e185_25, e185_27, e185_28, e185_32, e185_33, e185_36, e185_39, e185_40, e185_44, e185_45, e185_46, e185_49, e185_51, e185_52, e185_53, e185_56, e185_57, e185_59, e185_61, e185_64, e185_66, e185_67, e185_70, e185_72, e185_73, e185_76, e185_78, e185_79, e185_82, e185_83, e185_86, e185_88, e185_89, e185_90, e185_91, e185_94, e185_97, e185_100, e185_102, e185_103, e185_106, e185_109, e185_111, e185_112, e185_114, e185_116, e185_119, e185_122, e185_125, e185_128, e185_129, e185_130, e185_133, e185_134, e185_135, e185_136, e185_139, e185_140, e185_142, e185_143, e185_146, e185_147, e185_148, e185_151, e185_152, e185_153, e185_156, e185_157, e185_158, e185_161, e185_162, kv_s, kh_s, kr_s, kr_v, kn_s, z0, z1, z2, nI_ltI, nI_leI, nI_eq, nI_add, oN, bz0, bz1, bw0, bw1, ltT, ltF, leT, leF, eqT, eqF, if_true, if_false, kI_n, wI_n, and_true, true_and, and_false, false_and, not_true, not_false_eq_true, mwo, mwr_0, mwr_1, mwr_2, mwg_3, mwp_3, mwr_4, mwg_5, mwp_5, mwg_6, mwp_6, mwr_7, mwr_8, mwg_9, mwp_9, mwg_10, mwp_10, mwg_11, mwp_11, mwr_12, mwg_13, mwp_13, mwr_14, mwr_15, mwr_16, mwr_17, mwr_18, mwr_19, mwg_20, mwp_20, mwr_21, mwr_22, mwr_23, mwa_1, mwu_1, mwa_2, mwu_2, mwa_3, mwu_3, mwa_4, mwu_4, mwa_5, mwu_5, mwa_6, mwu_6, mwa_7, mwu_7, mwa_8, mwu_8, mwa_9, mwu_9, mwa_10, mwu_10, mwa_11, mwu_11, mwa_12, mwu_12, mwa_13, mwu_13, mwa_14, mwu_14, mwa_15, mwu_15, mwa_16, mwu_16, vu_at, vu_ne, pk_us, pk_un, kB_n, wB_n, kL_n, wL_n, M_depth hh, M_tell0, M_tell, M_keys hh, M_valued hh h1 h2, List.nil_append, List.cons_append]
  | succ n ih =>
    intro j l6 l7 hj
    have hg : (hG d (V v) j).1 ≠ nI j := fun z => by
      rcases hG_lv (d := d) (W := V v) j with y | ⟨e, y1, y2⟩
      · rw [y] at z
        have := n1_nI (q := j) (by omega)
        rw [this] at z
        exact z
      · rw [y2] at z
        have := (nI_eq (a := e) (b := j) (by omega) (by omega)).mp z
        omega
    obtain ⟨l7', e⟩ := M_holes_in (σ := σ) (m := m) (A := A) (R := R) (I := I) h e2 (j := j) (by omega) (C := hS d (V v) j) (g := hG d (V v) j) hg (l1 := .int (nI v)) (2 ^ (d - j)) 0 (l7 := l7) (Nat.zero_add _)
    have i1 := ih (j + 1) (l6 := .int (nI (2 ^ (d - j)))) (l7 := l7') (by omega)
    have eG : hG d (V v) (j + 1) = hN (fsN (hP d (V v)) (2 ^ (d - j)) (2 ^ (d - j))) j (hG d (V v) j) := by
      rw [hG]
      cases fsN (hP d (V v)) (2 ^ (d - j)) (2 ^ (d - j)) <;> rfl
    have eS : hS d (V v) (j + 1) = hS d (V v) j + cnt (hP d (V v)) (2 ^ (d - j)) (2 ^ (d - j)) := rfl
    rw [eG, eS] at i1
    rw [← i1]
    have e0 : cnt (hP d (V v)) (2 ^ (d - j)) 0 = 0 := rfl
    have e1 : hN (fsN (hP d (V v)) (2 ^ (d - j)) 0) j (hG d (V v) j) = hG d (V v) j := rfl
    rw [e0, e1, Nat.add_zero] at e
    rw [e185_30]
    simp (disch := first | omega | exact tl_l | exact tT_len | (simp only [List.length_cons, List.length_nil])) only [e185_32, e185_33, e185_36, e185_39, e185_40, kv_s, kh_s, kr_s, kr_v, kn_s, z0, z1, z2, nI_ltI, nI_leI, nI_eq, nI_add, oN, bz0, bz1, bw0, bw1, ltT, ltF, leT, leF, eqT, eqF, if_true, if_false, kI_n, wI_n, and_true, true_and, and_false, false_and, not_true, not_false_eq_true, mwo, M_depth hh]
    rw [e]
    simp (disch := first | omega | exact tl_l | exact tT_len | (simp only [List.length_cons, List.length_nil])) only [e185_122, e185_125, kv_s, kh_s, kr_s, kr_v, kn_s, z0, z1, z2, nI_ltI, nI_leI, nI_eq, nI_add, oN, bz0, bz1, bw0, bw1, ltT, ltF, leT, leF, eqT, eqF, if_true, if_false, kI_n, wI_n, and_true, true_and, and_false, false_and, not_true, not_false_eq_true]
theorem hG_no {W : Nat → Int32} : ∀ j, hS d W j = 0 → hG d W j = (-nI 1, -nI 1) := by
  intro j
  induction j with
  | zero => intro _; rfl
  | succ j ih =>
    intro hz
    have eS : hS d W (j + 1) = hS d W j + cnt (hP d W) (2 ^ (d - j)) (2 ^ (d - j)) := rfl
    rw [hG, (fsN_cnt (P := hP d W) (a := 2 ^ (d - j)) (2 ^ (d - j))).1.mpr (by omega)]
    exact ih (by omega)
theorem C_holes0 (h : RB c σ T d f l V) {x : Int32} (hx : out f l x) : dcall 61 [.ref c, .int x] (cw σ c A R I) = some (some (.int (-nI 1)), cw σ c A R I) := by
  rw [q61]
  simp (disch := first | omega | exact tl_l | exact tT_len | (simp only [List.length_cons, List.length_nil])) only [e61_0, e61_1, e61_4, e61_5, e61_8, e61_8n, e61_9, e61_9n, e61_10, e61_10n, e61_13, e61_14, e61_15, e61_16, e61_17, e61_18, e61_20, e61_21, e61_23, e61_24, e61_27, e61_30, e61_34, e61_37, e61_38, e61_39, e61_42, e61_45, e61_47, e61_48, e61_49, e61_51, e61_52, e61_56, e61_58, e61_61, e61_61n, e61_62, e61_64, e61_66, e61_67, e61_70, e61_73, e61_75, e61_76, e61_79, e61_79n, e61_80, e61_82, e61_84, e61_85, e61_86, e61_87, e61_90, e61_93, e61_94, e61_97, e61_99, e61_101, e61_103, e61_105, e61_108, e61_111, e61_114, e61_117, e61_120, e61_121, e61_124, e61_127, e61_128, e61_131, e61_133, e61_134, e61_137, e61_138, e61_141, e61_143, e61_144, e61_147, e61_148, e61_151, e61_152, e61_155, e61_158, e61_158n, e61_159, e61_162, e61_165, e61_166, e61_167, e61_170, e61_171, kv_s, kh_s, kr_s, kr_v, kn_s, z0, z1, z2, nI_ltI, nI_leI, nI_eq, nI_add, oN, bz0, bz1, bw0, bw1, ltT, ltF, leT, leF, eqT, eqF, if_true, if_false, kI_n, wI_n, and_true, true_and, and_false, false_and, not_true, not_false_eq_true, cwo_1, cwr_1, cwg_0, cwg_1, cwg_2, cwa_0, cwl_0, cwo_3, cwr_3, cwg_3, cwa_R, cwl_R, cwo_5, cwr_5, cwg_4, cwg_5, cwg_6, cwg_7, cwg_8, cwa_1, cwl_1, cwo_7, cwr_7, cwg_9, cwg_10, cwg_11, cwg_12, cwg_13, cwa_2, cwl_2, cwo_17, cwr_17, cwg_14, cwa_3, cwl_3, cwp_0, cwp_1, cwp_2, cwp_3, cwp_4, cwp_5, cwp_6, cwp_7, cwp_8, cwp_9, cwp_10, cwp_11, cwp_12, cwp_13, cwp_14, cwu_0, cwu_R, cwu_1, cwu_2, cwu_3, vu_at, vu_ne, pk_us, pk_un, h.x.f0, h.x.f1, h.x.f2, h.x.f3, h.x.f4, h.x.f5, h.x.f6, h.x.f7, h.x.o, h.hi.o, h.hi.gd, h.hi.gf, h.hi.gl, Hi_keys h.hi h.d8, Hi_hasKey h.hi h.d8, Rw_empty, Rw_add, List.nil_append, List.cons_append, upd_upd, cwo_1, cwo_3, cwo_5, cwo_7, cwo_17, Bool.false_eq_true, n01, Hi_find_no h.hi hx]
theorem Ms_holes (h : nowM (A 1) d f l V) {x : Int32} (hx : out f l x) : Ms 185 [.ref m, .int x] σ m A R I (.int (-nI 1)) := by
  refine ⟨A, upd I 6 (nI 0), ?_, stay.rf, pk_un (by omega), pk_un (by omega)⟩
  rw [q185]
  simp (disch := first | omega | exact tl_l | exact tT_len | (simp only [List.length_cons, List.length_nil])) only [e185_0, e185_1, e185_2, e185_5, e185_6, e185_7, e185_10, e185_13, e185_14, e185_15, e185_16, e185_17, e185_20, e185_21, e185_22, e185_23, e185_24, e185_25, e185_27, e185_28, e185_32, e185_33, e185_36, e185_39, e185_40, e185_44, e185_45, e185_46, e185_49, e185_51, e185_52, e185_53, e185_56, e185_57, e185_59, e185_61, e185_64, e185_66, e185_67, e185_70, e185_72, e185_73, e185_76, e185_78, e185_79, e185_82, e185_83, e185_86, e185_88, e185_89, e185_90, e185_91, e185_94, e185_97, e185_100, e185_102, e185_103, e185_106, e185_109, e185_111, e185_112, e185_114, e185_116, e185_119, e185_122, e185_125, e185_128, e185_129, e185_130, e185_133, e185_134, e185_135, e185_136, e185_139, e185_140, e185_142, e185_143, e185_146, e185_147, e185_148, e185_151, e185_152, e185_153, e185_156, e185_157, e185_158, e185_161, e185_162, kv_s, kh_s, kr_s, kr_v, kn_s, z0, z1, z2, nI_ltI, nI_leI, nI_eq, nI_add, oN, bz0, bz1, bw0, bw1, ltT, ltF, leT, leF, eqT, eqF, if_true, if_false, kI_n, wI_n, and_true, true_and, and_false, false_and, not_true, not_false_eq_true, mwo, mwr_0, mwr_1, mwr_2, mwg_3, mwp_3, mwr_4, mwg_5, mwp_5, mwg_6, mwp_6, mwr_7, mwr_8, mwg_9, mwp_9, mwg_10, mwp_10, mwg_11, mwp_11, mwr_12, mwg_13, mwp_13, mwr_14, mwr_15, mwr_16, mwr_17, mwr_18, mwr_19, mwg_20, mwp_20, mwr_21, mwr_22, mwr_23, mwa_1, mwu_1, mwa_2, mwu_2, mwa_3, mwu_3, mwa_4, mwu_4, mwa_5, mwu_5, mwa_6, mwu_6, mwa_7, mwu_7, mwa_8, mwu_8, mwa_9, mwu_9, mwa_10, mwu_10, mwa_11, mwu_11, mwa_12, mwu_12, mwa_13, mwu_13, mwa_14, mwu_14, mwa_15, mwu_15, mwa_16, mwu_16, vu_at, vu_ne, pk_us, pk_un, kB_n, wB_n, kL_n, wL_n, M_ver0 h hx]
end HO
theorem J_holes (x : Int32) : Jn 61 185 [.int x] := by
  rintro c i σ hi ⟨z, n, B, L, q, K, A, R, I, A2, R2, I2, h⟩
  obtain ⟨T, hb⟩ := h.rb
  have hN := h.nm
  have hd := hb.d8
  rcases C_find hb x with ⟨ho, _⟩ | ⟨v, t, a1, a2, rfl, t1, t2, e1⟩
  · exact Inv_same h hi (C_holes0 hb ho) (Ms_holes hN ho)
  refine Inv_tell h hi (L' := [(hG z.1 (z.2.2.2 v) (z.1 + 1)).1.toInt64, (hG z.1 (z.2.2.2 v) (z.1 + 1)).2.toInt64, (nI (2 ^ z.1) - nI (un z.1 (z.2.2.2 v) 1)).toInt64]) (k := 3) (b := .int (nI (hS z.1 (z.2.2.2 v) (z.1 + 1)))) ?_ ?_ rfl (by omega)
  · have e := C_holes_out (A := A) (R := R) (I := I) hb t2 (l1 := .int (nI v)) (z.1 + 1) 0 (-nI 1, -nI 1) (l7 := junk) (l8 := junk) (Nat.le_refl _) (by omega)
    have e4 : nI (z.1 + 1) - nI 1 = nI z.1 := pk_sub (by omega)
    have eG : (if 0 = 0 then (if z.1 + 1 = 0 then (-nI 1, -nI 1) else if hS z.1 (z.2.2.2 v) (z.1 + 1) = 0 then (-nI 1, -nI 1) else hG z.1 (z.2.2.2 v) (z.1 + 1)) else (-nI 1, -nI 1)) = hG z.1 (z.2.2.2 v) (z.1 + 1) := by
      rw [if_pos rfl, if_neg (by omega)]
      by_cases h0 : hS z.1 (z.2.2.2 v) (z.1 + 1) = 0
      · rw [if_pos h0, hG_no _ h0]
      · rw [if_neg h0]
    rw [eG, e4, Nat.zero_add] at e
    rw [← e]
    have h := hb
    rw [q61]
    simp (disch := first | omega | exact tl_l | exact tT_len | (simp only [List.length_cons, List.length_nil])) only [e61_0, e61_1, e61_4, e61_5, e61_8, e61_8n, e61_9, e61_9n, e61_10, e61_10n, e61_13, e61_14, e61_15, e61_16, e61_17, e61_18, e61_20, e61_21, e61_23, e61_24, e61_27, e61_30, e61_34, e61_37, e61_38, e61_39, e61_42, e61_45, e61_47, e61_48, e61_49, e61_51, e61_52, e61_56, e61_58, e61_61, e61_61n, e61_62, e61_64, e61_66, e61_67, e61_70, e61_73, e61_75, e61_76, e61_79, e61_79n, e61_80, e61_82, e61_84, e61_85, e61_86, e61_87, e61_90, e61_93, e61_94, e61_97, e61_99, e61_101, e61_103, e61_105, e61_108, e61_111, e61_114, e61_117, e61_120, e61_121, e61_124, e61_127, e61_128, e61_131, e61_133, e61_134, e61_137, e61_138, e61_141, e61_143, e61_144, e61_147, e61_148, e61_151, e61_152, e61_155, e61_158, e61_158n, e61_159, e61_162, e61_165, e61_166, e61_167, e61_170, e61_171, kv_s, kh_s, kr_s, kr_v, kn_s, z0, z1, z2, nI_ltI, nI_leI, nI_eq, nI_add, oN, bz0, bz1, bw0, bw1, ltT, ltF, leT, leF, eqT, eqF, if_true, if_false, kI_n, wI_n, and_true, true_and, and_false, false_and, not_true, not_false_eq_true, cwo_1, cwr_1, cwg_0, cwg_1, cwg_2, cwa_0, cwl_0, cwo_3, cwr_3, cwg_3, cwa_R, cwl_R, cwo_5, cwr_5, cwg_4, cwg_5, cwg_6, cwg_7, cwg_8, cwa_1, cwl_1, cwo_7, cwr_7, cwg_9, cwg_10, cwg_11, cwg_12, cwg_13, cwa_2, cwl_2, cwo_17, cwr_17, cwg_14, cwa_3, cwl_3, cwp_0, cwp_1, cwp_2, cwp_3, cwp_4, cwp_5, cwp_6, cwp_7, cwp_8, cwp_9, cwp_10, cwp_11, cwp_12, cwp_13, cwp_14, cwu_0, cwu_R, cwu_1, cwu_2, cwu_3, vu_at, vu_ne, pk_us, pk_un, h.x.f0, h.x.f1, h.x.f2, h.x.f3, h.x.f4, h.x.f5, h.x.f6, h.x.f7, h.x.o, h.hi.o, h.hi.gd, h.hi.gf, h.hi.gl, Hi_keys h.hi h.d8, Hi_hasKey h.hi h.d8, Rw_empty, Rw_add, List.nil_append, List.cons_append, upd_upd, cwo_1, cwo_3, cwo_5, cwo_7, cwo_17, Bool.false_eq_true, n01, e1]
  · intro τ
    obtain ⟨M', B', g1, g2⟩ := M_lay (σ := τ) (m := c + 24) (A := A2) (R := R2) (I := upd I2 6 (nI 0)) hN a1 a2 (h.ok v a1 a2).1
    refine ⟨lA A2 M' B', upd (upd I2 6 (nI 0)) 5 (nI 3), ?_, stay_lA, by rw [pk_un (by omega), pk_un (by omega)], pk_us⟩
    have e := M_holes_out (σ := τ) (m := c + 24) (A := A2) (R := R2) (I := upd I2 6 (nI 0)) hN a1 a2 g2 (z.1 + 1) 0 (l6 := junk) (l7 := junk) (Nat.zero_add _)
    rw [← e]
    rw [q185]
    simp (disch := first | omega | exact tl_l | exact tT_len | (simp only [List.length_cons, List.length_nil])) only [e185_0, e185_1, e185_2, e185_5, e185_6, e185_7, e185_10, e185_13, e185_14, e185_15, e185_16, e185_17, e185_20, e185_21, e185_22, e185_23, e185_24, e185_25, e185_27, e185_28, e185_32, e185_33, e185_36, e185_39, e185_40, e185_44, e185_45, e185_46, e185_49, e185_51, e185_52, e185_53, e185_56, e185_57, e185_59, e185_61, e185_64, e185_66, e185_67, e185_70, e185_72, e185_73, e185_76, e185_78, e185_79, e185_82, e185_83, e185_86, e185_88, e185_89, e185_90, e185_91, e185_94, e185_97, e185_100, e185_102, e185_103, e185_106, e185_109, e185_111, e185_112, e185_114, e185_116, e185_119, e185_122, e185_125, e185_128, e185_129, e185_130, e185_133, e185_134, e185_135, e185_136, e185_139, e185_140, e185_142, e185_143, e185_146, e185_147, e185_148, e185_151, e185_152, e185_153, e185_156, e185_157, e185_158, e185_161, e185_162, kv_s, kh_s, kr_s, kr_v, kn_s, z0, z1, z2, nI_ltI, nI_leI, nI_eq, nI_add, oN, bz0, bz1, bw0, bw1, ltT, ltF, leT, leF, eqT, eqF, if_true, if_false, kI_n, wI_n, and_true, true_and, and_false, false_and, not_true, not_false_eq_true, mwo, mwr_0, mwr_1, mwr_2, mwg_3, mwp_3, mwr_4, mwg_5, mwp_5, mwg_6, mwp_6, mwr_7, mwr_8, mwg_9, mwp_9, mwg_10, mwp_10, mwg_11, mwp_11, mwr_12, mwg_13, mwp_13, mwr_14, mwr_15, mwr_16, mwr_17, mwr_18, mwr_19, mwg_20, mwp_20, mwr_21, mwr_22, mwr_23, mwa_1, mwu_1, mwa_2, mwu_2, mwa_3, mwu_3, mwa_4, mwu_4, mwa_5, mwu_5, mwa_6, mwu_6, mwa_7, mwu_7, mwa_8, mwu_8, mwa_9, mwu_9, mwa_10, mwu_10, mwa_11, mwu_11, mwa_12, mwu_12, mwa_13, mwu_13, mwa_14, mwu_14, mwa_15, mwu_15, mwa_16, mwu_16, vu_at, vu_ne, pk_us, pk_un, kB_n, wB_n, kL_n, wL_n, M_ver hN a1 a2, n01, g1, hS, hG]
