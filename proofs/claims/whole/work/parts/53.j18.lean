/-! calls: proof -/
theorem vu_vu {α : Type} {f : Nat → α} {k : Nat} {x y : α} : va_up (va_up f k x) k y = va_up f k y := by
  funext j
  by_cases h : j = k
  · subst h; rw [vu_at, vu_at]
  · rw [vu_ne h, vu_ne h, vu_ne h]
theorem vu_id {α : Type} {f : Nat → α} {k : Nat} : va_up f k (f k) = f := by
  funext j
  by_cases h : j = k
  · subst h; rw [vu_at]
  · rw [vu_ne h]
theorem nI_or {a b : Nat} (ha : a < 2 ^ 31) (hb : b < 2 ^ 31) : nI a ||| nI b = nI (a ||| b) := by
  have hx : a ||| b < 2 ^ 31 := Nat.or_lt_two_pow ha hb
  apply Int32.toBitVec_inj.mp
  apply BitVec.eq_of_toNat_eq
  rw [Int32.toBitVec_or, BitVec.toNat_or, pk_tn (by omega), pk_tn (by omega), pk_tn (by omega)]
theorem or_bit {a j : Nat} (ha : a < 2 ^ j) (hj : j ≤ 8) : nI a ||| nI (2 ^ j) = nI (a + 2 ^ j) := by
  have h8 : 2 ^ j ≤ 2 ^ 8 := Nat.pow_le_pow_right (by omega) hj
  rw [nI_or (by omega) (by omega), Nat.or_comm, show 2 ^ j ||| a = 2 ^ j + a from ((Nat.mul_one (2 ^ j)) ▸ Nat.two_pow_add_eq_or_of_lt ha 1).symm, Nat.add_comm]
theorem anc_gt {d k j : Nat} (h : j < d) : 1 < anc d k j := by
  rw [anc_eq (by omega)]
  have : 2 ^ 1 ≤ 2 ^ (d - j) := Nat.pow_le_pow_right (by omega) (by omega)
  exact Nat.lt_of_lt_of_le (show 1 < 2 ^ (d - j) by omega) (Nat.le_add_right _ _)
/-- bits and marks of a proof, level by level -/
def pq (d k : Nat) (W : Nat → Int32) : Nat → Nat × List Int32
  | 0 => (0, [])
  | j + 1 => if br d W (sib (anc d k j)) = true then pq d k W j else ((pq d k W j).1 + 2 ^ j, (pq d k W j).2 ++ [mk d W (sib (anc d k j))])
theorem pq_bd {d k : Nat} {W : Nat → Int32} : ∀ j, (pq d k W j).1 < 2 ^ j ∧ (pq d k W j).2.length ≤ j := by
  intro j
  induction j with
  | zero => exact ⟨Nat.lt_succ_self _, Nat.le_refl _⟩
  | succ j ih =>
    have e : 2 ^ (j + 1) = 2 * 2 ^ j := by rw [Nat.pow_succ]; omega
    rw [pq]
    split
    · exact ⟨by omega, by omega⟩
    · refine ⟨by show (pq d k W j).1 + 2 ^ j < _; omega, ?_⟩
      show ((pq d k W j).2 ++ [_]).length ≤ j + 1
      rw [List.length_append]
      have : ([mk d W (sib (anc d k j))] : List Int32).length = 1 := rfl
      omega
/-- the proof of a key, so many levels up -/
def pr (d k : Nat) (W : Nat → Int32) (j : Nat) : Hn := (k, (W k).toNatClampNeg, pq d k W j)
theorem push6 {l : List Int32} {f : Nat → Int32} (hf : ∀ i, i < l.length → some (f i) = l[i]?) (x : Int32) : ∀ i, i < (l ++ [x]).length → some (upd f l.length x i) = (l ++ [x])[i]? := by
  intro i hi
  rw [List.length_append] at hi
  have h1 : ([x] : List Int32).length = 1 := rfl
  by_cases h : i = l.length
  · subst h
    rw [pk_us, List.getElem?_append_right (Nat.le_refl _), Nat.sub_self]
    rfl
  · rw [pk_un h, List.getElem?_append_left (by omega)]
    exact hf i (by omega)
section PF
variable {c i : Nat} {σ : Hp} {m d f l : Nat} {V : Nat → Nat → Int32} {T : Nat → Option Nat} {R : Nat → Int64}
theorem C_proof_loop (h : RB c σ T d f l V) {W : Nat → Int32} {t : Nat} (t2 : ∀ {A R I}, isT (cw σ c A R I) t d W) {k : Nat} (hk : k < 2 ^ d) {l1 : Value} : ∀ (n j : Nat) (A : Nat → Nat → Int32) (I : Nat → Int32) {l6 : Value}, j + n = d → RCh A I (some (pr d k W j)) → ∃ A' I' l6', den 72 54 [.ref c, l1, .int (nI k), .ref t, .int (nI (2 ^ d + k)), .int (nI j), l6] [] (cw σ c A R I) = den 72 119 [.ref c, l1, .int (nI k), .ref t, .int (nI (2 ^ d + k)), .int (nI d), l6'] [] (cw σ c A' R I') ∧ RCh A' I' (some (pr d k W d)) ∧ A' 0 = A 0 ∧ I' 0 = I 0 ∧ I' 14 = I 14 := by
  have hK := h.K
  have hd := h.d8
  intro n
  induction n with
  | zero =>
    intro j A I l6 hj hq
    have : j = d := by omega
    subst this
    refine ⟨A, I, l6, ?_, hq, rfl, rfl, rfl⟩
    rw [e72_54]
    simp (disch := first | omega | exact tl_l | exact tT_len | (simp only [List.length_cons, List.length_nil])) only [e72_56, e72_57, e72_60, e72_63, kv_s, kh_s, kr_s, kr_v, kn_s, z0, z1, z2, nI_ltI, nI_leI, nI_eq, nI_add, oN, bz0, bz1, bw0, bw1, ltT, ltF, leT, leF, eqT, eqF, if_true, if_false, kI_n, wI_n, and_true, true_and, and_false, false_and, not_true, not_false_eq_true, cwo_1, cwr_1, cwg_0, cwg_1, cwg_2, cwa_0, cwl_0, cwo_3, cwr_3, cwg_3, cwa_R, cwl_R, cwo_5, cwr_5, cwg_4, cwg_5, cwg_6, cwg_7, cwg_8, cwa_1, cwl_1, cwo_7, cwr_7, cwg_9, cwg_10, cwg_11, cwg_12, cwg_13, cwa_2, cwl_2, cwo_17, cwr_17, cwg_14, cwa_3, cwl_3, cwp_0, cwp_1, cwp_2, cwp_3, cwp_4, cwp_5, cwp_6, cwp_7, cwp_8, cwp_9, cwp_10, cwp_11, cwp_12, cwp_13, cwp_14, cwu_0, cwu_R, cwu_1, cwu_2, cwu_3, vu_at, vu_ne, pk_us, pk_un, h.x.f0, h.x.f1, h.x.f2, h.x.f3, h.x.f4, h.x.f5, h.x.f6, h.x.f7, h.x.o, h.hi.o, h.hi.gd, h.hi.gf, h.hi.gl, Hi_keys h.hi h.d8, Hi_hasKey h.hi h.d8, Rw_empty, Rw_add, List.nil_append, List.cons_append, upd_upd, cwo_1, cwo_3, cwo_5, cwo_7, cwo_17, Bool.false_eq_true, n01]
  | succ n ih =>
    intro j A I l6 hj hq
    obtain ⟨q1, q2, q3, q4, q5, q6⟩ := hq
    have hp := pq_bd (d := d) (k := k) (W := W) j
    have ha := anc_bd hk (show j ≤ d by omega)
    have ha2 : 1 < anc d k j := anc_gt (by omega)
    have es := sib_bd (d := d) (p := anc d k j) ha2 ha.2
    have e2 : nI (2 ^ d + k) >>> (nI j &&& 31) = nI (anc d k j) := shrN (by omega) (by omega)
    have hbb := fun A R I => T_bareb (t2 (A := A) (R := R) (I := I)) es.1 es.2
    cases hb : br d W (sib (anc d k j)) with
    | true =>
      rw [hb] at hbb
      have e : pr d k W (j + 1) = pr d k W j := by rw [pr, pr, pq, if_pos hb]
      obtain ⟨A', I', l6', g1, g2⟩ := ih (j + 1) A I (l6 := .int (nI (sib (anc d k j)))) (by omega) (by rw [e]; exact ⟨q1, q2, q3, q4, q5, q6⟩)
      refine ⟨A', I', l6', ?_, g2⟩
      rw [← g1]
      rw [e72_54]
      simp (disch := first | omega | exact tl_l | exact tT_len | (simp only [List.length_cons, List.length_nil])) only [e72_56, e72_57, e72_60, e72_63, e72_66, e72_68, e72_70, e72_71, e72_72, e72_73, e72_75, e72_75n, e72_76, e72_78, e72_81, e72_84, e72_85, e72_88, e72_89, e72_92, e72_93, e72_95, e72_96, e72_97, e72_100, e72_101, e72_104, e72_104n, e72_105, e72_107, e72_110, e72_113, e72_116, kv_s, kh_s, kr_s, kr_v, kn_s, z0, z1, z2, nI_ltI, nI_leI, nI_eq, nI_add, oN, bz0, bz1, bw0, bw1, ltT, ltF, leT, leF, eqT, eqF, if_true, if_false, kI_n, wI_n, and_true, true_and, and_false, false_and, not_true, not_false_eq_true, cwo_1, cwr_1, cwg_0, cwg_1, cwg_2, cwa_0, cwl_0, cwo_3, cwr_3, cwg_3, cwa_R, cwl_R, cwo_5, cwr_5, cwg_4, cwg_5, cwg_6, cwg_7, cwg_8, cwa_1, cwl_1, cwo_7, cwr_7, cwg_9, cwg_10, cwg_11, cwg_12, cwg_13, cwa_2, cwl_2, cwo_17, cwr_17, cwg_14, cwa_3, cwl_3, cwp_0, cwp_1, cwp_2, cwp_3, cwp_4, cwp_5, cwp_6, cwp_7, cwp_8, cwp_9, cwp_10, cwp_11, cwp_12, cwp_13, cwp_14, cwu_0, cwu_R, cwu_1, cwu_2, cwu_3, vu_at, vu_ne, pk_us, pk_un, h.x.f0, h.x.f1, h.x.f2, h.x.f3, h.x.f4, h.x.f5, h.x.f6, h.x.f7, h.x.o, h.hi.o, h.hi.gd, h.hi.gf, h.hi.gl, Hi_keys h.hi h.d8, Hi_hasKey h.hi h.d8, Rw_empty, Rw_add, List.nil_append, List.cons_append, upd_upd, cwo_1, cwo_3, cwo_5, cwo_7, cwo_17, Bool.false_eq_true, n01, e2, nI_sib, t2.o, hbb]
    | false =>
      rw [hb] at hbb
      have e : pr d k W (j + 1) = (k, (W k).toNatClampNeg, (pq d k W j).1 + 2 ^ j, (pq d k W j).2 ++ [mk d W (sib (anc d k j))]) := by rw [pr, pq, if_neg (by rw [hb]; exact Bool.false_ne_true)]
      have hq5 : upd I 7 (nI ((pq d k W j).1 + 2 ^ j)) 8 = nI (pq d k W j).2.length := (pk_un (by omega)).trans q5
      have hq4 : I 7 = nI (pq d k W j).1 := q4
      have hor := or_bit hp.1 (show j ≤ 8 by omega)
      obtain ⟨A', I', l6', g1, g2, g3, g4, g5⟩ := ih (j + 1) (va_up A 1 (upd (A 1) (pq d k W j).2.length (mk d W (sib (anc d k j))))) (upd (upd I 7 (nI ((pq d k W j).1 + 2 ^ j))) 8 (nI ((pq d k W j).2.length + 1))) (l6 := .int (nI (sib (anc d k j)))) (by omega) (by
        rw [e]
        refine ⟨(pk_un (by omega)).trans ((pk_un (by omega)).trans q1), (pk_un (by omega)).trans ((pk_un (by omega)).trans q2), (pk_un (by omega)).trans ((pk_un (by omega)).trans q3), (pk_un (by omega)).trans pk_us, ?_, ?_⟩
        · rw [pk_us, List.length_append]; rfl
        · rw [vu_at]
          exact push6 q6 _)
      refine ⟨A', I', l6', ?_, g2, g3.trans (vu_ne (by omega)), g4.trans ((pk_un (by omega)).trans (pk_un (by omega))), g5.trans ((pk_un (by omega)).trans (pk_un (by omega)))⟩
      rw [← g1]
      rw [e72_54]
      simp (disch := first | omega | exact tl_l | exact tT_len | (simp only [List.length_cons, List.length_nil])) only [e72_56, e72_57, e72_60, e72_63, e72_66, e72_68, e72_70, e72_71, e72_72, e72_73, e72_75, e72_75n, e72_76, e72_78, e72_81, e72_84, e72_85, e72_88, e72_89, e72_92, e72_93, e72_95, e72_96, e72_97, e72_100, e72_101, e72_104, e72_104n, e72_105, e72_107, e72_110, e72_113, e72_116, kv_s, kh_s, kr_s, kr_v, kn_s, z0, z1, z2, nI_ltI, nI_leI, nI_eq, nI_add, oN, bz0, bz1, bw0, bw1, ltT, ltF, leT, leF, eqT, eqF, if_true, if_false, kI_n, wI_n, and_true, true_and, and_false, false_and, not_true, not_false_eq_true, cwo_1, cwr_1, cwg_0, cwg_1, cwg_2, cwa_0, cwl_0, cwo_3, cwr_3, cwg_3, cwa_R, cwl_R, cwo_5, cwr_5, cwg_4, cwg_5, cwg_6, cwg_7, cwg_8, cwa_1, cwl_1, cwo_7, cwr_7, cwg_9, cwg_10, cwg_11, cwg_12, cwg_13, cwa_2, cwl_2, cwo_17, cwr_17, cwg_14, cwa_3, cwl_3, cwp_0, cwp_1, cwp_2, cwp_3, cwp_4, cwp_5, cwp_6, cwp_7, cwp_8, cwp_9, cwp_10, cwp_11, cwp_12, cwp_13, cwp_14, cwu_0, cwu_R, cwu_1, cwu_2, cwu_3, vu_at, vu_ne, pk_us, pk_un, h.x.f0, h.x.f1, h.x.f2, h.x.f3, h.x.f4, h.x.f5, h.x.f6, h.x.f7, h.x.o, h.hi.o, h.hi.gd, h.hi.gf, h.hi.gl, Hi_keys h.hi h.d8, Hi_hasKey h.hi h.d8, Rw_empty, Rw_add, List.nil_append, List.cons_append, upd_upd, cwo_1, cwo_3, cwo_5, cwo_7, cwo_17, Bool.false_eq_true, n01, e2, nI_sib, t2.o, hbb, shl_nI, hq4, hor, T_mark t2 es.1 es.2, Pr_add hq5 (show (pq d k W j).2.length < 8 by omega)]
theorem C_proof (h : RB c σ T d f l V) {v k t : Nat} {A : Nat → Nat → Int32} {I : Nat → Int32} (t2 : ∀ {A R I}, isT (cw σ c A R I) t d (V v)) (hW : plW d (V v)) (hk : k < 2 ^ d) (e1 : ∀ {A R I}, dcall 59 [.ref (c + 9), .int (nI v)] (cw σ c A R I) = some (some (.ref t), cw σ c A R I)) : ∃ A' I', dcall 72 [.ref c, .int (nI v), .int (nI k)] (cw σ c A R I) = some (some (.int (nI (pq d k (V v) d).2.length)), cw σ c A' (rl R (tS ([lN (V v k).toNatClampNeg] ++ [lN (pq d k (V v) d).1]) (hg (pr d k (V v) d)) (pq d k (V v) d).2.length)) (upd I' 3 (nI (2 + (pq d k (V v) d).2.length)))) ∧ RCh A' I' (some (pr d k (V v) d)) ∧ A' 0 = A 0 ∧ I' 0 = I 0 ∧ I' 14 = I 14 ∧ okN (pr d k (V v) d) := by
  have hK := h.K
  have hd := h.d8
  have hn := hW.n hk
  have hs := isK_k (d := d) hd hk
  have hp := pq_bd (d := d) (k := k) (W := V v) d
  have ho : okN (pr d k (V v) d) := ⟨by show k < 256; omega, hn.2, by show (pq d k (V v) d).1 < 256; omega, by show (pq d k (V v) d).2.length ≤ 8; omega⟩
  obtain ⟨A', I', l6', g1, g2, g3, g4, g5⟩ := C_proof_loop (R := R) h t2 hk (l1 := .int (nI v)) d 0 A (upd (upd (upd (upd (upd I 4 (nI 1)) 5 (nI k)) 6 (V v k)) 7 (nI 0)) 8 (nI 0)) (l6 := junk) (Nat.zero_add _) (by
    refine ⟨?_, ?_, ?_, ?_, ?_, fun i hi => absurd hi (Nat.not_lt_zero i)⟩
    · rw [pk_un (by omega), pk_un (by omega), pk_un (by omega), pk_un (by omega), pk_us]
    · rw [pk_un (by omega), pk_un (by omega), pk_un (by omega), pk_us]; rfl
    · rw [pk_un (by omega), pk_un (by omega), pk_us]; exact hn.1
    · rw [pk_un (by omega), pk_us]; rfl
    · rw [pk_us]; rfl)
  refine ⟨A', I', ?_, g2, g3, g4.trans (by rw [pk_un (by omega), pk_un (by omega), pk_un (by omega), pk_un (by omega), pk_un (by omega)]), g5.trans (by rw [pk_un (by omega), pk_un (by omega), pk_un (by omega), pk_un (by omega), pk_un (by omega)]), ho⟩
  have e := A_tellHeld (A := A') (R := R) (I := I') (L := []) (k := 0) h g2 ho rfl (by omega)
  rw [rl_nil, Nat.zero_add, List.nil_append] at e
  obtain ⟨_, _, _, _, q5, _⟩ := g2
  have q5 : I' 8 = nI (pq d k (V v) d).2.length := q5
  have e' : dcall 75 [.ref c] (cw σ c A' R (upd I' 3 (nI 0))) = some (none, cw σ c A' (rl R (tS ([lN (V v k).toNatClampNeg] ++ [lN (pq d k (V v) d).1]) (hg (pr d k (V v) d)) (pq d k (V v) d).2.length)) (upd I' 3 (nI (2 + (pq d k (V v) d).2.length)))) := e
  rw [q72]
  simp (disch := first | omega | exact tl_l | exact tT_len | (simp only [List.length_cons, List.length_nil])) only [e72_0, e72_1, e72_4, e72_5, e72_8, e72_8n, e72_9, e72_9n, e72_10, e72_10n, e72_13, e72_14, e72_17, e72_18, e72_21, e72_24, e72_25, e72_26, e72_27, e72_30, e72_31, e72_31n, e72_32, e72_33, e72_36, e72_37, e72_40, e72_41, e72_44, e72_47, e72_48, e72_49, e72_51, e72_52, e72_56, e72_57, e72_60, e72_63, e72_66, e72_68, e72_70, e72_71, e72_72, e72_73, e72_75, e72_75n, e72_76, e72_78, e72_81, e72_84, e72_85, e72_88, e72_89, e72_92, e72_93, e72_95, e72_96, e72_97, e72_100, e72_101, e72_104, e72_104n, e72_105, e72_107, e72_110, e72_113, e72_116, e72_119, e72_120, e72_123, e72_126, e72_127, e72_130, e72_131, e72_134, e72_137, kv_s, kh_s, kr_s, kr_v, kn_s, z0, z1, z2, nI_ltI, nI_leI, nI_eq, nI_add, oN, bz0, bz1, bw0, bw1, ltT, ltF, leT, leF, eqT, eqF, if_true, if_false, kI_n, wI_n, and_true, true_and, and_false, false_and, not_true, not_false_eq_true, cwo_1, cwr_1, cwg_0, cwg_1, cwg_2, cwa_0, cwl_0, cwo_3, cwr_3, cwg_3, cwa_R, cwl_R, cwo_5, cwr_5, cwg_4, cwg_5, cwg_6, cwg_7, cwg_8, cwa_1, cwl_1, cwo_7, cwr_7, cwg_9, cwg_10, cwg_11, cwg_12, cwg_13, cwa_2, cwl_2, cwo_17, cwr_17, cwg_14, cwa_3, cwl_3, cwp_0, cwp_1, cwp_2, cwp_3, cwp_4, cwp_5, cwp_6, cwp_7, cwp_8, cwp_9, cwp_10, cwp_11, cwp_12, cwp_13, cwp_14, cwu_0, cwu_R, cwu_1, cwu_2, cwu_3, vu_at, vu_ne, pk_us, pk_un, h.x.f0, h.x.f1, h.x.f2, h.x.f3, h.x.f4, h.x.f5, h.x.f6, h.x.f7, h.x.o, h.hi.o, h.hi.gd, h.hi.gf, h.hi.gl, Hi_keys h.hi h.d8, Hi_hasKey h.hi h.d8, Rw_empty, Rw_add, List.nil_append, List.cons_append, upd_upd, cwo_1, cwo_3, cwo_5, cwo_7, cwo_17, Bool.false_eq_true, n01, e1, hs, t2.o, T_val t2, Pr_begin]
  rw [g1]
  simp (disch := first | omega | exact tl_l | exact tT_len | (simp only [List.length_cons, List.length_nil])) only [e72_0, e72_1, e72_4, e72_5, e72_8, e72_8n, e72_9, e72_9n, e72_10, e72_10n, e72_13, e72_14, e72_17, e72_18, e72_21, e72_24, e72_25, e72_26, e72_27, e72_30, e72_31, e72_31n, e72_32, e72_33, e72_36, e72_37, e72_40, e72_41, e72_44, e72_47, e72_48, e72_49, e72_51, e72_52, e72_56, e72_57, e72_60, e72_63, e72_66, e72_68, e72_70, e72_71, e72_72, e72_73, e72_75, e72_75n, e72_76, e72_78, e72_81, e72_84, e72_85, e72_88, e72_89, e72_92, e72_93, e72_95, e72_96, e72_97, e72_100, e72_101, e72_104, e72_104n, e72_105, e72_107, e72_110, e72_113, e72_116, e72_119, e72_120, e72_123, e72_126, e72_127, e72_130, e72_131, e72_134, e72_137, kv_s, kh_s, kr_s, kr_v, kn_s, z0, z1, z2, nI_ltI, nI_leI, nI_eq, nI_add, oN, bz0, bz1, bw0, bw1, ltT, ltF, leT, leF, eqT, eqF, if_true, if_false, kI_n, wI_n, and_true, true_and, and_false, false_and, not_true, not_false_eq_true, cwo_1, cwr_1, cwg_0, cwg_1, cwg_2, cwa_0, cwl_0, cwo_3, cwr_3, cwg_3, cwa_R, cwl_R, cwo_5, cwr_5, cwg_4, cwg_5, cwg_6, cwg_7, cwg_8, cwa_1, cwl_1, cwo_7, cwr_7, cwg_9, cwg_10, cwg_11, cwg_12, cwg_13, cwa_2, cwl_2, cwo_17, cwr_17, cwg_14, cwa_3, cwl_3, cwp_0, cwp_1, cwp_2, cwp_3, cwp_4, cwp_5, cwp_6, cwp_7, cwp_8, cwp_9, cwp_10, cwp_11, cwp_12, cwp_13, cwp_14, cwu_0, cwu_R, cwu_1, cwu_2, cwu_3, vu_at, vu_ne, pk_us, pk_un, h.x.f0, h.x.f1, h.x.f2, h.x.f3, h.x.f4, h.x.f5, h.x.f6, h.x.f7, h.x.o, h.hi.o, h.hi.gd, h.hi.gf, h.hi.gl, Hi_keys h.hi h.d8, Hi_hasKey h.hi h.d8, Rw_empty, Rw_add, List.nil_append, List.cons_append, upd_upd, cwo_1, cwo_3, cwo_5, cwo_7, cwo_17, Bool.false_eq_true, n01, rl_nil, e', q5]
theorem M_proof_loop {W : Nat → Int32} {M' B' : Nat → Int32} (e2 : laid d W M' B' 1) {k : Nat} (hk : k < 2 ^ d) (hd : d ≤ 8) {l1 l2 : Value} {I : Nat → Int32} : ∀ (n j : Nat) (A : Nat → Nat → Int32), j + n = d → A 5 = M' → A 6 = B' → RMh (A 2) (some (pr d k W j)) → ∃ N', den 195 71 [.ref m, l1, l2, .int (nI j), .int (nI (anc d k j))] [] (mw σ m A R I) = den 195 147 [.ref m, l1, l2, .int (nI d), .int (nI (anc d k d))] [] (mw σ m (va_up A 2 N') R I) ∧ RMh N' (some (pr d k W d)) := by
  have hK : 2 ^ d ≤ 256 := Nat.pow_le_pow_right (by omega) hd
  intro n
  induction n with
  | zero =>
    intro j A hj h5 h6 hq
    have : j = d := by omega
    subst this
    refine ⟨A 2, ?_, hq⟩
    rw [vu_id]
    have := anc_top hk
    rw [e195_71]
    simp (disch := first | omega | exact tl_l | exact tT_len | (simp only [List.length_cons, List.length_nil])) only [e195_73, e195_74, kv_s, kh_s, kr_s, kr_v, kn_s, z0, z1, z2, nI_ltI, nI_leI, nI_eq, nI_add, oN, bz0, bz1, bw0, bw1, ltT, ltF, leT, leF, eqT, eqF, if_true, if_false, kI_n, wI_n, and_true, true_and, and_false, false_and, not_true, not_false_eq_true, this]
  | succ n ih =>
    intro j A hj h5 h6 hq
    obtain ⟨q1, q2, q3, q4, q6⟩ := hq
    have hp := pq_bd (d := d) (k := k) (W := W) j
    have ha := anc_bd hk (show j ≤ d by omega)
    have ha2 : 1 < anc d k j := anc_gt (by omega)
    have es := sib_bd (d := d) (p := anc d k j) ha2 ha.2
    obtain ⟨b1, b2⟩ := e2 _ es.1 es.2
    cases hb : br d W (sib (anc d k j)) with
    | true =>
      rw [hb] at b2
      have e : pr d k W (j + 1) = pr d k W j := by rw [pr, pr, pq, if_pos hb]
      obtain ⟨N', g1, g2⟩ := ih (j + 1) A (by omega) h5 h6 (by rw [e]; exact ⟨q1, q2, q3, q4, q6⟩)
      refine ⟨N', ?_, g2⟩
      rw [anc_s] at g1
      rw [← g1]
      rw [e195_71]
      simp (disch := first | omega | exact tl_l | exact tT_len | (simp only [List.length_cons, List.length_nil])) only [e195_73, e195_74, e195_77, e195_78, e195_81, e195_83, e195_86, e195_87, e195_90, e195_91, e195_94, e195_95, e195_96, e195_97, e195_98, e195_99, e195_100, e195_101, e195_102, e195_103, e195_106, e195_107, e195_108, e195_111, e195_112, e195_113, e195_114, e195_115, e195_118, e195_120, e195_123, e195_124, e195_125, e195_126, e195_129, e195_130, e195_131, e195_132, e195_133, e195_134, e195_135, e195_138, e195_140, e195_141, e195_142, e195_144, kv_s, kh_s, kr_s, kr_v, kn_s, z0, z1, z2, nI_ltI, nI_leI, nI_eq, nI_add, oN, bz0, bz1, bw0, bw1, ltT, ltF, leT, leF, eqT, eqF, if_true, if_false, kI_n, wI_n, and_true, true_and, and_false, false_and, not_true, not_false_eq_true, mwo, mwr_0, mwr_1, mwr_2, mwg_3, mwp_3, mwr_4, mwg_5, mwp_5, mwg_6, mwp_6, mwr_7, mwr_8, mwg_9, mwp_9, mwg_10, mwp_10, mwg_11, mwp_11, mwr_12, mwg_13, mwp_13, mwr_14, mwr_15, mwr_16, mwr_17, mwr_18, mwr_19, mwg_20, mwp_20, mwr_21, mwr_22, mwr_23, mwa_1, mwu_1, mwa_2, mwu_2, mwa_3, mwu_3, mwa_4, mwu_4, mwa_5, mwu_5, mwa_6, mwu_6, mwa_7, mwu_7, mwa_8, mwu_8, mwa_9, mwu_9, mwa_10, mwu_10, mwa_11, mwu_11, mwa_12, mwu_12, mwa_13, mwu_13, mwa_14, mwu_14, mwa_15, mwu_15, mwa_16, mwu_16, vu_at, vu_ne, pk_us, pk_un, kB_n, wB_n, kL_n, wL_n, M_sibling, h6, b2, bI, n01, div2, eq_false (show ¬ (nI 2 = nI 0) by decide)]
    | false =>
      rw [hb] at b2
      have e : pr d k W (j + 1) = (k, (W k).toNatClampNeg, (pq d k W j).1 + 2 ^ j, (pq d k W j).2 ++ [mk d W (sib (anc d k j))]) := by rw [pr, pq, if_neg (by rw [hb]; exact Bool.false_ne_true)]
      have q1 : A 2 0 = nI (pq d k W j).2.length := q1
      have q4 : A 2 3 = nI (pq d k W j).1 := q4
      have hor := or_bit hp.1 (show j ≤ 8 by omega)
      have h40 : 4 + (pq d k W j).2.length ≠ 0 := by omega
      obtain ⟨N', g1, g2⟩ := ih (j + 1) (va_up A 2 (upd (upd (upd (A 2) 3 (nI ((pq d k W j).1 + 2 ^ j))) (4 + (pq d k W j).2.length) (mk d W (sib (anc d k j)))) 0 (nI ((pq d k W j).2.length + 1)))) (by omega) ((vu_ne (by omega)).trans h5) ((vu_ne (by omega)).trans h6) (by
        rw [e, vu_at]
        refine ⟨by rw [pk_us, List.length_append]; rfl, ?_, ?_, ?_, fun i hi => ?_⟩
        · rw [pk_un (by omega), pk_un (by omega), pk_un (by omega)]; exact q2
        · rw [pk_un (by omega), pk_un (by omega), pk_un (by omega)]; exact q3
        · rw [pk_un (by omega), pk_un (by omega), pk_us]
        · rw [pk_un (by omega)]
          refine Eq.trans ?_ (push6 (f := fun i => A 2 (4 + i)) q6 (mk d W (sib (anc d k j))) i hi)
          show some _ = some (upd (fun i => A 2 (4 + i)) (pq d k W j).2.length _ i)
          by_cases hi2 : i = (pq d k W j).2.length
          · subst hi2
            rw [pk_us]
            exact congrArg some pk_us.symm
          · rw [pk_un (by omega), pk_un (by omega)]
            exact congrArg some (pk_un (f := fun i => A 2 (4 + i)) hi2).symm)
      refine ⟨N', ?_, g2⟩
      rw [anc_s, vu_vu] at g1
      rw [← g1]
      rw [e195_71]
      simp (disch := first | omega | exact tl_l | exact tT_len | (simp only [List.length_cons, List.length_nil])) only [e195_73, e195_74, e195_77, e195_78, e195_81, e195_83, e195_86, e195_87, e195_90, e195_91, e195_94, e195_95, e195_96, e195_97, e195_98, e195_99, e195_100, e195_101, e195_102, e195_103, e195_106, e195_107, e195_108, e195_111, e195_112, e195_113, e195_114, e195_115, e195_118, e195_120, e195_123, e195_124, e195_125, e195_126, e195_129, e195_130, e195_131, e195_132, e195_133, e195_134, e195_135, e195_138, e195_140, e195_141, e195_142, e195_144, kv_s, kh_s, kr_s, kr_v, kn_s, z0, z1, z2, nI_ltI, nI_leI, nI_eq, nI_add, oN, bz0, bz1, bw0, bw1, ltT, ltF, leT, leF, eqT, eqF, if_true, if_false, kI_n, wI_n, and_true, true_and, and_false, false_and, not_true, not_false_eq_true, mwo, mwr_0, mwr_1, mwr_2, mwg_3, mwp_3, mwr_4, mwg_5, mwp_5, mwg_6, mwp_6, mwr_7, mwr_8, mwg_9, mwp_9, mwg_10, mwp_10, mwg_11, mwp_11, mwr_12, mwg_13, mwp_13, mwr_14, mwr_15, mwr_16, mwr_17, mwr_18, mwr_19, mwg_20, mwp_20, mwr_21, mwr_22, mwr_23, mwa_1, mwu_1, mwa_2, mwu_2, mwa_3, mwu_3, mwa_4, mwu_4, mwa_5, mwu_5, mwa_6, mwu_6, mwa_7, mwu_7, mwa_8, mwu_8, mwa_9, mwu_9, mwa_10, mwu_10, mwa_11, mwu_11, mwa_12, mwu_12, mwa_13, mwu_13, mwa_14, mwu_14, mwa_15, mwu_15, mwa_16, mwu_16, vu_at, vu_ne, pk_us, pk_un, kB_n, wB_n, kL_n, wL_n, M_sibling, h5, h6, b1, b2, bI, Bool.false_eq_true, div2, eq_false (show ¬ (nI 2 = nI 0) by decide), q1, q4, z3, z4, shl_nI, hor, vu_vu, h40]
theorem C_proof0 (h : RB c σ T d f l V) {A : Nat → Nat → Int32} {I : Nat → Int32} {x y : Int32} (hx : out f l x ∨ isK d y = false) : dcall 72 [.ref c, .int x, .int y] (cw σ c A R I) = some (some (.int (-nI 1)), cw σ c A R I) := by
  have hl := h.fl
  rcases C_find h x with ⟨_, e1⟩ | ⟨v, t, a1, a2, rfl, _, _, e1⟩
  · rw [q72]
    simp (disch := first | omega | exact tl_l | exact tT_len | (simp only [List.length_cons, List.length_nil])) only [e72_0, e72_1, e72_4, e72_5, e72_8, e72_8n, e72_9, e72_9n, e72_10, e72_10n, e72_13, e72_14, e72_17, e72_18, e72_21, e72_24, e72_25, e72_26, e72_27, e72_30, e72_31, e72_31n, e72_32, e72_33, e72_36, e72_37, e72_40, e72_41, e72_44, e72_47, e72_48, e72_49, e72_51, e72_52, e72_56, e72_57, e72_60, e72_63, e72_66, e72_68, e72_70, e72_71, e72_72, e72_73, e72_75, e72_75n, e72_76, e72_78, e72_81, e72_84, e72_85, e72_88, e72_89, e72_92, e72_93, e72_95, e72_96, e72_97, e72_100, e72_101, e72_104, e72_104n, e72_105, e72_107, e72_110, e72_113, e72_116, e72_119, e72_120, e72_123, e72_126, e72_127, e72_130, e72_131, e72_134, e72_137, kv_s, kh_s, kr_s, kr_v, kn_s, z0, z1, z2, nI_ltI, nI_leI, nI_eq, nI_add, oN, bz0, bz1, bw0, bw1, ltT, ltF, leT, leF, eqT, eqF, if_true, if_false, kI_n, wI_n, and_true, true_and, and_false, false_and, not_true, not_false_eq_true, cwo_1, cwr_1, cwg_0, cwg_1, cwg_2, cwa_0, cwl_0, cwo_3, cwr_3, cwg_3, cwa_R, cwl_R, cwo_5, cwr_5, cwg_4, cwg_5, cwg_6, cwg_7, cwg_8, cwa_1, cwl_1, cwo_7, cwr_7, cwg_9, cwg_10, cwg_11, cwg_12, cwg_13, cwa_2, cwl_2, cwo_17, cwr_17, cwg_14, cwa_3, cwl_3, cwp_0, cwp_1, cwp_2, cwp_3, cwp_4, cwp_5, cwp_6, cwp_7, cwp_8, cwp_9, cwp_10, cwp_11, cwp_12, cwp_13, cwp_14, cwu_0, cwu_R, cwu_1, cwu_2, cwu_3, vu_at, vu_ne, pk_us, pk_un, h.x.f0, h.x.f1, h.x.f2, h.x.f3, h.x.f4, h.x.f5, h.x.f6, h.x.f7, h.x.o, h.hi.o, h.hi.gd, h.hi.gf, h.hi.gl, Hi_keys h.hi h.d8, Hi_hasKey h.hi h.d8, Rw_empty, Rw_add, List.nil_append, List.cons_append, upd_upd, cwo_1, cwo_3, cwo_5, cwo_7, cwo_17, Bool.false_eq_true, n01, e1]
  · have hs := hx.resolve_left (not_out a1 a2 (by omega))
    rw [q72]
    simp (disch := first | omega | exact tl_l | exact tT_len | (simp only [List.length_cons, List.length_nil])) only [e72_0, e72_1, e72_4, e72_5, e72_8, e72_8n, e72_9, e72_9n, e72_10, e72_10n, e72_13, e72_14, e72_17, e72_18, e72_21, e72_24, e72_25, e72_26, e72_27, e72_30, e72_31, e72_31n, e72_32, e72_33, e72_36, e72_37, e72_40, e72_41, e72_44, e72_47, e72_48, e72_49, e72_51, e72_52, e72_56, e72_57, e72_60, e72_63, e72_66, e72_68, e72_70, e72_71, e72_72, e72_73, e72_75, e72_75n, e72_76, e72_78, e72_81, e72_84, e72_85, e72_88, e72_89, e72_92, e72_93, e72_95, e72_96, e72_97, e72_100, e72_101, e72_104, e72_104n, e72_105, e72_107, e72_110, e72_113, e72_116, e72_119, e72_120, e72_123, e72_126, e72_127, e72_130, e72_131, e72_134, e72_137, kv_s, kh_s, kr_s, kr_v, kn_s, z0, z1, z2, nI_ltI, nI_leI, nI_eq, nI_add, oN, bz0, bz1, bw0, bw1, ltT, ltF, leT, leF, eqT, eqF, if_true, if_false, kI_n, wI_n, and_true, true_and, and_false, false_and, not_true, not_false_eq_true, cwo_1, cwr_1, cwg_0, cwg_1, cwg_2, cwa_0, cwl_0, cwo_3, cwr_3, cwg_3, cwa_R, cwl_R, cwo_5, cwr_5, cwg_4, cwg_5, cwg_6, cwg_7, cwg_8, cwa_1, cwl_1, cwo_7, cwr_7, cwg_9, cwg_10, cwg_11, cwg_12, cwg_13, cwa_2, cwl_2, cwo_17, cwr_17, cwg_14, cwa_3, cwl_3, cwp_0, cwp_1, cwp_2, cwp_3, cwp_4, cwp_5, cwp_6, cwp_7, cwp_8, cwp_9, cwp_10, cwp_11, cwp_12, cwp_13, cwp_14, cwu_0, cwu_R, cwu_1, cwu_2, cwu_3, vu_at, vu_ne, pk_us, pk_un, h.x.f0, h.x.f1, h.x.f2, h.x.f3, h.x.f4, h.x.f5, h.x.f6, h.x.f7, h.x.o, h.hi.o, h.hi.gd, h.hi.gf, h.hi.gl, Hi_keys h.hi h.d8, Hi_hasKey h.hi h.d8, Rw_empty, Rw_add, List.nil_append, List.cons_append, upd_upd, cwo_1, cwo_3, cwo_5, cwo_7, cwo_17, Bool.false_eq_true, n01, e1, hs]
theorem Ms_proof {A : Nat → Nat → Int32} {I : Nat → Int32} (h : nowM (A 1) d f l V) {x y : Int32} (hx : out f l x ∨ isK d y = false) : Ms 195 [.ref m, .int x, .int y] σ m A R I (.int (-nI 1)) := by
  have hK := h.K
  rcases ver_in (x := x) (show l < 2 ^ 31 by omega) hK.2.2.2.1 with ⟨v, h1, h2, rfl⟩ | h0
  · have hs := hx.resolve_left (not_out h1 h2 (by omega))
    refine ⟨A, upd I 6 (nI 0), ?_, stay.rf, pk_un (by omega), pk_un (by omega)⟩
    rw [q195]
    simp (disch := first | omega | exact tl_l | exact tT_len | (simp only [List.length_cons, List.length_nil])) only [e195_0, e195_1, e195_2, e195_5, e195_6, e195_7, e195_10, e195_13, e195_14, e195_15, e195_18, e195_21, e195_22, e195_23, e195_24, e195_25, e195_28, e195_29, e195_32, e195_33, e195_34, e195_35, e195_36, e195_39, e195_40, e195_41, e195_42, e195_43, e195_46, e195_47, e195_48, e195_49, e195_50, e195_53, e195_54, e195_55, e195_58, e195_59, e195_60, e195_61, e195_62, e195_63, e195_64, e195_67, e195_68, e195_69, e195_73, e195_74, e195_77, e195_78, e195_81, e195_83, e195_86, e195_87, e195_90, e195_91, e195_94, e195_95, e195_96, e195_97, e195_98, e195_99, e195_100, e195_101, e195_102, e195_103, e195_106, e195_107, e195_108, e195_111, e195_112, e195_113, e195_114, e195_115, e195_118, e195_120, e195_123, e195_124, e195_125, e195_126, e195_129, e195_130, e195_131, e195_132, e195_133, e195_134, e195_135, e195_138, e195_140, e195_141, e195_142, e195_144, e195_147, e195_148, e195_149, e195_152, e195_153, e195_156, e195_157, e195_158, kv_s, kh_s, kr_s, kr_v, kn_s, z0, z1, z2, nI_ltI, nI_leI, nI_eq, nI_add, oN, bz0, bz1, bw0, bw1, ltT, ltF, leT, leF, eqT, eqF, if_true, if_false, kI_n, wI_n, and_true, true_and, and_false, false_and, not_true, not_false_eq_true, mwo, mwr_0, mwr_1, mwr_2, mwg_3, mwp_3, mwr_4, mwg_5, mwp_5, mwg_6, mwp_6, mwr_7, mwr_8, mwg_9, mwp_9, mwg_10, mwp_10, mwg_11, mwp_11, mwr_12, mwg_13, mwp_13, mwr_14, mwr_15, mwr_16, mwr_17, mwr_18, mwr_19, mwg_20, mwp_20, mwr_21, mwr_22, mwr_23, mwa_1, mwu_1, mwa_2, mwu_2, mwa_3, mwu_3, mwa_4, mwu_4, mwa_5, mwu_5, mwa_6, mwu_6, mwa_7, mwu_7, mwa_8, mwu_8, mwa_9, mwu_9, mwa_10, mwu_10, mwa_11, mwu_11, mwa_12, mwu_12, mwa_13, mwu_13, mwa_14, mwu_14, mwa_15, mwu_15, mwa_16, mwu_16, vu_at, vu_ne, pk_us, pk_un, kB_n, wB_n, kL_n, wL_n, M_ver h h1 h2, M_isKey h, hs, n01, Bool.false_eq_true]
  · refine ⟨A, upd I 6 (nI 0), ?_, stay.rf, pk_un (by omega), pk_un (by omega)⟩
    rw [q195]
    simp (disch := first | omega | exact tl_l | exact tT_len | (simp only [List.length_cons, List.length_nil])) only [e195_0, e195_1, e195_2, e195_5, e195_6, e195_7, e195_10, e195_13, e195_14, e195_15, e195_18, e195_21, e195_22, e195_23, e195_24, e195_25, e195_28, e195_29, e195_32, e195_33, e195_34, e195_35, e195_36, e195_39, e195_40, e195_41, e195_42, e195_43, e195_46, e195_47, e195_48, e195_49, e195_50, e195_53, e195_54, e195_55, e195_58, e195_59, e195_60, e195_61, e195_62, e195_63, e195_64, e195_67, e195_68, e195_69, e195_73, e195_74, e195_77, e195_78, e195_81, e195_83, e195_86, e195_87, e195_90, e195_91, e195_94, e195_95, e195_96, e195_97, e195_98, e195_99, e195_100, e195_101, e195_102, e195_103, e195_106, e195_107, e195_108, e195_111, e195_112, e195_113, e195_114, e195_115, e195_118, e195_120, e195_123, e195_124, e195_125, e195_126, e195_129, e195_130, e195_131, e195_132, e195_133, e195_134, e195_135, e195_138, e195_140, e195_141, e195_142, e195_144, e195_147, e195_148, e195_149, e195_152, e195_153, e195_156, e195_157, e195_158, kv_s, kh_s, kr_s, kr_v, kn_s, z0, z1, z2, nI_ltI, nI_leI, nI_eq, nI_add, oN, bz0, bz1, bw0, bw1, ltT, ltF, leT, leF, eqT, eqF, if_true, if_false, kI_n, wI_n, and_true, true_and, and_false, false_and, not_true, not_false_eq_true, mwo, mwr_0, mwr_1, mwr_2, mwg_3, mwp_3, mwr_4, mwg_5, mwp_5, mwg_6, mwp_6, mwr_7, mwr_8, mwg_9, mwp_9, mwg_10, mwp_10, mwg_11, mwp_11, mwr_12, mwg_13, mwp_13, mwr_14, mwr_15, mwr_16, mwr_17, mwr_18, mwr_19, mwg_20, mwp_20, mwr_21, mwr_22, mwr_23, mwa_1, mwu_1, mwa_2, mwu_2, mwa_3, mwu_3, mwa_4, mwu_4, mwa_5, mwu_5, mwa_6, mwu_6, mwa_7, mwu_7, mwa_8, mwu_8, mwa_9, mwu_9, mwa_10, mwu_10, mwa_11, mwu_11, mwa_12, mwu_12, mwa_13, mwu_13, mwa_14, mwu_14, mwa_15, mwu_15, mwa_16, mwu_16, vu_at, vu_ne, pk_us, pk_un, kB_n, wB_n, kL_n, wL_n, M_ver0 h h0]
end PF
theorem RC.hrow {A A' : Nat → Nat → Int32} {R : Nat → Int64} {I I' : Nat → Int32} {n : Nat} {B : Nat → Nat} {L L' : List Int64} {q q' : Option Hn} (h : RC A R I n B L q) (hA : A' 0 = A 0) (h0 : I' 0 = I 0) (h14 : I' 14 = I 14) (hq : RCh A' I' q') {k : Nat} (hL : L'.length = k) (hk : k ≤ 128) : RC A' (rl R L') (upd I' 3 (nI k)) n B L' q' := by
  have := (h.hand (q' := q') (I' := upd I' 3 (I 3)) hA ((pk_un (by omega)).trans h0) pk_us ((pk_un (by omega)).trans h14) (RCh_3 hq)).row (L' := L') hL hk
  rw [upd_upd] at this
  exact this
theorem J_proof (x y : Int32) : Jn 72 195 [.int x, .int y] := by
  rintro c i σ hi ⟨z, n, B, L, q, K, A, R, I, A2, R2, I2, h⟩
  obtain ⟨T, hb⟩ := h.rb
  have hN := h.nm
  rcases C_find hb x with ⟨ho, _⟩ | ⟨v, t, a1, a2, rfl, t1, t2, e1⟩
  · exact Inv_same h hi (C_proof0 hb (Or.inl ho)) (Ms_proof hN (Or.inl ho))
  cases hs : isK z.1 y with
  | false => exact Inv_same h hi (C_proof0 hb (Or.inr hs)) (Ms_proof hN (Or.inr hs))
  | true =>
    obtain ⟨k, hk, rfl⟩ := isK_of hb.d8 hs
    have hK := hb.K
    have hd := hb.d8
    have hW := (h.ok v a1 a2).1
    have hn := hW.n hk
    have hp := pq_bd (d := z.1) (k := k) (W := z.2.2.2 v) z.1
    obtain ⟨A', I', g1, g2, g3, g4, g5, g6⟩ := C_proof (R := R) (A := A) (I := I) hb t2 hW hk e1
    obtain ⟨M', B', m1, m2⟩ := M_lay (σ := cw σ c A' (rl R (tS ([lN (z.2.2.2 v k).toNatClampNeg] ++ [lN (pq z.1 k (z.2.2.2 v) z.1).1]) (hg (pr z.1 k (z.2.2.2 v) z.1)) (pq z.1 k (z.2.2.2 v) z.1).2.length)) (upd I' 3 (nI (2 + (pq z.1 k (z.2.2.2 v) z.1).2.length)))) (m := c + 24) (R := R2) (I := upd I2 6 (nI 0)) hN a1 a2 hW
    have hh : ∀ {M B}, nowM (lA A2 M B 1) z.1 z.2.1 z.2.2.1 z.2.2.2 := hN
    have hv : ∀ {N}, nowM (va_up (lA A2 M' B') 2 N 1) z.1 z.2.1 z.2.2.1 z.2.2.2 := fun {N} => by rw [vu_ne (by omega)]; exact hh
    obtain ⟨N', n1, n2⟩ := M_proof_loop (σ := cw σ c A' (rl R (tS ([lN (z.2.2.2 v k).toNatClampNeg] ++ [lN (pq z.1 k (z.2.2.2 v) z.1).1]) (hg (pr z.1 k (z.2.2.2 v) z.1)) (pq z.1 k (z.2.2.2 v) z.1).2.length)) (upd I' 3 (nI (2 + (pq z.1 k (z.2.2.2 v) z.1).2.length)))) (m := c + 24) (R := R2) (I := upd I2 6 (nI 0)) m2 hk hd (l1 := .int (nI v)) (l2 := .int (nI k)) z.1 0 (va_up (lA A2 M' B') 2 (upd (upd (upd (upd (A2 2) 0 (nI 0)) 1 (nI k)) 2 (z.2.2.2 v k)) 3 (nI 0))) (Nat.zero_add _) ((vu_ne (by omega)).trans rfl) ((vu_ne (by omega)).trans rfl) (by
      rw [vu_at]
      refine ⟨?_, ?_, ?_, ?_, fun i hi => absurd hi (Nat.not_lt_zero i)⟩
      · rw [pk_un (by omega), pk_un (by omega), pk_un (by omega), pk_us]; rfl
      · rw [pk_un (by omega), pk_un (by omega), pk_us]; rfl
      · rw [pk_un (by omega), pk_us]; exact hn.1
      · rw [pk_us]; rfl)
    have e := M_tellHand2 (σ := cw σ c A' (rl R (tS ([lN (z.2.2.2 v k).toNatClampNeg] ++ [lN (pq z.1 k (z.2.2.2 v) z.1).1]) (hg (pr z.1 k (z.2.2.2 v) z.1)) (pq z.1 k (z.2.2.2 v) z.1).2.length)) (upd I' 3 (nI (2 + (pq z.1 k (z.2.2.2 v) z.1).2.length)))) (m := c + 24) (A := va_up (lA A2 M' B') 2 N') (R := R2) (I := upd I2 6 (nI 0)) (q := pr z.1 k (z.2.2.2 v) z.1) (by rw [vu_at]; exact n2) g6
    rw [anc_0, vu_vu] at n1
    have hlA : ∀ {M B : Nat → Int32}, lA A2 M B 2 = A2 2 := rfl
    have hN0 : N' 0 = nI (pq z.1 k (z.2.2.2 v) z.1).2.length := n2.1
    refine Inv_regs h g1 (A2' := va_up (lA A2 M' B') 2 N') (R2' := rl R2 (tS ([lN (z.2.2.2 v k).toNatClampNeg] ++ [lN (pq z.1 k (z.2.2.2 v) z.1).1]) (hg (pr z.1 k (z.2.2.2 v) z.1)) (pq z.1 k (z.2.2.2 v) z.1).2.length)) (I2' := upd (upd I2 6 (nI 0)) 5 (nI (2 + (pq z.1 k (z.2.2.2 v) z.1).2.length))) ?_ (h.2.2.2.1.hrow g3 g4 g5 g2 ?_ (by omega)) (((h.2.2.2.2.1.same stay_lA rfl rfl).hand rfl rfl n2).row stay.rf ?_ (by omega) (by rw [pk_un (by omega), pk_un (by omega)]) pk_us) (h.2.2.2.2.2.hand hi g6)
    · rw [q195]
      simp (disch := first | omega | exact tl_l | exact tT_len | (simp only [List.length_cons, List.length_nil])) only [e195_0, e195_1, e195_2, e195_5, e195_6, e195_7, e195_10, e195_13, e195_14, e195_15, e195_18, e195_21, e195_22, e195_23, e195_24, e195_25, e195_28, e195_29, e195_32, e195_33, e195_34, e195_35, e195_36, e195_39, e195_40, e195_41, e195_42, e195_43, e195_46, e195_47, e195_48, e195_49, e195_50, e195_53, e195_54, e195_55, e195_58, e195_59, e195_60, e195_61, e195_62, e195_63, e195_64, e195_67, e195_68, e195_69, e195_73, e195_74, e195_77, e195_78, e195_81, e195_83, e195_86, e195_87, e195_90, e195_91, e195_94, e195_95, e195_96, e195_97, e195_98, e195_99, e195_100, e195_101, e195_102, e195_103, e195_106, e195_107, e195_108, e195_111, e195_112, e195_113, e195_114, e195_115, e195_118, e195_120, e195_123, e195_124, e195_125, e195_126, e195_129, e195_130, e195_131, e195_132, e195_133, e195_134, e195_135, e195_138, e195_140, e195_141, e195_142, e195_144, e195_147, e195_148, e195_149, e195_152, e195_153, e195_156, e195_157, e195_158, kv_s, kh_s, kr_s, kr_v, kn_s, z0, z1, z2, nI_ltI, nI_leI, nI_eq, nI_add, oN, bz0, bz1, bw0, bw1, ltT, ltF, leT, leF, eqT, eqF, if_true, if_false, kI_n, wI_n, and_true, true_and, and_false, false_and, not_true, not_false_eq_true, mwo, mwr_0, mwr_1, mwr_2, mwg_3, mwp_3, mwr_4, mwg_5, mwp_5, mwg_6, mwp_6, mwr_7, mwr_8, mwg_9, mwp_9, mwg_10, mwp_10, mwg_11, mwp_11, mwr_12, mwg_13, mwp_13, mwr_14, mwr_15, mwr_16, mwr_17, mwr_18, mwr_19, mwg_20, mwp_20, mwr_21, mwr_22, mwr_23, mwa_1, mwu_1, mwa_2, mwu_2, mwa_3, mwu_3, mwa_4, mwu_4, mwa_5, mwu_5, mwa_6, mwu_6, mwa_7, mwu_7, mwa_8, mwu_8, mwa_9, mwu_9, mwa_10, mwu_10, mwa_11, mwu_11, mwa_12, mwu_12, mwa_13, mwu_13, mwa_14, mwu_14, mwa_15, mwu_15, mwa_16, mwu_16, vu_at, vu_ne, pk_us, pk_un, kB_n, wB_n, kL_n, wL_n, M_ver hN a1 a2, M_isKey hN, hs, n01, m1, M_keys hv, M_value hv a1 a2, hlA, vu_vu, z3]
      rw [n1]
      simp (disch := first | omega | exact tl_l | exact tT_len | (simp only [List.length_cons, List.length_nil])) only [e195_0, e195_1, e195_2, e195_5, e195_6, e195_7, e195_10, e195_13, e195_14, e195_15, e195_18, e195_21, e195_22, e195_23, e195_24, e195_25, e195_28, e195_29, e195_32, e195_33, e195_34, e195_35, e195_36, e195_39, e195_40, e195_41, e195_42, e195_43, e195_46, e195_47, e195_48, e195_49, e195_50, e195_53, e195_54, e195_55, e195_58, e195_59, e195_60, e195_61, e195_62, e195_63, e195_64, e195_67, e195_68, e195_69, e195_73, e195_74, e195_77, e195_78, e195_81, e195_83, e195_86, e195_87, e195_90, e195_91, e195_94, e195_95, e195_96, e195_97, e195_98, e195_99, e195_100, e195_101, e195_102, e195_103, e195_106, e195_107, e195_108, e195_111, e195_112, e195_113, e195_114, e195_115, e195_118, e195_120, e195_123, e195_124, e195_125, e195_126, e195_129, e195_130, e195_131, e195_132, e195_133, e195_134, e195_135, e195_138, e195_140, e195_141, e195_142, e195_144, e195_147, e195_148, e195_149, e195_152, e195_153, e195_156, e195_157, e195_158, kv_s, kh_s, kr_s, kr_v, kn_s, z0, z1, z2, nI_ltI, nI_leI, nI_eq, nI_add, oN, bz0, bz1, bw0, bw1, ltT, ltF, leT, leF, eqT, eqF, if_true, if_false, kI_n, wI_n, and_true, true_and, and_false, false_and, not_true, not_false_eq_true, mwo, mwr_0, mwr_1, mwr_2, mwg_3, mwp_3, mwr_4, mwg_5, mwp_5, mwg_6, mwp_6, mwr_7, mwr_8, mwg_9, mwp_9, mwg_10, mwp_10, mwg_11, mwp_11, mwr_12, mwg_13, mwp_13, mwr_14, mwr_15, mwr_16, mwr_17, mwr_18, mwr_19, mwg_20, mwp_20, mwr_21, mwr_22, mwr_23, mwa_1, mwu_1, mwa_2, mwu_2, mwa_3, mwu_3, mwa_4, mwu_4, mwa_5, mwu_5, mwa_6, mwu_6, mwa_7, mwu_7, mwa_8, mwu_8, mwa_9, mwu_9, mwa_10, mwu_10, mwa_11, mwu_11, mwa_12, mwu_12, mwa_13, mwu_13, mwa_14, mwu_14, mwa_15, mwu_15, mwa_16, mwu_16, vu_at, vu_ne, pk_us, pk_un, kB_n, wB_n, kL_n, wL_n]
      rw [e]
      simp (disch := first | omega | exact tl_l | exact tT_len | (simp only [List.length_cons, List.length_nil])) only [e195_0, e195_1, e195_2, e195_5, e195_6, e195_7, e195_10, e195_13, e195_14, e195_15, e195_18, e195_21, e195_22, e195_23, e195_24, e195_25, e195_28, e195_29, e195_32, e195_33, e195_34, e195_35, e195_36, e195_39, e195_40, e195_41, e195_42, e195_43, e195_46, e195_47, e195_48, e195_49, e195_50, e195_53, e195_54, e195_55, e195_58, e195_59, e195_60, e195_61, e195_62, e195_63, e195_64, e195_67, e195_68, e195_69, e195_73, e195_74, e195_77, e195_78, e195_81, e195_83, e195_86, e195_87, e195_90, e195_91, e195_94, e195_95, e195_96, e195_97, e195_98, e195_99, e195_100, e195_101, e195_102, e195_103, e195_106, e195_107, e195_108, e195_111, e195_112, e195_113, e195_114, e195_115, e195_118, e195_120, e195_123, e195_124, e195_125, e195_126, e195_129, e195_130, e195_131, e195_132, e195_133, e195_134, e195_135, e195_138, e195_140, e195_141, e195_142, e195_144, e195_147, e195_148, e195_149, e195_152, e195_153, e195_156, e195_157, e195_158, kv_s, kh_s, kr_s, kr_v, kn_s, z0, z1, z2, nI_ltI, nI_leI, nI_eq, nI_add, oN, bz0, bz1, bw0, bw1, ltT, ltF, leT, leF, eqT, eqF, if_true, if_false, kI_n, wI_n, and_true, true_and, and_false, false_and, not_true, not_false_eq_true, mwo, mwr_0, mwr_1, mwr_2, mwg_3, mwp_3, mwr_4, mwg_5, mwp_5, mwg_6, mwp_6, mwr_7, mwr_8, mwg_9, mwp_9, mwg_10, mwp_10, mwg_11, mwp_11, mwr_12, mwg_13, mwp_13, mwr_14, mwr_15, mwr_16, mwr_17, mwr_18, mwr_19, mwg_20, mwp_20, mwr_21, mwr_22, mwr_23, mwa_1, mwu_1, mwa_2, mwu_2, mwa_3, mwu_3, mwa_4, mwu_4, mwa_5, mwu_5, mwa_6, mwu_6, mwa_7, mwu_7, mwa_8, mwu_8, mwa_9, mwu_9, mwa_10, mwu_10, mwa_11, mwu_11, mwa_12, mwu_12, mwa_13, mwu_13, mwa_14, mwu_14, mwa_15, mwu_15, mwa_16, mwu_16, vu_at, vu_ne, pk_us, pk_un, kB_n, wB_n, kL_n, wL_n, hN0]
      rfl
    · rw [tS_len]; rfl
    · rw [tS_len]; rfl
