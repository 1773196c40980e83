/-! calls: others -/
section OT
variable {d : Nat} {S S' W : Nat → Int32}
theorem un_pos (h : ∀ k, k < 2 ^ d → (nI 0 < S k ↔ nI 0 < S' k)) : ∀ p, 1 ≤ p → p < 2 * 2 ^ d → un d S p = un d S' p :=
  tree_ind (fun k hk => by
    rw [un_leaf hk, un_leaf hk]
    by_cases z : nI 0 < S k
    · rw [if_pos z, if_pos ((h k hk).mp z)]
    · rw [if_neg z, if_neg (fun y => z ((h k hk).mpr y))]) (fun p h1 h2 a b => by rw [un_node h1 h2, un_node h1 h2, a, b])
theorem nz_pos (h : ∀ k, k < 2 ^ d → (nI 0 < S k ↔ nI 0 < S' k)) : ∀ p, 1 ≤ p → p < 2 * 2 ^ d → nz d S p = nz d S' p := fun p h1 h2 => by
  unfold nz
  rw [un_pos h p h1 h2]
theorem OV.congr {O : Nat → Int32} (h : OV d S O) (hs : ∀ k, k < 2 ^ d → (nI 0 < S k ↔ nI 0 < S' k)) : OV d S' O := fun p h1 h2 => by
  rw [h p h1 h2, nz_pos hs p h1 h2]
theorem cnt_eq1 {x a : Nat} : ∀ n, cnt (fun q => decide (q = x)) a n ≤ if a ≤ x ∧ x < a + n then 1 else 0 := by
  intro n
  induction n with
  | zero => exact Nat.zero_le _
  | succ n ih =>
    show cnt _ a n + (if decide (a + n = x) = true then 1 else 0) ≤ _
    by_cases h : a + n = x
    · rw [if_neg (by omega)] at ih
      rw [if_pos (decide_eq_true h), if_pos (by omega)]
      omega
    · rw [if_neg (by simp [h])]
      refine Nat.le_trans ih ?_
      split
      · rw [if_pos (by omega)]; exact Nat.le_refl _
      · exact Nat.zero_le _
theorem cnt_onb {a m : Nat} : ∀ n p, cnt (onb n p) a m ≤ n := by
  intro n
  induction n with
  | zero => intro p; rw [cnt_none (fun i _ => rfl)]; exact Nat.le_refl _
  | succ n ih =>
    intro p
    have h1 := cnt_or (P := onb (n + 1) p) (Q1 := fun q => decide (q = p)) (Q2 := onb n (p / 2)) (a := a) (n := m) (fun i _ hp => by
      simp only [onb, Bool.and_eq_true, Bool.or_eq_true, decide_eq_true_eq] at hp
      rcases hp.2 with h | h
      · exact Or.inl (decide_eq_true h)
      · exact Or.inr h)
    have h2 := ih (p / 2)
    have h3 : cnt (fun q => decide (q = p)) a m ≤ 1 := Nat.le_trans (cnt_eq1 m) (by split <;> omega)
    omega
/-- marks of the needed, level by level -/
def nL (d : Nat) (S W : Nat → Int32) : Nat → List Int64
  | 0 => []
  | j + 1 => tl (nL d S W j) (nP d S W) (fun p => (mk d W p).toInt64) (2 ^ (d - j)) (2 ^ (d - j))
theorem nL_len : ∀ j, j ≤ d → (nL d S W j).length = cnt (nP d S W) (2 ^ (d + 1 - j)) (2 * 2 ^ d - 2 ^ (d + 1 - j)) := by
  intro j
  induction j with
  | zero =>
    intro _
    have : 2 ^ (d + 1 - 0) = 2 * 2 ^ d := by rw [Nat.sub_zero, Nat.pow_succ]; omega
    rw [this, Nat.sub_self]
    rfl
  | succ j ih =>
    intro hj
    have e1 : 2 ^ (d + 1 - j) = 2 * 2 ^ (d - j) := by rw [show d + 1 - j = d - j + 1 by omega, Nat.pow_succ]; omega
    have e2 : d + 1 - (j + 1) = d - j := by omega
    have e3 : 2 ^ (d - j) ≤ 2 ^ d := Nat.pow_le_pow_right (by omega) (by omega)
    rw [nL, tl_len, ih (by omega), e1, e2, show 2 * 2 ^ d - 2 ^ (d - j) = 2 ^ (d - j) + (2 * 2 ^ d - 2 * 2 ^ (d - j)) by omega, cnt_add, show 2 ^ (d - j) + 2 ^ (d - j) = 2 * 2 ^ (d - j) by omega]
    omega
theorem nL_all : (nL d S W d).length = cnt (nP d S W) 2 (2 * 2 ^ d - 2) := by
  have h := nL_len (d := d) (S := S) (W := W) d (Nat.le_refl _)
  have e : d + 1 - d = 1 := by omega
  rw [e, Nat.pow_one] at h
  exact h
theorem nL_mono {j : Nat} (hj : j ≤ d) : (nL d S W j).length ≤ (nL d S W d).length := by
  rw [nL_all, nL_len j hj]
  have h1 : 2 ^ 1 ≤ 2 ^ (d + 1 - j) := Nat.pow_le_pow_right (by omega) (by omega)
  have h2 : 2 ^ (d + 1 - j) ≤ 2 ^ (d + 1) := Nat.pow_le_pow_right (by omega) (by omega)
  have h3 : 2 ^ (d + 1) = 2 * 2 ^ d := by rw [Nat.pow_succ]; omega
  have e : 2 * 2 ^ d - 2 = (2 ^ (d + 1 - j) - 2) + (2 * 2 ^ d - 2 ^ (d + 1 - j)) := by omega
  rw [e, cnt_add, show 2 + (2 ^ (d + 1 - j) - 2) = 2 ^ (d + 1 - j) by omega]
  omega
end OT
section OU
variable {c : Nat} {σ : Hp} {m d f l : Nat} {V : Nat → Nat → Int32} {T : Nat → Option Nat} {A : Nat → Nat → Int32} {R : Nat → Int64} {I : Nat → Int32} {S W : Nat → Int32}
theorem RB.far (h : RB c σ T d f l V) {s t : Nat} (hs : s < 12) (ht : T s = some t) : (t = c + 19 ∨ c + 42 ≤ t) ∧ t + 5 ≤ σ.2.1 := ⟨(h.2.2.1.2.2.1 s t hs ht).1, (h.2.2.1.2.2.1 s t hs ht).2.1⟩
theorem Ch_take {dc t : Nat} (hI : I 14 = nI dc) (t2 : isT (cw σ c A R I) t d W) (ht : t = c + 19 ∨ c + 42 ≤ t) : ∃ F, dcall 18 [.ref (c + 17), .ref (t + 3)] (cw σ c A R I) = some (none, cw σ c (va_up A 3 F) R (upd I 14 (nI d))) ∧ okF d W F := by
  obtain ⟨hd, V', M, F, h1, h2, h3, h4⟩ := t2
  have hK : 2 ^ d ≤ 256 := Nat.pow_le_pow_right (by omega) hd
  refine ⟨va_cpy F (A 3) 0 0 512, by rw [Ks_take (KSx hI) h1.ks (by omega) (by omega), kput_cw], fun k hk => ?_, fun p q1 q2 => ?_⟩
  · rw [va_cpy0 (by omega)]; exact h4.1 k hk
  · rw [va_cpy0 (by omega), va_cpy0 (by omega), va_cpy0 (by omega)]; exact h4.2 p q1 q2
theorem C_others_in (hb : RB c σ T d f l V) {t : Nat} (t2 : ∀ {A R I}, isT (cw σ c A R I) t d W) (hF : okF d S (A 3)) (hI : I 14 = nI d) (h128 : (nL d S W d).length ≤ 128) {j : Nat} (hj : j < d) {l1 l2 : Value} : ∀ (n k : Nat), k + n = 2 ^ (d - j) → den 94 83 [.ref c, l1, l2, .ref t, .int (nI j), .int (nI (2 ^ (d - j))), .int (nI (2 ^ (d - j) + k))] [] (cw σ c A (rl R (tl (nL d S W j) (nP d S W) (fun p => (mk d W p).toInt64) (2 ^ (d - j)) k)) (upd I 3 (nI ((nL d S W j).length + cnt (nP d S W) (2 ^ (d - j)) k)))) = den 94 122 [.ref c, l1, l2, .ref t, .int (nI j), .int (nI (2 ^ (d - j))), .int (nI (2 ^ (d - j) + 2 ^ (d - j)))] [] (cw σ c A (rl R (nL d S W (j + 1))) (upd I 3 (nI (nL d S W (j + 1)).length))) := by
  have hK := hb.K
  have hd := hb.d8
  have h1 : 2 ^ 1 ≤ 2 ^ (d - j) := Nat.pow_le_pow_right (by omega) (by omega)
  have h2 : 2 ^ (d - j) ≤ 2 ^ d := Nat.pow_le_pow_right (by omega) (by omega)
  have hm := nL_mono (S := S) (W := W) (show j + 1 ≤ d by omega)
  have hl1 : (nL d S W (j + 1)).length = (nL d S W j).length + cnt (nP d S W) (2 ^ (d - j)) (2 ^ (d - j)) := tl_len _
  intro n
  induction n with
  | zero =>
    intro k hk
    have : k = 2 ^ (d - j) := by omega
    subst this
    rw [hl1]
    have : ¬ 2 ^ (d - j) + 2 ^ (d - j) < 2 * 2 ^ (d - j) := by omega
    rw [e94_83]
    simp (disch := first | omega | exact tl_l | exact tT_len | (simp only [List.length_cons, List.length_nil])) only [e94_85, e94_86, e94_88, e94_89, kv_s, kh_s, kr_s, kr_v, kn_s, z0, z1, z2, nI_ltI, nI_leI, nI_eq, nI_add, oN, bz0, bz1, bw0, bw1, ltT, ltF, leT, leF, eqT, eqF, if_true, if_false, kI_n, wI_n, and_true, true_and, and_false, false_and, not_true, not_false_eq_true, nI_two, nL]
  | succ n ih =>
    intro k hk
    have hcm := cnt_mono (P := nP d S W) (a := 2 ^ (d - j)) (show k + 1 ≤ 2 ^ (d - j) by omega)
    have hlen := tl_len (L := nL d S W j) (P := nP d S W) (g := fun p => (mk d W p).toInt64) (a := 2 ^ (d - j)) k
    have hch : ∀ {x y : Int32} {R}, CH A (upd (upd I 3 x) 3 y) d S := fun {x y _} => ⟨(pk_un (by omega)).trans ((pk_un (by omega)).trans hI), hF⟩
    have hch : ∀ {x : Int32}, CH A (upd I 3 x) d S := fun {x} => ⟨(pk_un (by omega)).trans hI, hF⟩
    have hn := fun R x => A_isNeeded (R := R) (I := upd I 3 x) hb (t2 (A := A) (R := R) (I := upd I 3 x)) (hch (x := x)) (p := 2 ^ (d - j) + k) (by omega) (by omega)
    have hmk := fun R x => T_mark (t2 (A := A) (R := R) (I := upd I 3 x)) (p := 2 ^ (d - j) + k) (by omega) (by omega)
    have hx := fun R x => hb.x (A := A) (R := R) (I := upd I 3 x)
    have h := hb
    rw [← ih (k + 1) (by omega)]
    rw [e94_83]
    cases hp : nP d S W (2 ^ (d - j) + k) with
    | true =>
      rw [hp] at hn
      rw [(tl_s (L := nL d S W j) (g := fun p => (mk d W p).toInt64) hp).1]
      rw [(tl_s (L := nL d S W j) (g := fun p => (mk d W p).toInt64) hp).2] at hcm ⊢
      simp (disch := first | omega | exact tl_l | exact tT_len | (simp only [List.length_cons, List.length_nil])) only [e94_85, e94_86, e94_88, e94_89, e94_92, e94_93, e94_93n, e94_94, e94_96, e94_99, e94_102, e94_103, e94_106, e94_106n, e94_107, e94_109, e94_112, e94_113, e94_116, e94_119, kv_s, kh_s, kr_s, kr_v, kn_s, z0, z1, z2, nI_ltI, nI_leI, nI_eq, nI_add, oN, bz0, bz1, bw0, bw1, ltT, ltF, leT, leF, eqT, eqF, if_true, if_false, kI_n, wI_n, and_true, true_and, and_false, false_and, not_true, not_false_eq_true, cwo_1, cwr_1, cwg_0, cwg_1, cwg_2, cwa_0, cwl_0, cwo_3, cwr_3, cwg_3, cwa_R, cwl_R, cwo_5, cwr_5, cwg_4, cwg_5, cwg_6, cwg_7, cwg_8, cwa_1, cwl_1, cwo_7, cwr_7, cwg_9, cwg_10, cwg_11, cwg_12, cwg_13, cwa_2, cwl_2, cwo_17, cwr_17, cwg_14, cwa_3, cwl_3, cwp_0, cwp_1, cwp_2, cwp_3, cwp_4, cwp_5, cwp_6, cwp_7, cwp_8, cwp_9, cwp_10, cwp_11, cwp_12, cwp_13, cwp_14, cwu_0, cwu_R, cwu_1, cwu_2, cwu_3, vu_at, vu_ne, pk_us, pk_un, h.x.f0, h.x.f1, h.x.f2, h.x.f3, h.x.f4, h.x.f5, h.x.f6, h.x.f7, h.x.o, h.hi.o, h.hi.gd, h.hi.gf, h.hi.gl, Hi_keys h.hi h.d8, Hi_hasKey h.hi h.d8, Rw_empty, Rw_add, List.nil_append, List.cons_append, upd_upd, cwo_1, cwo_3, cwo_5, cwo_7, cwo_17, Bool.false_eq_true, n01, nI_two, hn, hmk, bI, n01, t2.o, hlen, Nat.add_assoc]
    | false =>
      rw [hp] at hn
      rw [(tl_n (L := nL d S W j) (g := fun p => (mk d W p).toInt64) hp).1, (tl_n (L := nL d S W j) (g := fun p => (mk d W p).toInt64) hp).2]
      simp (disch := first | omega | exact tl_l | exact tT_len | (simp only [List.length_cons, List.length_nil])) only [e94_85, e94_86, e94_88, e94_89, e94_92, e94_93, e94_93n, e94_94, e94_96, e94_99, e94_102, e94_103, e94_106, e94_106n, e94_107, e94_109, e94_112, e94_113, e94_116, e94_119, kv_s, kh_s, kr_s, kr_v, kn_s, z0, z1, z2, nI_ltI, nI_leI, nI_eq, nI_add, oN, bz0, bz1, bw0, bw1, ltT, ltF, leT, leF, eqT, eqF, if_true, if_false, kI_n, wI_n, and_true, true_and, and_false, false_and, not_true, not_false_eq_true, cwo_1, cwr_1, cwg_0, cwg_1, cwg_2, cwa_0, cwl_0, cwo_3, cwr_3, cwg_3, cwa_R, cwl_R, cwo_5, cwr_5, cwg_4, cwg_5, cwg_6, cwg_7, cwg_8, cwa_1, cwl_1, cwo_7, cwr_7, cwg_9, cwg_10, cwg_11, cwg_12, cwg_13, cwa_2, cwl_2, cwo_17, cwr_17, cwg_14, cwa_3, cwl_3, cwp_0, cwp_1, cwp_2, cwp_3, cwp_4, cwp_5, cwp_6, cwp_7, cwp_8, cwp_9, cwp_10, cwp_11, cwp_12, cwp_13, cwp_14, cwu_0, cwu_R, cwu_1, cwu_2, cwu_3, vu_at, vu_ne, pk_us, pk_un, h.x.f0, h.x.f1, h.x.f2, h.x.f3, h.x.f4, h.x.f5, h.x.f6, h.x.f7, h.x.o, h.hi.o, h.hi.gd, h.hi.gf, h.hi.gl, Hi_keys h.hi h.d8, Hi_hasKey h.hi h.d8, Rw_empty, Rw_add, List.nil_append, List.cons_append, upd_upd, cwo_1, cwo_3, cwo_5, cwo_7, cwo_17, Bool.false_eq_true, n01, nI_two, hn, bI, Bool.false_eq_true, Nat.add_assoc]
theorem C_others_out (hb : RB c σ T d f l V) {t : Nat} (t2 : ∀ {A R I}, isT (cw σ c A R I) t d W) (hF : okF d S (A 3)) (hI : I 14 = nI d) (h128 : (nL d S W d).length ≤ 128) {l1 l2 : Value} : ∀ (n j : Nat) {l5 l6 : Value}, j + n = d → den 94 53 [.ref c, l1, l2, .ref t, .int (nI j), l5, l6] [] (cw σ c A (rl R (nL d S W j)) (upd I 3 (nI (nL d S W j).length))) = some (some (.int (nI (nL d S W d).length)), cw σ c A (rl R (nL d S W d)) (upd I 3 (nI (nL d S W d).length))) := by
  have hK := hb.K
  have hd := hb.d8
  have h := hb
  intro n
  induction n with
  | zero =>
    intro j l5 l6 hj
    have : j = d := by omega
    subst this
    rw [e94_53]
    simp (disch := first | omega | exact tl_l | exact tT_len | (simp only [List.length_cons, List.length_nil])) only [e94_0, e94_1, e94_4, e94_5, e94_8, e94_8n, e94_9, e94_9n, e94_10, e94_10n, e94_13, e94_13n, e94_14, e94_15, e94_18, e94_21, e94_22, e94_23, e94_24, e94_27, e94_27n, e94_28, e94_31, e94_34, e94_35, e94_38, e94_39, e94_40, e94_43, e94_44, e94_47, e94_50, e94_51, e94_55, e94_56, e94_59, e94_62, e94_65, e94_66, e94_67, e94_70, e94_73, e94_75, e94_76, e94_77, e94_79, e94_81, e94_85, e94_86, e94_88, e94_89, e94_92, e94_93, e94_93n, e94_94, e94_96, e94_99, e94_102, e94_103, e94_106, e94_106n, e94_107, e94_109, e94_112, e94_113, e94_116, e94_119, e94_122, e94_125, e94_128, e94_129, e94_132, e94_135, kv_s, kh_s, kr_s, kr_v, kn_s, z0, z1, z2, nI_ltI, nI_leI, nI_eq, nI_add, oN, bz0, bz1, bw0, bw1, ltT, ltF, leT, leF, eqT, eqF, if_true, if_false, kI_n, wI_n, and_true, true_and, and_false, false_and, not_true, not_false_eq_true, cwo_1, cwr_1, cwg_0, cwg_1, cwg_2, cwa_0, cwl_0, cwo_3, cwr_3, cwg_3, cwa_R, cwl_R, cwo_5, cwr_5, cwg_4, cwg_5, cwg_6, cwg_7, cwg_8, cwa_1, cwl_1, cwo_7, cwr_7, cwg_9, cwg_10, cwg_11, cwg_12, cwg_13, cwa_2, cwl_2, cwo_17, cwr_17, cwg_14, cwa_3, cwl_3, cwp_0, cwp_1, cwp_2, cwp_3, cwp_4, cwp_5, cwp_6, cwp_7, cwp_8, cwp_9, cwp_10, cwp_11, cwp_12, cwp_13, cwp_14, cwu_0, cwu_R, cwu_1, cwu_2, cwu_3, vu_at, vu_ne, pk_us, pk_un, h.x.f0, h.x.f1, h.x.f2, h.x.f3, h.x.f4, h.x.f5, h.x.f6, h.x.f7, h.x.o, h.hi.o, h.hi.gd, h.hi.gf, h.hi.gl, Hi_keys h.hi h.d8, Hi_hasKey h.hi h.d8, Rw_empty, Rw_add, List.nil_append, List.cons_append, upd_upd, cwo_1, cwo_3, cwo_5, cwo_7, cwo_17, Bool.false_eq_true, n01]
  | succ n ih =>
    intro j l5 l6 hj
    rw [← ih (j + 1) (l5 := .int (nI (2 ^ (d - j)))) (l6 := .int (nI (2 ^ (d - j) + 2 ^ (d - j)))) (by omega)]
    have e := C_others_in (R := R) hb t2 hF hI h128 (show j < d by omega) (l1 := l1) (l2 := l2) (2 ^ (d - j)) 0 (Nat.zero_add _)
    have e6 : nI d - nI j = nI (d - j) := pk_sub (by omega)
    rw [cnt, Nat.add_zero, Nat.add_zero, tl] at e
    rw [e94_53]
    simp (disch := first | omega | exact tl_l | exact tT_len | (simp only [List.length_cons, List.length_nil])) only [e94_55, e94_56, e94_59, e94_62, e94_65, e94_66, e94_67, e94_70, e94_73, e94_75, e94_76, e94_77, e94_79, e94_81, kv_s, kh_s, kr_s, kr_v, kn_s, z0, z1, z2, nI_ltI, nI_leI, nI_eq, nI_add, oN, bz0, bz1, bw0, bw1, ltT, ltF, leT, leF, eqT, eqF, if_true, if_false, kI_n, wI_n, and_true, true_and, and_false, false_and, not_true, not_false_eq_true, cwo_1, cwr_1, cwg_0, cwg_1, cwg_2, cwa_0, cwl_0, cwo_3, cwr_3, cwg_3, cwa_R, cwl_R, cwo_5, cwr_5, cwg_4, cwg_5, cwg_6, cwg_7, cwg_8, cwa_1, cwl_1, cwo_7, cwr_7, cwg_9, cwg_10, cwg_11, cwg_12, cwg_13, cwa_2, cwl_2, cwo_17, cwr_17, cwg_14, cwa_3, cwl_3, cwp_0, cwp_1, cwp_2, cwp_3, cwp_4, cwp_5, cwp_6, cwp_7, cwp_8, cwp_9, cwp_10, cwp_11, cwp_12, cwp_13, cwp_14, cwu_0, cwu_R, cwu_1, cwu_2, cwu_3, vu_at, vu_ne, pk_us, pk_un, h.x.f0, h.x.f1, h.x.f2, h.x.f3, h.x.f4, h.x.f5, h.x.f6, h.x.f7, h.x.o, h.hi.o, h.hi.gd, h.hi.gf, h.hi.gl, Hi_keys h.hi h.d8, Hi_hasKey h.hi h.d8, Rw_empty, Rw_add, List.nil_append, List.cons_append, upd_upd, cwo_1, cwo_3, cwo_5, cwo_7, cwo_17, Bool.false_eq_true, n01, e6, shl_nI]
    rw [e]
    simp (disch := first | omega | exact tl_l | exact tT_len | (simp only [List.length_cons, List.length_nil])) only [e94_122, e94_125, kv_s, kh_s, kr_s, kr_v, kn_s, z0, z1, z2, nI_ltI, nI_leI, nI_eq, nI_add, oN, bz0, bz1, bw0, bw1, ltT, ltF, leT, leF, eqT, eqF, if_true, if_false, kI_n, wI_n, and_true, true_and, and_false, false_and, not_true, not_false_eq_true]
theorem M_over_loop (h : nowM (A 1) d f l V) {v : Nat} (h1 : f ≤ v) (h2 : v ≤ l) {key : Nat} (hk : key < 2 ^ d) : ∀ (n j : Nat) (O : Nat → Int32), j + n = 2 ^ d → OV d (fun k => if k < j ∧ k ≠ key then V v k else nI 0) O → ∃ O', den 209 43 [.ref m, .int (nI v), .int (nI key), .int (nI j), junk, junk] [] (mw σ m (va_up A 9 O) R I) = den 209 76 [.ref m, .int (nI v), .int (nI key), .int (nI (2 ^ d)), junk, junk] [] (mw σ m (va_up A 9 O') R I) ∧ OV d (fun k => if k < 2 ^ d ∧ k ≠ key then V v k else nI 0) O' := by
  have hK := h.K
  have hh : ∀ {N}, nowM (va_up A 9 N 1) d f l V := fun {N} => by rw [vu_ne (by omega)]; exact h
  have nd : ¬ nI 0 < nI 0 := by decide
  have n1 : nI 0 < nI 1 := by decide
  intro n
  induction n with
  | zero =>
    intro j O hj hO
    have : j = 2 ^ d := by omega
    subst this
    refine ⟨O, ?_, hO⟩
    rw [e209_43]
    simp (disch := first | omega | exact tl_l | exact tT_len | (simp only [List.length_cons, List.length_nil])) only [e209_44, e209_45, e209_48, kv_s, kh_s, kr_s, kr_v, kn_s, z0, z1, z2, nI_ltI, nI_leI, nI_eq, nI_add, oN, bz0, bz1, bw0, bw1, ltT, ltF, leT, leF, eqT, eqF, if_true, if_false, kI_n, wI_n, and_true, true_and, and_false, false_and, not_true, not_false_eq_true, mwo, M_keys hh]
  | succ n ih =>
    intro j O hj hO
    by_cases hc : j ≠ key ∧ nI 0 < V v j
    · obtain ⟨O', e1, e2⟩ := ih (j + 1) (fun q => if onb 9 (2 ^ d + j) q = true then nI 1 else O q) (by omega) ((OV_add hK.2.2.1 hO (show j < 2 ^ d by omega)).congr fun k hk2 => by
        by_cases hkj : k = j
        · subst hkj
          rw [pk_us, if_pos ⟨by omega, hc.1⟩]
          exact ⟨fun _ => hc.2, fun _ => n1⟩
        · rw [pk_un hkj]
          by_cases hz : k < j ∧ k ≠ key
          · rw [if_pos hz, if_pos ⟨by omega, hz.2⟩]
          · rw [if_neg hz, if_neg (fun y => hz ⟨by omega, y.2⟩)])
      refine ⟨O', ?_, e2⟩
      rw [← e1]
      have e := M_markOver (σ := σ) (m := m) (A := va_up A 9 O) (R := R) (I := I) hh (show j < 2 ^ d by omega)
      rw [vu_vu, vu_at] at e
      have hne : ¬ j = key := hc.1
      have hle : ¬ V v j ≤ nI 0 := Int32.not_le.mpr hc.2
      rw [e209_43]
      simp (disch := first | omega | exact tl_l | exact tT_len | (simp only [List.length_cons, List.length_nil])) only [e209_44, e209_45, e209_48, e209_51, e209_52, e209_53, e209_56, e209_57, e209_58, e209_59, e209_62, e209_65, e209_66, e209_67, e209_70, e209_73, kv_s, kh_s, kr_s, kr_v, kn_s, z0, z1, z2, nI_ltI, nI_leI, nI_eq, nI_add, oN, bz0, bz1, bw0, bw1, ltT, ltF, leT, leF, eqT, eqF, if_true, if_false, kI_n, wI_n, and_true, true_and, and_false, false_and, not_true, not_false_eq_true, mwo, M_keys hh, M_value hh h1 h2, hne, hle, e]
    · obtain ⟨O', e1, e2⟩ := ih (j + 1) O (by omega) (hO.congr fun k hk2 => by
        by_cases hkj : k = j
        · subst hkj
          rw [if_neg (by omega)]
          by_cases hz : k ≠ key
          · rw [if_pos ⟨by omega, hz⟩]
            exact ⟨fun y => absurd y nd, fun y => absurd ⟨hz, y⟩ hc⟩
          · rw [if_neg (fun y => hz y.2)]
        · by_cases hz : k < j ∧ k ≠ key
          · rw [if_pos hz, if_pos ⟨by omega, hz.2⟩]
          · rw [if_neg hz, if_neg (fun y => hz ⟨by omega, y.2⟩)])
      refine ⟨O', ?_, e2⟩
      rw [← e1]
      rw [e209_43]
      by_cases hne : j = key
      · simp (disch := first | omega | exact tl_l | exact tT_len | (simp only [List.length_cons, List.length_nil])) only [e209_44, e209_45, e209_48, e209_51, e209_52, e209_53, e209_56, e209_57, e209_58, e209_59, e209_62, e209_65, e209_66, e209_67, e209_70, e209_73, kv_s, kh_s, kr_s, kr_v, kn_s, z0, z1, z2, nI_ltI, nI_leI, nI_eq, nI_add, oN, bz0, bz1, bw0, bw1, ltT, ltF, leT, leF, eqT, eqF, if_true, if_false, kI_n, wI_n, and_true, true_and, and_false, false_and, not_true, not_false_eq_true, mwo, M_keys hh, M_value hh h1 h2, hne]
      · have hle : V v j ≤ nI 0 := Int32.not_lt.mp fun z => hc ⟨hne, z⟩
        simp (disch := first | omega | exact tl_l | exact tT_len | (simp only [List.length_cons, List.length_nil])) only [e209_44, e209_45, e209_48, e209_51, e209_52, e209_53, e209_56, e209_57, e209_58, e209_59, e209_62, e209_65, e209_66, e209_67, e209_70, e209_73, kv_s, kh_s, kr_s, kr_v, kn_s, z0, z1, z2, nI_ltI, nI_leI, nI_eq, nI_add, oN, bz0, bz1, bw0, bw1, ltT, ltF, leT, leF, eqT, eqF, if_true, if_false, kI_n, wI_n, and_true, true_and, and_false, false_and, not_true, not_false_eq_true, mwo, M_keys hh, M_value hh h1 h2, hne, hle]
theorem M_others_in (h : nowM (A 1) d f l V) (hN : ∀ p, 2 ≤ p → p < 2 * 2 ^ d → A 10 p = bI (nP d S W p)) (hM : ∀ p, 1 ≤ p → p < 2 * 2 ^ d → A 5 p = mk d W p) (h128 : (nL d S W d).length ≤ 128) {j : Nat} (hj : j < d) {l1 l2 l3 : Value} : ∀ (n k : Nat), k + n = 2 ^ (d - j) → den 209 101 [.ref m, l1, l2, l3, .int (nI j), .int (nI k)] [] (mw σ m A (rl R (tl (nL d S W j) (nP d S W) (fun p => (mk d W p).toInt64) (2 ^ (d - j)) k)) (upd I 5 (nI ((nL d S W j).length + cnt (nP d S W) (2 ^ (d - j)) k)))) = den 209 155 [.ref m, l1, l2, l3, .int (nI j), .int (nI (2 ^ (d - j)))] [] (mw σ m A (rl R (nL d S W (j + 1))) (upd I 5 (nI (nL d S W (j + 1)).length))) := by
  have hK := h.K
  have h1 : 2 ^ 1 ≤ 2 ^ (d - j) := Nat.pow_le_pow_right (by omega) (by omega)
  have h2 : 2 ^ (d - j) ≤ 2 ^ d := Nat.pow_le_pow_right (by omega) (by omega)
  have hm := nL_mono (S := S) (W := W) (show j + 1 ≤ d by omega)
  have hl1 : (nL d S W (j + 1)).length = (nL d S W j).length + cnt (nP d S W) (2 ^ (d - j)) (2 ^ (d - j)) := tl_len _
  have e6 : nI d - nI j = nI (d - j) := pk_sub (by omega)
  intro n
  induction n with
  | zero =>
    intro k hk
    have : k = 2 ^ (d - j) := by omega
    subst this
    rw [hl1]
    rw [e209_101]
    simp (disch := first | omega | exact tl_l | exact tT_len | (simp only [List.length_cons, List.length_nil])) only [e209_103, e209_104, e209_105, e209_108, e209_110, e209_111, e209_112, kv_s, kh_s, kr_s, kr_v, kn_s, z0, z1, z2, nI_ltI, nI_leI, nI_eq, nI_add, oN, bz0, bz1, bw0, bw1, ltT, ltF, leT, leF, eqT, eqF, if_true, if_false, kI_n, wI_n, and_true, true_and, and_false, false_and, not_true, not_false_eq_true, mwo, M_depth h, e6, shl_nI, nL]
  | succ n ih =>
    intro k hk
    have hcm := cnt_mono (P := nP d S W) (a := 2 ^ (d - j)) (show k + 1 ≤ 2 ^ (d - j) by omega)
    have hlen := tl_len (L := nL d S W j) (P := nP d S W) (g := fun p => (mk d W p).toInt64) (a := 2 ^ (d - j)) k
    have n1 := hN (2 ^ (d - j) + k) (by omega) (by omega)
    have m1 := hM (2 ^ (d - j) + k) (by omega) (by omega)
    rw [← ih (k + 1) (by omega)]
    rw [e209_101]
    cases hp : nP d S W (2 ^ (d - j) + k) with
    | true =>
      rw [hp] at n1
      rw [(tl_s (L := nL d S W j) (g := fun p => (mk d W p).toInt64) hp).1]
      rw [(tl_s (L := nL d S W j) (g := fun p => (mk d W p).toInt64) hp).2] at hcm ⊢
      simp (disch := first | omega | exact tl_l | exact tT_len | (simp only [List.length_cons, List.length_nil])) only [e209_103, e209_104, e209_105, e209_108, e209_110, e209_111, e209_112, e209_115, e209_116, e209_119, e209_120, e209_122, e209_124, e209_127, e209_128, e209_131, e209_132, e209_133, e209_136, e209_137, e209_139, e209_141, e209_144, e209_145, e209_146, e209_149, e209_152, kv_s, kh_s, kr_s, kr_v, kn_s, z0, z1, z2, nI_ltI, nI_leI, nI_eq, nI_add, oN, bz0, bz1, bw0, bw1, ltT, ltF, leT, leF, eqT, eqF, if_true, if_false, kI_n, wI_n, and_true, true_and, and_false, false_and, not_true, not_false_eq_true, mwo, mwr_0, mwr_1, mwr_2, mwg_3, mwp_3, mwr_4, mwg_5, mwp_5, mwg_6, mwp_6, mwr_7, mwr_8, mwg_9, mwp_9, mwg_10, mwp_10, mwg_11, mwp_11, mwr_12, mwg_13, mwp_13, mwr_14, mwr_15, mwr_16, mwr_17, mwr_18, mwr_19, mwg_20, mwp_20, mwr_21, mwr_22, mwr_23, mwa_1, mwu_1, mwa_2, mwu_2, mwa_3, mwu_3, mwa_4, mwu_4, mwa_5, mwu_5, mwa_6, mwu_6, mwa_7, mwu_7, mwa_8, mwu_8, mwa_9, mwu_9, mwa_10, mwu_10, mwa_11, mwu_11, mwa_12, mwu_12, mwa_13, mwu_13, mwa_14, mwu_14, mwa_15, mwu_15, mwa_16, mwu_16, vu_at, vu_ne, pk_us, pk_un, kB_n, wB_n, kL_n, wL_n, M_depth h, e6, shl_nI, M_place h (show j ≤ d by omega), n1, m1, bI, n01, M_tell, hlen, Nat.add_assoc]
    | false =>
      rw [hp] at n1
      rw [(tl_n (L := nL d S W j) (g := fun p => (mk d W p).toInt64) hp).1, (tl_n (L := nL d S W j) (g := fun p => (mk d W p).toInt64) hp).2]
      simp (disch := first | omega | exact tl_l | exact tT_len | (simp only [List.length_cons, List.length_nil])) only [e209_103, e209_104, e209_105, e209_108, e209_110, e209_111, e209_112, e209_115, e209_116, e209_119, e209_120, e209_122, e209_124, e209_127, e209_128, e209_131, e209_132, e209_133, e209_136, e209_137, e209_139, e209_141, e209_144, e209_145, e209_146, e209_149, e209_152, kv_s, kh_s, kr_s, kr_v, kn_s, z0, z1, z2, nI_ltI, nI_leI, nI_eq, nI_add, oN, bz0, bz1, bw0, bw1, ltT, ltF, leT, leF, eqT, eqF, if_true, if_false, kI_n, wI_n, and_true, true_and, and_false, false_and, not_true, not_false_eq_true, mwo, mwr_0, mwr_1, mwr_2, mwg_3, mwp_3, mwr_4, mwg_5, mwp_5, mwg_6, mwp_6, mwr_7, mwr_8, mwg_9, mwp_9, mwg_10, mwp_10, mwg_11, mwp_11, mwr_12, mwg_13, mwp_13, mwr_14, mwr_15, mwr_16, mwr_17, mwr_18, mwr_19, mwg_20, mwp_20, mwr_21, mwr_22, mwr_23, mwa_1, mwu_1, mwa_2, mwu_2, mwa_3, mwu_3, mwa_4, mwu_4, mwa_5, mwu_5, mwa_6, mwu_6, mwa_7, mwu_7, mwa_8, mwu_8, mwa_9, mwu_9, mwa_10, mwu_10, mwa_11, mwu_11, mwa_12, mwu_12, mwa_13, mwu_13, mwa_14, mwu_14, mwa_15, mwu_15, mwa_16, mwu_16, vu_at, vu_ne, pk_us, pk_un, kB_n, wB_n, kL_n, wL_n, M_depth h, e6, shl_nI, M_place h (show j ≤ d by omega), n1, bI, Bool.false_eq_true, Nat.add_assoc]
theorem M_others_out (h : nowM (A 1) d f l V) (hN : ∀ p, 2 ≤ p → p < 2 * 2 ^ d → A 10 p = bI (nP d S W p)) (hM : ∀ p, 1 ≤ p → p < 2 * 2 ^ d → A 5 p = mk d W p) (h128 : (nL d S W d).length ≤ 128) {l1 l2 : Value} {x : Int32} : ∀ (n j : Nat) {l5 : Value}, j + n = d → den 209 89 [.ref m, l1, l2, .int x, .int (nI j), l5] [] (mw σ m A (rl R (nL d S W j)) (upd I 5 (nI (nL d S W j).length))) = some (some (.int x), mw σ m A (rl R (nL d S W d)) (upd I 5 (nI (nL d S W d).length))) := by
  have hK := h.K
  intro n
  induction n with
  | zero =>
    intro j l5 hj
    have : j = d := by omega
    subst this
    rw [e209_89]
    simp (disch := first | omega | exact tl_l | exact tT_len | (simp only [List.length_cons, List.length_nil])) only [e209_0, e209_1, e209_2, e209_5, e209_6, e209_7, e209_10, e209_13, e209_14, e209_15, e209_18, e209_21, e209_22, e209_23, e209_24, e209_27, e209_30, e209_31, e209_32, e209_33, e209_34, e209_37, e209_38, e209_41, e209_42, e209_44, e209_45, e209_48, e209_51, e209_52, e209_53, e209_56, e209_57, e209_58, e209_59, e209_62, e209_65, e209_66, e209_67, e209_70, e209_73, e209_76, e209_77, e209_80, e209_81, e209_82, e209_83, e209_86, e209_87, e209_91, e209_92, e209_95, e209_98, e209_99, e209_103, e209_104, e209_105, e209_108, e209_110, e209_111, e209_112, e209_115, e209_116, e209_119, e209_120, e209_122, e209_124, e209_127, e209_128, e209_131, e209_132, e209_133, e209_136, e209_137, e209_139, e209_141, e209_144, e209_145, e209_146, e209_149, e209_152, e209_155, e209_158, e209_161, e209_162, kv_s, kh_s, kr_s, kr_v, kn_s, z0, z1, z2, nI_ltI, nI_leI, nI_eq, nI_add, oN, bz0, bz1, bw0, bw1, ltT, ltF, leT, leF, eqT, eqF, if_true, if_false, kI_n, wI_n, and_true, true_and, and_false, false_and, not_true, not_false_eq_true, mwo, mwr_0, mwr_1, mwr_2, mwg_3, mwp_3, mwr_4, mwg_5, mwp_5, mwg_6, mwp_6, mwr_7, mwr_8, mwg_9, mwp_9, mwg_10, mwp_10, mwg_11, mwp_11, mwr_12, mwg_13, mwp_13, mwr_14, mwr_15, mwr_16, mwr_17, mwr_18, mwr_19, mwg_20, mwp_20, mwr_21, mwr_22, mwr_23, mwa_1, mwu_1, mwa_2, mwu_2, mwa_3, mwu_3, mwa_4, mwu_4, mwa_5, mwu_5, mwa_6, mwu_6, mwa_7, mwu_7, mwa_8, mwu_8, mwa_9, mwu_9, mwa_10, mwu_10, mwa_11, mwu_11, mwa_12, mwu_12, mwa_13, mwu_13, mwa_14, mwu_14, mwa_15, mwu_15, mwa_16, mwu_16, vu_at, vu_ne, pk_us, pk_un, kB_n, wB_n, kL_n, wL_n, mwo, M_depth h]
  | succ n ih =>
    intro j l5 hj
    rw [← ih (j + 1) (l5 := .int (nI (2 ^ (d - j)))) (by omega)]
    have e := M_others_in (σ := σ) (m := m) (R := R) (I := I) h hN hM h128 (show j < d by omega) (l1 := l1) (l2 := l2) (l3 := .int x) (2 ^ (d - j)) 0 (Nat.zero_add _)
    rw [cnt, Nat.add_zero, tl] at e
    rw [e209_89]
    simp (disch := first | omega | exact tl_l | exact tT_len | (simp only [List.length_cons, List.length_nil])) only [e209_91, e209_92, e209_95, e209_98, e209_99, kv_s, kh_s, kr_s, kr_v, kn_s, z0, z1, z2, nI_ltI, nI_leI, nI_eq, nI_add, oN, bz0, bz1, bw0, bw1, ltT, ltF, leT, leF, eqT, eqF, if_true, if_false, kI_n, wI_n, and_true, true_and, and_false, false_and, not_true, not_false_eq_true, mwo, M_depth h]
    rw [e]
    simp (disch := first | omega | exact tl_l | exact tT_len | (simp only [List.length_cons, List.length_nil])) only [e209_155, e209_158, kv_s, kh_s, kr_s, kr_v, kn_s, z0, z1, z2, nI_ltI, nI_leI, nI_eq, nI_add, oN, bz0, bz1, bw0, bw1, ltT, ltF, leT, leF, eqT, eqF, if_true, if_false, kI_n, wI_n, and_true, true_and, and_false, false_and, not_true, not_false_eq_true]
end OU
