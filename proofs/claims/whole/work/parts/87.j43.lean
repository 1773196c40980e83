/-! calls: map -/
theorem pt_len {n K cap : Nat} {B : Nat → Nat} {z : Bool} : ∀ (k : Nat) (L : List (Nat × Nat)) (p : Nat) (L' : List (Nat × Nat)), L.length ≤ cap → pt n B K z cap k L p = .inr L' → L'.length ≤ cap := by
  intro k
  induction k with
  | zero => intro L p L' _ h; cases h
  | succ k ih =>
    intro L p L' hl h
    rw [pt] at h
    by_cases c1 : p = n
    · rw [if_pos c1] at h; cases h; exact hl
    · rw [if_neg c1] at h
      by_cases c2 : L.length = cap
      · rw [if_pos c2] at h; cases h
      · rw [if_neg c2] at h
        by_cases c3 : B p = 44
        · rw [if_pos c3] at h
          cases hr : rp n B K z (L.map Prod.fst) (p + 1) with
          | inl q => rw [hr] at h; cases h
          | inr s =>
            rw [hr] at h
            exact ih _ _ _ (by rw [List.length_append]; show L.length + 1 ≤ cap; omega) h
        · rw [if_neg c3] at h; cases h
theorem plc_pos : ∀ {L : List (Nat × Nat)} {W : Nat → Int32} {k : Nat}, (∀ y, y ∈ L → y.2 ≤ 999 ∧ y.2 ≠ 0) → (nI 0 < plc W L k ↔ k ∈ L.map Prod.fst ∨ (k ∉ L.map Prod.fst ∧ nI 0 < W k)) := by
  intro L
  induction L with
  | nil => intro W k _; exact ⟨fun h => Or.inr ⟨by simp, h⟩, fun h => by rcases h with h | h; cases h; exact h.2⟩
  | cons x xs ih =>
    intro W k hm
    have hx := hm x List.mem_cons_self
    have := ih (W := upd W x.1 (nI x.2)) (k := k) (fun y hy => hm y (List.mem_cons_of_mem _ hy))
    show nI 0 < plc (upd W x.1 (nI x.2)) xs k ↔ _
    rw [this, List.map_cons, List.mem_cons]
    by_cases h1 : k ∈ xs.map Prod.fst
    · exact ⟨fun _ => Or.inl (Or.inr h1), fun _ => Or.inl h1⟩
    · by_cases h2 : k = x.1
      · subst h2
        refine ⟨fun _ => Or.inl (Or.inl rfl), fun _ => Or.inr ⟨h1, ?_⟩⟩
        rw [pk_us]
        exact (nI_ltI (by omega) (by omega)).mpr (by omega)
      · constructor
        · rintro (z | z)
          · exact absurd z h1
          · rw [pk_un h2] at z
            exact Or.inr ⟨fun w => w.elim h2 h1, z.2⟩
        · rintro ((z | z) | z)
          · exact absurd z h2
          · exact absurd z h1
          · refine Or.inr ⟨h1, ?_⟩
            rw [pk_un h2]; exact z.2
theorem un_plc {e : Nat} {L : List (Nat × Nat)} (h : PI (2 ^ e) false L) : un e (plc (fun _ => nI 0) L) 1 = L.length := by
  have hK := Nat.one_le_two_pow (n := e)
  have nd : ¬ nI 0 < nI 0 := by decide
  rw [un_pos (S' := sL (L.map Prod.fst)) (fun k _ => by
    rw [plc_pos (fun y hy => ⟨(h.2 y hy).2.1, (h.2 y hy).2.2 rfl⟩), sL_pos]
    exact ⟨fun z => z.elim id (fun w => absurd w.2 nd), Or.inl⟩) 1 (by omega) (by omega), un_sL h.1 (fun y hy => by obtain ⟨w, w1, w2⟩ := List.mem_map.mp hy; rw [← w2]; exact (h.2 w w1).1), List.length_map]
section MA
variable {c : Nat} {σ : Hp} {m : Nat} {A : Nat → Nat → Int32} {R : Nat → Int64} {I : Nat → Int32} {z : Hs} {K : Nat → Option Hs} {n : Nat} {B : Nat → Nat}
/-- the depth that is told -/
def mdep (n : Nat) (B : Nat → Nat) : Prop := 0 < n ∧ 51 ≤ B 0 ∧ B 0 < 57
theorem C_readMap0 (h : BC c σ z K) (hB : isB A I n B) (hno : ¬ mdep n B) : dcall 23 [.ref c] (cw σ c A R I) = some (some (.int (nI 0)), cw σ c A R (ti I 0 (some 0))) := by
  obtain ⟨T, hb⟩ := h.rb
  have hn := hB.1
  have hdig := Tx_digit (σ := σ) (c := c) (R := R) (e := none) hB (Nat.zero_le n)
  have hfl := Tx_fail (σ := σ) (c := c) (A := A) (R := R) (I := I) (p := 0) (e := none) (q := 0) (fun r z => by cases z)
  have hfl : dcall 27 [.ref (c + 1), .int (nI 0)] (cw σ c A R (ti I 0 none)) = some (none, cw σ c A R (ti I 0 (some 0))) := hfl
  rcases dg_c (n := n) (B := B) (p := 0) with ⟨x, e1, e2, e3, e4, e5⟩ | ⟨e1, e2⟩
  · rw [e1] at hdig
    have hx : x < 3 ∨ 8 < x := by
      rcases Nat.lt_or_ge x 3 with z | z
      · exact Or.inl z
      · rcases Nat.lt_or_ge 8 x with w | w
        · exact Or.inr w
        · exact absurd ⟨e2, by omega, by omega⟩ hno
    have hdig : dcall 25 [.ref (c + 1)] (cw σ c A R (ti I 0 none)) = some (some (.int (nI x)), cw σ c A R (ti I 0 none)) := hdig
    have h := hb
    rcases hx with hx | hx
    · rw [q23]
      simp (disch := first | omega | exact tl_l | exact tT_len | (simp only [List.length_cons, List.length_nil])) only [e23_0, e23_1, e23_4, e23_7, e23_8, e23_11, e23_14, e23_15, e23_16, e23_17, e23_20, e23_21, e23_23, e23_26, e23_27, e23_30, e23_31, e23_34, e23_35, e23_38, e23_41, e23_42, e23_43, e23_46, e23_47, e23_50, e23_51, e23_52, e23_55, e23_56, e23_59, e23_60, e23_63, e23_64, e23_67, e23_68, e23_71, e23_72, e23_74, e23_76, e23_79, e23_80, e23_83, e23_86, e23_89, e23_90, e23_93, e23_96, e23_98, e23_101, e23_102, e23_105, e23_106, e23_109, e23_112, e23_115, e23_116, e23_119, e23_121, e23_124, e23_125, e23_126, e23_129, e23_132, e23_135, e23_136, e23_139, e23_142, kv_s, kh_s, kr_s, kr_v, kn_s, z0, z1, z2, nI_ltI, nI_leI, nI_eq, nI_add, oN, bz0, bz1, bw0, bw1, ltT, ltF, leT, leF, eqT, eqF, if_true, if_false, kI_n, wI_n, and_true, true_and, and_false, false_and, not_true, not_false_eq_true, cwo_1, cwr_1, cwg_0, cwg_1, cwg_2, cwa_0, cwl_0, cwo_3, cwr_3, cwg_3, cwa_R, cwl_R, cwo_5, cwr_5, cwg_4, cwg_5, cwg_6, cwg_7, cwg_8, cwa_1, cwl_1, cwo_7, cwr_7, cwg_9, cwg_10, cwg_11, cwg_12, cwg_13, cwa_2, cwl_2, cwo_17, cwr_17, cwg_14, cwa_3, cwl_3, cwp_0, cwp_1, cwp_2, cwp_3, cwp_4, cwp_5, cwp_6, cwp_7, cwp_8, cwp_9, cwp_10, cwp_11, cwp_12, cwp_13, cwp_14, cwu_0, cwu_R, cwu_1, cwu_2, cwu_3, vu_at, vu_ne, pk_us, pk_un, h.x.f0, h.x.f1, h.x.f2, h.x.f3, h.x.f4, h.x.f5, h.x.f6, h.x.f7, h.x.o, h.hi.o, h.hi.gd, h.hi.gf, h.hi.gl, Hi_keys h.hi h.d8, Hi_hasKey h.hi h.d8, Rw_empty, Rw_add, List.nil_append, List.cons_append, upd_upd, cwo_1, cwo_3, cwo_5, cwo_7, cwo_17, Bool.false_eq_true, n01, Tx_rewind, hdig, z3, hx, hfl, ti_2, fl]
    · have hx3 : ¬ x < 3 := by omega
      have hx8 : ¬ x ≤ 8 := by omega
      rw [q23]
      simp (disch := first | omega | exact tl_l | exact tT_len | (simp only [List.length_cons, List.length_nil])) only [e23_0, e23_1, e23_4, e23_7, e23_8, e23_11, e23_14, e23_15, e23_16, e23_17, e23_20, e23_21, e23_23, e23_26, e23_27, e23_30, e23_31, e23_34, e23_35, e23_38, e23_41, e23_42, e23_43, e23_46, e23_47, e23_50, e23_51, e23_52, e23_55, e23_56, e23_59, e23_60, e23_63, e23_64, e23_67, e23_68, e23_71, e23_72, e23_74, e23_76, e23_79, e23_80, e23_83, e23_86, e23_89, e23_90, e23_93, e23_96, e23_98, e23_101, e23_102, e23_105, e23_106, e23_109, e23_112, e23_115, e23_116, e23_119, e23_121, e23_124, e23_125, e23_126, e23_129, e23_132, e23_135, e23_136, e23_139, e23_142, kv_s, kh_s, kr_s, kr_v, kn_s, z0, z1, z2, nI_ltI, nI_leI, nI_eq, nI_add, oN, bz0, bz1, bw0, bw1, ltT, ltF, leT, leF, eqT, eqF, if_true, if_false, kI_n, wI_n, and_true, true_and, and_false, false_and, not_true, not_false_eq_true, cwo_1, cwr_1, cwg_0, cwg_1, cwg_2, cwa_0, cwl_0, cwo_3, cwr_3, cwg_3, cwa_R, cwl_R, cwo_5, cwr_5, cwg_4, cwg_5, cwg_6, cwg_7, cwg_8, cwa_1, cwl_1, cwo_7, cwr_7, cwg_9, cwg_10, cwg_11, cwg_12, cwg_13, cwa_2, cwl_2, cwo_17, cwr_17, cwg_14, cwa_3, cwl_3, cwp_0, cwp_1, cwp_2, cwp_3, cwp_4, cwp_5, cwp_6, cwp_7, cwp_8, cwp_9, cwp_10, cwp_11, cwp_12, cwp_13, cwp_14, cwu_0, cwu_R, cwu_1, cwu_2, cwu_3, vu_at, vu_ne, pk_us, pk_un, h.x.f0, h.x.f1, h.x.f2, h.x.f3, h.x.f4, h.x.f5, h.x.f6, h.x.f7, h.x.o, h.hi.o, h.hi.gd, h.hi.gf, h.hi.gl, Hi_keys h.hi h.d8, Hi_hasKey h.hi h.d8, Rw_empty, Rw_add, List.nil_append, List.cons_append, upd_upd, cwo_1, cwo_3, cwo_5, cwo_7, cwo_17, Bool.false_eq_true, n01, Tx_rewind, hdig, z3, z8, hx3, hx8, hfl, ti_2, fl]
  · rw [e1] at hdig
    have hdig : dcall 25 [.ref (c + 1)] (cw σ c A R (ti I 0 none)) = some (some (.int (-nI 1)), cw σ c A R (ti I 0 none)) := hdig
    have hlt := n1_lt (q := 3) (by omega)
    have h := hb
    rw [q23]
    simp (disch := first | omega | exact tl_l | exact tT_len | (simp only [List.length_cons, List.length_nil])) only [e23_0, e23_1, e23_4, e23_7, e23_8, e23_11, e23_14, e23_15, e23_16, e23_17, e23_20, e23_21, e23_23, e23_26, e23_27, e23_30, e23_31, e23_34, e23_35, e23_38, e23_41, e23_42, e23_43, e23_46, e23_47, e23_50, e23_51, e23_52, e23_55, e23_56, e23_59, e23_60, e23_63, e23_64, e23_67, e23_68, e23_71, e23_72, e23_74, e23_76, e23_79, e23_80, e23_83, e23_86, e23_89, e23_90, e23_93, e23_96, e23_98, e23_101, e23_102, e23_105, e23_106, e23_109, e23_112, e23_115, e23_116, e23_119, e23_121, e23_124, e23_125, e23_126, e23_129, e23_132, e23_135, e23_136, e23_139, e23_142, kv_s, kh_s, kr_s, kr_v, kn_s, z0, z1, z2, nI_ltI, nI_leI, nI_eq, nI_add, oN, bz0, bz1, bw0, bw1, ltT, ltF, leT, leF, eqT, eqF, if_true, if_false, kI_n, wI_n, and_true, true_and, and_false, false_and, not_true, not_false_eq_true, cwo_1, cwr_1, cwg_0, cwg_1, cwg_2, cwa_0, cwl_0, cwo_3, cwr_3, cwg_3, cwa_R, cwl_R, cwo_5, cwr_5, cwg_4, cwg_5, cwg_6, cwg_7, cwg_8, cwa_1, cwl_1, cwo_7, cwr_7, cwg_9, cwg_10, cwg_11, cwg_12, cwg_13, cwa_2, cwl_2, cwo_17, cwr_17, cwg_14, cwa_3, cwl_3, cwp_0, cwp_1, cwp_2, cwp_3, cwp_4, cwp_5, cwp_6, cwp_7, cwp_8, cwp_9, cwp_10, cwp_11, cwp_12, cwp_13, cwp_14, cwu_0, cwu_R, cwu_1, cwu_2, cwu_3, vu_at, vu_ne, pk_us, pk_un, h.x.f0, h.x.f1, h.x.f2, h.x.f3, h.x.f4, h.x.f5, h.x.f6, h.x.f7, h.x.o, h.hi.o, h.hi.gd, h.hi.gf, h.hi.gl, Hi_keys h.hi h.d8, Hi_hasKey h.hi h.d8, Rw_empty, Rw_add, List.nil_append, List.cons_append, upd_upd, cwo_1, cwo_3, cwo_5, cwo_7, cwo_17, Bool.false_eq_true, n01, Tx_rewind, hdig, z3, hlt, hfl, ti_2, fl]
theorem C_readMap (h : BC c σ z K) (hB : isB A I n B) {dc : Nat} (hI : I 14 = nI dc) (hyes : mdep n B) : (∀ q, pt n B (2 ^ (B 0 - 48)) false 40 (n + 1) [] 1 = .inl q → ∃ F τ W' p', dcall 23 [.ref c] (cw σ c A R I) = some (some (.int (nI q)), cw τ c (va_up A 3 F) R (ti (upd I 14 (nI (B 0 - 48))) p' (some q))) ∧ dft c σ τ (B 0 - 48) W' ∧ q ≤ n) ∧ ∀ L', pt n B (2 ^ (B 0 - 48)) false 40 (n + 1) [] 1 = .inr L' → ∃ F τ, dcall 23 [.ref c] (cw σ c A R I) = some (some (.int (-nI 1)), cw τ c (va_up A 3 F) R (ti (upd I 14 (nI (B 0 - 48))) n none)) ∧ dft c σ τ (B 0 - 48) (plc (fun _ => nI 0) L') ∧ PI (2 ^ (B 0 - 48)) false L' ∧ L'.length ≤ n := by
  obtain ⟨T, hb⟩ := h.rb
  have hn := hB.1
  obtain ⟨y1, y2, y3⟩ := hyes
  have hdig := Tx_digit (σ := σ) (c := c) (R := R) (e := none) hB (Nat.zero_le n)
  have e1 : dg n B 0 = some (B 0 - 48) := by unfold dg; rw [if_pos ⟨y1, by omega, by omega⟩]
  rw [e1] at hdig
  have hdig : dcall 25 [.ref (c + 1)] (cw σ c A R (ti I 0 none)) = some (some (.int (nI (B 0 - 48))), cw σ c A R (ti I 0 none)) := hdig
  have he8 : B 0 - 48 ≤ 8 := by omega
  have he3 : ¬ B 0 - 48 < 3 := by omega
  generalize B 0 - 48 = e at hdig he8 he3 ⊢
  obtain ⟨d0, W0, hdr⟩ := h.dr
  obtain ⟨τ, k1, D1⟩ := D_clear (A := A) (R := R) (I := ti I 1 none) hdr he8
  obtain ⟨F0, c1, c2⟩ := Ch_clear (σ := τ) (c := c) (A := A) (R := R) (I := ti I 1 none) (d := e) ((ti_o (by omega) (by omega)).trans hI) he8
  rw [ti_14] at c1
  have hb1 := hb.dft D1
  have o0 := BC_dobj h (A := A) (R := R) (I := ti I 1 none)
  have hB0 : isB (va_up A 3 F0) (upd I 14 (nI e)) n B := ⟨hB.1, (pk_un (by omega)).trans hB.2.1, by rw [vu_ne (by omega)]; exact hB.2.2⟩
  have ee : dcall 23 [.ref c] (cw σ c A R I) = den 23 73 [.ref c, .int (nI e), .int (nI 0)] [] (cw τ c (va_up A 3 F0) R (ti (upd I 14 (nI e)) 1 none)) := by
    have h := hb
    rw [q23]
    simp (disch := first | omega | exact tl_l | exact tT_len | (simp only [List.length_cons, List.length_nil])) only [e23_0, e23_1, e23_4, e23_7, e23_8, e23_11, e23_14, e23_15, e23_16, e23_17, e23_20, e23_21, e23_23, e23_26, e23_27, e23_30, e23_31, e23_34, e23_35, e23_38, e23_41, e23_42, e23_43, e23_46, e23_47, e23_50, e23_51, e23_52, e23_55, e23_56, e23_59, e23_60, e23_63, e23_64, e23_67, e23_68, e23_71, e23_72, e23_74, e23_76, e23_79, e23_80, e23_83, e23_86, e23_89, e23_90, e23_93, e23_96, e23_98, e23_101, e23_102, e23_105, e23_106, e23_109, e23_112, e23_115, e23_116, e23_119, e23_121, e23_124, e23_125, e23_126, e23_129, e23_132, e23_135, e23_136, e23_139, e23_142, kv_s, kh_s, kr_s, kr_v, kn_s, z0, z1, z2, nI_ltI, nI_leI, nI_eq, nI_add, oN, bz0, bz1, bw0, bw1, ltT, ltF, leT, leF, eqT, eqF, if_true, if_false, kI_n, wI_n, and_true, true_and, and_false, false_and, not_true, not_false_eq_true, cwo_1, cwr_1, cwg_0, cwg_1, cwg_2, cwa_0, cwl_0, cwo_3, cwr_3, cwg_3, cwa_R, cwl_R, cwo_5, cwr_5, cwg_4, cwg_5, cwg_6, cwg_7, cwg_8, cwa_1, cwl_1, cwo_7, cwr_7, cwg_9, cwg_10, cwg_11, cwg_12, cwg_13, cwa_2, cwl_2, cwo_17, cwr_17, cwg_14, cwa_3, cwl_3, cwp_0, cwp_1, cwp_2, cwp_3, cwp_4, cwp_5, cwp_6, cwp_7, cwp_8, cwp_9, cwp_10, cwp_11, cwp_12, cwp_13, cwp_14, cwu_0, cwu_R, cwu_1, cwu_2, cwu_3, vu_at, vu_ne, pk_us, pk_un, h.x.f0, h.x.f1, h.x.f2, h.x.f3, h.x.f4, h.x.f5, h.x.f6, h.x.f7, h.x.o, h.hi.o, h.hi.gd, h.hi.gf, h.hi.gl, Hi_keys h.hi h.d8, Hi_hasKey h.hi h.d8, Rw_empty, Rw_add, List.nil_append, List.cons_append, upd_upd, cwo_1, cwo_3, cwo_5, cwo_7, cwo_17, Bool.false_eq_true, n01, Tx_rewind, hdig, z3, z8, he3, he8, ti_1, ti_p, o0, k1, hb1.x.f0, hb1.x.f1, hb1.x.f2, hb1.x.f3, hb1.x.f4, hb1.x.f5, hb1.x.f6, hb1.x.f7, hb1.x.o, hb1.hi.o, hb1.hi.gd, hb1.hi.gf, hb1.hi.gl, Hi_keys hb1.hi hb1.d8, Hi_hasKey hb1.hi hb1.d8, c1]
  obtain ⟨i1, i2⟩ := C_map_loop (R := R) (T := T) (f := z.2.1) (l := z.2.2.1) (V := z.2.2.2) (dp := z.1) (W0 := fun _ => nI 0) he8 (l1 := .int (nI e)) (n + 1) [] 1 0 τ (va_up A 3 F0) (upd I 14 (nI e)) (n := n) (B := B) hb1 D1.2.2 hB0 pk_us (by rw [vu_at, List.map_nil, sL_nil]; exact c2) PI_nil (by show 0 ≤ 1; omega) (by omega) (by omega) (by omega)
  rw [ee]
  refine ⟨fun q z => ?_, fun L' z => ?_⟩
  · obtain ⟨F', τ', W', p', v1, v2, v3⟩ := i1 q z
    rw [vu_vu] at v1
    exact ⟨F', τ', W', p', v1, D1.tr v2, v3⟩
  · obtain ⟨F', τ', v1, v2, v3, v4, v5⟩ := i2 L' z
    rw [vu_vu] at v1
    exact ⟨F', τ', v1, D1.tr v2, v4, v5⟩
theorem M_zero_loop {l1 : Value} : ∀ (k j : Nat) (N : Nat → Int32), j + k = 3075 → (∀ i, i < j → N i = nI 0) → ∃ N', den 142 102 [.ref m, l1, .int (nI j)] [] (mw σ m (va_up A 1 N) R I) = den 142 122 [.ref m, l1, .int (nI 3075)] [] (mw σ m (va_up A 1 N') R I) ∧ ∀ i, i < 3075 → N' i = nI 0 := by
  intro k
  induction k with
  | zero =>
    intro j N hj h0
    have : j = 3075 := by omega
    subst this
    refine ⟨N, ?_, h0⟩
    rw [e142_102]
    simp (disch := first | omega | exact tl_l | exact tT_len | (simp only [List.length_cons, List.length_nil])) only [e142_103, e142_106, e142_109, e142_110, e142_113, e142_114, e142_115, e142_116, e142_119, kv_s, kh_s, kr_s, kr_v, kn_s, z0, z1, z2, nI_ltI, nI_leI, nI_eq, nI_add, oN, bz0, bz1, bw0, bw1, ltT, ltF, leT, leF, eqT, eqF, if_true, if_false, kI_n, wI_n, and_true, true_and, and_false, false_and, not_true, not_false_eq_true, z3075]
  | succ k ih =>
    intro j N hj h0
    obtain ⟨N', e1, e2⟩ := ih (j + 1) (upd N j (nI 0)) (by omega) (fun i hi => by
      by_cases hij : i = j
      · subst hij; rw [pk_us]
      · rw [pk_un hij]; exact h0 i (by omega))
    refine ⟨N', ?_, e2⟩
    rw [← e1]
    rw [e142_102]
    simp (disch := first | omega | exact tl_l | exact tT_len | (simp only [List.length_cons, List.length_nil])) only [e142_103, e142_106, e142_109, e142_110, e142_113, e142_114, e142_115, e142_116, e142_119, kv_s, kh_s, kr_s, kr_v, kn_s, z0, z1, z2, nI_ltI, nI_leI, nI_eq, nI_add, oN, bz0, bz1, bw0, bw1, ltT, ltF, leT, leF, eqT, eqF, if_true, if_false, kI_n, wI_n, and_true, true_and, and_false, false_and, not_true, not_false_eq_true, mwo, mwr_0, mwr_1, mwr_2, mwg_3, mwp_3, mwr_4, mwg_5, mwp_5, mwg_6, mwp_6, mwr_7, mwr_8, mwg_9, mwp_9, mwg_10, mwp_10, mwg_11, mwp_11, mwr_12, mwg_13, mwp_13, mwr_14, mwr_15, mwr_16, mwr_17, mwr_18, mwr_19, mwg_20, mwp_20, mwr_21, mwr_22, mwr_23, mwa_1, mwu_1, mwa_2, mwu_2, mwa_3, mwu_3, mwa_4, mwu_4, mwa_5, mwu_5, mwa_6, mwu_6, mwa_7, mwu_7, mwa_8, mwu_8, mwa_9, mwu_9, mwa_10, mwu_10, mwa_11, mwu_11, mwa_12, mwu_12, mwa_13, mwu_13, mwa_14, mwu_14, mwa_15, mwu_15, mwa_16, mwu_16, vu_at, vu_ne, pk_us, pk_un, kB_n, wB_n, kL_n, wL_n, z3075, vu_vu]
theorem M_val_loop {W : Nat → Int32} {L : List (Nat × Nat)} {l1 : Value} (hm : ∀ y, y ∈ L → y.1 < 256) (hl : L.length ≤ 80) (hI : I 13 = nI L.length) (hR : RP (A 7) L) : ∀ (S P : List (Nat × Nat)) (N N0 : Nat → Int32), L = P ++ S → (∀ j, j < 256 → N (3 + j) = plc W P j) → (∀ j, j < 3 → N j = N0 j) → ∃ N', den 142 138 [.ref m, l1, .int (nI P.length)] [] (mw σ m (va_up A 1 N) R I) = den 142 177 [.ref m, l1, .int (nI L.length)] [] (mw σ m (va_up A 1 N') R I) ∧ (∀ j, j < 256 → N' (3 + j) = plc W L j) ∧ ∀ j, j < 3 → N' j = N0 j := by
  intro S
  induction S with
  | nil =>
    intro P N N0 hL h1 h2
    have : P = L := by rw [hL, List.append_nil]
    subst this
    refine ⟨N, ?_, h1, h2⟩
    rw [e142_138]
    simp (disch := first | omega | exact tl_l | exact tT_len | (simp only [List.length_cons, List.length_nil])) only [e142_139, e142_140, e142_143, e142_146, e142_147, e142_150, e142_151, e142_152, e142_155, e142_156, e142_157, e142_158, e142_159, e142_160, e142_161, e142_164, e142_165, e142_166, e142_167, e142_168, e142_169, e142_170, e142_171, e142_174, kv_s, kh_s, kr_s, kr_v, kn_s, z0, z1, z2, nI_ltI, nI_leI, nI_eq, nI_add, oN, bz0, bz1, bw0, bw1, ltT, ltF, leT, leF, eqT, eqF, if_true, if_false, kI_n, wI_n, and_true, true_and, and_false, false_and, not_true, not_false_eq_true, mwo, mwr_0, mwr_1, mwr_2, mwg_3, mwp_3, mwr_4, mwg_5, mwp_5, mwg_6, mwp_6, mwr_7, mwr_8, mwg_9, mwp_9, mwg_10, mwp_10, mwg_11, mwp_11, mwr_12, mwg_13, mwp_13, mwr_14, mwr_15, mwr_16, mwr_17, mwr_18, mwr_19, mwg_20, mwp_20, mwr_21, mwr_22, mwr_23, mwa_1, mwu_1, mwa_2, mwu_2, mwa_3, mwu_3, mwa_4, mwu_4, mwa_5, mwu_5, mwa_6, mwu_6, mwa_7, mwu_7, mwa_8, mwu_8, mwa_9, mwu_9, mwa_10, mwu_10, mwa_11, mwu_11, mwa_12, mwu_12, mwa_13, mwu_13, mwa_14, mwu_14, mwa_15, mwu_15, mwa_16, mwu_16, vu_at, vu_ne, pk_us, pk_un, kB_n, wB_n, kL_n, wL_n, hI]
  | cons v S ih =>
    intro P N N0 hL h1 h2
    have hv : v ∈ L := by rw [hL]; simp
    have hvK := hm v hv
    have hlt : P.length < L.length := by rw [hL, List.length_append, List.length_cons]; omega
    have hr := hR P.length hlt
    have hLv : L[P.length]? = some v := by rw [hL, List.getElem?_append_right (Nat.le_refl _), Nat.sub_self]; rfl
    rw [hLv] at hr
    have hr1 : A 7 (2 * P.length) = nI v.1 := by simpa using hr.1
    have hr2 : A 7 (2 * P.length + 1) = nI v.2 := by simpa using hr.2
    have hll : (P ++ [v]).length = P.length + 1 := by rw [List.length_append]; rfl
    obtain ⟨N', e1, e2, e3⟩ := ih (P ++ [v]) (upd N (3 + v.1) (nI v.2)) N0 (by rw [hL, List.append_assoc]; rfl) (fun j hj => by
      rw [plc_add]
      by_cases hjv : j = v.1
      · subst hjv; rw [pk_us, pk_us]
      · rw [pk_un hjv, pk_un (by omega)]; exact h1 j hj) (fun j hj => by rw [pk_un (by omega)]; exact h2 j hj)
    rw [hll] at e1
    refine ⟨N', ?_, e2, e3⟩
    rw [← e1]
    have e7 : ∀ {X : Nat → Int32}, va_up A 1 X 7 = A 7 := fun {X} => vu_ne (by omega)
    rw [e142_138]
    simp (disch := first | omega | exact tl_l | exact tT_len | (simp only [List.length_cons, List.length_nil])) only [e142_139, e142_140, e142_143, e142_146, e142_147, e142_150, e142_151, e142_152, e142_155, e142_156, e142_157, e142_158, e142_159, e142_160, e142_161, e142_164, e142_165, e142_166, e142_167, e142_168, e142_169, e142_170, e142_171, e142_174, kv_s, kh_s, kr_s, kr_v, kn_s, z0, z1, z2, nI_ltI, nI_leI, nI_eq, nI_add, oN, bz0, bz1, bw0, bw1, ltT, ltF, leT, leF, eqT, eqF, if_true, if_false, kI_n, wI_n, and_true, true_and, and_false, false_and, not_true, not_false_eq_true, mwo, mwr_0, mwr_1, mwr_2, mwg_3, mwp_3, mwr_4, mwg_5, mwp_5, mwg_6, mwp_6, mwr_7, mwr_8, mwg_9, mwp_9, mwg_10, mwp_10, mwg_11, mwp_11, mwr_12, mwg_13, mwp_13, mwr_14, mwr_15, mwr_16, mwr_17, mwr_18, mwr_19, mwg_20, mwp_20, mwr_21, mwr_22, mwr_23, mwa_1, mwu_1, mwa_2, mwu_2, mwa_3, mwu_3, mwa_4, mwu_4, mwa_5, mwu_5, mwa_6, mwu_6, mwa_7, mwu_7, mwa_8, mwu_8, mwa_9, mwu_9, mwa_10, mwu_10, mwa_11, mwu_11, mwa_12, mwu_12, mwa_13, mwu_13, mwa_14, mwu_14, mwa_15, mwu_15, mwa_16, mwu_16, vu_at, vu_ne, pk_us, pk_un, kB_n, wB_n, kL_n, wL_n, hI, nI_two, z3, e7, hr1, hr2, vu_vu]
end MA
