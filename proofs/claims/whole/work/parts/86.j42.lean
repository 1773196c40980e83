/-! calls: batch -/
theorem plc_pl {d : Nat} {z : Bool} : ∀ {L : List (Nat × Nat)} {W : Nat → Int32}, plW d W → (∀ y, y ∈ L → y.1 < 2 ^ d ∧ y.2 ≤ 999 ∧ (z = false → y.2 ≠ 0)) → plW d (plc W L) := by
  intro L
  induction L with
  | nil => intro W h _; exact h
  | cons x xs ih => intro W h hm; exact ih (h.up (hm x List.mem_cons_self).2.1) (fun y hy => hm y (List.mem_cons_of_mem _ hy))
theorem plc_ze {d : Nat} {z : Bool} : ∀ {L : List (Nat × Nat)} {W : Nat → Int32}, zer d W → (∀ y, y ∈ L → y.1 < 2 ^ d ∧ y.2 ≤ 999 ∧ (z = false → y.2 ≠ 0)) → zer d (plc W L) := by
  intro L
  induction L with
  | nil => intro W h _; exact h
  | cons x xs ih => intro W h hm; exact ih (h.up (hm x List.mem_cons_self).1) (fun y hy => hm y (List.mem_cons_of_mem _ hy))
theorem RM.gen {A2 A2' : Nat → Nat → Int32} {R2 : Nat → Int64} {I2 I2' : Nat → Int32} {z z' : Hs} {n : Nat} {B : Nat → Nat} {L : List Int64} {q : Option Hn} {K : Nat → Option Hs} (h : RM A2 R2 I2 z n B L q K) (hn : nowM (A2' 1) z'.1 z'.2.1 z'.2.2.1 z'.2.2.2) (hA : ∀ k, k = 2 ∨ k = 15 ∨ k = 16 → A2' k = A2 k) (h3 : I2' 3 = nI 0) (h5 : I2' 5 = I2 5) : RM A2' R2 I2' z' 0 B L q K := by
  obtain ⟨g1, g2, g3, g4, g5, g6, g7⟩ := h
  exact ⟨hn, by rw [hA 2 (by omega)]; exact g2, h3, fun i hi => absurd hi (Nat.not_lt_zero i), h5.trans g5, g6, fun j hj => RMk_stay' (fun k hk => hA k (by omega)) (g7 j hj)⟩
theorem okZ.gen {i : Nat} {z z' : Hs} {n : Nat} {q : Option Hn} {K : Nat → Option Hs} (h : okZ i z n q K) (hi : i < 600) (ho : okH z') (hl : z'.2.2.1 ≤ z.2.2.1 + 1) : okZ (i + 1) z' 0 q K := by
  obtain ⟨o1, o2, o3, o4, o5⟩ := h
  exact ⟨ho, fun j y q1 q2 => ⟨(o2 j y q1 q2).1, by have := (o2 j y q1 q2).2; omega⟩, by omega, o4, by omega⟩
section BA
variable {c : Nat} {σ : Hp} {m : Nat} {A : Nat → Nat → Int32} {R : Nat → Int64} {I : Nat → Int32} {z : Hs} {K : Nat → Option Hs} {n : Nat} {B : Nat → Nat} {d f l : Nat} {V : Nat → Nat → Int32}
theorem C_readBatch (h : BC c σ z K) (hB : isB A I n B) {dc : Nat} (hI : I 14 = nI dc) : (∀ q, pr1 n B (2 ^ z.1) true 1000 (n + 1) [] 0 = .inl q → ∃ F τ W' p', dcall 42 [.ref c] (cw σ c A R I) = some (some (.int (nI q)), cw τ c (va_up A 3 F) R (ti (upd I 14 (nI z.1)) p' (some q))) ∧ dft c σ τ z.1 W' ∧ q ≤ n) ∧ ∀ L', pr1 n B (2 ^ z.1) true 1000 (n + 1) [] 0 = .inr L' → ∃ F τ, dcall 42 [.ref c] (cw σ c A R I) = some (some (.int (-nI 1)), cw τ c (va_up A 3 F) R (ti (upd I 14 (nI z.1)) n none)) ∧ dft c σ τ z.1 (plc (z.2.2.2 z.2.2.1) L') ∧ okF z.1 (sL (L'.map Prod.fst)) F ∧ PI (2 ^ z.1) true L' ∧ L'.length ≤ n := by
  have hn := hB.1
  obtain ⟨T, t, τ, hb, n1, t2, far, k1, D1, hb1, hc1, t3⟩ := C_new (A := A) (R := R) (I := ti I 0 none) h
  have hd := hb.d8
  obtain ⟨F0, c1, c2⟩ := Ch_clear (σ := τ) (c := c) (A := A) (R := R) (I := ti I 0 none) (d := z.1) ((ti_o (by omega) (by omega)).trans hI) hd
  rw [ti_14] at c1
  have hB0 : isB (va_up A 3 F0) (upd I 14 (nI z.1)) n B := ⟨hB.1, (pk_un (by omega)).trans hB.2.1, by rw [vu_ne (by omega)]; exact hB.2.2⟩
  have hF0 : okF z.1 (sL (([] : List (Nat × Nat)).map Prod.fst)) (va_up A 3 F0 3) := by rw [vu_at, List.map_nil, sL_nil]; exact c2
  have o0 := BC_dobj h (A := A) (R := R) (I := ti I 0 none)
  obtain ⟨a1, a2⟩ := A_pair (R := R) hb1 hd (D1.2.2 : isT τ (c + 12) z.1 (plc (z.2.2.2 z.2.2.1) [])) hB0 pk_us (Nat.zero_le n) hF0 (z := true)
  have hbd := rp_bd (n := n) (B := B) (K := 2 ^ z.1) (z := true) (L := ([] : List (Nat × Nat)).map Prod.fst) (Nat.zero_le n)
  unfold pr1
  cases hr : rp n B (2 ^ z.1) true (([] : List (Nat × Nat)).map Prod.fst) 0 with
  | inl q0 =>
    obtain ⟨F, τ2, W', p', w1, w2, w3⟩ := a1 q0 hr
    have hq := hbd.1 q0 hr
    refine ⟨fun q z => ?_, fun L' z => (by cases z)⟩
    cases z
    rw [vu_vu] at w1
    have w1 : dcall 32 [.ref c, .int (nI 1)] (cw τ c (va_up A 3 F0) R (ti (upd I 14 (nI z.1)) 0 none)) = some (none, cw τ2 c (va_up A 3 F) R (ti (upd I 14 (nI z.1)) p' (some q0))) := w1
    refine ⟨F, τ2, W', p', ?_, D1.tr w2, hq⟩
    have ho := C_batch_out (R := R) (i := 0) (hb1.dft w2) (A := va_up A 3 F) (I := upd I 14 (nI z.1)) (n := n) (B := B) ⟨hB.1, (pk_un (by omega)).trans hB.2.1, by rw [vu_ne (by omega)]; exact hB.2.2⟩ w3 hq (by omega)
    rw [← ho]
    have h := hb
    rw [q42]
    simp (disch := first | omega | exact tl_l | exact tT_len | (simp only [List.length_cons, List.length_nil])) only [e42_0, e42_1, e42_4, e42_7, e42_8, e42_11, e42_12, e42_15, e42_18, e42_21, e42_22, e42_25, e42_26, e42_29, e42_32, e42_35, e42_36, e42_37, e42_40, e42_41, e42_43, e42_45, e42_48, e42_49, e42_52, e42_55, e42_58, e42_59, e42_62, e42_64, e42_67, e42_68, e42_69, e42_72, e42_75, e42_78, e42_79, e42_82, e42_85, kv_s, kh_s, kr_s, kr_v, kn_s, z0, z1, z2, nI_ltI, nI_leI, nI_eq, nI_add, oN, bz0, bz1, bw0, bw1, ltT, ltF, leT, leF, eqT, eqF, if_true, if_false, kI_n, wI_n, and_true, true_and, and_false, false_and, not_true, not_false_eq_true, cwo_1, cwr_1, cwg_0, cwg_1, cwg_2, cwa_0, cwl_0, cwo_3, cwr_3, cwg_3, cwa_R, cwl_R, cwo_5, cwr_5, cwg_4, cwg_5, cwg_6, cwg_7, cwg_8, cwa_1, cwl_1, cwo_7, cwr_7, cwg_9, cwg_10, cwg_11, cwg_12, cwg_13, cwa_2, cwl_2, cwo_17, cwr_17, cwg_14, cwa_3, cwl_3, cwp_0, cwp_1, cwp_2, cwp_3, cwp_4, cwp_5, cwp_6, cwp_7, cwp_8, cwp_9, cwp_10, cwp_11, cwp_12, cwp_13, cwp_14, cwu_0, cwu_R, cwu_1, cwu_2, cwu_3, vu_at, vu_ne, pk_us, pk_un, h.x.f0, h.x.f1, h.x.f2, h.x.f3, h.x.f4, h.x.f5, h.x.f6, h.x.f7, h.x.o, h.hi.o, h.hi.gd, h.hi.gf, h.hi.gl, Hi_keys h.hi h.d8, Hi_hasKey h.hi h.d8, Rw_empty, Rw_add, List.nil_append, List.cons_append, upd_upd, cwo_1, cwo_3, cwo_5, cwo_7, cwo_17, Bool.false_eq_true, n01, Tx_rewind, n1, o0, k1, hb1.x.f0, hb1.x.f1, hb1.x.f2, hb1.x.f3, hb1.x.f4, hb1.x.f5, hb1.x.f6, hb1.x.f7, hb1.x.o, hb1.hi.o, hb1.hi.gd, hb1.hi.gf, hb1.hi.gl, Hi_keys hb1.hi hb1.d8, Hi_hasKey hb1.hi hb1.d8, c1, w1]
  | inr s0 =>
    obtain ⟨F, τ2, w1, w2, w3⟩ := a2 s0 hr
    obtain ⟨b1, b2, b3⟩ := hbd.2 s0 hr
    rw [vu_vu] at w1
    have w1 : dcall 32 [.ref c, .int (nI 1)] (cw τ c (va_up A 3 F0) R (ti (upd I 14 (nI z.1)) 0 none)) = some (none, cw τ2 c (va_up A 3 F) R (ti (upd I 14 (nI z.1)) s0.2 none)) := w1
    have e : dcall 42 [.ref c] (cw σ c A R I) = den 42 42 [.ref c, .int (nI 0)] [] (cw τ2 c (va_up A 3 F) R (ti (upd I 14 (nI z.1)) s0.2 none)) := by
      have h := hb
      rw [q42]
      simp (disch := first | omega | exact tl_l | exact tT_len | (simp only [List.length_cons, List.length_nil])) only [e42_0, e42_1, e42_4, e42_7, e42_8, e42_11, e42_12, e42_15, e42_18, e42_21, e42_22, e42_25, e42_26, e42_29, e42_32, e42_35, e42_36, e42_37, e42_40, e42_41, e42_43, e42_45, e42_48, e42_49, e42_52, e42_55, e42_58, e42_59, e42_62, e42_64, e42_67, e42_68, e42_69, e42_72, e42_75, e42_78, e42_79, e42_82, e42_85, kv_s, kh_s, kr_s, kr_v, kn_s, z0, z1, z2, nI_ltI, nI_leI, nI_eq, nI_add, oN, bz0, bz1, bw0, bw1, ltT, ltF, leT, leF, eqT, eqF, if_true, if_false, kI_n, wI_n, and_true, true_and, and_false, false_and, not_true, not_false_eq_true, cwo_1, cwr_1, cwg_0, cwg_1, cwg_2, cwa_0, cwl_0, cwo_3, cwr_3, cwg_3, cwa_R, cwl_R, cwo_5, cwr_5, cwg_4, cwg_5, cwg_6, cwg_7, cwg_8, cwa_1, cwl_1, cwo_7, cwr_7, cwg_9, cwg_10, cwg_11, cwg_12, cwg_13, cwa_2, cwl_2, cwo_17, cwr_17, cwg_14, cwa_3, cwl_3, cwp_0, cwp_1, cwp_2, cwp_3, cwp_4, cwp_5, cwp_6, cwp_7, cwp_8, cwp_9, cwp_10, cwp_11, cwp_12, cwp_13, cwp_14, cwu_0, cwu_R, cwu_1, cwu_2, cwu_3, vu_at, vu_ne, pk_us, pk_un, h.x.f0, h.x.f1, h.x.f2, h.x.f3, h.x.f4, h.x.f5, h.x.f6, h.x.f7, h.x.o, h.hi.o, h.hi.gd, h.hi.gf, h.hi.gl, Hi_keys h.hi h.d8, Hi_hasKey h.hi h.d8, Rw_empty, Rw_add, List.nil_append, List.cons_append, upd_upd, cwo_1, cwo_3, cwo_5, cwo_7, cwo_17, Bool.false_eq_true, n01, Tx_rewind, n1, o0, k1, hb1.x.f0, hb1.x.f1, hb1.x.f2, hb1.x.f3, hb1.x.f4, hb1.x.f5, hb1.x.f6, hb1.x.f7, hb1.x.o, hb1.hi.o, hb1.hi.gd, hb1.hi.gf, hb1.hi.gl, Hi_keys hb1.hi hb1.d8, Hi_hasKey hb1.hi hb1.d8, c1, w1]
    obtain ⟨i1, i2⟩ := C_batch_loop (R := R) (T := T) (f := z.2.1) (l := z.2.2.1) (V := z.2.2.2) (dp := z.1) (W0 := z.2.2.2 z.2.2.1) hd (n + 1) ([] ++ [s0.1]) s0.2 0 τ2 (va_up A 3 F) (upd I 14 (nI z.1)) (n := n) (B := B) (hb1.dft w2) (by rw [plc_add]; exact w2.2.2) ⟨hB.1, (pk_un (by omega)).trans hB.2.1, by rw [vu_ne (by omega)]; exact hB.2.2⟩ pk_us (by rw [vu_at, List.map_append]; exact w3) (PI_nil.add (Nat.zero_le n) hr) (by show 1 ≤ s0.2; omega) b2 (by omega) (by omega)
    rw [e]
    refine ⟨fun q z => ?_, fun L' z => ?_⟩
    · obtain ⟨F', τ', W', p', v1, v2, v3⟩ := i1 q z
      rw [vu_vu] at v1
      exact ⟨F', τ', W', p', v1, (D1.tr w2).tr v2, v3⟩
    · obtain ⟨F', τ', v1, v2, v3⟩ := i2 L' z
      rw [vu_vu] at v1
      exact ⟨F', τ', v1, (D1.tr w2).tr v2, v3⟩
theorem M_put_loop {W : Nat → Int32} {L : List (Nat × Nat)} {l1 : Value} (hm : ∀ y, y ∈ L → y.1 < 2 ^ d) (hl : L.length ≤ 80) (hI : I 13 = nI L.length) : ∀ (S P : List (Nat × Nat)) (A : Nat → Nat → Int32), L = P ++ S → nowM (A 1) d f l V → RP (A 7) L → (∀ j, j < 256 → A 8 j = plc W P j) → OV d (sL (P.map Prod.fst)) (A 9) → ∃ A', den 157 67 [.ref m, l1, .int (nI P.length)] [] (mw σ m A R I) = den 157 116 [.ref m, l1, .int (nI L.length)] [] (mw σ m A' R I) ∧ (∀ j, j < 256 → A' 8 j = plc W L j) ∧ OV d (sL (L.map Prod.fst)) (A' 9) ∧ ∀ j, j ≠ 8 → j ≠ 9 → A' j = A j := by
  intro S
  induction S with
  | nil =>
    intro P A hL h hR h8 hO
    have : P = L := by rw [hL, List.append_nil]
    subst this
    refine ⟨A, ?_, h8, hO, fun _ _ _ => rfl⟩
    rw [e157_67]
    simp (disch := first | omega | exact tl_l | exact tT_len | (simp only [List.length_cons, List.length_nil])) only [e157_68, e157_69, e157_72, e157_75, e157_76, e157_79, e157_80, e157_83, e157_84, e157_85, e157_86, e157_87, e157_88, e157_91, e157_92, e157_93, e157_94, e157_95, e157_96, e157_97, e157_98, e157_99, e157_100, e157_103, e157_104, e157_105, e157_106, e157_107, e157_110, e157_113, kv_s, kh_s, kr_s, kr_v, kn_s, z0, z1, z2, nI_ltI, nI_leI, nI_eq, nI_add, oN, bz0, bz1, bw0, bw1, ltT, ltF, leT, leF, eqT, eqF, if_true, if_false, kI_n, wI_n, and_true, true_and, and_false, false_and, not_true, not_false_eq_true, mwo, mwr_0, mwr_1, mwr_2, mwg_3, mwp_3, mwr_4, mwg_5, mwp_5, mwg_6, mwp_6, mwr_7, mwr_8, mwg_9, mwp_9, mwg_10, mwp_10, mwg_11, mwp_11, mwr_12, mwg_13, mwp_13, mwr_14, mwr_15, mwr_16, mwr_17, mwr_18, mwr_19, mwg_20, mwp_20, mwr_21, mwr_22, mwr_23, mwa_1, mwu_1, mwa_2, mwu_2, mwa_3, mwu_3, mwa_4, mwu_4, mwa_5, mwu_5, mwa_6, mwu_6, mwa_7, mwu_7, mwa_8, mwu_8, mwa_9, mwu_9, mwa_10, mwu_10, mwa_11, mwu_11, mwa_12, mwu_12, mwa_13, mwu_13, mwa_14, mwu_14, mwa_15, mwu_15, mwa_16, mwu_16, vu_at, vu_ne, pk_us, pk_un, kB_n, wB_n, kL_n, wL_n, hI]
  | cons v S ih =>
    intro P A hL h hR h8 hO
    have hK := h.K
    have hv : v ∈ L := by rw [hL]; simp
    have hvK := hm v hv
    have hlt : P.length < L.length := by rw [hL, List.length_append, List.length_cons]; omega
    have hr := hR P.length hlt
    have hLv : L[P.length]? = some v := by rw [hL, List.getElem?_append_right (Nat.le_refl _), Nat.sub_self]; rfl
    rw [hLv] at hr
    have hr1 : A 7 (2 * P.length) = nI v.1 := by simpa using hr.1
    have hr2 : A 7 (2 * P.length + 1) = nI v.2 := by simpa using hr.2
    have g8 : nowM (va_up A 8 (upd (A 8) v.1 (nI v.2)) 1) d f l V := by rw [vu_ne (by omega)]; exact h
    have hmo := M_markOver (σ := σ) (m := m) (A := va_up A 8 (upd (A 8) v.1 (nI v.2))) (R := R) (I := I) g8 hvK
    have hO2 := OV_add hK.2.2.1 hO hvK
    rw [sL_add] at hO2
    have e9 : va_up A 8 (upd (A 8) v.1 (nI v.2)) 9 = A 9 := vu_ne (by omega)
    have e7 : ∀ {X : Nat → Int32}, va_up A 8 X 7 = A 7 := fun {X} => vu_ne (by omega)
    rw [e9] at hmo
    obtain ⟨A', e1, e2, e3, e4⟩ := ih (P ++ [v]) (va_up (va_up A 8 (upd (A 8) v.1 (nI v.2))) 9 (fun q => if onb 9 (2 ^ d + v.1) q = true then nI 1 else A 9 q)) (by rw [hL, List.append_assoc]; rfl) (by rw [vu_ne (by omega)]; exact g8) (by rw [vu_ne (by omega), vu_ne (by omega)]; exact hR) (fun j hj => by
      rw [vu_ne (by omega), vu_at, plc_add]
      by_cases hjv : j = v.1
      · subst hjv; rw [pk_us, pk_us]
      · rw [pk_un hjv, pk_un hjv]; exact h8 j hj) (by rw [vu_at, List.map_append]; exact hO2)
    have hll : (P ++ [v]).length = P.length + 1 := by rw [List.length_append]; rfl
    rw [hll] at e1
    refine ⟨A', ?_, e2, e3, fun j h1 h2 => (e4 j h1 h2).trans ((vu_ne h2).trans (vu_ne h1))⟩
    rw [← e1]
    rw [e157_67]
    simp (disch := first | omega | exact tl_l | exact tT_len | (simp only [List.length_cons, List.length_nil])) only [e157_68, e157_69, e157_72, e157_75, e157_76, e157_79, e157_80, e157_83, e157_84, e157_85, e157_86, e157_87, e157_88, e157_91, e157_92, e157_93, e157_94, e157_95, e157_96, e157_97, e157_98, e157_99, e157_100, e157_103, e157_104, e157_105, e157_106, e157_107, e157_110, e157_113, kv_s, kh_s, kr_s, kr_v, kn_s, z0, z1, z2, nI_ltI, nI_leI, nI_eq, nI_add, oN, bz0, bz1, bw0, bw1, ltT, ltF, leT, leF, eqT, eqF, if_true, if_false, kI_n, wI_n, and_true, true_and, and_false, false_and, not_true, not_false_eq_true, mwo, mwr_0, mwr_1, mwr_2, mwg_3, mwp_3, mwr_4, mwg_5, mwp_5, mwg_6, mwp_6, mwr_7, mwr_8, mwg_9, mwp_9, mwg_10, mwp_10, mwg_11, mwp_11, mwr_12, mwg_13, mwp_13, mwr_14, mwr_15, mwr_16, mwr_17, mwr_18, mwr_19, mwg_20, mwp_20, mwr_21, mwr_22, mwr_23, mwa_1, mwu_1, mwa_2, mwu_2, mwa_3, mwu_3, mwa_4, mwu_4, mwa_5, mwu_5, mwa_6, mwu_6, mwa_7, mwu_7, mwa_8, mwu_8, mwa_9, mwu_9, mwa_10, mwu_10, mwa_11, mwu_11, mwa_12, mwu_12, mwa_13, mwu_13, mwa_14, mwu_14, mwa_15, mwu_15, mwa_16, mwu_16, vu_at, vu_ne, pk_us, pk_un, kB_n, wB_n, kL_n, wL_n, hI, nI_two, hr1, hr2, e7, hmo]
end BA
theorem J_batch : Jn 41 157 [] := by
  rintro c i σ hi ⟨z, n, B, L, q, K, A, R, I, A2, R2, I2, h⟩
  obtain ⟨T, hb⟩ := h.rb
  have hN := h.nm
  have hd := hb.d8
  have hK := hb.K
  have hfl := hb.fl
  obtain ⟨dc, dc1, hI⟩ := h.2.2.2.1.2.2.2.2
  have hB := h.2.2.2.1.1
  have hn := hB.1
  have hMB : MB A2 n B := ⟨hn, fun j hj => ⟨h.2.2.2.2.1.2.2.2.1 j hj, (hB.2.2 j hj).2⟩⟩
  have hM3 := h.2.2.2.2.1.2.2.1
  obtain ⟨r1, r2⟩ := C_readBatch (R := R) h.2.2.1 hB hI
  have hmI : upd I2 6 (nI 0) 3 = nI n := (pk_un (by omega)).trans hM3
  have hmu : upd (mt (upd I2 6 (nI 0)) n 0 none) 13 (nI 0) = mt (upd (upd I2 6 (nI 0)) 13 (nI 0)) n 0 none := mt_u (by omega)
  have kk := fun τ => M_batch_loop (σ := τ) (m := c + 24) (R := R2) (f := z.2.1) (l := z.2.2.1) (V := z.2.2.2) (d := z.1) (n := n) (B := B) (l2 := junk) (n + 1) [] 0 A2 (upd (upd I2 6 (nI 0)) 13 (nI 0)) hMB hN (fun i hi => absurd hi (Nat.not_lt_zero i)) pk_us PI_nil (Nat.le_refl _) (Nat.zero_le _) (by omega)
  cases hk : pr1 n B (2 ^ z.1) true 1000 (n + 1) [] 0 with
  | inl q0 =>
    obtain ⟨F, τ, W', p', w1, w2, w3⟩ := r1 q0 hk
    obtain ⟨A2', I2', p2, v1, v2, v3⟩ := (kk (cw τ c (va_up A 3 F) R (upd (ti (upd I 14 (nI z.1)) p' (some q0)) 0 (nI 0)))).1 q0 hk
    refine Inv_mk h (ρ := τ) (b := .int (-nI 1 - nI q0)) (A' := va_up A 3 F) (R' := R) (I' := upd (ti (upd I 14 (nI z.1)) p' (some q0)) 0 (nI 0)) (A2' := A2') (R2' := R2) (I2' := mt I2' n p2 (some q0)) ?_ (h.2.2.1.dft w2) w2.afar ?_ (h.2.2.2.1.rd hd) (h.2.2.2.2.1.rd (fun k hk => v2 k (by omega)) mt_3 ((mt_o (by omega)).trans ((v3 5 (by omega)).trans ((pk_un (by omega)).trans (pk_un (by omega)))))) (h.2.2.2.2.2.rd hi)
    · have hb1 := hb.dft w2
      have h := hb
      rw [q41]
      simp (disch := first | omega | exact tl_l | exact tT_len | (simp only [List.length_cons, List.length_nil])) only [e41_0, e41_1, e41_4, e41_5, e41_6, e41_9, e41_10, e41_13, e41_14, e41_15, e41_18, e41_19, e41_20, e41_21, e41_22, e41_23, e41_26, e41_29, e41_32, e41_33, e41_34, e41_37, e41_38, e41_41, e41_44, e41_45, e41_48, e41_49, e41_52, e41_55, e41_56, e41_59, e41_60, e41_63, e41_64, e41_67, e41_70, e41_71, e41_72, e41_75, e41_78, e41_79, e41_80, e41_81, e41_82, e41_85, e41_86, kv_s, kh_s, kr_s, kr_v, kn_s, z0, z1, z2, nI_ltI, nI_leI, nI_eq, nI_add, oN, bz0, bz1, bw0, bw1, ltT, ltF, leT, leF, eqT, eqF, if_true, if_false, kI_n, wI_n, and_true, true_and, and_false, false_and, not_true, not_false_eq_true, cwo_1, cwr_1, cwg_0, cwg_1, cwg_2, cwa_0, cwl_0, cwo_3, cwr_3, cwg_3, cwa_R, cwl_R, cwo_5, cwr_5, cwg_4, cwg_5, cwg_6, cwg_7, cwg_8, cwa_1, cwl_1, cwo_7, cwr_7, cwg_9, cwg_10, cwg_11, cwg_12, cwg_13, cwa_2, cwl_2, cwo_17, cwr_17, cwg_14, cwa_3, cwl_3, cwp_0, cwp_1, cwp_2, cwp_3, cwp_4, cwp_5, cwp_6, cwp_7, cwp_8, cwp_9, cwp_10, cwp_11, cwp_12, cwp_13, cwp_14, cwu_0, cwu_R, cwu_1, cwu_2, cwu_3, vu_at, vu_ne, pk_us, pk_un, h.x.f0, h.x.f1, h.x.f2, h.x.f3, h.x.f4, h.x.f5, h.x.f6, h.x.f7, h.x.o, h.hi.o, h.hi.gd, h.hi.gf, h.hi.gl, Hi_keys h.hi h.d8, Hi_hasKey h.hi h.d8, Rw_empty, Rw_add, List.nil_append, List.cons_append, upd_upd, cwo_1, cwo_3, cwo_5, cwo_7, cwo_17, Bool.false_eq_true, n01, w1, nI_n1, hb1.x.f0, hb1.x.f1, hb1.x.f2, hb1.x.f3, hb1.x.f4, hb1.x.f5, hb1.x.f6, hb1.x.f7, hb1.x.o, hb1.hi.o, hb1.hi.gd, hb1.hi.gf, hb1.hi.gl, Hi_keys hb1.hi hb1.d8, Hi_hasKey hb1.hi hb1.d8]
    · rw [← v1]
      rw [q157]
      simp (disch := first | omega | exact tl_l | exact tT_len | (simp only [List.length_cons, List.length_nil])) only [e157_0, e157_1, e157_2, e157_5, e157_6, e157_9, e157_10, e157_11, e157_14, e157_15, e157_17, e157_20, e157_21, e157_22, e157_25, e157_26, e157_29, e157_30, e157_32, e157_35, e157_36, e157_39, e157_40, e157_43, e157_46, e157_47, e157_48, e157_51, e157_52, e157_53, e157_54, e157_55, e157_58, e157_61, e157_62, e157_65, e157_66, e157_68, e157_69, e157_72, e157_75, e157_76, e157_79, e157_80, e157_83, e157_84, e157_85, e157_86, e157_87, e157_88, e157_91, e157_92, e157_93, e157_94, e157_95, e157_96, e157_97, e157_98, e157_99, e157_100, e157_103, e157_104, e157_105, e157_106, e157_107, e157_110, e157_113, e157_116, e157_117, e157_120, e157_122, e157_125, e157_128, e157_129, e157_130, e157_133, e157_136, e157_139, e157_140, e157_141, e157_142, e157_145, e157_146, e157_147, e157_150, e157_151, e157_154, e157_155, e157_156, e157_159, e157_160, e157_163, e157_164, e157_165, e157_166, e157_167, e157_170, e157_171, e157_174, kv_s, kh_s, kr_s, kr_v, kn_s, z0, z1, z2, nI_ltI, nI_leI, nI_eq, nI_add, oN, bz0, bz1, bw0, bw1, ltT, ltF, leT, leF, eqT, eqF, if_true, if_false, kI_n, wI_n, and_true, true_and, and_false, false_and, not_true, not_false_eq_true, mwo, mwr_0, mwr_1, mwr_2, mwg_3, mwp_3, mwr_4, mwg_5, mwp_5, mwg_6, mwp_6, mwr_7, mwr_8, mwg_9, mwp_9, mwg_10, mwp_10, mwg_11, mwp_11, mwr_12, mwg_13, mwp_13, mwr_14, mwr_15, mwr_16, mwr_17, mwr_18, mwr_19, mwg_20, mwp_20, mwr_21, mwr_22, mwr_23, mwa_1, mwu_1, mwa_2, mwu_2, mwa_3, mwu_3, mwa_4, mwu_4, mwa_5, mwu_5, mwa_6, mwu_6, mwa_7, mwu_7, mwa_8, mwu_8, mwa_9, mwu_9, mwa_10, mwu_10, mwa_11, mwu_11, mwa_12, mwu_12, mwa_13, mwu_13, mwa_14, mwu_14, mwa_15, mwu_15, mwa_16, mwu_16, vu_at, vu_ne, pk_us, pk_un, kB_n, wB_n, kL_n, wL_n, M_begin hmI, n01, hmu]
  | inr L' =>
    obtain ⟨F, τ, w1, w2, w3, w4, w5⟩ := r2 L' hk
    have okl := h.ok _ hfl.1 (Nat.le_refl _)
    have hpl := plc_pl (L := L') okl.1 w4.2
    have hze : zer z.1 (plc (z.2.2.2 z.2.2.1) L') := plc_ze (L := L') okl.2.2 w4.2
    obtain ⟨o1, o2, o3⟩ := mkF_ok (x := -nI 300) (y := -nI 200) h.ok hfl.1 hfl.2.1 hpl hze
    obtain ⟨ρ, s1, s2, s3⟩ := A_settle (A := va_up A 3 F) (R := R) (I := upd (ti (upd I 14 (nI z.1)) n none) 0 (nI 0)) (h.2.2.1.dft w2) w2.2.2 h.l30 (x := -nI 300) (y := -nI 200)
    have hun := un_le hd (plc (z.2.2.2 z.2.2.1) L') 1
    have hprod : L'.length * (z.1 + 1) ≤ 80 * 9 := Nat.mul_le_mul (by omega) (by omega)
    have hcn := cnt_le (nz z.1 (sL (L'.map Prod.fst))) 1 (2 * 2 ^ z.1 - 1)
    have hb1 := hb.dft w2
    have hsz : un z.1 (sL (L'.map Prod.fst)) 1 = L'.length := by
      rw [un_sL w4.1 (fun y hy => by obtain ⟨w, w1, w2⟩ := List.mem_map.mp hy; rw [← w2]; exact (w4.2 w w1).1), List.length_map]
    have h14 : upd (ti (upd I 14 (nI z.1)) n none) 0 (nI 0) 14 = nI z.1 := by rw [pk_un (by omega), ti_o (by omega) (by omega), pk_us]
    have hM : ∀ τ, ∃ A2' I2', dcall 157 [.ref (c + 24)] (mw τ (c + 24) A2 R2 I2) = den 157 116 [.ref (c + 24), .int (nI 0), .int (nI L'.length)] [] (mw τ (c + 24) A2' R2 (mt I2' n n none)) ∧ (∀ j, j < 256 → A2' 8 j = plc (z.2.2.2 z.2.2.1) L' j) ∧ OV z.1 (sL (L'.map Prod.fst)) (A2' 9) ∧ (∀ j, j ≠ 7 → j ≠ 8 → j ≠ 9 → A2' j = A2 j) ∧ (∀ j, j ≠ 13 → I2' j = upd (upd I2 6 (nI 0)) 13 (nI 0) j) ∧ I2' 13 = nI L'.length := fun τ => by
      obtain ⟨A3, I3, v1, v2, v3, v4, v5, v6, v7⟩ := (kk τ).2 L' hk
      have hN3 : nowM (A3 1) z.1 z.2.1 z.2.2.1 z.2.2.2 := by rw [v6 1 (by omega)]; exact hN
      obtain ⟨N, n1, n2⟩ := M_layNext (σ := τ) (m := c + 24) (R := R2) (I := mt I3 n n none) hN3 hfl.1 (Nat.le_refl z.2.2.1)
      obtain ⟨O, c1, c2⟩ := M_clearOver (σ := τ) (m := c + 24) (A := va_up A3 8 N) (R := R2) (I := mt I3 n n none)
      have h13 : mt I3 n n none 13 = nI L'.length := (mt_o (by omega)).trans v3
      obtain ⟨A4, p1, p2, p3, p4⟩ := M_put_loop (σ := τ) (m := c + 24) (R := R2) (I := mt I3 n n none) (f := z.2.1) (l := z.2.2.1) (V := z.2.2.2) (W := z.2.2.2 z.2.2.1) (L := L') (l1 := .int (nI 0)) (d := z.1) (fun y hy => (w4.2 y hy).1) (by omega) h13 L' [] (va_up (va_up A3 8 N) 9 O) rfl (by rw [vu_ne (by omega), vu_ne (by omega)]; exact hN3) (by rw [vu_ne (by omega), vu_ne (by omega)]; exact v2) (fun j hj => by rw [vu_ne (by omega), vu_at]; exact n2 j hj) (by rw [vu_at, List.map_nil, sL_nil]; exact OV_0 hd c2)
      refine ⟨A4, I3, ?_, p2, p3, fun j j1 j2 j3 => (p4 j j2 j3).trans ((vu_ne j3).trans ((vu_ne j2).trans (v6 j j1))), v7, v3⟩
      rw [← p1]
      rw [q157]
      simp (disch := first | omega | exact tl_l | exact tT_len | (simp only [List.length_cons, List.length_nil])) only [e157_0, e157_1, e157_2, e157_5, e157_6, e157_9, e157_10, e157_11, e157_14, e157_15, e157_17, e157_20, e157_21, e157_22, e157_25, e157_26, e157_29, e157_30, e157_32, e157_35, e157_36, e157_39, e157_40, e157_43, e157_46, e157_47, e157_48, e157_51, e157_52, e157_53, e157_54, e157_55, e157_58, e157_61, e157_62, e157_65, e157_66, e157_68, e157_69, e157_72, e157_75, e157_76, e157_79, e157_80, e157_83, e157_84, e157_85, e157_86, e157_87, e157_88, e157_91, e157_92, e157_93, e157_94, e157_95, e157_96, e157_97, e157_98, e157_99, e157_100, e157_103, e157_104, e157_105, e157_106, e157_107, e157_110, e157_113, e157_116, e157_117, e157_120, e157_122, e157_125, e157_128, e157_129, e157_130, e157_133, e157_136, e157_139, e157_140, e157_141, e157_142, e157_145, e157_146, e157_147, e157_150, e157_151, e157_154, e157_155, e157_156, e157_159, e157_160, e157_163, e157_164, e157_165, e157_166, e157_167, e157_170, e157_171, e157_174, kv_s, kh_s, kr_s, kr_v, kn_s, z0, z1, z2, nI_ltI, nI_leI, nI_eq, nI_add, oN, bz0, bz1, bw0, bw1, ltT, ltF, leT, leF, eqT, eqF, if_true, if_false, kI_n, wI_n, and_true, true_and, and_false, false_and, not_true, not_false_eq_true, mwo, mwr_0, mwr_1, mwr_2, mwg_3, mwp_3, mwr_4, mwg_5, mwp_5, mwg_6, mwp_6, mwr_7, mwr_8, mwg_9, mwp_9, mwg_10, mwp_10, mwg_11, mwp_11, mwr_12, mwg_13, mwp_13, mwr_14, mwr_15, mwr_16, mwr_17, mwr_18, mwr_19, mwg_20, mwp_20, mwr_21, mwr_22, mwr_23, mwa_1, mwu_1, mwa_2, mwu_2, mwa_3, mwu_3, mwa_4, mwu_4, mwa_5, mwu_5, mwa_6, mwu_6, mwa_7, mwu_7, mwa_8, mwu_8, mwa_9, mwu_9, mwa_10, mwu_10, mwa_11, mwu_11, mwa_12, mwu_12, mwa_13, mwu_13, mwa_14, mwu_14, mwa_15, mwu_15, mwa_16, mwu_16, vu_at, vu_ne, pk_us, pk_un, kB_n, wB_n, kL_n, wL_n, M_begin hmI, n01, hmu]
      rw [v1]
      simp (disch := first | omega | exact tl_l | exact tT_len | (simp only [List.length_cons, List.length_nil])) only [e157_0, e157_1, e157_2, e157_5, e157_6, e157_9, e157_10, e157_11, e157_14, e157_15, e157_17, e157_20, e157_21, e157_22, e157_25, e157_26, e157_29, e157_30, e157_32, e157_35, e157_36, e157_39, e157_40, e157_43, e157_46, e157_47, e157_48, e157_51, e157_52, e157_53, e157_54, e157_55, e157_58, e157_61, e157_62, e157_65, e157_66, e157_68, e157_69, e157_72, e157_75, e157_76, e157_79, e157_80, e157_83, e157_84, e157_85, e157_86, e157_87, e157_88, e157_91, e157_92, e157_93, e157_94, e157_95, e157_96, e157_97, e157_98, e157_99, e157_100, e157_103, e157_104, e157_105, e157_106, e157_107, e157_110, e157_113, e157_116, e157_117, e157_120, e157_122, e157_125, e157_128, e157_129, e157_130, e157_133, e157_136, e157_139, e157_140, e157_141, e157_142, e157_145, e157_146, e157_147, e157_150, e157_151, e157_154, e157_155, e157_156, e157_159, e157_160, e157_163, e157_164, e157_165, e157_166, e157_167, e157_170, e157_171, e157_174, kv_s, kh_s, kr_s, kr_v, kn_s, z0, z1, z2, nI_ltI, nI_leI, nI_eq, nI_add, oN, bz0, bz1, bw0, bw1, ltT, ltF, leT, leF, eqT, eqF, if_true, if_false, kI_n, wI_n, and_true, true_and, and_false, false_and, not_true, not_false_eq_true, mwo, mwr_0, mwr_1, mwr_2, mwg_3, mwp_3, mwr_4, mwg_5, mwp_5, mwg_6, mwp_6, mwr_7, mwr_8, mwg_9, mwp_9, mwg_10, mwp_10, mwg_11, mwp_11, mwr_12, mwg_13, mwp_13, mwr_14, mwr_15, mwr_16, mwr_17, mwr_18, mwr_19, mwg_20, mwp_20, mwr_21, mwr_22, mwr_23, mwa_1, mwu_1, mwa_2, mwu_2, mwa_3, mwu_3, mwa_4, mwu_4, mwa_5, mwu_5, mwa_6, mwu_6, mwa_7, mwu_7, mwa_8, mwu_8, mwa_9, mwu_9, mwa_10, mwu_10, mwa_11, mwu_11, mwa_12, mwu_12, mwa_13, mwu_13, mwa_14, mwu_14, mwa_15, mwu_15, mwa_16, mwu_16, vu_at, vu_ne, pk_us, pk_un, kB_n, wB_n, kL_n, wL_n, M_latest hN3, n1, c1]
      rfl
    unfold mkF at s1 s2 o1 o2 o3
    by_cases h1 : 40 < un z.1 (plc (z.2.2.2 z.2.2.1) L') 1
    · rw [if_pos h1] at s1 s2
      obtain ⟨A2', I2', m1, m2, m3, m4, m5, m6⟩ := hM (cw ρ c (va_up A 3 F) R (upd (ti (upd I 14 (nI z.1)) n none) 0 (nI 0)))
      refine Inv_mk h (ρ := ρ) (b := .int (-nI 300)) (A' := va_up A 3 F) (R' := R) (I' := upd (ti (upd I 14 (nI z.1)) n none) 0 (nI 0)) (A2' := A2') (R2' := R2) (I2' := mt I2' n n none) ?_ s2 (w2.afar.tr s3) ?_ (h.2.2.2.1.rd hd) (h.2.2.2.2.1.rd (fun k hk => m4 k (by omega) (by omega) (by omega)) mt_3 ((mt_o (by omega)).trans ((m5 5 (by omega)).trans ((pk_un (by omega)).trans (pk_un (by omega)))))) (h.2.2.2.2.2.rd hi)
      · have hneg : -nI 300 < nI 0 := by decide
        have hneg' : ¬ nI 0 ≤ -nI 300 := by decide
        have h := hb
        rw [q41]
        simp (disch := first | omega | exact tl_l | exact tT_len | (simp only [List.length_cons, List.length_nil])) only [e41_0, e41_1, e41_4, e41_5, e41_6, e41_9, e41_10, e41_13, e41_14, e41_15, e41_18, e41_19, e41_20, e41_21, e41_22, e41_23, e41_26, e41_29, e41_32, e41_33, e41_34, e41_37, e41_38, e41_41, e41_44, e41_45, e41_48, e41_49, e41_52, e41_55, e41_56, e41_59, e41_60, e41_63, e41_64, e41_67, e41_70, e41_71, e41_72, e41_75, e41_78, e41_79, e41_80, e41_81, e41_82, e41_85, e41_86, kv_s, kh_s, kr_s, kr_v, kn_s, z0, z1, z2, nI_ltI, nI_leI, nI_eq, nI_add, oN, bz0, bz1, bw0, bw1, ltT, ltF, leT, leF, eqT, eqF, if_true, if_false, kI_n, wI_n, and_true, true_and, and_false, false_and, not_true, not_false_eq_true, cwo_1, cwr_1, cwg_0, cwg_1, cwg_2, cwa_0, cwl_0, cwo_3, cwr_3, cwg_3, cwa_R, cwl_R, cwo_5, cwr_5, cwg_4, cwg_5, cwg_6, cwg_7, cwg_8, cwa_1, cwl_1, cwo_7, cwr_7, cwg_9, cwg_10, cwg_11, cwg_12, cwg_13, cwa_2, cwl_2, cwo_17, cwr_17, cwg_14, cwa_3, cwl_3, cwp_0, cwp_1, cwp_2, cwp_3, cwp_4, cwp_5, cwp_6, cwp_7, cwp_8, cwp_9, cwp_10, cwp_11, cwp_12, cwp_13, cwp_14, cwu_0, cwu_R, cwu_1, cwu_2, cwu_3, vu_at, vu_ne, pk_us, pk_un, h.x.f0, h.x.f1, h.x.f2, h.x.f3, h.x.f4, h.x.f5, h.x.f6, h.x.f7, h.x.o, h.hi.o, h.hi.gd, h.hi.gf, h.hi.gl, Hi_keys h.hi h.d8, Hi_hasKey h.hi h.d8, Rw_empty, Rw_add, List.nil_append, List.cons_append, upd_upd, cwo_1, cwo_3, cwo_5, cwo_7, cwo_17, Bool.false_eq_true, n01, w1, n1_n1, hb1.x.f0, hb1.x.f1, hb1.x.f2, hb1.x.f3, hb1.x.f4, hb1.x.f5, hb1.x.f6, hb1.x.f7, hb1.x.o, hb1.hi.o, hb1.hi.gd, hb1.hi.gf, hb1.hi.gl, Hi_keys hb1.hi hb1.d8, Hi_hasKey hb1.hi hb1.d8, z300, show (200 : Int32) = nI 200 from rfl, s1, hneg, hneg']
      · rw [m1]
        have hmn := M_nextMany (σ := cw ρ c (va_up A 3 F) R (upd (ti (upd I 14 (nI z.1)) n none) 0 (nI 0))) (m := c + 24) (A := A2') (R := R2) (I := mt I2' n n none) hd m2 hze
        simp (disch := first | omega | exact tl_l | exact tT_len | (simp only [List.length_cons, List.length_nil])) only [e157_0, e157_1, e157_2, e157_5, e157_6, e157_9, e157_10, e157_11, e157_14, e157_15, e157_17, e157_20, e157_21, e157_22, e157_25, e157_26, e157_29, e157_30, e157_32, e157_35, e157_36, e157_39, e157_40, e157_43, e157_46, e157_47, e157_48, e157_51, e157_52, e157_53, e157_54, e157_55, e157_58, e157_61, e157_62, e157_65, e157_66, e157_68, e157_69, e157_72, e157_75, e157_76, e157_79, e157_80, e157_83, e157_84, e157_85, e157_86, e157_87, e157_88, e157_91, e157_92, e157_93, e157_94, e157_95, e157_96, e157_97, e157_98, e157_99, e157_100, e157_103, e157_104, e157_105, e157_106, e157_107, e157_110, e157_113, e157_116, e157_117, e157_120, e157_122, e157_125, e157_128, e157_129, e157_130, e157_133, e157_136, e157_139, e157_140, e157_141, e157_142, e157_145, e157_146, e157_147, e157_150, e157_151, e157_154, e157_155, e157_156, e157_159, e157_160, e157_163, e157_164, e157_165, e157_166, e157_167, e157_170, e157_171, e157_174, kv_s, kh_s, kr_s, kr_v, kn_s, z0, z1, z2, nI_ltI, nI_leI, nI_eq, nI_add, oN, bz0, bz1, bw0, bw1, ltT, ltF, leT, leF, eqT, eqF, if_true, if_false, kI_n, wI_n, and_true, true_and, and_false, false_and, not_true, not_false_eq_true, mwo, mwr_0, mwr_1, mwr_2, mwg_3, mwp_3, mwr_4, mwg_5, mwp_5, mwg_6, mwp_6, mwr_7, mwr_8, mwg_9, mwp_9, mwg_10, mwp_10, mwg_11, mwp_11, mwr_12, mwg_13, mwp_13, mwr_14, mwr_15, mwr_16, mwr_17, mwr_18, mwr_19, mwg_20, mwp_20, mwr_21, mwr_22, mwr_23, mwa_1, mwu_1, mwa_2, mwu_2, mwa_3, mwu_3, mwa_4, mwu_4, mwa_5, mwu_5, mwa_6, mwu_6, mwa_7, mwu_7, mwa_8, mwu_8, mwa_9, mwu_9, mwa_10, mwu_10, mwa_11, mwu_11, mwa_12, mwu_12, mwa_13, mwu_13, mwa_14, mwu_14, mwa_15, mwu_15, mwa_16, mwu_16, vu_at, vu_ne, pk_us, pk_un, kB_n, wB_n, kL_n, wL_n, mwo, hmn, z40, h1, z300]
    · rw [if_neg h1] at s1 s2 o1 o2 o3
      have h1' : un z.1 (plc (z.2.2.2 z.2.2.1) L') 1 ≤ 40 := by omega
      by_cases h2 : un z.1 (dl (plc (z.2.2.2 z.2.2.1) L') (z.2.2.2 z.2.2.1)) 1 = 0
      · rw [if_pos h2] at s1 s2
        obtain ⟨A2', I2', m1, m2, m3, m4, m5, m6⟩ := hM (cw ρ c (va_up A 3 F) R (upd (ti (upd I 14 (nI z.1)) n none) 0 (nI 0)))
        refine Inv_mk h (ρ := ρ) (b := .int (-nI 200)) (A' := va_up A 3 F) (R' := R) (I' := upd (ti (upd I 14 (nI z.1)) n none) 0 (nI 0)) (A2' := A2') (R2' := R2) (I2' := mt I2' n n none) ?_ s2 (w2.afar.tr s3) ?_ (h.2.2.2.1.rd hd) (h.2.2.2.2.1.rd (fun k hk => m4 k (by omega) (by omega) (by omega)) mt_3 ((mt_o (by omega)).trans ((m5 5 (by omega)).trans ((pk_un (by omega)).trans (pk_un (by omega)))))) (h.2.2.2.2.2.rd hi)
        · have hneg : -nI 200 < nI 0 := by decide
          have hneg' : ¬ nI 0 ≤ -nI 200 := by decide
          have h := hb
          rw [q41]
          simp (disch := first | omega | exact tl_l | exact tT_len | (simp only [List.length_cons, List.length_nil])) only [e41_0, e41_1, e41_4, e41_5, e41_6, e41_9, e41_10, e41_13, e41_14, e41_15, e41_18, e41_19, e41_20, e41_21, e41_22, e41_23, e41_26, e41_29, e41_32, e41_33, e41_34, e41_37, e41_38, e41_41, e41_44, e41_45, e41_48, e41_49, e41_52, e41_55, e41_56, e41_59, e41_60, e41_63, e41_64, e41_67, e41_70, e41_71, e41_72, e41_75, e41_78, e41_79, e41_80, e41_81, e41_82, e41_85, e41_86, kv_s, kh_s, kr_s, kr_v, kn_s, z0, z1, z2, nI_ltI, nI_leI, nI_eq, nI_add, oN, bz0, bz1, bw0, bw1, ltT, ltF, leT, leF, eqT, eqF, if_true, if_false, kI_n, wI_n, and_true, true_and, and_false, false_and, not_true, not_false_eq_true, cwo_1, cwr_1, cwg_0, cwg_1, cwg_2, cwa_0, cwl_0, cwo_3, cwr_3, cwg_3, cwa_R, cwl_R, cwo_5, cwr_5, cwg_4, cwg_5, cwg_6, cwg_7, cwg_8, cwa_1, cwl_1, cwo_7, cwr_7, cwg_9, cwg_10, cwg_11, cwg_12, cwg_13, cwa_2, cwl_2, cwo_17, cwr_17, cwg_14, cwa_3, cwl_3, cwp_0, cwp_1, cwp_2, cwp_3, cwp_4, cwp_5, cwp_6, cwp_7, cwp_8, cwp_9, cwp_10, cwp_11, cwp_12, cwp_13, cwp_14, cwu_0, cwu_R, cwu_1, cwu_2, cwu_3, vu_at, vu_ne, pk_us, pk_un, h.x.f0, h.x.f1, h.x.f2, h.x.f3, h.x.f4, h.x.f5, h.x.f6, h.x.f7, h.x.o, h.hi.o, h.hi.gd, h.hi.gf, h.hi.gl, Hi_keys h.hi h.d8, Hi_hasKey h.hi h.d8, Rw_empty, Rw_add, List.nil_append, List.cons_append, upd_upd, cwo_1, cwo_3, cwo_5, cwo_7, cwo_17, Bool.false_eq_true, n01, w1, n1_n1, hb1.x.f0, hb1.x.f1, hb1.x.f2, hb1.x.f3, hb1.x.f4, hb1.x.f5, hb1.x.f6, hb1.x.f7, hb1.x.o, hb1.hi.o, hb1.hi.gd, hb1.hi.gf, hb1.hi.gl, Hi_keys hb1.hi hb1.d8, Hi_hasKey hb1.hi hb1.d8, z300, show (200 : Int32) = nI 200 from rfl, s1, hneg, hneg']
        · rw [m1]
          have hN4 : nowM (A2' 1) z.1 z.2.1 z.2.2.1 z.2.2.2 := by rw [m4 1 (by omega) (by omega) (by omega)]; exact hN
          have hmn := M_nextMany (σ := cw ρ c (va_up A 3 F) R (upd (ti (upd I 14 (nI z.1)) n none) 0 (nI 0))) (m := c + 24) (A := A2') (R := R2) (I := mt I2' n n none) hd m2 hze
          have hin := M_isNow (σ := cw ρ c (va_up A 3 F) R (upd (ti (upd I 14 (nI z.1)) n none) 0 (nI 0))) (m := c + 24) (R := R2) (I := mt I2' n n none) hN4 m2 hze okl.2.2
          rw [if_pos h2] at hin
          simp (disch := first | omega | exact tl_l | exact tT_len | (simp only [List.length_cons, List.length_nil])) only [e157_0, e157_1, e157_2, e157_5, e157_6, e157_9, e157_10, e157_11, e157_14, e157_15, e157_17, e157_20, e157_21, e157_22, e157_25, e157_26, e157_29, e157_30, e157_32, e157_35, e157_36, e157_39, e157_40, e157_43, e157_46, e157_47, e157_48, e157_51, e157_52, e157_53, e157_54, e157_55, e157_58, e157_61, e157_62, e157_65, e157_66, e157_68, e157_69, e157_72, e157_75, e157_76, e157_79, e157_80, e157_83, e157_84, e157_85, e157_86, e157_87, e157_88, e157_91, e157_92, e157_93, e157_94, e157_95, e157_96, e157_97, e157_98, e157_99, e157_100, e157_103, e157_104, e157_105, e157_106, e157_107, e157_110, e157_113, e157_116, e157_117, e157_120, e157_122, e157_125, e157_128, e157_129, e157_130, e157_133, e157_136, e157_139, e157_140, e157_141, e157_142, e157_145, e157_146, e157_147, e157_150, e157_151, e157_154, e157_155, e157_156, e157_159, e157_160, e157_163, e157_164, e157_165, e157_166, e157_167, e157_170, e157_171, e157_174, kv_s, kh_s, kr_s, kr_v, kn_s, z0, z1, z2, nI_ltI, nI_leI, nI_eq, nI_add, oN, bz0, bz1, bw0, bw1, ltT, ltF, leT, leF, eqT, eqF, if_true, if_false, kI_n, wI_n, and_true, true_and, and_false, false_and, not_true, not_false_eq_true, mwo, mwr_0, mwr_1, mwr_2, mwg_3, mwp_3, mwr_4, mwg_5, mwp_5, mwg_6, mwp_6, mwr_7, mwr_8, mwg_9, mwp_9, mwg_10, mwp_10, mwg_11, mwp_11, mwr_12, mwg_13, mwp_13, mwr_14, mwr_15, mwr_16, mwr_17, mwr_18, mwr_19, mwg_20, mwp_20, mwr_21, mwr_22, mwr_23, mwa_1, mwu_1, mwa_2, mwu_2, mwa_3, mwu_3, mwa_4, mwu_4, mwa_5, mwu_5, mwa_6, mwu_6, mwa_7, mwu_7, mwa_8, mwu_8, mwa_9, mwu_9, mwa_10, mwu_10, mwa_11, mwu_11, mwa_12, mwu_12, mwa_13, mwu_13, mwa_14, mwu_14, mwa_15, mwu_15, mwa_16, mwu_16, vu_at, vu_ne, pk_us, pk_un, kB_n, wB_n, kL_n, wL_n, mwo, hmn, z40, h1, h1', hin, n01, show (200 : Int32) = nI 200 from rfl]
      · rw [if_neg h2] at s1 s2 o1 o2 o3
        obtain ⟨T2, hb2⟩ := s2.rb
        have hch : ∀ {x : Int32}, CH (va_up A 3 F) (upd (upd (ti (upd I 14 (nI z.1)) n none) 0 (nI 0)) 3 x) z.1 (sL (L'.map Prod.fst)) := fun {x} => ⟨(pk_un (by omega)).trans h14, by rw [vu_at]; exact w3⟩
        have kw := fun R x => Ch_work (σ := ρ) (c := c) (A := va_up A 3 F) (R := R) (I := upd (upd (ti (upd I 14 (nI z.1)) n none) 0 (nI 0)) 3 x) (S := sL (L'.map Prod.fst)) hch hd
        have ks := fun R x => Ch_size (σ := ρ) (c := c) (A := va_up A 3 F) (R := R) (I := upd (upd (ti (upd I 14 (nI z.1)) n none) 0 (nI 0)) 3 x) (S := sL (L'.map Prod.fst)) hch
        simp only [hsz] at ks
        obtain ⟨A2', I2', m1, m2, m3, m4, m5, m6⟩ := hM (cw ρ c (va_up A 3 F) (rl R [lN (cnt (nz z.1 (sL (L'.map Prod.fst))) 1 (2 * 2 ^ z.1 - 1)), lN (L'.length * (z.1 + 1))]) (upd (upd (ti (upd I 14 (nI z.1)) n none) 0 (nI 0)) 3 (nI 2)))
        have hN4 : nowM (A2' 1) z.1 z.2.1 z.2.2.1 z.2.2.2 := by rw [m4 1 (by omega) (by omega) (by omega)]; exact hN
        obtain ⟨N1, f1, f2⟩ := M_makes (σ := cw ρ c (va_up A 3 F) (rl R [lN (cnt (nz z.1 (sL (L'.map Prod.fst))) 1 (2 * 2 ^ z.1 - 1)), lN (L'.length * (z.1 + 1))]) (upd (upd (ti (upd I 14 (nI z.1)) n none) 0 (nI 0)) 3 (nI 2))) (m := c + 24) (R := rl R2 [lN (cnt (nz z.1 (sL (L'.map Prod.fst))) 1 (2 * 2 ^ z.1 - 1)), lN (L'.length * (z.1 + 1))]) (I := upd (mt I2' n n none) 5 (nI 2)) hN4 h.l30 m2
        have hrm := h.2.2.2.2.1.gen (A2' := va_up A2' 1 N1) (I2' := upd (upd (mt I2' n n none) 5 (nI 2)) 5 (I2 5)) (z' := (z.1, fst1 z.2.1 z.2.2.1, z.2.2.1 + 1, vup z.2.2.2 (z.2.2.1 + 1) (plc (z.2.2.2 z.2.2.1) L'))) (by rw [vu_at]; exact f2) (fun k hk => by rw [vu_ne (by omega)]; exact m4 k (by omega) (by omega) (by omega)) (by rw [pk_un (by omega), pk_un (by omega), mt_3]) pk_us
        refine Inv_mk h (ρ := ρ) (b := .int (nI (z.2.2.1 + 1))) (A' := va_up A 3 F) (R' := rl R [lN (cnt (nz z.1 (sL (L'.map Prod.fst))) 1 (2 * 2 ^ z.1 - 1)), lN (L'.length * (z.1 + 1))]) (I' := upd (upd (ti (upd I 14 (nI z.1)) n none) 0 (nI 0)) 3 (nI 2)) (A2' := va_up A2' 1 N1) (R2' := rl R2 [lN (cnt (nz z.1 (sL (L'.map Prod.fst))) 1 (2 * 2 ^ z.1 - 1)), lN (L'.length * (z.1 + 1))]) (I2' := upd (mt I2' n n none) 5 (nI 2)) ?_ s2 (w2.afar.tr s3) ?_ ((h.2.2.2.1.rd (F := F) (p := n) (e := none) hd).row (k := 2) rfl (by omega)) (hrm.row (k := 2) stay.rf rfl (by omega) (by rw [pk_un (by omega), pk_un (by omega), pk_un (by omega)]) pk_us) (h.2.2.2.2.2.gen hi o1 o3)
        · have hneg : ¬ nI (z.2.2.1 + 1) < nI 0 := nI_pos (by omega)
          have hp0 : nI 0 ≤ nI (z.2.2.1 + 1) := nI_pos' (by omega)
          have hl31 : z.2.2.1 + 1 < 2 ^ 31 := by omega
          have h := hb
          rw [q41]
          simp (disch := first | omega | exact tl_l | exact tT_len | (simp only [List.length_cons, List.length_nil])) only [e41_0, e41_1, e41_4, e41_5, e41_6, e41_9, e41_10, e41_13, e41_14, e41_15, e41_18, e41_19, e41_20, e41_21, e41_22, e41_23, e41_26, e41_29, e41_32, e41_33, e41_34, e41_37, e41_38, e41_41, e41_44, e41_45, e41_48, e41_49, e41_52, e41_55, e41_56, e41_59, e41_60, e41_63, e41_64, e41_67, e41_70, e41_71, e41_72, e41_75, e41_78, e41_79, e41_80, e41_81, e41_82, e41_85, e41_86, kv_s, kh_s, kr_s, kr_v, kn_s, z0, z1, z2, nI_ltI, nI_leI, nI_eq, nI_add, oN, bz0, bz1, bw0, bw1, ltT, ltF, leT, leF, eqT, eqF, if_true, if_false, kI_n, wI_n, and_true, true_and, and_false, false_and, not_true, not_false_eq_true, cwo_1, cwr_1, cwg_0, cwg_1, cwg_2, cwa_0, cwl_0, cwo_3, cwr_3, cwg_3, cwa_R, cwl_R, cwo_5, cwr_5, cwg_4, cwg_5, cwg_6, cwg_7, cwg_8, cwa_1, cwl_1, cwo_7, cwr_7, cwg_9, cwg_10, cwg_11, cwg_12, cwg_13, cwa_2, cwl_2, cwo_17, cwr_17, cwg_14, cwa_3, cwl_3, cwp_0, cwp_1, cwp_2, cwp_3, cwp_4, cwp_5, cwp_6, cwp_7, cwp_8, cwp_9, cwp_10, cwp_11, cwp_12, cwp_13, cwp_14, cwu_0, cwu_R, cwu_1, cwu_2, cwu_3, vu_at, vu_ne, pk_us, pk_un, h.x.f0, h.x.f1, h.x.f2, h.x.f3, h.x.f4, h.x.f5, h.x.f6, h.x.f7, h.x.o, h.hi.o, h.hi.gd, h.hi.gf, h.hi.gl, Hi_keys h.hi h.d8, Hi_hasKey h.hi h.d8, Rw_empty, Rw_add, List.nil_append, List.cons_append, upd_upd, cwo_1, cwo_3, cwo_5, cwo_7, cwo_17, Bool.false_eq_true, n01, w1, n1_n1, hb1.x.f0, hb1.x.f1, hb1.x.f2, hb1.x.f3, hb1.x.f4, hb1.x.f5, hb1.x.f6, hb1.x.f7, hb1.x.o, hb1.hi.o, hb1.hi.gd, hb1.hi.gf, hb1.hi.gl, Hi_keys hb1.hi hb1.d8, Hi_hasKey hb1.hi hb1.d8, z300, show (200 : Int32) = nI 200 from rfl, s1, hb2.x.f0, hb2.x.f1, hb2.x.f2, hb2.x.f3, hb2.x.f4, hb2.x.f5, hb2.x.f6, hb2.x.f7, hb2.x.o, hb2.hi.o, hb2.hi.gd, hb2.hi.gf, hb2.hi.gl, Hi_keys hb2.hi hb2.d8, Hi_hasKey hb2.hi hb2.d8, kw, ks, nI_l, lN_mul]
        · rw [m1]
          have hmn := M_nextMany (σ := cw ρ c (va_up A 3 F) (rl R [lN (cnt (nz z.1 (sL (L'.map Prod.fst))) 1 (2 * 2 ^ z.1 - 1)), lN (L'.length * (z.1 + 1))]) (upd (upd (ti (upd I 14 (nI z.1)) n none) 0 (nI 0)) 3 (nI 2))) (m := c + 24) (A := A2') (R := R2) (I := mt I2' n n none) hd m2 hze
          have hin := M_isNow (σ := cw ρ c (va_up A 3 F) (rl R [lN (cnt (nz z.1 (sL (L'.map Prod.fst))) 1 (2 * 2 ^ z.1 - 1)), lN (L'.length * (z.1 + 1))]) (upd (upd (ti (upd I 14 (nI z.1)) n none) 0 (nI 0)) 3 (nI 2))) (m := c + 24) (R := R2) (I := mt I2' n n none) hN4 m2 hze okl.2.2
          rw [if_neg h2] at hin
          have hw := fun X Y => M_work (σ := cw ρ c (va_up A 3 F) (rl R [lN (cnt (nz z.1 (sL (L'.map Prod.fst))) 1 (2 * 2 ^ z.1 - 1)), lN (L'.length * (z.1 + 1))]) (upd (upd (ti (upd I 14 (nI z.1)) n none) 0 (nI 0)) 3 (nI 2))) (m := c + 24) (A := A2') (R := X) (I := Y) (S := sL (L'.map Prod.fst)) m3 hN4
          have h13 : mt I2' n n none 13 = nI L'.length := (mt_o (by omega)).trans m6
          simp (disch := first | omega | exact tl_l | exact tT_len | (simp only [List.length_cons, List.length_nil])) only [e157_0, e157_1, e157_2, e157_5, e157_6, e157_9, e157_10, e157_11, e157_14, e157_15, e157_17, e157_20, e157_21, e157_22, e157_25, e157_26, e157_29, e157_30, e157_32, e157_35, e157_36, e157_39, e157_40, e157_43, e157_46, e157_47, e157_48, e157_51, e157_52, e157_53, e157_54, e157_55, e157_58, e157_61, e157_62, e157_65, e157_66, e157_68, e157_69, e157_72, e157_75, e157_76, e157_79, e157_80, e157_83, e157_84, e157_85, e157_86, e157_87, e157_88, e157_91, e157_92, e157_93, e157_94, e157_95, e157_96, e157_97, e157_98, e157_99, e157_100, e157_103, e157_104, e157_105, e157_106, e157_107, e157_110, e157_113, e157_116, e157_117, e157_120, e157_122, e157_125, e157_128, e157_129, e157_130, e157_133, e157_136, e157_139, e157_140, e157_141, e157_142, e157_145, e157_146, e157_147, e157_150, e157_151, e157_154, e157_155, e157_156, e157_159, e157_160, e157_163, e157_164, e157_165, e157_166, e157_167, e157_170, e157_171, e157_174, kv_s, kh_s, kr_s, kr_v, kn_s, z0, z1, z2, nI_ltI, nI_leI, nI_eq, nI_add, oN, bz0, bz1, bw0, bw1, ltT, ltF, leT, leF, eqT, eqF, if_true, if_false, kI_n, wI_n, and_true, true_and, and_false, false_and, not_true, not_false_eq_true, mwo, mwr_0, mwr_1, mwr_2, mwg_3, mwp_3, mwr_4, mwg_5, mwp_5, mwg_6, mwp_6, mwr_7, mwr_8, mwg_9, mwp_9, mwg_10, mwp_10, mwg_11, mwp_11, mwr_12, mwg_13, mwp_13, mwr_14, mwr_15, mwr_16, mwr_17, mwr_18, mwr_19, mwg_20, mwp_20, mwr_21, mwr_22, mwr_23, mwa_1, mwu_1, mwa_2, mwu_2, mwa_3, mwu_3, mwa_4, mwu_4, mwa_5, mwu_5, mwa_6, mwu_6, mwa_7, mwu_7, mwa_8, mwu_8, mwa_9, mwu_9, mwa_10, mwu_10, mwa_11, mwu_11, mwa_12, mwu_12, mwa_13, mwu_13, mwa_14, mwu_14, mwa_15, mwu_15, mwa_16, mwu_16, vu_at, vu_ne, pk_us, pk_un, kB_n, wB_n, kL_n, wL_n, hmn, z40, h1, h1', hin, n01, hw, nI_l, M_tell0, M_tell, h13, M_depth hN4, pk_mul, List.nil_append, List.cons_append, f1]
