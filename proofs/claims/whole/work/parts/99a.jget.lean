/-! calls: get, row -/
section GT
variable {c i : Nat} {σ τ : Hp} {z : Hs} {n : Nat} {B : Nat → Nat} {L : List Int64} {q : Option Hn} {K : Nat → Option Hs} {A : Nat → Nat → Int32} {R : Nat → Int64} {I : Nat → Int32} {A2 A2' : Nat → Nat → Int32} {R2 : Nat → Int64} {I2 I2' : Nat → Int32}
/-- the class's larger things stay, where all but the out array's cell stays -/
theorem BC.oth (h : BC c σ z K) (hn : τ.2 = σ.2) (hk : ∀ a, a ≠ c + 41 → τ.1 a = σ.1 a) (hg : ∃ g, τ.1 (c + 41) = some (.inl (1, 1, .inr (.inl g)))) : BC c τ z K := by
  obtain ⟨T, S, Ts, ⟨b1, b2⟩, ⟨b3, _⟩, ⟨dd, W, b4⟩, b5, b6, b7, b8, b9⟩ := h
  have ho : ∀ {h T d f l V}, HV c σ h T d f l V → ∀ a, ow h T a → a ≠ c + 41 := fun {h T d f l V} H a ha => by
    have f1 := H.2.1.1
    rcases ha with rfl | rfl | ⟨s, t, q1, q2, q3, q4⟩
    · omega
    · omega
    · have := (H.2.1.2.2.1 s t q1 q2).1
      omega
  have hv : ∀ {h T d f l V}, HV c σ h T d f l V → HV c τ h T d f l V := fun H => H.kept (by rw [hn]; exact Nat.le_refl _) fun a q1 q2 => hk a (ho H a q2)
  refine ⟨T, S, Ts, ⟨(hk c (by omega)).trans b1, hv b2⟩, ⟨by rw [hn]; exact b3, hg⟩, ⟨dd, W, b4.kept fun a q1 q2 => hk a (by omega)⟩, (hk _ (by omega)).trans b5, fun j hj => ?_, b7, by rw [hn]; exact b8, by rw [hn]; exact b9⟩
  have := b6 j hj
  cases hS : S j with
  | none => rw [hS] at this; exact this
  | some h =>
    rw [hS] at this
    obtain ⟨y, y1, y2, y3⟩ := this
    exact ⟨y, y1, hv y2, y3⟩
/-- one more call has thrown -/
def kup (K : Nat → Option Hs) (j : Nat) : Option Hs := if j = 2 then some (kx K + 1, 0, 0, fun _ _ => 0) else K j
theorem kx_kup : kx (kup K) = kx K + 1 := rfl
theorem kup_o {j : Nat} (h : j < 2) : kup K j = K j := if_neg (by omega)
theorem BC.thw (h : BC c σ z K) : BC c (thr σ) z (kup K) := by
  obtain ⟨T, S, Ts, ⟨b1, b2⟩, ⟨b3, gb, b3'⟩, ⟨dd, W, b4⟩, b5, b6, b7, b8, b9⟩ := h
  have hv : ∀ {h T d f l V}, HV c σ h T d f l V → HV c (thr σ) h T d f l V := fun H => H.kept (Nat.le_succ _) fun a _ _ => rfl
  refine ⟨T, S, Ts, ⟨b1, hv b2⟩, ⟨Nat.le_succ_of_le b3, gb, b3'⟩, ⟨dd, W, b4.kept fun a _ _ => rfl⟩, b5, fun j hj => ?_, b7, ?_, ?_⟩
  · have := b6 j hj
    rw [kup_o hj]
    cases hS : S j with
    | none => rw [hS] at this; exact this
    | some h =>
      rw [hS] at this
      obtain ⟨y, y1, y2, y3⟩ := this
      exact ⟨y, y1, hv y2, y3⟩
  · rw [kx_kup]
    show σ.2.1 + 1 + _ + _ + _ ≤ _
    omega
  · rw [kx_kup]
    show σ.2.2 + 6 + _ + _ + _ ≤ _
    omega
theorem RM.kup (h : RM A2 R2 I2 z n B L q K) : RM A2 R2 I2 z n B L q (kup K) := by
  obtain ⟨g1, g2, g3, g4, g5, g6, g7⟩ := h
  exact ⟨g1, g2, g3, g4, g5, g6, fun j hj => by rw [kup_o hj]; exact g7 j hj⟩
theorem okZ.kup (h : okZ i z n q K) (hi : i < 600) : okZ (i + 1) z n q (kup K) := by
  obtain ⟨o1, o2, o3, o4, o5⟩ := h.up hi
  have := h.2.2.2.2
  refine ⟨o1, fun j y q1 q2 => ?_, o3, o4, ?_⟩
  · rw [kup_o q1] at q2
    exact o2 j y q1 q2
  · rw [kx_kup]; omega
theorem Inv_thr (h : St c i σ z n B L q K A R I A2 R2 I2) (hi : i < 600) (hM : RM A2' R2 I2' z n B L q K) : Inv c (i + 1) (mw (thr σ) (c + 24) A2' R2 I2') := by
  obtain ⟨h1, h2, h3, h4, h5, h6⟩ := h
  refine ⟨z, n, B, L, q, kup K, A, R, I, A2', R2, I2', cw_keep (σ := σ) fun a q1 q2 q3 => ?_, mw_keep (σ := thr σ) fun _ _ _ => rfl, h3.thw.mw, h4, hM.kup, h6.kup hi⟩
  rw [mw_out (by omega), h1]
  rfl
theorem Inv_ous (h : St c i σ z n B L q K A R I A2 R2 I2) (hi : i < 600) (hM : RM A2' R2 I2' z n B L q K) {g : Nat → Int64} {v : Int64} : Inv c (i + 1) (mw (ous σ (c + 41) g v) (c + 24) A2' R2 I2') := by
  obtain ⟨h1, h2, h3, h4, h5, h6⟩ := h
  refine ⟨z, n, B, L, q, K, A, R, I, A2', R2, I2', cw_keep (σ := σ) fun a q1 q2 q3 => ?_, mw_keep (σ := ous σ (c + 41) g v) fun _ _ _ => rfl, (h3.oth (τ := ous σ (c + 41) g v) rfl (fun a ha => hup_ne ha) ⟨_, hup_at⟩).mw, h4, hM, h6.up hi⟩
  rw [mw_out (by omega), h1]
  exact hup_ne (by omega)
/-- the reference, in a world that keeps its cells -/
theorem mw_same (h2 : mw σ (c + 24) A2 R2 I2 = σ) (hk : ∀ a, c + 24 ≤ a → a < c + 41 → τ.1 a = σ.1 a) : mw τ (c + 24) A2 R2 I2 = τ := mw_keep (σ := σ) fun a q1 q2 => by rw [h2]; exact hk a q1 (by omega)
theorem M_lost {m : Nat} : dcall 176 [.ref m] (mw σ m A R I) = some (some (.int (nI 0)), mw σ m A R (upd I 6 (nI 1))) := by
  rw [q176]
  simp (disch := first | omega | exact tl_l | exact tT_len | (simp only [List.length_cons, List.length_nil])) only [e176_0, e176_1, e176_2, e176_5, e176_6, kv_s, kh_s, kr_s, kr_v, kn_s, z0, z1, z2, nI_ltI, nI_leI, nI_eq, nI_add, oN, bz0, bz1, bw0, bw1, ltT, ltF, leT, leF, eqT, eqF, if_true, if_false, kI_n, wI_n, and_true, true_and, and_false, false_and, not_true, not_false_eq_true, mwo, mwr_0, mwr_1, mwr_2, mwg_3, mwp_3, mwr_4, mwg_5, mwp_5, mwg_6, mwp_6, mwr_7, mwr_8, mwg_9, mwp_9, mwg_10, mwp_10, mwg_11, mwp_11, mwr_12, mwg_13, mwp_13, mwr_14, mwr_15, mwr_16, mwr_17, mwr_18, mwr_19, mwg_20, mwp_20, mwr_21, mwr_22, mwr_23, mwa_1, mwu_1, mwa_2, mwu_2, mwa_3, mwu_3, mwa_4, mwu_4, mwa_5, mwu_5, mwa_6, mwu_6, mwa_7, mwu_7, mwa_8, mwu_8, mwa_9, mwu_9, mwa_10, mwu_10, mwa_11, mwu_11, mwa_12, mwu_12, mwa_13, mwu_13, mwa_14, mwu_14, mwa_15, mwu_15, mwa_16, mwu_16, vu_at, vu_ne, pk_us, pk_un, kB_n, wB_n, kL_n, wL_n]
theorem M_thrown {m : Nat} : dcall 138 [.ref m] (mw σ m A R I) = some (some (.int (I 6)), mw σ m A R I) := by
  rw [q138]
  simp (disch := first | omega | exact tl_l | exact tT_len | (simp only [List.length_cons, List.length_nil])) only [e138_0, e138_1, e138_4, kv_s, kh_s, kr_s, kr_v, kn_s, z0, z1, z2, nI_ltI, nI_leI, nI_eq, nI_add, oN, bz0, bz1, bw0, bw1, ltT, ltF, leT, leF, eqT, eqF, if_true, if_false, kI_n, wI_n, and_true, true_and, and_false, false_and, not_true, not_false_eq_true, mwo, mwr_0, mwr_1, mwr_2, mwg_3, mwp_3, mwr_4, mwg_5, mwp_5, mwg_6, mwp_6, mwr_7, mwr_8, mwg_9, mwp_9, mwg_10, mwp_10, mwg_11, mwp_11, mwr_12, mwg_13, mwp_13, mwr_14, mwr_15, mwr_16, mwr_17, mwr_18, mwr_19, mwg_20, mwp_20, mwr_21, mwr_22, mwr_23, mwa_1, mwu_1, mwa_2, mwu_2, mwa_3, mwu_3, mwa_4, mwu_4, mwa_5, mwu_5, mwa_6, mwu_6, mwa_7, mwu_7, mwa_8, mwu_8, mwa_9, mwu_9, mwa_10, mwu_10, mwa_11, mwu_11, mwa_12, mwu_12, mwa_13, mwu_13, mwa_14, mwu_14, mwa_15, mwu_15, mwa_16, mwu_16, vu_at, vu_ne, pk_us, pk_un, kB_n, wB_n, kL_n, wL_n]
/-- what the law sees of a get -/
def SeenG (l : Launch) (D : va_G) (Kc : Nat → ClassId) (base c i : Nat) (σ : Hp) (x y : Int32) : Prop := (∃ (g : Nat → Int64) (v : Int32) (τ : Hp), Met l method_3 [.codeWith method_3 method_3_code 5 (some .int) hh3] (rmL 0 0) (va_Pc [.ref c, .int x, .int y, .ref (c + 41)] (GS D Kc base σ)) (LQ D Kc base (nI 0) (ous σ (c + 41) g v.toInt64)) 0 0 (fun q => base ≤ q) ∧ dcall 174 [.ref (c + 24), .int x, .int y] (ous σ (c + 41) g v.toInt64) = some (some (.int v), τ) ∧ dcall 138 [.ref (c + 24)] τ = some (some (.int (nI 0)), τ) ∧ τ.1 (c + 41) = some (.inl (1, 1, .inr (.inl (vp_updL g 0 v.toInt64)))) ∧ Inv c (i + 1) τ) ∨ ∃ (b : Int32) (τ : Hp), Met l method_3 [.codeWith method_3 method_3_code 5 (some .int) hh3] (rmL 1 6) (va_Pc [.ref c, .int x, .int y, .ref (c + 41)] (GS D Kc base σ)) (LQ D Kc base (nI 1) (thr σ)) 1 6 (fun q => base ≤ q) ∧ dcall 174 [.ref (c + 24), .int x, .int y] (thr σ) = some (some (.int b), τ) ∧ dcall 138 [.ref (c + 24)] τ = some (some (.int (nI 1)), τ) ∧ Inv c (i + 1) τ
theorem J_get {l : Launch} {D : va_G} {Kc : Nat → ClassId} {base : Nat} (hl : l.stackTraces = false) (hi : i < 600) (h : Inv c i σ) (x y : Int32) : SeenG l D Kc base c i σ x y := by
  obtain ⟨z, n, B, L, q, K, A, R, I, A2, R2, I2, h⟩ := h
  obtain ⟨T, hb⟩ := h.rb
  have hN := h.nm
  have hd := hb.d8
  have hK := hb.K
  have hfl := hb.fl
  have h1 := h.1
  have h2 := h.2.1
  have hBC := h.2.2.1
  have hM := h.2.2.2.2.1
  have hx := hb.x (A := A) (R := R) (I := I)
  have hH := hb.hi (A := A) (R := R) (I := I)
  rw [h1] at hx hH
  have bad : ∀ (hf : noG c σ x y) (e : dcall 174 [.ref (c + 24), .int x, .int y] (mw (thr σ) (c + 24) A2 R2 I2) = some (some (.int (nI 0)), mw (thr σ) (c + 24) A2 R2 (upd (upd I2 6 (nI 0)) 6 (nI 1)))), SeenG l D Kc base c i σ x y := fun hf e => by
    rw [mw_same h2 (τ := thr σ) fun _ _ _ => rfl] at e
    exact Or.inr ⟨_, _, L_getX hl hx.o hx.f4 hH.o hf, e, by rw [M_thrown, pk_us], Inv_thr h hi (hM.same stay.rf (by rw [pk_un (by omega), pk_un (by omega)]) (by rw [pk_un (by omega), pk_un (by omega)]))⟩
  rcases C_find hb x with ⟨ho, e1⟩ | ⟨v, t, a1, a2, rfl, t1, t2, e1⟩
  · have e1 := e1 (A := A) (R := R) (I := I)
    rw [h1] at e1
    refine bad (Or.inl e1) ?_
    rw [q174]
    simp (disch := first | omega | exact tl_l | exact tT_len | (simp only [List.length_cons, List.length_nil])) only [e174_0, e174_1, e174_2, e174_5, e174_6, e174_7, e174_10, e174_13, e174_14, e174_15, e174_18, e174_21, e174_22, e174_23, e174_24, e174_27, e174_30, e174_31, e174_34, kv_s, kh_s, kr_s, kr_v, kn_s, z0, z1, z2, nI_ltI, nI_leI, nI_eq, nI_add, oN, bz0, bz1, bw0, bw1, ltT, ltF, leT, leF, eqT, eqF, if_true, if_false, kI_n, wI_n, and_true, true_and, and_false, false_and, not_true, not_false_eq_true, mwo, mwr_0, mwr_1, mwr_2, mwg_3, mwp_3, mwr_4, mwg_5, mwp_5, mwg_6, mwp_6, mwr_7, mwr_8, mwg_9, mwp_9, mwg_10, mwp_10, mwg_11, mwp_11, mwr_12, mwg_13, mwp_13, mwr_14, mwr_15, mwr_16, mwr_17, mwr_18, mwr_19, mwg_20, mwp_20, mwr_21, mwr_22, mwr_23, mwa_1, mwu_1, mwa_2, mwu_2, mwa_3, mwu_3, mwa_4, mwu_4, mwa_5, mwu_5, mwa_6, mwu_6, mwa_7, mwu_7, mwa_8, mwu_8, mwa_9, mwu_9, mwa_10, mwu_10, mwa_11, mwu_11, mwa_12, mwu_12, mwa_13, mwu_13, mwa_14, mwu_14, mwa_15, mwu_15, mwa_16, mwu_16, vu_at, vu_ne, pk_us, pk_un, kB_n, wB_n, kL_n, wL_n, mwo, M_ver0 hN ho, M_lost]
  · have e1' := e1 (A := A) (R := R) (I := I)
    have k1 := Hi_hasKey hH hd (x := y)
    rw [h1] at e1'
    by_cases hk : isK z.1 y = true
    · obtain ⟨k, hk1, rfl⟩ := isK_of hd hk
      obtain ⟨p, hp1, hp2⟩ := (h.ok v a1 a2).1 k hk1
      obtain ⟨_, _, _, _, ⟨b3, g, b3'⟩, _⟩ := hBC
      have eC : dcall 135 [.ref c, .int (nI v), .int (nI k)] (cw σ c A R I) = some (some (.int (z.2.2.2 v k)), cw σ c A R I) := by
        have h := hb
        rw [q135]
        simp (disch := first | omega | exact tl_l | exact tT_len | (simp only [List.length_cons, List.length_nil])) only [e135_0, e135_1, e135_4, e135_5, e135_8, e135_8n, e135_9, e135_9n, e135_10, e135_10n, e135_13, e135_14, e135_17, e135_18, e135_21, e135_27, e135_32, e135_32n, e135_33, e135_34, e135_37, kv_s, kh_s, kr_s, kr_v, kn_s, z0, z1, z2, nI_ltI, nI_leI, nI_eq, nI_add, oN, bz0, bz1, bw0, bw1, ltT, ltF, leT, leF, eqT, eqF, if_true, if_false, kI_n, wI_n, and_true, true_and, and_false, false_and, not_true, not_false_eq_true, cwo_1, cwr_1, cwg_0, cwg_1, cwg_2, cwa_0, cwl_0, cwo_3, cwr_3, cwg_3, cwa_R, cwl_R, cwo_5, cwr_5, cwg_4, cwg_5, cwg_6, cwg_7, cwg_8, cwa_1, cwl_1, cwo_7, cwr_7, cwg_9, cwg_10, cwg_11, cwg_12, cwg_13, cwa_2, cwl_2, cwo_17, cwr_17, cwg_14, cwa_3, cwl_3, cwp_0, cwp_1, cwp_2, cwp_3, cwp_4, cwp_5, cwp_6, cwp_7, cwp_8, cwp_9, cwp_10, cwp_11, cwp_12, cwp_13, cwp_14, cwu_0, cwu_R, cwu_1, cwu_2, cwu_3, vu_at, vu_ne, pk_us, pk_un, h.x.f0, h.x.f1, h.x.f2, h.x.f3, h.x.f4, h.x.f5, h.x.f6, h.x.f7, h.x.o, h.hi.o, h.hi.gd, h.hi.gf, h.hi.gl, Hi_keys h.hi h.d8, Hi_hasKey h.hi h.d8, Rw_empty, Rw_add, List.nil_append, List.cons_append, upd_upd, cwo_1, cwo_3, cwo_5, cwo_7, cwo_17, Bool.false_eq_true, n01, e1, hk, n01, T_val t2 hk1, t2.o]
      rw [h1] at eC
      refine Or.inl ⟨g, z.2.2.2 v k, mw (ous σ (c + 41) g (z.2.2.2 v k).toInt64) (c + 24) A2 R2 (upd I2 6 (nI 0)), L_get hx.o eC b3', ?_, by rw [M_thrown, pk_us], (mw_out (by omega)).trans hup_at, Inv_ous h hi (hM.same stay.rf (pk_un (by omega)) (pk_un (by omega)))⟩
      have eM : dcall 174 [.ref (c + 24), .int (nI v), .int (nI k)] (mw (ous σ (c + 41) g (z.2.2.2 v k).toInt64) (c + 24) A2 R2 I2) = some (some (.int (z.2.2.2 v k)), mw (ous σ (c + 41) g (z.2.2.2 v k).toInt64) (c + 24) A2 R2 (upd I2 6 (nI 0))) := by
        rw [q174]
        simp (disch := first | omega | exact tl_l | exact tT_len | (simp only [List.length_cons, List.length_nil])) only [e174_0, e174_1, e174_2, e174_5, e174_6, e174_7, e174_10, e174_13, e174_14, e174_15, e174_18, e174_21, e174_22, e174_23, e174_24, e174_27, e174_30, e174_31, e174_34, kv_s, kh_s, kr_s, kr_v, kn_s, z0, z1, z2, nI_ltI, nI_leI, nI_eq, nI_add, oN, bz0, bz1, bw0, bw1, ltT, ltF, leT, leF, eqT, eqF, if_true, if_false, kI_n, wI_n, and_true, true_and, and_false, false_and, not_true, not_false_eq_true, mwo, mwr_0, mwr_1, mwr_2, mwg_3, mwp_3, mwr_4, mwg_5, mwp_5, mwg_6, mwp_6, mwr_7, mwr_8, mwg_9, mwp_9, mwg_10, mwp_10, mwg_11, mwp_11, mwr_12, mwg_13, mwp_13, mwr_14, mwr_15, mwr_16, mwr_17, mwr_18, mwr_19, mwg_20, mwp_20, mwr_21, mwr_22, mwr_23, mwa_1, mwu_1, mwa_2, mwu_2, mwa_3, mwu_3, mwa_4, mwu_4, mwa_5, mwu_5, mwa_6, mwu_6, mwa_7, mwu_7, mwa_8, mwu_8, mwa_9, mwu_9, mwa_10, mwu_10, mwa_11, mwu_11, mwa_12, mwu_12, mwa_13, mwu_13, mwa_14, mwu_14, mwa_15, mwu_15, mwa_16, mwu_16, vu_at, vu_ne, pk_us, pk_un, kB_n, wB_n, kL_n, wL_n, mwo, M_ver hN a1 a2, M_isKey hN, hk, n01, M_value hN a1 a2 (show k < 256 by omega)]
      rw [mw_same h2 (τ := ous σ (c + 41) g (z.2.2.2 v k).toInt64) fun a q1 q2 => hup_ne (by omega)] at eM
      exact eM
    · rw [if_neg hk] at k1
      refine bad (Or.inr ⟨t, e1', k1⟩) ?_
      rw [q174]
      simp (disch := first | omega | exact tl_l | exact tT_len | (simp only [List.length_cons, List.length_nil])) only [e174_0, e174_1, e174_2, e174_5, e174_6, e174_7, e174_10, e174_13, e174_14, e174_15, e174_18, e174_21, e174_22, e174_23, e174_24, e174_27, e174_30, e174_31, e174_34, kv_s, kh_s, kr_s, kr_v, kn_s, z0, z1, z2, nI_ltI, nI_leI, nI_eq, nI_add, oN, bz0, bz1, bw0, bw1, ltT, ltF, leT, leF, eqT, eqF, if_true, if_false, kI_n, wI_n, and_true, true_and, and_false, false_and, not_true, not_false_eq_true, mwo, mwr_0, mwr_1, mwr_2, mwg_3, mwp_3, mwr_4, mwg_5, mwp_5, mwg_6, mwp_6, mwr_7, mwr_8, mwg_9, mwp_9, mwg_10, mwp_10, mwg_11, mwp_11, mwr_12, mwg_13, mwp_13, mwr_14, mwr_15, mwr_16, mwr_17, mwr_18, mwr_19, mwg_20, mwp_20, mwr_21, mwr_22, mwr_23, mwa_1, mwu_1, mwa_2, mwu_2, mwa_3, mwu_3, mwa_4, mwu_4, mwa_5, mwu_5, mwa_6, mwu_6, mwa_7, mwu_7, mwa_8, mwu_8, mwa_9, mwu_9, mwa_10, mwu_10, mwa_11, mwu_11, mwa_12, mwu_12, mwa_13, mwu_13, mwa_14, mwu_14, mwa_15, mwu_15, mwa_16, mwu_16, vu_at, vu_ne, pk_us, pk_un, kB_n, wB_n, kL_n, wL_n, mwo, M_ver hN a1 a2, M_isKey hN, hk, n01, M_lost, Bool.false_eq_true]
/-- what the law sees of a row -/
def SeenR (l : Launch) (D : va_G) (Kc : Nat → ClassId) (base c i : Nat) (σ : Hp) (x : Int32) : Prop := (∃ (g : Nat → Int64) (v : Int64) (τ : Hp), Met l method_4 [.codeWith method_4 method_4_code 4 (some .int) hh4] (rmL 0 0) (va_Pc [.ref c, .int x, .ref (c + 41)] (GS D Kc base σ)) (LQ D Kc base (nI 0) (ous σ (c + 41) g v)) 0 0 (fun q => base ≤ q) ∧ dcall 251 [.ref (c + 24), .int x] (ous σ (c + 41) g v) = some (some (.long v), τ) ∧ dcall 138 [.ref (c + 24)] τ = some (some (.int (nI 0)), τ) ∧ τ.1 (c + 41) = some (.inl (1, 1, .inr (.inl (vp_updL g 0 v)))) ∧ Inv c (i + 1) τ) ∨ ∃ (b : Int64) (τ : Hp), Met l method_4 [.codeWith method_4 method_4_code 4 (some .int) hh4] (rmL 1 6) (va_Pc [.ref c, .int x, .ref (c + 41)] (GS D Kc base σ)) (LQ D Kc base (nI 1) (thr σ)) 1 6 (fun q => base ≤ q) ∧ dcall 251 [.ref (c + 24), .int x] (thr σ) = some (some (.long b), τ) ∧ dcall 138 [.ref (c + 24)] τ = some (some (.int (nI 1)), τ) ∧ Inv c (i + 1) τ
theorem J_row {l : Launch} {D : va_G} {Kc : Nat → ClassId} {base : Nat} (hl : l.stackTraces = false) (hi : i < 600) (h : Inv c i σ) (x : Int32) : SeenR l D Kc base c i σ x := by
  obtain ⟨z, n, B, L, q, K, A, R, I, A2, R2, I2, h⟩ := h
  obtain ⟨T, hb⟩ := h.rb
  have h1 := h.1
  have h2 := h.2.1
  have hBC := h.2.2.1
  have hM := h.2.2.2.2.1
  have hC3 := h.2.2.2.1.2.1
  have hCR := h.2.2.2.1.2.2.1
  have hM5 := hM.2.2.2.2.1
  have hMR := hM.2.2.2.2.2.1
  have hL := hCR.1
  have hx := hb.x (A := A) (R := R) (I := I)
  have hs := cwg_3 (σ := σ) (c := c) (A := A) (R := R) (I := I)
  rw [h1] at hx hs
  rw [hC3] at hs
  have h6 : upd I2 6 (nI 0) 5 = nI L.length := (pk_un (by omega)).trans hM5
  by_cases hin : nI 0 ≤ x ∧ x < nI L.length
  · obtain ⟨j, hj, rfl⟩ := nI_of (x := x) (Int32.not_lt.mpr hin.1)
    have hjL : j < L.length := (nI_ltI hj (by omega)).mp hin.2
    obtain ⟨_, _, _, _, ⟨b3, g, b3'⟩, _⟩ := hBC
    have hv1 := hCR.2 j hjL
    have hv2 := hMR.2 j hjL
    have hR : R2 j = R j := Option.some.inj (hv2.trans hv1.symm)
    have eC : dcall 136 [.ref c, .int (nI j)] (cw σ c A R I) = some (some (.long (R j)), cw σ c A R I) := by
      have h := hb
      have z128 : (128 : Int32) = nI 128 := rfl
      rw [q136]
      simp (disch := first | omega | exact tl_l | exact tT_len | (simp only [List.length_cons, List.length_nil])) only [e136_0, e136_1, e136_4, e136_5, e136_6, e136_9, e136_12, e136_15, e136_16, e136_19, e136_25, e136_30, e136_31, e136_34, e136_37, e136_38, e136_39, kv_s, kh_s, kr_s, kr_v, kn_s, z0, z1, z2, nI_ltI, nI_leI, nI_eq, nI_add, oN, bz0, bz1, bw0, bw1, ltT, ltF, leT, leF, eqT, eqF, if_true, if_false, kI_n, wI_n, and_true, true_and, and_false, false_and, not_true, not_false_eq_true, cwo_1, cwr_1, cwg_0, cwg_1, cwg_2, cwa_0, cwl_0, cwo_3, cwr_3, cwg_3, cwa_R, cwl_R, cwo_5, cwr_5, cwg_4, cwg_5, cwg_6, cwg_7, cwg_8, cwa_1, cwl_1, cwo_7, cwr_7, cwg_9, cwg_10, cwg_11, cwg_12, cwg_13, cwa_2, cwl_2, cwo_17, cwr_17, cwg_14, cwa_3, cwl_3, cwp_0, cwp_1, cwp_2, cwp_3, cwp_4, cwp_5, cwp_6, cwp_7, cwp_8, cwp_9, cwp_10, cwp_11, cwp_12, cwp_13, cwp_14, cwu_0, cwu_R, cwu_1, cwu_2, cwu_3, vu_at, vu_ne, pk_us, pk_un, h.x.f0, h.x.f1, h.x.f2, h.x.f3, h.x.f4, h.x.f5, h.x.f6, h.x.f7, h.x.o, h.hi.o, h.hi.gd, h.hi.gf, h.hi.gl, Hi_keys h.hi h.d8, Hi_hasKey h.hi h.d8, Rw_empty, Rw_add, List.nil_append, List.cons_append, upd_upd, cwo_1, cwo_3, cwo_5, cwo_7, cwo_17, Bool.false_eq_true, n01, hC3, z128, hjL, kL_n]
    rw [h1] at eC
    refine Or.inl ⟨g, R j, mw (ous σ (c + 41) g (R j)) (c + 24) A2 R2 (upd I2 6 (nI 0)), L_row hx.o eC b3', ?_, by rw [M_thrown, pk_us], (mw_out (by omega)).trans hup_at, Inv_ous h hi (hM.same stay.rf (pk_un (by omega)) (pk_un (by omega)))⟩
    have eM : dcall 251 [.ref (c + 24), .int (nI j)] (mw (ous σ (c + 41) g (R j)) (c + 24) A2 R2 I2) = some (some (.long (R j)), mw (ous σ (c + 41) g (R j)) (c + 24) A2 R2 (upd I2 6 (nI 0))) := by
      have e : nI 0 ≤ nI j ∧ nI j ≤ nI L.length - nI 1 := ⟨nI_le (Nat.zero_le _) (by omega), by rw [pk_sub (by omega)]; exact nI_le (by omega) (by omega)⟩
      rw [q251]
      simp (disch := first | omega | exact tl_l | exact tT_len | (simp only [List.length_cons, List.length_nil])) only [e251_0, e251_1, e251_2, e251_5, e251_6, e251_7, e251_8, e251_11, e251_12, e251_13, e251_16, e251_19, e251_20, e251_23, e251_24, e251_25, e251_28, e251_29, e251_32, e251_33, kv_s, kh_s, kr_s, kr_v, kn_s, z0, z1, z2, nI_ltI, nI_leI, nI_eq, nI_add, oN, bz0, bz1, bw0, bw1, ltT, ltF, leT, leF, eqT, eqF, if_true, if_false, kI_n, wI_n, and_true, true_and, and_false, false_and, not_true, not_false_eq_true, mwo, mwr_0, mwr_1, mwr_2, mwg_3, mwp_3, mwr_4, mwg_5, mwp_5, mwg_6, mwp_6, mwr_7, mwr_8, mwg_9, mwp_9, mwg_10, mwp_10, mwg_11, mwp_11, mwr_12, mwg_13, mwp_13, mwr_14, mwr_15, mwr_16, mwr_17, mwr_18, mwr_19, mwg_20, mwp_20, mwr_21, mwr_22, mwr_23, mwa_1, mwu_1, mwa_2, mwu_2, mwa_3, mwu_3, mwa_4, mwu_4, mwa_5, mwu_5, mwa_6, mwu_6, mwa_7, mwu_7, mwa_8, mwu_8, mwa_9, mwu_9, mwa_10, mwu_10, mwa_11, mwu_11, mwa_12, mwu_12, mwa_13, mwu_13, mwa_14, mwu_14, mwa_15, mwu_15, mwa_16, mwu_16, vu_at, vu_ne, pk_us, pk_un, kB_n, wB_n, kL_n, wL_n, mwo, hM5, M_in, e, n01, hR]
    rw [mw_same h2 (τ := ous σ (c + 41) g (R j)) fun a q1 q2 => hup_ne (by omega)] at eM
    exact eM
  · have hf : x < nI 0 ∨ nI L.length ≤ x := by
      by_cases h0 : x < nI 0
      · exact Or.inl h0
      · exact Or.inr (Int32.not_lt.mp fun z => hin ⟨Int32.not_lt.mp h0, z⟩)
    have e : ¬ (nI 0 ≤ x ∧ x ≤ nI L.length - nI 1) := fun ⟨z1, z2⟩ => by
      obtain ⟨j, hj, rfl⟩ := nI_of (x := x) (Int32.not_lt.mpr z1)
      by_cases hL0 : L.length = 0
      · rw [hL0, show (nI 0 - nI 1 : Int32) = -nI 1 from rfl] at z2
        exact absurd (Int32.le_trans z1 z2) (by decide)
      · rw [pk_sub (by omega), nI_leI hj (by omega)] at z2
        exact hin ⟨z1, (nI_ltI hj (by omega)).mpr (by omega)⟩
    have eM : dcall 251 [.ref (c + 24), .int x] (mw (thr σ) (c + 24) A2 R2 I2) = some (some (.long (nI 0).toInt64), mw (thr σ) (c + 24) A2 R2 (upd (upd I2 6 (nI 0)) 6 (nI 1))) := by
      rw [q251]
      simp (disch := first | omega | exact tl_l | exact tT_len | (simp only [List.length_cons, List.length_nil])) only [e251_0, e251_1, e251_2, e251_5, e251_6, e251_7, e251_8, e251_11, e251_12, e251_13, e251_16, e251_19, e251_20, e251_23, e251_24, e251_25, e251_28, e251_29, e251_32, e251_33, kv_s, kh_s, kr_s, kr_v, kn_s, z0, z1, z2, nI_ltI, nI_leI, nI_eq, nI_add, oN, bz0, bz1, bw0, bw1, ltT, ltF, leT, leF, eqT, eqF, if_true, if_false, kI_n, wI_n, and_true, true_and, and_false, false_and, not_true, not_false_eq_true, mwo, mwr_0, mwr_1, mwr_2, mwg_3, mwp_3, mwr_4, mwg_5, mwp_5, mwg_6, mwp_6, mwr_7, mwr_8, mwg_9, mwp_9, mwg_10, mwp_10, mwg_11, mwp_11, mwr_12, mwg_13, mwp_13, mwr_14, mwr_15, mwr_16, mwr_17, mwr_18, mwr_19, mwg_20, mwp_20, mwr_21, mwr_22, mwr_23, mwa_1, mwu_1, mwa_2, mwu_2, mwa_3, mwu_3, mwa_4, mwu_4, mwa_5, mwu_5, mwa_6, mwu_6, mwa_7, mwu_7, mwa_8, mwu_8, mwa_9, mwu_9, mwa_10, mwu_10, mwa_11, mwu_11, mwa_12, mwu_12, mwa_13, mwu_13, mwa_14, mwu_14, mwa_15, mwu_15, mwa_16, mwu_16, vu_at, vu_ne, pk_us, pk_un, kB_n, wB_n, kL_n, wL_n, mwo, hM5, M_in, e, n01, M_lost]
    rw [mw_same h2 (τ := thr σ) fun _ _ _ => rfl] at eM
    exact Or.inr ⟨_, _, L_rowX hl hx.o hx.f1 hs hf, eM, by rw [M_thrown, pk_us], Inv_thr h hi (hM.same stay.rf (by rw [pk_un (by omega), pk_un (by omega)]) (by rw [pk_un (by omega), pk_un (by omega)]))⟩
end GT
