/-! calls: flips, sheet -/
section FL
variable {c : Nat} {σ τ : Hp} {m : Nat} {A : Nat → Nat → Int32} {R : Nat → Int64} {I : Nat → Int32} {z : Hs} {K : Nat → Option Hs} {W N : Nat → Int32} {x y : Int32} {d : Nat} {V : Nat → Int32}
/-- the reference's end of an act: too many, the same, or made -/
theorem M_end3 (h : nowM (A 1) z.1 z.2.1 z.2.2.1 z.2.2.2) (ok : okH z) (hl : z.2.2.1 + 1 < 2 ^ 30) {N : Nat → Int32} (hW : ∀ k, k < 256 → N k = W k) (h0 : zer z.1 W) {X : Nat} {as : List Value} (e0 : 40 < un z.1 W 1 → dcall 165 [.ref m] (mw σ m (va_up A 8 N) R I) = some (some (.int (nI (un z.1 W 1))), mw σ m (va_up A 8 N) R I) → dcall X as (mw σ m A R I) = some (some (.int x), mw σ m (va_up A 8 N) R I)) (e1 : un z.1 W 1 ≤ 40 → dcall 165 [.ref m] (mw σ m (va_up A 8 N) R I) = some (some (.int (nI (un z.1 W 1))), mw σ m (va_up A 8 N) R I) → dcall 166 [.ref m] (mw σ m (va_up A 8 N) R I) = some (some (.int (nI 1)), mw σ m (va_up A 8 N) R I) → dcall X as (mw σ m A R I) = some (some (.int y), mw σ m (va_up A 8 N) R I)) (e2 : ∀ b v, un z.1 W 1 ≤ 40 → dcall 165 [.ref m] (mw σ m (va_up A 8 N) R I) = some (some (.int (nI (un z.1 W 1))), mw σ m (va_up A 8 N) R I) → dcall 166 [.ref m] (mw σ m (va_up A 8 N) R I) = some (some (.int (nI 0)), mw σ m (va_up A 8 N) R I) → dcall 170 [.ref m] (mw σ m (va_up A 8 N) R I) = some (some (.int b), v) → dcall X as (mw σ m A R I) = some (some (.int b), v)) : RA m X as σ A R I (mkF z W x y) := by
  have hK := h.K
  have g1 : nowM (va_up A 8 N 1) z.1 z.2.1 z.2.2.1 z.2.2.2 := by rw [vu_ne (by omega)]; exact h
  have hm := M_nextMany (σ := σ) (m := m) (A := va_up A 8 N) (R := R) (I := I) hK.2.2.1 (fun k hk => by rw [vu_at]; exact hW k hk) h0
  by_cases h4 : 40 < un z.1 W 1
  · have e : mkF z W x y = (x, z) := by unfold mkF; rw [if_pos h4]
    rw [e]
    exact ⟨va_up A 8 N, e0 h4 hm, g1, fun k q1 q2 => vu_ne q2⟩
  · exact M_end2 h ok hl hW h0 (by omega) (fun hz i1 => e1 (by omega) hm i1) (fun b v hz i1 f1 => e2 b v (by omega) hm i1 f1)
/-- values moved, so far -/
def flp (V : Nat → Int32) (w k j : Nat) : Int32 := if j ^^^ w < k then V (j ^^^ w) else V j
theorem xx {j w : Nat} : (j ^^^ w) ^^^ w = j := by rw [Nat.xor_assoc, Nat.xor_self, Nat.xor_zero]
theorem flp_s {w k : Nat} : upd (flp V w k) (k ^^^ w) (V k) = flp V w (k + 1) := by
  funext j
  by_cases hj : j = k ^^^ w
  · subst hj
    rw [pk_us, flp, xx, if_pos (Nat.lt_succ_self k)]
  · rw [pk_un hj, flp, flp]
    have hne : j ^^^ w ≠ k := fun e => hj (by rw [← e, xx])
    by_cases h2 : j ^^^ w < k
    · rw [if_pos h2, if_pos (by omega)]
    · rw [if_neg h2, if_neg (by omega)]
theorem flp_0 {w : Nat} : flp V w 0 = V := funext fun j => if_neg (Nat.not_lt_zero _)
theorem flp_e {w : Nat} (hw : w < 2 ^ d) {k : Nat} (hk : k < 2 ^ d) : flp V w (2 ^ d) k = V (k ^^^ w) := if_pos (Nat.xor_lt_two_pow hk hw)
theorem un_flp {w : Nat} (hw : w < 2 ^ d) : un d (flp V w (2 ^ d)) 1 = un d V 1 := by
  rw [un_all, un_all, ← cnt_xor d (fun k => decide (nI 0 < V k)) w hw]
  refine cnt_congr fun i hi => ?_
  show decide (nI 0 < flp V w (2 ^ d) (0 + i)) = decide (nI 0 < V ((0 + i) ^^^ w))
  rw [flp_e hw (by omega)]
theorem plW.fl (h : plW d V) {w : Nat} (hw : w < 2 ^ d) : plW d (flp V w (2 ^ d)) := fun k hk => by
  rw [flp_e hw hk]
  exact h _ (Nat.xor_lt_two_pow hk hw)
theorem flp_hi {w : Nat} (hw : w < 2 ^ d) {k j : Nat} (hk : k ≤ 2 ^ d) (hj : 2 ^ d ≤ j) : flp V w k j = V j := if_neg fun hlt => by
  have h2 : j ^^^ w < 2 ^ d := by omega
  have := Nat.xor_lt_two_pow h2 hw
  rw [xx] at this
  omega
theorem zer.fl (h : zer d V) {w : Nat} (hw : w < 2 ^ d) : zer d (flp V w (2 ^ d)) := fun j h1 h2 => by
  rw [flp_hi hw (Nat.le_refl _) h1]
  exact h j h1 h2
theorem C_flips_loop {T : Nat → Option Nat} {w t : Nat} (hw : w < 2 ^ z.1) (far : t = c + 19 ∨ c + 42 ≤ t) : ∀ (n k : Nat) (σ : Hp), RB c σ T z.1 z.2.1 z.2.2.1 z.2.2.2 → isT (cw σ c A R I) t z.1 V → k + n = 2 ^ z.1 → isT σ (c + 12) z.1 (flp V w k) → ∃ τ, den 118 36 [.ref c, .int (nI w), .ref t, .int (nI k)] [] (cw σ c A R I) = den 118 68 [.ref c, .int (nI w), .ref t, .int (nI (2 ^ z.1))] [] (cw τ c A R I) ∧ dft c σ τ z.1 (flp V w (2 ^ z.1)) := by
  intro n
  induction n with
  | zero =>
    intro k σ hb ht hk hT
    have hK := hb.K
    have : k = 2 ^ z.1 := by omega
    subst this
    refine ⟨σ, ?_, fun _ _ => rfl, rfl, hT⟩
    have h := hb
    rw [e118_36]
    simp (disch := first | omega | exact tl_l | exact tT_len | (simp only [List.length_cons, List.length_nil])) only [e118_37, e118_38, e118_41, e118_44, e118_47, e118_48, e118_51, e118_52, e118_53, e118_54, e118_55, e118_56, e118_59, e118_62, e118_65, kv_s, kh_s, kr_s, kr_v, kn_s, z0, z1, z2, nI_ltI, nI_leI, nI_eq, nI_add, oN, bz0, bz1, bw0, bw1, ltT, ltF, leT, leF, eqT, eqF, if_true, if_false, kI_n, wI_n, and_true, true_and, and_false, false_and, not_true, not_false_eq_true, h.x.f0, h.x.f1, h.x.f2, h.x.f3, h.x.f4, h.x.f5, h.x.f6, h.x.f7, h.x.o, h.hi.o, h.hi.gd, h.hi.gf, h.hi.gl, Hi_keys h.hi h.d8, Hi_hasKey h.hi h.d8, Rw_empty, Rw_add, List.nil_append, List.cons_append, upd_upd, cwo_1, cwo_3, cwo_5, cwo_7, cwo_17, Bool.false_eq_true, n01]
  | succ n ih =>
    intro k σ hb ht hk hT
    have hK := hb.K
    have hx : k ^^^ w < 2 ^ z.1 := Nat.xor_lt_two_pow (by omega) hw
    obtain ⟨τ, e1, D⟩ := D_place (A := A) (R := R) (I := I) hT hx (V k)
    rw [flp_s] at D
    obtain ⟨ρ, e2, D2⟩ := ih (k + 1) τ (hb.dft D) (tree_dft ht far D) (by omega) D.2.2
    refine ⟨ρ, ?_, D.tr D2⟩
    rw [← e2]
    have o1 := (hT.dcw (A := A) (R := R) (I := I)).o
    have hxo : nI k ^^^ nI w = nI (k ^^^ w) := nI_xor (by omega) (by omega)
    have h := hb
    rw [e118_36]
    simp (disch := first | omega | exact tl_l | exact tT_len | (simp only [List.length_cons, List.length_nil])) only [e118_37, e118_38, e118_41, e118_44, e118_47, e118_48, e118_51, e118_52, e118_53, e118_54, e118_55, e118_56, e118_59, e118_62, e118_65, kv_s, kh_s, kr_s, kr_v, kn_s, z0, z1, z2, nI_ltI, nI_leI, nI_eq, nI_add, oN, bz0, bz1, bw0, bw1, ltT, ltF, leT, leF, eqT, eqF, if_true, if_false, kI_n, wI_n, and_true, true_and, and_false, false_and, not_true, not_false_eq_true, cwo_1, cwr_1, cwg_0, cwg_1, cwg_2, cwa_0, cwl_0, cwo_3, cwr_3, cwg_3, cwa_R, cwl_R, cwo_5, cwr_5, cwg_4, cwg_5, cwg_6, cwg_7, cwg_8, cwa_1, cwl_1, cwo_7, cwr_7, cwg_9, cwg_10, cwg_11, cwg_12, cwg_13, cwa_2, cwl_2, cwo_17, cwr_17, cwg_14, cwa_3, cwl_3, cwp_0, cwp_1, cwp_2, cwp_3, cwp_4, cwp_5, cwp_6, cwp_7, cwp_8, cwp_9, cwp_10, cwp_11, cwp_12, cwp_13, cwp_14, cwu_0, cwu_R, cwu_1, cwu_2, cwu_3, vu_at, vu_ne, pk_us, pk_un, h.x.f0, h.x.f1, h.x.f2, h.x.f3, h.x.f4, h.x.f5, h.x.f6, h.x.f7, h.x.o, h.hi.o, h.hi.gd, h.hi.gf, h.hi.gl, Hi_keys h.hi h.d8, Hi_hasKey h.hi h.d8, Rw_empty, Rw_add, List.nil_append, List.cons_append, upd_upd, cwo_1, cwo_3, cwo_5, cwo_7, cwo_17, Bool.false_eq_true, n01, o1, ht.o, T_val ht, hxo, e1]
theorem C_flips (h : BC c σ z K) (hl : z.2.2.1 + 1 < 2 ^ 30) {w : Nat} (hw0 : 1 ≤ w) (hw : w < 2 ^ z.1) : CA c 118 [.ref c, .int (nI w)] σ A R I K (mkF z (flp (z.2.2.2 z.2.2.1) w (2 ^ z.1)) (-nI 5) (-nI 2)) := by
  obtain ⟨T, t, τ, hb, n1, t2, far, k1, D1, hb1, hc1, t3⟩ := C_new (A := A) (R := R) (I := I) h
  have hK := hb.K
  obtain ⟨τ2, k2, D2⟩ := C_flips_loop (A := A) (R := R) (I := I) (V := z.2.2.2 z.2.2.1) hw far (2 ^ z.1) 0 τ hb1 t3 (Nat.zero_add _) (by rw [flp_0]; exact D1.2.2)
  have D := D1.tr D2
  obtain ⟨ρ, s1, s2, s3⟩ := A_settle (A := A) (R := R) (I := I) (h.dft D) D.2.2 hl (x := -nI 5) (y := -nI 2)
  refine ⟨ρ, ?_, s2, D.afar.tr s3⟩
  have o0 := BC_dobj h (A := A) (R := R) (I := I)
  have hb2 := hb.dft D
  have h := hb
  rw [q118]
  simp (disch := first | omega | exact tl_l | exact tT_len | (simp only [List.length_cons, List.length_nil])) only [e118_0, e118_1, e118_2, e118_5, e118_6, e118_7, e118_10, e118_13, e118_16, e118_17, e118_18, e118_19, e118_22, e118_25, e118_26, e118_27, e118_30, e118_31, e118_34, e118_35, e118_37, e118_38, e118_41, e118_44, e118_47, e118_48, e118_51, e118_52, e118_53, e118_54, e118_55, e118_56, e118_59, e118_62, e118_65, e118_68, e118_69, e118_71, e118_73, e118_76, kv_s, kh_s, kr_s, kr_v, kn_s, z0, z1, z2, nI_ltI, nI_leI, nI_eq, nI_add, oN, bz0, bz1, bw0, bw1, ltT, ltF, leT, leF, eqT, eqF, if_true, if_false, kI_n, wI_n, and_true, true_and, and_false, false_and, not_true, not_false_eq_true, cwo_1, cwr_1, cwg_0, cwg_1, cwg_2, cwa_0, cwl_0, cwo_3, cwr_3, cwg_3, cwa_R, cwl_R, cwo_5, cwr_5, cwg_4, cwg_5, cwg_6, cwg_7, cwg_8, cwa_1, cwl_1, cwo_7, cwr_7, cwg_9, cwg_10, cwg_11, cwg_12, cwg_13, cwa_2, cwl_2, cwo_17, cwr_17, cwg_14, cwa_3, cwl_3, cwp_0, cwp_1, cwp_2, cwp_3, cwp_4, cwp_5, cwp_6, cwp_7, cwp_8, cwp_9, cwp_10, cwp_11, cwp_12, cwp_13, cwp_14, cwu_0, cwu_R, cwu_1, cwu_2, cwu_3, vu_at, vu_ne, pk_us, pk_un, h.x.f0, h.x.f1, h.x.f2, h.x.f3, h.x.f4, h.x.f5, h.x.f6, h.x.f7, h.x.o, h.hi.o, h.hi.gd, h.hi.gf, h.hi.gl, Hi_keys h.hi h.d8, Hi_hasKey h.hi h.d8, Rw_empty, Rw_add, List.nil_append, List.cons_append, upd_upd, cwo_1, cwo_3, cwo_5, cwo_7, cwo_17, Bool.false_eq_true, n01, n1, o0, k1]
  rw [k2]
  simp (disch := first | omega | exact tl_l | exact tT_len | (simp only [List.length_cons, List.length_nil])) only [e118_0, e118_1, e118_2, e118_5, e118_6, e118_7, e118_10, e118_13, e118_16, e118_17, e118_18, e118_19, e118_22, e118_25, e118_26, e118_27, e118_30, e118_31, e118_34, e118_35, e118_37, e118_38, e118_41, e118_44, e118_47, e118_48, e118_51, e118_52, e118_53, e118_54, e118_55, e118_56, e118_59, e118_62, e118_65, e118_68, e118_69, e118_71, e118_73, e118_76, kv_s, kh_s, kr_s, kr_v, kn_s, z0, z1, z2, nI_ltI, nI_leI, nI_eq, nI_add, oN, bz0, bz1, bw0, bw1, ltT, ltF, leT, leF, eqT, eqF, if_true, if_false, kI_n, wI_n, and_true, true_and, and_false, false_and, not_true, not_false_eq_true, cwo_1, cwr_1, cwg_0, cwg_1, cwg_2, cwa_0, cwl_0, cwo_3, cwr_3, cwg_3, cwa_R, cwl_R, cwo_5, cwr_5, cwg_4, cwg_5, cwg_6, cwg_7, cwg_8, cwa_1, cwl_1, cwo_7, cwr_7, cwg_9, cwg_10, cwg_11, cwg_12, cwg_13, cwa_2, cwl_2, cwo_17, cwr_17, cwg_14, cwa_3, cwl_3, cwp_0, cwp_1, cwp_2, cwp_3, cwp_4, cwp_5, cwp_6, cwp_7, cwp_8, cwp_9, cwp_10, cwp_11, cwp_12, cwp_13, cwp_14, cwu_0, cwu_R, cwu_1, cwu_2, cwu_3, vu_at, vu_ne, pk_us, pk_un, h.x.f0, h.x.f1, h.x.f2, h.x.f3, h.x.f4, h.x.f5, h.x.f6, h.x.f7, h.x.o, h.hi.o, h.hi.gd, h.hi.gf, h.hi.gl, Hi_keys h.hi h.d8, Hi_hasKey h.hi h.d8, Rw_empty, Rw_add, List.nil_append, List.cons_append, upd_upd, cwo_1, cwo_3, cwo_5, cwo_7, cwo_17, Bool.false_eq_true, n01, hb2.x.f0, hb2.x.f1, hb2.x.f2, hb2.x.f3, hb2.x.f4, hb2.x.f5, hb2.x.f6, hb2.x.f7, hb2.x.o, hb2.hi.o, hb2.hi.gd, hb2.hi.gf, hb2.hi.gl, Hi_keys hb2.hi hb2.d8, Hi_hasKey hb2.hi hb2.d8, s1, z5]
theorem M_flip_loop (h : nowM (A 1) z.1 z.2.1 z.2.2.1 z.2.2.2) {w : Nat} (hw : w < 2 ^ z.1) : ∀ (n k : Nat) (N : Nat → Int32), k + n = 2 ^ z.1 → (∀ j, j < 256 → N j = flp (z.2.2.2 z.2.2.1) w k j) → ∃ N', den 239 31 [.ref m, .int (nI w), .int (nI k)] [] (mw σ m (va_up A 8 N) R I) = den 239 62 [.ref m, .int (nI w), .int (nI (2 ^ z.1))] [] (mw σ m (va_up A 8 N') R I) ∧ ∀ j, j < 256 → N' j = flp (z.2.2.2 z.2.2.1) w (2 ^ z.1) j := by
  have hK := h.K
  have hh : ∀ {N}, nowM (va_up A 8 N 1) z.1 z.2.1 z.2.2.1 z.2.2.2 := fun {N} => by rw [vu_ne (by omega)]; exact h
  intro n
  induction n with
  | zero =>
    intro k N hk hN
    have : k = 2 ^ z.1 := by omega
    subst this
    refine ⟨N, ?_, hN⟩
    rw [e239_31]
    simp (disch := first | omega | exact tl_l | exact tT_len | (simp only [List.length_cons, List.length_nil])) only [e239_32, e239_33, e239_36, e239_39, e239_40, e239_43, e239_44, e239_45, e239_46, e239_47, e239_48, e239_51, e239_52, e239_55, e239_56, e239_59, kv_s, kh_s, kr_s, kr_v, kn_s, z0, z1, z2, nI_ltI, nI_leI, nI_eq, nI_add, oN, bz0, bz1, bw0, bw1, ltT, ltF, leT, leF, eqT, eqF, if_true, if_false, kI_n, wI_n, and_true, true_and, and_false, false_and, not_true, not_false_eq_true, mwo, M_keys hh]
  | succ n ih =>
    intro k N hk hN
    have hx : k ^^^ w < 2 ^ z.1 := Nat.xor_lt_two_pow (by omega) hw
    obtain ⟨N', e1, e2⟩ := ih (k + 1) (upd N (k ^^^ w) (z.2.2.2 z.2.2.1 k)) (by omega) (fun j hj => by
      rw [← flp_s]
      by_cases hjk : j = k ^^^ w
      · subst hjk; rw [pk_us, pk_us]
      · rw [pk_un hjk, pk_un hjk]; exact hN j hj)
    refine ⟨N', ?_, e2⟩
    rw [← e1]
    have hxo : nI k ^^^ nI w = nI (k ^^^ w) := nI_xor (by omega) (by omega)
    rw [e239_31]
    simp (disch := first | omega | exact tl_l | exact tT_len | (simp only [List.length_cons, List.length_nil])) only [e239_32, e239_33, e239_36, e239_39, e239_40, e239_43, e239_44, e239_45, e239_46, e239_47, e239_48, e239_51, e239_52, e239_55, e239_56, e239_59, kv_s, kh_s, kr_s, kr_v, kn_s, z0, z1, z2, nI_ltI, nI_leI, nI_eq, nI_add, oN, bz0, bz1, bw0, bw1, ltT, ltF, leT, leF, eqT, eqF, if_true, if_false, kI_n, wI_n, and_true, true_and, and_false, false_and, not_true, not_false_eq_true, mwo, mwr_0, mwr_1, mwr_2, mwg_3, mwp_3, mwr_4, mwg_5, mwp_5, mwg_6, mwp_6, mwr_7, mwr_8, mwg_9, mwp_9, mwg_10, mwp_10, mwg_11, mwp_11, mwr_12, mwg_13, mwp_13, mwr_14, mwr_15, mwr_16, mwr_17, mwr_18, mwr_19, mwg_20, mwp_20, mwr_21, mwr_22, mwr_23, mwa_1, mwu_1, mwa_2, mwu_2, mwa_3, mwu_3, mwa_4, mwu_4, mwa_5, mwu_5, mwa_6, mwu_6, mwa_7, mwu_7, mwa_8, mwu_8, mwa_9, mwu_9, mwa_10, mwu_10, mwa_11, mwu_11, mwa_12, mwu_12, mwa_13, mwu_13, mwa_14, mwu_14, mwa_15, mwu_15, mwa_16, mwu_16, vu_at, vu_ne, pk_us, pk_un, kB_n, wB_n, kL_n, wL_n, M_keys hh, M_latest hh, M_value hh hK.2.2.2.1 (Nat.le_refl z.2.2.1), hxo, vu_vu]
theorem M_flips (h : nowM (A 1) z.1 z.2.1 z.2.2.1 z.2.2.2) (ok : okH z) (hl : z.2.2.1 + 1 < 2 ^ 30) {w : Nat} (hw0 : 1 ≤ w) (hw : w < 2 ^ z.1) (hI : upd I 6 (nI 0) = I) : RA m 239 [.ref m, .int (nI w)] σ A R I (mkF z (flp (z.2.2.2 z.2.2.1) w (2 ^ z.1)) (-nI 5) (-nI 2)) := by
  have hK := h.K
  have okl := ok _ hK.2.2.2.1 (Nat.le_refl _)
  obtain ⟨N, n1, n2⟩ := M_layNext (σ := σ) (m := m) (R := R) (I := I) h hK.2.2.2.1 (Nat.le_refl z.2.2.1)
  obtain ⟨N', c1, c2⟩ := M_flip_loop (σ := σ) (m := m) (A := A) (R := R) (I := I) h hw (2 ^ z.1) 0 N (Nat.zero_add _) (fun j hj => by rw [flp_0]; exact n2 j hj)
  refine M_end2 h ok hl c2 (zer.fl okl.2.2 hw) (by rw [un_flp hw]; exact okl.2.1) (fun hz i1 => ?_) (fun b v' hz i1 f1 => ?_)
  · rw [q239]
    simp (disch := first | omega | exact tl_l | exact tT_len | (simp only [List.length_cons, List.length_nil])) only [e239_0, e239_1, e239_2, e239_5, e239_6, e239_7, e239_8, e239_11, e239_12, e239_13, e239_16, e239_19, e239_20, e239_21, e239_22, e239_23, e239_26, e239_29, e239_30, e239_32, e239_33, e239_36, e239_39, e239_40, e239_43, e239_44, e239_45, e239_46, e239_47, e239_48, e239_51, e239_52, e239_55, e239_56, e239_59, e239_62, e239_63, e239_66, e239_69, e239_71, e239_74, e239_75, e239_78, kv_s, kh_s, kr_s, kr_v, kn_s, z0, z1, z2, nI_ltI, nI_leI, nI_eq, nI_add, oN, bz0, bz1, bw0, bw1, ltT, ltF, leT, leF, eqT, eqF, if_true, if_false, kI_n, wI_n, and_true, true_and, and_false, false_and, not_true, not_false_eq_true, mwo, mwr_0, mwr_1, mwr_2, mwg_3, mwp_3, mwr_4, mwg_5, mwp_5, mwg_6, mwp_6, mwr_7, mwr_8, mwg_9, mwp_9, mwg_10, mwp_10, mwg_11, mwp_11, mwr_12, mwg_13, mwp_13, mwr_14, mwr_15, mwr_16, mwr_17, mwr_18, mwr_19, mwg_20, mwp_20, mwr_21, mwr_22, mwr_23, mwa_1, mwu_1, mwa_2, mwu_2, mwa_3, mwu_3, mwa_4, mwu_4, mwa_5, mwu_5, mwa_6, mwu_6, mwa_7, mwu_7, mwa_8, mwu_8, mwa_9, mwu_9, mwa_10, mwu_10, mwa_11, mwu_11, mwa_12, mwu_12, mwa_13, mwu_13, mwa_14, mwu_14, mwa_15, mwu_15, mwa_16, mwu_16, vu_at, vu_ne, pk_us, pk_un, kB_n, wB_n, kL_n, wL_n, hI, M_keys h, pk_sub, M_in1, n01, M_latest h, n1]
    rw [c1]
    simp (disch := first | omega | exact tl_l | exact tT_len | (simp only [List.length_cons, List.length_nil])) only [e239_0, e239_1, e239_2, e239_5, e239_6, e239_7, e239_8, e239_11, e239_12, e239_13, e239_16, e239_19, e239_20, e239_21, e239_22, e239_23, e239_26, e239_29, e239_30, e239_32, e239_33, e239_36, e239_39, e239_40, e239_43, e239_44, e239_45, e239_46, e239_47, e239_48, e239_51, e239_52, e239_55, e239_56, e239_59, e239_62, e239_63, e239_66, e239_69, e239_71, e239_74, e239_75, e239_78, kv_s, kh_s, kr_s, kr_v, kn_s, z0, z1, z2, nI_ltI, nI_leI, nI_eq, nI_add, oN, bz0, bz1, bw0, bw1, ltT, ltF, leT, leF, eqT, eqF, if_true, if_false, kI_n, wI_n, and_true, true_and, and_false, false_and, not_true, not_false_eq_true, mwo, mwr_0, mwr_1, mwr_2, mwg_3, mwp_3, mwr_4, mwg_5, mwp_5, mwg_6, mwp_6, mwr_7, mwr_8, mwg_9, mwp_9, mwg_10, mwp_10, mwg_11, mwp_11, mwr_12, mwg_13, mwp_13, mwr_14, mwr_15, mwr_16, mwr_17, mwr_18, mwr_19, mwg_20, mwp_20, mwr_21, mwr_22, mwr_23, mwa_1, mwu_1, mwa_2, mwu_2, mwa_3, mwu_3, mwa_4, mwu_4, mwa_5, mwu_5, mwa_6, mwu_6, mwa_7, mwu_7, mwa_8, mwu_8, mwa_9, mwu_9, mwa_10, mwu_10, mwa_11, mwu_11, mwa_12, mwu_12, mwa_13, mwu_13, mwa_14, mwu_14, mwa_15, mwu_15, mwa_16, mwu_16, vu_at, vu_ne, pk_us, pk_un, kB_n, wB_n, kL_n, wL_n, i1, n01]
  · rw [q239]
    simp (disch := first | omega | exact tl_l | exact tT_len | (simp only [List.length_cons, List.length_nil])) only [e239_0, e239_1, e239_2, e239_5, e239_6, e239_7, e239_8, e239_11, e239_12, e239_13, e239_16, e239_19, e239_20, e239_21, e239_22, e239_23, e239_26, e239_29, e239_30, e239_32, e239_33, e239_36, e239_39, e239_40, e239_43, e239_44, e239_45, e239_46, e239_47, e239_48, e239_51, e239_52, e239_55, e239_56, e239_59, e239_62, e239_63, e239_66, e239_69, e239_71, e239_74, e239_75, e239_78, kv_s, kh_s, kr_s, kr_v, kn_s, z0, z1, z2, nI_ltI, nI_leI, nI_eq, nI_add, oN, bz0, bz1, bw0, bw1, ltT, ltF, leT, leF, eqT, eqF, if_true, if_false, kI_n, wI_n, and_true, true_and, and_false, false_and, not_true, not_false_eq_true, mwo, mwr_0, mwr_1, mwr_2, mwg_3, mwp_3, mwr_4, mwg_5, mwp_5, mwg_6, mwp_6, mwr_7, mwr_8, mwg_9, mwp_9, mwg_10, mwp_10, mwg_11, mwp_11, mwr_12, mwg_13, mwp_13, mwr_14, mwr_15, mwr_16, mwr_17, mwr_18, mwr_19, mwg_20, mwp_20, mwr_21, mwr_22, mwr_23, mwa_1, mwu_1, mwa_2, mwu_2, mwa_3, mwu_3, mwa_4, mwu_4, mwa_5, mwu_5, mwa_6, mwu_6, mwa_7, mwu_7, mwa_8, mwu_8, mwa_9, mwu_9, mwa_10, mwu_10, mwa_11, mwu_11, mwa_12, mwu_12, mwa_13, mwu_13, mwa_14, mwu_14, mwa_15, mwu_15, mwa_16, mwu_16, vu_at, vu_ne, pk_us, pk_un, kB_n, wB_n, kL_n, wL_n, hI, M_keys h, pk_sub, M_in1, n01, M_latest h, n1]
    rw [c1]
    simp (disch := first | omega | exact tl_l | exact tT_len | (simp only [List.length_cons, List.length_nil])) only [e239_62, e239_63, e239_66, e239_69, e239_71, e239_74, e239_75, e239_78, kv_s, kh_s, kr_s, kr_v, kn_s, z0, z1, z2, nI_ltI, nI_leI, nI_eq, nI_add, oN, bz0, bz1, bw0, bw1, ltT, ltF, leT, leF, eqT, eqF, if_true, if_false, kI_n, wI_n, and_true, true_and, and_false, false_and, not_true, not_false_eq_true, mwo, i1, f1]
end FL
theorem J_flips (x : Int32) : Jn 118 239 [.int x] := by
  rintro c i σ hi ⟨z, n, B, L, q, K, A, R, I, A2, R2, I2, h⟩
  obtain ⟨T, hb⟩ := h.rb
  have hN := h.nm
  have hfl := hb.fl
  have hK := hb.K
  have okl := h.ok _ hfl.1 (Nat.le_refl _)
  rcases rg_in (x := x) (N := 2 ^ z.1 - 1) (by omega) with ⟨w, hw, rfl⟩ | hx
  · by_cases hw0 : 1 ≤ w
    · obtain ⟨o1, o2, o3⟩ := mkF_ok (x := -nI 5) (y := -nI 2) h.ok hfl.1 hfl.2.1 (okl.1.fl (show w < 2 ^ z.1 by omega)) (zer.fl okl.2.2 (show w < 2 ^ z.1 by omega))
      refine Inv_act h hi (C_flips h.2.2.1 h.l30 hw0 (by omega)) (M_flips hN h.ok h.l30 hw0 (by omega) upd_upd) ?_ o1 o3
      intro τ b w' e
      rw [q239] at e ⊢
      simp only [e239_0, e239_1, e239_2, kv_s, kh_s, kr_s, kr_v, kn_s, z0, mwp_6, upd_upd] at e ⊢
      exact e
    · have : w = 0 := by omega
      subst this
      refine Inv_same h hi (b := .int (-nI 1)) ?_ ?_
      · have h := hb
        rw [q118]
        simp (disch := first | omega | exact tl_l | exact tT_len | (simp only [List.length_cons, List.length_nil])) only [e118_0, e118_1, e118_2, e118_5, e118_6, e118_7, e118_10, e118_13, e118_16, e118_17, e118_18, e118_19, e118_22, e118_25, e118_26, e118_27, e118_30, e118_31, e118_34, e118_35, e118_37, e118_38, e118_41, e118_44, e118_47, e118_48, e118_51, e118_52, e118_53, e118_54, e118_55, e118_56, e118_59, e118_62, e118_65, e118_68, e118_69, e118_71, e118_73, e118_76, kv_s, kh_s, kr_s, kr_v, kn_s, z0, z1, z2, nI_ltI, nI_leI, nI_eq, nI_add, oN, bz0, bz1, bw0, bw1, ltT, ltF, leT, leF, eqT, eqF, if_true, if_false, kI_n, wI_n, and_true, true_and, and_false, false_and, not_true, not_false_eq_true, cwo_1, cwr_1, cwg_0, cwg_1, cwg_2, cwa_0, cwl_0, cwo_3, cwr_3, cwg_3, cwa_R, cwl_R, cwo_5, cwr_5, cwg_4, cwg_5, cwg_6, cwg_7, cwg_8, cwa_1, cwl_1, cwo_7, cwr_7, cwg_9, cwg_10, cwg_11, cwg_12, cwg_13, cwa_2, cwl_2, cwo_17, cwr_17, cwg_14, cwa_3, cwl_3, cwp_0, cwp_1, cwp_2, cwp_3, cwp_4, cwp_5, cwp_6, cwp_7, cwp_8, cwp_9, cwp_10, cwp_11, cwp_12, cwp_13, cwp_14, cwu_0, cwu_R, cwu_1, cwu_2, cwu_3, vu_at, vu_ne, pk_us, pk_un, h.x.f0, h.x.f1, h.x.f2, h.x.f3, h.x.f4, h.x.f5, h.x.f6, h.x.f7, h.x.o, h.hi.o, h.hi.gd, h.hi.gf, h.hi.gl, Hi_keys h.hi h.d8, Hi_hasKey h.hi h.d8, Rw_empty, Rw_add, List.nil_append, List.cons_append, upd_upd, cwo_1, cwo_3, cwo_5, cwo_7, cwo_17, Bool.false_eq_true, n01]
      · intro τ
        refine ⟨A2, upd I2 6 (nI 0), ?_, stay.rf, pk_un (by omega), pk_un (by omega)⟩
        rw [q239]
        simp (disch := first | omega | exact tl_l | exact tT_len | (simp only [List.length_cons, List.length_nil])) only [e239_0, e239_1, e239_2, e239_5, e239_6, e239_7, e239_8, e239_11, e239_12, e239_13, e239_16, e239_19, e239_20, e239_21, e239_22, e239_23, e239_26, e239_29, e239_30, e239_32, e239_33, e239_36, e239_39, e239_40, e239_43, e239_44, e239_45, e239_46, e239_47, e239_48, e239_51, e239_52, e239_55, e239_56, e239_59, e239_62, e239_63, e239_66, e239_69, e239_71, e239_74, e239_75, e239_78, kv_s, kh_s, kr_s, kr_v, kn_s, z0, z1, z2, nI_ltI, nI_leI, nI_eq, nI_add, oN, bz0, bz1, bw0, bw1, ltT, ltF, leT, leF, eqT, eqF, if_true, if_false, kI_n, wI_n, and_true, true_and, and_false, false_and, not_true, not_false_eq_true, mwo, mwr_0, mwr_1, mwr_2, mwg_3, mwp_3, mwr_4, mwg_5, mwp_5, mwg_6, mwp_6, mwr_7, mwr_8, mwg_9, mwp_9, mwg_10, mwp_10, mwg_11, mwp_11, mwr_12, mwg_13, mwp_13, mwr_14, mwr_15, mwr_16, mwr_17, mwr_18, mwr_19, mwg_20, mwp_20, mwr_21, mwr_22, mwr_23, mwa_1, mwu_1, mwa_2, mwu_2, mwa_3, mwu_3, mwa_4, mwu_4, mwa_5, mwu_5, mwa_6, mwu_6, mwa_7, mwu_7, mwa_8, mwu_8, mwa_9, mwu_9, mwa_10, mwu_10, mwa_11, mwu_11, mwa_12, mwu_12, mwa_13, mwu_13, mwa_14, mwu_14, mwa_15, mwu_15, mwa_16, mwu_16, vu_at, vu_ne, pk_us, pk_un, kB_n, wB_n, kL_n, wL_n, M_keys hN, pk_sub, M_in0 (x := nI 0) (y := nI 1) (z := nI (2 ^ z.1 - 1)) (Or.inl (by decide))]
  · refine Inv_same h hi (b := .int (-nI 1)) ?_ ?_
    · have h := hb
      by_cases h1 : x < nI 1
      · rw [q118]
        simp (disch := first | omega | exact tl_l | exact tT_len | (simp only [List.length_cons, List.length_nil])) only [e118_0, e118_1, e118_2, e118_5, e118_6, e118_7, e118_10, e118_13, e118_16, e118_17, e118_18, e118_19, e118_22, e118_25, e118_26, e118_27, e118_30, e118_31, e118_34, e118_35, e118_37, e118_38, e118_41, e118_44, e118_47, e118_48, e118_51, e118_52, e118_53, e118_54, e118_55, e118_56, e118_59, e118_62, e118_65, e118_68, e118_69, e118_71, e118_73, e118_76, kv_s, kh_s, kr_s, kr_v, kn_s, z0, z1, z2, nI_ltI, nI_leI, nI_eq, nI_add, oN, bz0, bz1, bw0, bw1, ltT, ltF, leT, leF, eqT, eqF, if_true, if_false, kI_n, wI_n, and_true, true_and, and_false, false_and, not_true, not_false_eq_true, cwo_1, cwr_1, cwg_0, cwg_1, cwg_2, cwa_0, cwl_0, cwo_3, cwr_3, cwg_3, cwa_R, cwl_R, cwo_5, cwr_5, cwg_4, cwg_5, cwg_6, cwg_7, cwg_8, cwa_1, cwl_1, cwo_7, cwr_7, cwg_9, cwg_10, cwg_11, cwg_12, cwg_13, cwa_2, cwl_2, cwo_17, cwr_17, cwg_14, cwa_3, cwl_3, cwp_0, cwp_1, cwp_2, cwp_3, cwp_4, cwp_5, cwp_6, cwp_7, cwp_8, cwp_9, cwp_10, cwp_11, cwp_12, cwp_13, cwp_14, cwu_0, cwu_R, cwu_1, cwu_2, cwu_3, vu_at, vu_ne, pk_us, pk_un, h.x.f0, h.x.f1, h.x.f2, h.x.f3, h.x.f4, h.x.f5, h.x.f6, h.x.f7, h.x.o, h.hi.o, h.hi.gd, h.hi.gf, h.hi.gl, Hi_keys h.hi h.d8, Hi_hasKey h.hi h.d8, Rw_empty, Rw_add, List.nil_append, List.cons_append, upd_upd, cwo_1, cwo_3, cwo_5, cwo_7, cwo_17, Bool.false_eq_true, n01, h1]
      · have h2 : ¬ x < nI (2 ^ z.1) := by
          rcases hx with hx | hx
          · exact absurd (Int32.lt_trans hx (by decide)) h1
          · by_cases h0 : x < nI 0
            · exact absurd (Int32.lt_trans h0 (by decide)) h1
            · obtain ⟨j, hj, rfl⟩ := nI_of h0
              rw [nI_ltI (by omega) (by omega)] at hx ⊢
              omega
        rw [q118]
        simp (disch := first | omega | exact tl_l | exact tT_len | (simp only [List.length_cons, List.length_nil])) only [e118_0, e118_1, e118_2, e118_5, e118_6, e118_7, e118_10, e118_13, e118_16, e118_17, e118_18, e118_19, e118_22, e118_25, e118_26, e118_27, e118_30, e118_31, e118_34, e118_35, e118_37, e118_38, e118_41, e118_44, e118_47, e118_48, e118_51, e118_52, e118_53, e118_54, e118_55, e118_56, e118_59, e118_62, e118_65, e118_68, e118_69, e118_71, e118_73, e118_76, kv_s, kh_s, kr_s, kr_v, kn_s, z0, z1, z2, nI_ltI, nI_leI, nI_eq, nI_add, oN, bz0, bz1, bw0, bw1, ltT, ltF, leT, leF, eqT, eqF, if_true, if_false, kI_n, wI_n, and_true, true_and, and_false, false_and, not_true, not_false_eq_true, cwo_1, cwr_1, cwg_0, cwg_1, cwg_2, cwa_0, cwl_0, cwo_3, cwr_3, cwg_3, cwa_R, cwl_R, cwo_5, cwr_5, cwg_4, cwg_5, cwg_6, cwg_7, cwg_8, cwa_1, cwl_1, cwo_7, cwr_7, cwg_9, cwg_10, cwg_11, cwg_12, cwg_13, cwa_2, cwl_2, cwo_17, cwr_17, cwg_14, cwa_3, cwl_3, cwp_0, cwp_1, cwp_2, cwp_3, cwp_4, cwp_5, cwp_6, cwp_7, cwp_8, cwp_9, cwp_10, cwp_11, cwp_12, cwp_13, cwp_14, cwu_0, cwu_R, cwu_1, cwu_2, cwu_3, vu_at, vu_ne, pk_us, pk_un, h.x.f0, h.x.f1, h.x.f2, h.x.f3, h.x.f4, h.x.f5, h.x.f6, h.x.f7, h.x.o, h.hi.o, h.hi.gd, h.hi.gf, h.hi.gl, Hi_keys h.hi h.d8, Hi_hasKey h.hi h.d8, Rw_empty, Rw_add, List.nil_append, List.cons_append, upd_upd, cwo_1, cwo_3, cwo_5, cwo_7, cwo_17, Bool.false_eq_true, n01, h1, h2]
    · intro τ
      refine ⟨A2, upd I2 6 (nI 0), ?_, stay.rf, pk_un (by omega), pk_un (by omega)⟩
      have hx' : x < nI 1 ∨ nI (2 ^ z.1 - 1) < x := by
        rcases hx with hx | hx
        · exact Or.inl (Int32.lt_trans hx (by decide))
        · exact Or.inr hx
      rw [q239]
      simp (disch := first | omega | exact tl_l | exact tT_len | (simp only [List.length_cons, List.length_nil])) only [e239_0, e239_1, e239_2, e239_5, e239_6, e239_7, e239_8, e239_11, e239_12, e239_13, e239_16, e239_19, e239_20, e239_21, e239_22, e239_23, e239_26, e239_29, e239_30, e239_32, e239_33, e239_36, e239_39, e239_40, e239_43, e239_44, e239_45, e239_46, e239_47, e239_48, e239_51, e239_52, e239_55, e239_56, e239_59, e239_62, e239_63, e239_66, e239_69, e239_71, e239_74, e239_75, e239_78, kv_s, kh_s, kr_s, kr_v, kn_s, z0, z1, z2, nI_ltI, nI_leI, nI_eq, nI_add, oN, bz0, bz1, bw0, bw1, ltT, ltF, leT, leF, eqT, eqF, if_true, if_false, kI_n, wI_n, and_true, true_and, and_false, false_and, not_true, not_false_eq_true, mwo, mwr_0, mwr_1, mwr_2, mwg_3, mwp_3, mwr_4, mwg_5, mwp_5, mwg_6, mwp_6, mwr_7, mwr_8, mwg_9, mwp_9, mwg_10, mwp_10, mwg_11, mwp_11, mwr_12, mwg_13, mwp_13, mwr_14, mwr_15, mwr_16, mwr_17, mwr_18, mwr_19, mwg_20, mwp_20, mwr_21, mwr_22, mwr_23, mwa_1, mwu_1, mwa_2, mwu_2, mwa_3, mwu_3, mwa_4, mwu_4, mwa_5, mwu_5, mwa_6, mwu_6, mwa_7, mwu_7, mwa_8, mwu_8, mwa_9, mwu_9, mwa_10, mwu_10, mwa_11, mwu_11, mwa_12, mwu_12, mwa_13, mwu_13, mwa_14, mwu_14, mwa_15, mwu_15, mwa_16, mwu_16, vu_at, vu_ne, pk_us, pk_un, kB_n, wB_n, kL_n, wL_n, M_keys hN, pk_sub, M_in0 hx']
