/-! calls: puts, moves, swaps, clears, back -/
/-- what a put makes -/
def putF (z : Hs) (a b : Nat) : Int32 × Hs := if a < 2 ^ z.1 ∧ b ≤ 999 then mkF z (upd (z.2.2.2 z.2.2.1) a (nI b)) (-nI 5) (-nI 2) else (-nI 1, z)
def movF (z : Hs) (a b : Nat) : Int32 × Hs := if a < 2 ^ z.1 ∧ b < 2 ^ z.1 ∧ a ≠ b then (if z.2.2.2 z.2.2.1 a = nI 0 then (-nI 2, z) else if nI 0 < z.2.2.2 z.2.2.1 b then (-nI 3, z) else mkF z (xch (z.2.2.2 z.2.2.1) a b) (-nI 5) (-nI 2)) else (-nI 1, z)
def swpF (z : Hs) (a b : Nat) : Int32 × Hs := if a < 2 ^ z.1 ∧ b < 2 ^ z.1 ∧ a ≠ b then mkF z (xch (z.2.2.2 z.2.2.1) a b) (-nI 5) (-nI 2) else (-nI 1, z)
def clrF (z : Hs) (a b : Nat) : Int32 × Hs := if a ≤ b ∧ b < 2 ^ z.1 then mkF z (clr (z.2.2.2 z.2.2.1) a (b + 1)) (-nI 5) (-nI 2) else (-nI 1, z)
def bckF (z : Hs) (v : Nat) : Int32 × Hs := if z.2.1 ≤ v ∧ v ≤ z.2.2.1 then mkF z (z.2.2.2 v) (-nI 5) (-nI 2) else (-nI 1, z)
/-- an act of the class: its answer, and what it makes -/
def CA (c : Nat) (X : Nat) (as : List Value) (σ : Hp) (A : Nat → Nat → Int32) (R : Nat → Int64) (I : Nat → Int32) (K : Nat → Option Hs) (r : Int32 × Hs) : Prop := ∃ ρ, dcall X as (cw σ c A R I) = some (some (.int r.1), cw ρ c A R I) ∧ BC c ρ r.2 K ∧ afar c σ ρ
/-- an act of the reference -/
def RA (m : Nat) (X : Nat) (as : List Value) (σ : Hp) (A : Nat → Nat → Int32) (R : Nat → Int64) (I : Nat → Int32) (r : Int32 × Hs) : Prop := ∃ A', dcall X as (mw σ m A R I) = some (some (.int r.1), mw σ m A' R I) ∧ nowM (A' 1) r.2.1 r.2.2.1 r.2.2.2.1 r.2.2.2.2 ∧ ∀ k, k ≠ 1 → k ≠ 8 → A' k = A k
section AD
variable {c : Nat} {σ τ : Hp} {m : Nat} {A : Nat → Nat → Int32} {R : Nat → Int64} {I : Nat → Int32} {z : Hs} {K : Nat → Option Hs} {W N : Nat → Int32} {x y : Int32}
theorem BC.rb (h : BC c σ z K) : ∃ T, RB c σ T z.1 z.2.1 z.2.2.1 z.2.2.2 := by
  obtain ⟨T, S, Ts, b, _⟩ := h
  exact ⟨T, b⟩
theorem BC.dr (h : BC c σ z K) : ∃ d W, isT σ (c + 12) d W := by
  obtain ⟨T, S, Ts, _, _, b, _⟩ := h
  exact b
/-- the draft is the latest -/
theorem C_new (h : BC c σ z K) : ∃ T t τ, RB c σ T z.1 z.2.1 z.2.2.1 z.2.2.2 ∧ (∀ {A R I}, dcall 43 [.ref (c + 9)] (cw σ c A R I) = some (some (.ref t), cw σ c A R I)) ∧ (∀ {A R I}, isT (cw σ c A R I) t z.1 (z.2.2.2 z.2.2.1)) ∧ (t = c + 19 ∨ c + 42 ≤ t) ∧ dcall 17 [.ref (c + 12), .ref t] (cw σ c A R I) = some (none, cw τ c A R I) ∧ dft c σ τ z.1 (z.2.2.2 z.2.2.1) ∧ RB c τ T z.1 z.2.1 z.2.2.1 z.2.2.2 ∧ BC c τ z K ∧ ∀ {A R I}, isT (cw τ c A R I) t z.1 (z.2.2.2 z.2.2.1) := by
  obtain ⟨T, hb⟩ := h.rb
  obtain ⟨d0, W0, hd⟩ := h.dr
  have hfl := hb.fl
  obtain ⟨t, t1, t2⟩ := hb.t (v := z.2.2.1) hfl.1 (Nat.le_refl _)
  have far := (hb.far (Nat.mod_lt _ (by omega)) t1).1
  obtain ⟨τ, e1, e2⟩ := D_take hd (t2 (A := A) (R := R) (I := I)) far
  obtain ⟨t', t1', t2'⟩ := (hb.dft e2).t (v := z.2.2.1) hfl.1 (Nat.le_refl _)
  have : t' = t := by rw [t1] at t1'; cases t1'; rfl
  subst this
  exact ⟨T, t', τ, hb, fun {A R I} => Hi_newest_is hb.hi (by omega) t1, t2, far, e1, e2, hb.dft e2, h.dft e2, t2'⟩
theorem M_mk (h : nowM (A 1) z.1 z.2.1 z.2.2.1 z.2.2.2) (hl : z.2.2.1 + 1 < 2 ^ 30) (hW : ∀ k, k < 256 → A 8 k = W k) (h40 : un z.1 W 1 ≤ 40) (hne : un z.1 (dl W (z.2.2.2 z.2.2.1)) 1 ≠ 0) : RA m 170 [.ref m] σ A R I (mkF z W x y) := by
  obtain ⟨N, e1, e2⟩ := M_makes (σ := σ) (m := m) (R := R) (I := I) h hl hW
  unfold mkF
  rw [if_neg (by omega), if_neg hne]
  exact ⟨va_up A 1 N, e1, by rw [vu_at]; exact e2, fun k h1 h2 => vu_ne h1⟩
theorem RA.of {X X' : Nat} {as as' : List Value} {r : Int32 × Hs} {A' : Nat → Nat → Int32} (h : RA m X as σ A' R I r) (hA : ∀ k, k ≠ 1 → k ≠ 8 → A' k = A k) (e : dcall X' as' (mw σ m A R I) = dcall X as (mw σ m A' R I)) : RA m X' as' σ A R I r := by
  obtain ⟨A'', e1, e2, e3⟩ := h
  exact ⟨A'', e.trans e1, e2, fun k h1 h2 => (e3 k h1 h2).trans (hA k h1 h2)⟩
/-- how the reference ends where a version might be the same -/
theorem M_mk2 (h : nowM (A 1) z.1 z.2.1 z.2.2.1 z.2.2.2) (ok : okH z) (hl : z.2.2.1 + 1 < 2 ^ 30) (hW : ∀ k, k < 256 → A 8 k = W k) (h0 : zer z.1 W) (h40 : un z.1 W 1 ≤ 40) : dcall 166 [.ref m] (mw σ m A R I) = some (some (.int (if un z.1 (dl W (z.2.2.2 z.2.2.1)) 1 = 0 then nI 1 else nI 0)), mw σ m A R I) ∧ (un z.1 (dl W (z.2.2.2 z.2.2.1)) 1 = 0 → mkF z W x y = (y, z)) ∧ (un z.1 (dl W (z.2.2.2 z.2.2.1)) 1 ≠ 0 → RA m 170 [.ref m] σ A R I (mkF z W x y)) := by
  have hK := h.K
  refine ⟨M_isNow h hW h0 (ok _ hK.2.2.2.1 (Nat.le_refl _)).2.2, fun hz => ?_, fun hz => M_mk h hl hW h40 hz⟩
  unfold mkF
  rw [if_neg (by omega), if_pos hz]
theorem C_puts (h : BC c σ z K) (hl : z.2.2.1 + 1 < 2 ^ 30) {a b : Nat} (ha : a < 2 ^ 31) (hb' : b < 2 ^ 31) : CA c 115 [.ref c, .int (nI a), .int (nI b)] σ A R I K (putF z a b) := by
  obtain ⟨T, t, τ, hb, n1, t2, far, k1, D1, hb1, hc1, t3⟩ := C_new (A := A) (R := R) (I := I) h
  have hK := hb.K
  have hd := hb.d8
  have hk := isK_nat (a := a) hd ha
  unfold putF
  by_cases h1 : a < 2 ^ z.1
  · rw [decide_eq_true h1] at hk
    by_cases h2 : b ≤ 999
    · rw [if_pos ⟨h1, h2⟩]
      obtain ⟨τ2, k2, D2⟩ := D_place (A := A) (R := R) (I := I) D1.2.2 h1 (nI b)
      obtain ⟨ρ, s1, s2, s3⟩ := A_settle (A := A) (R := R) (I := I) (hc1.dft D2) D2.2.2 hl (x := -nI 5) (y := -nI 2)
      refine ⟨ρ, ?_, s2, (D1.tr D2).afar.tr s3⟩
      have h := hb
      have o1 := (D1.2.2.dcw (A := A) (R := R) (I := I)).o
      have o0 := h
      obtain ⟨d0, W0, hdr⟩ := hc1.dr
      have hB := hb.dft (D1.tr D2)
      have hdo : hObj (cw σ c A R I) (c + 12) = some 5 := by
        obtain ⟨T', S, Ts, _, _, ⟨dd, Wd, b4⟩, _⟩ := ‹BC c σ z K›
        exact (b4.dcw (A := A) (R := R) (I := I)).o
      rw [q115]
      simp (disch := first | omega | exact tl_l | exact tT_len | (simp only [List.length_cons, List.length_nil])) only [e115_0, e115_1, e115_4, e115_5, e115_8, e115_11, e115_12, e115_15, e115_16, e115_19, e115_22, e115_23, e115_24, e115_25, e115_28, e115_29, e115_32, e115_35, e115_38, e115_39, e115_42, e115_43, e115_44, e115_47, e115_48, e115_50, e115_52, e115_55, kv_s, kh_s, kr_s, kr_v, kn_s, z0, z1, z2, nI_ltI, nI_leI, nI_eq, nI_add, oN, bz0, bz1, bw0, bw1, ltT, ltF, leT, leF, eqT, eqF, if_true, if_false, kI_n, wI_n, and_true, true_and, and_false, false_and, not_true, not_false_eq_true, cwo_1, cwr_1, cwg_0, cwg_1, cwg_2, cwa_0, cwl_0, cwo_3, cwr_3, cwg_3, cwa_R, cwl_R, cwo_5, cwr_5, cwg_4, cwg_5, cwg_6, cwg_7, cwg_8, cwa_1, cwl_1, cwo_7, cwr_7, cwg_9, cwg_10, cwg_11, cwg_12, cwg_13, cwa_2, cwl_2, cwo_17, cwr_17, cwg_14, cwa_3, cwl_3, cwp_0, cwp_1, cwp_2, cwp_3, cwp_4, cwp_5, cwp_6, cwp_7, cwp_8, cwp_9, cwp_10, cwp_11, cwp_12, cwp_13, cwp_14, cwu_0, cwu_R, cwu_1, cwu_2, cwu_3, vu_at, vu_ne, pk_us, pk_un, h.x.f0, h.x.f1, h.x.f2, h.x.f3, h.x.f4, h.x.f5, h.x.f6, h.x.f7, h.x.o, h.hi.o, h.hi.gd, h.hi.gf, h.hi.gl, Hi_keys h.hi h.d8, Hi_hasKey h.hi h.d8, Rw_empty, Rw_add, List.nil_append, List.cons_append, upd_upd, cwo_1, cwo_3, cwo_5, cwo_7, cwo_17, Bool.false_eq_true, n01, hk, z999, z5, h2, n1, hdo, k1, hb1.x.f0, hb1.x.f1, hb1.x.f2, hb1.x.f3, hb1.x.f4, hb1.x.f5, hb1.x.f6, hb1.x.f7, hb1.x.o, hb1.hi.o, hb1.hi.gd, hb1.hi.gf, hb1.hi.gl, Hi_keys hb1.hi hb1.d8, Hi_hasKey hb1.hi hb1.d8, o1, k2, hB.x.f0, hB.x.f1, hB.x.f2, hB.x.f3, hB.x.f4, hB.x.f5, hB.x.f6, hB.x.f7, hB.x.o, hB.hi.o, hB.hi.gd, hB.hi.gf, hB.hi.gl, Hi_keys hB.hi hB.d8, Hi_hasKey hB.hi hB.d8, s1]
    · rw [if_neg (fun z => h2 z.2)]
      refine ⟨σ, ?_, h, afar.rf⟩
      have h3 : 999 < b := by omega
      have h := hb
      rw [q115]
      simp (disch := first | omega | exact tl_l | exact tT_len | (simp only [List.length_cons, List.length_nil])) only [e115_0, e115_1, e115_4, e115_5, e115_8, e115_11, e115_12, e115_15, e115_16, e115_19, e115_22, e115_23, e115_24, e115_25, e115_28, e115_29, e115_32, e115_35, e115_38, e115_39, e115_42, e115_43, e115_44, e115_47, e115_48, e115_50, e115_52, e115_55, kv_s, kh_s, kr_s, kr_v, kn_s, z0, z1, z2, nI_ltI, nI_leI, nI_eq, nI_add, oN, bz0, bz1, bw0, bw1, ltT, ltF, leT, leF, eqT, eqF, if_true, if_false, kI_n, wI_n, and_true, true_and, and_false, false_and, not_true, not_false_eq_true, cwo_1, cwr_1, cwg_0, cwg_1, cwg_2, cwa_0, cwl_0, cwo_3, cwr_3, cwg_3, cwa_R, cwl_R, cwo_5, cwr_5, cwg_4, cwg_5, cwg_6, cwg_7, cwg_8, cwa_1, cwl_1, cwo_7, cwr_7, cwg_9, cwg_10, cwg_11, cwg_12, cwg_13, cwa_2, cwl_2, cwo_17, cwr_17, cwg_14, cwa_3, cwl_3, cwp_0, cwp_1, cwp_2, cwp_3, cwp_4, cwp_5, cwp_6, cwp_7, cwp_8, cwp_9, cwp_10, cwp_11, cwp_12, cwp_13, cwp_14, cwu_0, cwu_R, cwu_1, cwu_2, cwu_3, vu_at, vu_ne, pk_us, pk_un, h.x.f0, h.x.f1, h.x.f2, h.x.f3, h.x.f4, h.x.f5, h.x.f6, h.x.f7, h.x.o, h.hi.o, h.hi.gd, h.hi.gf, h.hi.gl, Hi_keys h.hi h.d8, Hi_hasKey h.hi h.d8, Rw_empty, Rw_add, List.nil_append, List.cons_append, upd_upd, cwo_1, cwo_3, cwo_5, cwo_7, cwo_17, Bool.false_eq_true, n01, hk, z999, h3]
  · rw [if_neg (fun z => h1 z.1)]
    rw [decide_eq_false h1] at hk
    refine ⟨σ, ?_, h, afar.rf⟩
    have h := hb
    rw [q115]
    simp (disch := first | omega | exact tl_l | exact tT_len | (simp only [List.length_cons, List.length_nil])) only [e115_0, e115_1, e115_4, e115_5, e115_8, e115_11, e115_12, e115_15, e115_16, e115_19, e115_22, e115_23, e115_24, e115_25, e115_28, e115_29, e115_32, e115_35, e115_38, e115_39, e115_42, e115_43, e115_44, e115_47, e115_48, e115_50, e115_52, e115_55, kv_s, kh_s, kr_s, kr_v, kn_s, z0, z1, z2, nI_ltI, nI_leI, nI_eq, nI_add, oN, bz0, bz1, bw0, bw1, ltT, ltF, leT, leF, eqT, eqF, if_true, if_false, kI_n, wI_n, and_true, true_and, and_false, false_and, not_true, not_false_eq_true, cwo_1, cwr_1, cwg_0, cwg_1, cwg_2, cwa_0, cwl_0, cwo_3, cwr_3, cwg_3, cwa_R, cwl_R, cwo_5, cwr_5, cwg_4, cwg_5, cwg_6, cwg_7, cwg_8, cwa_1, cwl_1, cwo_7, cwr_7, cwg_9, cwg_10, cwg_11, cwg_12, cwg_13, cwa_2, cwl_2, cwo_17, cwr_17, cwg_14, cwa_3, cwl_3, cwp_0, cwp_1, cwp_2, cwp_3, cwp_4, cwp_5, cwp_6, cwp_7, cwp_8, cwp_9, cwp_10, cwp_11, cwp_12, cwp_13, cwp_14, cwu_0, cwu_R, cwu_1, cwu_2, cwu_3, vu_at, vu_ne, pk_us, pk_un, h.x.f0, h.x.f1, h.x.f2, h.x.f3, h.x.f4, h.x.f5, h.x.f6, h.x.f7, h.x.o, h.hi.o, h.hi.gd, h.hi.gf, h.hi.gl, Hi_keys h.hi h.d8, Hi_hasKey h.hi h.d8, Rw_empty, Rw_add, List.nil_append, List.cons_append, upd_upd, cwo_1, cwo_3, cwo_5, cwo_7, cwo_17, Bool.false_eq_true, n01, hk]
theorem M_goPut (h : nowM (A 1) z.1 z.2.1 z.2.2.1 z.2.2.2) (ok : okH z) (hl : z.2.2.1 + 1 < 2 ^ 30) {a b : Nat} (ha : a < 2 ^ 31) (hb' : b < 2 ^ 31) : RA m 230 [.ref m, .int (nI a), .int (nI b)] σ A R I (putF z a b) := by
  have hK := h.K
  have hk := isK_nat (a := a) hK.2.2.1 ha
  have okl := ok _ hK.2.2.2.1 (Nat.le_refl _)
  unfold putF
  by_cases h1 : a < 2 ^ z.1
  · rw [decide_eq_true h1] at hk
    by_cases h2 : b ≤ 999
    · rw [if_pos ⟨h1, h2⟩]
      obtain ⟨N, n1, n2⟩ := M_layNext (σ := σ) (m := m) (R := R) (I := I) h hK.2.2.2.1 (Nat.le_refl z.2.2.1)
      have na := n2 a (by omega)
      by_cases h3 : z.2.2.2 z.2.2.1 a = nI b
      · have e : mkF z (upd (z.2.2.2 z.2.2.1) a (nI b)) (-nI 5) (-nI 2) = (-nI 2, z) := by
          unfold mkF
          rw [← h3, upd_id rfl, if_neg (by omega), if_pos (un_same fun _ _ => rfl)]
        rw [e]
        refine ⟨va_up A 8 N, ?_, by rw [vu_ne (by omega)]; exact h, fun k q1 q2 => vu_ne q2⟩
        have na' : N a = nI b := na.trans h3
        rw [q230]
        simp (disch := first | omega | exact tl_l | exact tT_len | (simp only [List.length_cons, List.length_nil])) only [e230_0, e230_1, e230_2, e230_5, e230_8, e230_9, e230_10, e230_13, e230_16, e230_19, e230_20, e230_21, e230_22, e230_23, e230_26, e230_29, e230_30, e230_33, e230_34, e230_35, e230_36, e230_39, e230_41, e230_42, e230_43, e230_46, e230_47, e230_48, e230_49, e230_50, e230_53, e230_55, e230_58, e230_60, e230_63, e230_64, e230_67, kv_s, kh_s, kr_s, kr_v, kn_s, z0, z1, z2, nI_ltI, nI_leI, nI_eq, nI_add, oN, bz0, bz1, bw0, bw1, ltT, ltF, leT, leF, eqT, eqF, if_true, if_false, kI_n, wI_n, and_true, true_and, and_false, false_and, not_true, not_false_eq_true, mwo, mwr_0, mwr_1, mwr_2, mwg_3, mwp_3, mwr_4, mwg_5, mwp_5, mwg_6, mwp_6, mwr_7, mwr_8, mwg_9, mwp_9, mwg_10, mwp_10, mwg_11, mwp_11, mwr_12, mwg_13, mwp_13, mwr_14, mwr_15, mwr_16, mwr_17, mwr_18, mwr_19, mwg_20, mwp_20, mwr_21, mwr_22, mwr_23, mwa_1, mwu_1, mwa_2, mwu_2, mwa_3, mwu_3, mwa_4, mwu_4, mwa_5, mwu_5, mwa_6, mwu_6, mwa_7, mwu_7, mwa_8, mwu_8, mwa_9, mwu_9, mwa_10, mwu_10, mwa_11, mwu_11, mwa_12, mwu_12, mwa_13, mwu_13, mwa_14, mwu_14, mwa_15, mwu_15, mwa_16, mwu_16, vu_at, vu_ne, pk_us, pk_un, kB_n, wB_n, kL_n, wL_n, mwo, M_isKey h, hk, n01, z999, M_in1, M_latest h, n1, na']
      · have na' : ¬ N a = nI b := fun z => h3 (na.symm.trans z)
        have g1 : nowM (va_up A 8 (upd N a (nI b)) 1) z.1 z.2.1 z.2.2.1 z.2.2.2 := by rw [vu_ne (by omega)]; exact h
        have hW : ∀ k, k < 256 → va_up A 8 (upd N a (nI b)) 8 k = upd (z.2.2.2 z.2.2.1) a (nI b) k := fun k hk => by
          rw [vu_at]
          by_cases hka : k = a
          · subst hka; rw [pk_us, pk_us]
          · rw [pk_un hka, pk_un hka]; exact n2 k hk
        have z1' : zer z.1 (upd (z.2.2.2 z.2.2.1) a (nI b)) := zer.up (show zer z.1 (z.2.2.2 z.2.2.1) from okl.2.2) h1
        have hm := M_nextMany (σ := σ) (m := m) (A := va_up A 8 (upd N a (nI b))) (R := R) (I := I) hK.2.2.1 hW z1'
        have hu := un_le hK.2.2.1 (upd (z.2.2.2 z.2.2.1) a (nI b)) 1
        by_cases h4 : 40 < un z.1 (upd (z.2.2.2 z.2.2.1) a (nI b)) 1
        · have e : mkF z (upd (z.2.2.2 z.2.2.1) a (nI b)) (-nI 5) (-nI 2) = (-nI 5, z) := by
            unfold mkF
            rw [if_pos h4]
          rw [e]
          refine ⟨va_up A 8 (upd N a (nI b)), ?_, g1, fun k q1 q2 => vu_ne q2⟩
          rw [q230]
          simp (disch := first | omega | exact tl_l | exact tT_len | (simp only [List.length_cons, List.length_nil])) only [e230_0, e230_1, e230_2, e230_5, e230_8, e230_9, e230_10, e230_13, e230_16, e230_19, e230_20, e230_21, e230_22, e230_23, e230_26, e230_29, e230_30, e230_33, e230_34, e230_35, e230_36, e230_39, e230_41, e230_42, e230_43, e230_46, e230_47, e230_48, e230_49, e230_50, e230_53, e230_55, e230_58, e230_60, e230_63, e230_64, e230_67, kv_s, kh_s, kr_s, kr_v, kn_s, z0, z1, z2, nI_ltI, nI_leI, nI_eq, nI_add, oN, bz0, bz1, bw0, bw1, ltT, ltF, leT, leF, eqT, eqF, if_true, if_false, kI_n, wI_n, and_true, true_and, and_false, false_and, not_true, not_false_eq_true, mwo, mwr_0, mwr_1, mwr_2, mwg_3, mwp_3, mwr_4, mwg_5, mwp_5, mwg_6, mwp_6, mwr_7, mwr_8, mwg_9, mwp_9, mwg_10, mwp_10, mwg_11, mwp_11, mwr_12, mwg_13, mwp_13, mwr_14, mwr_15, mwr_16, mwr_17, mwr_18, mwr_19, mwg_20, mwp_20, mwr_21, mwr_22, mwr_23, mwa_1, mwu_1, mwa_2, mwu_2, mwa_3, mwu_3, mwa_4, mwu_4, mwa_5, mwu_5, mwa_6, mwu_6, mwa_7, mwu_7, mwa_8, mwu_8, mwa_9, mwu_9, mwa_10, mwu_10, mwa_11, mwu_11, mwa_12, mwu_12, mwa_13, mwu_13, mwa_14, mwu_14, mwa_15, mwu_15, mwa_16, mwu_16, vu_at, vu_ne, pk_us, pk_un, kB_n, wB_n, kL_n, wL_n, M_isKey h, hk, n01, z999, M_in1, M_latest h, n1, na', vu_vu, hm, z40, z5, h4]
        · have hne : un z.1 (dl (upd (z.2.2.2 z.2.2.1) a (nI b)) (z.2.2.2 z.2.2.1)) 1 ≠ 0 := un_other (k := a) h1 (by rw [pk_us]; exact fun z => h3 z.symm)
          have hmk := M_mk (σ := σ) (m := m) (R := R) (I := I) (x := -nI 5) (y := -nI 2) g1 hl hW (by omega) hne
          refine hmk.of (fun k q1 q2 => vu_ne q2) ?_
          obtain ⟨A'', f1, _⟩ := hmk
          rw [f1]
          rw [q230]
          simp (disch := first | omega | exact tl_l | exact tT_len | (simp only [List.length_cons, List.length_nil])) only [e230_0, e230_1, e230_2, e230_5, e230_8, e230_9, e230_10, e230_13, e230_16, e230_19, e230_20, e230_21, e230_22, e230_23, e230_26, e230_29, e230_30, e230_33, e230_34, e230_35, e230_36, e230_39, e230_41, e230_42, e230_43, e230_46, e230_47, e230_48, e230_49, e230_50, e230_53, e230_55, e230_58, e230_60, e230_63, e230_64, e230_67, kv_s, kh_s, kr_s, kr_v, kn_s, z0, z1, z2, nI_ltI, nI_leI, nI_eq, nI_add, oN, bz0, bz1, bw0, bw1, ltT, ltF, leT, leF, eqT, eqF, if_true, if_false, kI_n, wI_n, and_true, true_and, and_false, false_and, not_true, not_false_eq_true, mwo, mwr_0, mwr_1, mwr_2, mwg_3, mwp_3, mwr_4, mwg_5, mwp_5, mwg_6, mwp_6, mwr_7, mwr_8, mwg_9, mwp_9, mwg_10, mwp_10, mwg_11, mwp_11, mwr_12, mwg_13, mwp_13, mwr_14, mwr_15, mwr_16, mwr_17, mwr_18, mwr_19, mwg_20, mwp_20, mwr_21, mwr_22, mwr_23, mwa_1, mwu_1, mwa_2, mwu_2, mwa_3, mwu_3, mwa_4, mwu_4, mwa_5, mwu_5, mwa_6, mwu_6, mwa_7, mwu_7, mwa_8, mwu_8, mwa_9, mwu_9, mwa_10, mwu_10, mwa_11, mwu_11, mwa_12, mwu_12, mwa_13, mwu_13, mwa_14, mwu_14, mwa_15, mwu_15, mwa_16, mwu_16, vu_at, vu_ne, pk_us, pk_un, kB_n, wB_n, kL_n, wL_n, M_isKey h, hk, n01, z999, M_in1, M_latest h, n1, na', vu_vu, hm, z40, h4, f1]
    · rw [if_neg (fun z => h2 z.2)]
      refine ⟨A, ?_, h, fun _ _ _ => rfl⟩
      have h3 : nI 999 < nI b := (nI_ltI (by omega) hb').mpr (by omega)
      rw [q230]
      simp (disch := first | omega | exact tl_l | exact tT_len | (simp only [List.length_cons, List.length_nil])) only [e230_0, e230_1, e230_2, e230_5, e230_8, e230_9, e230_10, e230_13, e230_16, e230_19, e230_20, e230_21, e230_22, e230_23, e230_26, e230_29, e230_30, e230_33, e230_34, e230_35, e230_36, e230_39, e230_41, e230_42, e230_43, e230_46, e230_47, e230_48, e230_49, e230_50, e230_53, e230_55, e230_58, e230_60, e230_63, e230_64, e230_67, kv_s, kh_s, kr_s, kr_v, kn_s, z0, z1, z2, nI_ltI, nI_leI, nI_eq, nI_add, oN, bz0, bz1, bw0, bw1, ltT, ltF, leT, leF, eqT, eqF, if_true, if_false, kI_n, wI_n, and_true, true_and, and_false, false_and, not_true, not_false_eq_true, mwo, mwr_0, mwr_1, mwr_2, mwg_3, mwp_3, mwr_4, mwg_5, mwp_5, mwg_6, mwp_6, mwr_7, mwr_8, mwg_9, mwp_9, mwg_10, mwp_10, mwg_11, mwp_11, mwr_12, mwg_13, mwp_13, mwr_14, mwr_15, mwr_16, mwr_17, mwr_18, mwr_19, mwg_20, mwp_20, mwr_21, mwr_22, mwr_23, mwa_1, mwu_1, mwa_2, mwu_2, mwa_3, mwu_3, mwa_4, mwu_4, mwa_5, mwu_5, mwa_6, mwu_6, mwa_7, mwu_7, mwa_8, mwu_8, mwa_9, mwu_9, mwa_10, mwu_10, mwa_11, mwu_11, mwa_12, mwu_12, mwa_13, mwu_13, mwa_14, mwu_14, mwa_15, mwu_15, mwa_16, mwu_16, vu_at, vu_ne, pk_us, pk_un, kB_n, wB_n, kL_n, wL_n, mwo, M_isKey h, hk, n01, z999, M_in0 (x := nI b) (y := nI 0) (z := nI 999) (Or.inr h3)]
  · rw [if_neg (fun z => h1 z.1)]
    rw [decide_eq_false h1] at hk
    refine ⟨A, ?_, h, fun _ _ _ => rfl⟩
    rw [q230]
    simp (disch := first | omega | exact tl_l | exact tT_len | (simp only [List.length_cons, List.length_nil])) only [e230_0, e230_1, e230_2, e230_5, e230_8, e230_9, e230_10, e230_13, e230_16, e230_19, e230_20, e230_21, e230_22, e230_23, e230_26, e230_29, e230_30, e230_33, e230_34, e230_35, e230_36, e230_39, e230_41, e230_42, e230_43, e230_46, e230_47, e230_48, e230_49, e230_50, e230_53, e230_55, e230_58, e230_60, e230_63, e230_64, e230_67, kv_s, kh_s, kr_s, kr_v, kn_s, z0, z1, z2, nI_ltI, nI_leI, nI_eq, nI_add, oN, bz0, bz1, bw0, bw1, ltT, ltF, leT, leF, eqT, eqF, if_true, if_false, kI_n, wI_n, and_true, true_and, and_false, false_and, not_true, not_false_eq_true, mwo, mwr_0, mwr_1, mwr_2, mwg_3, mwp_3, mwr_4, mwg_5, mwp_5, mwg_6, mwp_6, mwr_7, mwr_8, mwg_9, mwp_9, mwg_10, mwp_10, mwg_11, mwp_11, mwr_12, mwg_13, mwp_13, mwr_14, mwr_15, mwr_16, mwr_17, mwr_18, mwr_19, mwg_20, mwp_20, mwr_21, mwr_22, mwr_23, mwa_1, mwu_1, mwa_2, mwu_2, mwa_3, mwu_3, mwa_4, mwu_4, mwa_5, mwu_5, mwa_6, mwu_6, mwa_7, mwu_7, mwa_8, mwu_8, mwa_9, mwu_9, mwa_10, mwu_10, mwa_11, mwu_11, mwa_12, mwu_12, mwa_13, mwu_13, mwa_14, mwu_14, mwa_15, mwu_15, mwa_16, mwu_16, vu_at, vu_ne, pk_us, pk_un, kB_n, wB_n, kL_n, wL_n, mwo, M_isKey h, hk, Bool.false_eq_true]
end AD
