/-! reading pairs: what is read, and the class's reading -/
def rp (n : Nat) (B : Nat → Nat) (K : Nat) (z : Bool) (L : List Nat) (p : Nat) : Nat ⊕ ((Nat × Nat) × Nat) := match rk n B K L p with
  | .inl q => .inl q
  | .inr r => if r.2 < n ∧ B r.2 = 61 then (match nm n B 3 (r.2 + 1) with
    | .inl q => .inl q
    | .inr s => if s.1 = 0 ∧ z = false then .inl (s.2 - 1) else .inr ((r.1, s.1), s.2)) else .inl r.2
theorem rp_bd {n : Nat} {B : Nat → Nat} {K p : Nat} {z : Bool} {L : List Nat} (hp : p ≤ n) : (∀ q, rp n B K z L p = .inl q → q ≤ n) ∧ ∀ s, rp n B K z L p = .inr s → p < s.2 ∧ s.2 ≤ n ∧ s.1.1 < K ∧ ¬ s.1.1 ∈ L ∧ s.1.2 ≤ 999 ∧ (z = false → s.1.2 ≠ 0) := by
  obtain ⟨g1, g2⟩ := rk_bd (n := n) (B := B) (K := K) (L := L) hp
  unfold rp
  cases h : rk n B K L p with
  | inl q => exact ⟨fun q hq => by cases hq; exact g1 _ h, fun r hr => by cases hr⟩
  | inr r =>
    obtain ⟨b1, b2, b3, b4⟩ := g2 r h
    by_cases hc : r.2 < n ∧ B r.2 = 61
    · simp only [hc, and_self, if_true]
      obtain ⟨d1, d2⟩ := nm_bd (n := n) (B := B) (m := 3) (show r.2 + 1 ≤ n by omega)
      cases h2 : nm n B 3 (r.2 + 1) with
      | inl q => exact ⟨fun q hq => by cases hq; exact d1 _ h2, fun r hr => by cases hr⟩
      | inr s =>
        obtain ⟨e1, e2, e3⟩ := d2 s h2
        by_cases hz : s.1 = 0 ∧ z = false
        · simp only [hz, and_self, if_true]
          exact ⟨fun q hq => by cases hq; omega, fun r hr => by cases hr⟩
        · simp only [hz, if_false]
          refine ⟨fun q hq => (by cases hq), fun s' hs => ?_⟩
          cases hs
          exact ⟨by show p < s.2; omega, e2, b3, b4, by show s.1 ≤ 999; omega, fun hz2 e => hz ⟨e, hz2⟩⟩
    · simp only [hc, if_false]
      exact ⟨fun q hq => by cases hq; exact b2, fun r hr => by cases hr⟩
section PA
variable {c : Nat} {σ τ : Hp} {d dp f l : Nat} {V : Nat → Nat → Int32} {T : Nat → Option Nat} {A : Nat → Nat → Int32} {R : Nat → Int64} {I : Nat → Int32} {n : Nat} {B : Nat → Nat} {p q : Nat} {e : Option Nat} {W : Nat → Int32}
theorem dft.rf (h : isT σ (c + 12) d W) : dft c σ σ d W := ⟨fun _ _ => rfl, rfl, h⟩
theorem D_any (h : isT σ (c + 12) d W) {k : Nat} (hk : k < 2 ^ 31) (v : Int32) : ∃ τ W', dcall 38 [.ref (c + 12), .int (nI k), .int v] (cw σ c A R I) = some (none, cw τ c A R I) ∧ dft c σ τ d W' := by
  by_cases hd : k < 2 ^ d
  · obtain ⟨τ, e1, e2⟩ := D_place (A := A) (R := R) (I := I) h hd v
    exact ⟨τ, _, e1, e2⟩
  · exact ⟨σ, W, T_place_out h.dcw (by omega) hk, dft.rf h⟩
theorem P48 (h : RB c σ T dp f l V) (hT : isT σ (c + 12) d W) {k : Nat} (hk : k < 2 ^ 31) {z v : Value} {x : Int32} : ∃ τ W', den 32 48 [.ref c, z, .int (nI k), .int x] [] (cw σ c A R I) = some (none, cw τ c A R I) ∧ dft c σ τ d W' := by
  obtain ⟨τ, W', e1, e2⟩ := D_any (A := A) (R := R) (I := I) hT hk x
  refine ⟨τ, W', ?_, e2⟩
  have o1 := (hT.dcw (A := A) (R := R) (I := I)).o
  simp (disch := first | omega | exact tl_l | exact tT_len | (simp only [List.length_cons, List.length_nil])) only [e32_48, e32_49, e32_52, e32_53, e32_54, e32_57, kv_s, kh_s, kr_s, kr_v, kn_s, z0, z1, z2, nI_ltI, nI_leI, nI_eq, nI_add, oN, bz0, bz1, bw0, bw1, ltT, ltF, leT, leF, eqT, eqF, if_true, if_false, kI_n, wI_n, and_true, true_and, and_false, false_and, not_true, not_false_eq_true, h.x.f0, h.x.f1, h.x.f2, h.x.f3, h.x.f4, h.x.f5, h.x.f6, h.x.f7, h.x.o, h.hi.o, h.hi.gd, h.hi.gf, h.hi.gl, Hi_keys h.hi h.d8, Hi_hasKey h.hi h.d8, Rw_empty, Rw_add, List.nil_append, List.cons_append, upd_upd, cwo_1, cwo_3, cwo_5, cwo_7, cwo_17, Bool.false_eq_true, n01, o1, e1]
theorem P24 (h : RB c σ T dp f l V) (hT : isT σ (c + 12) d W) (hn : n ≤ 80) (hq : q ≤ n) {k : Nat} (hk : k < 2 ^ 31) {z : Bool} {x : Int32} : ∃ τ W', den 32 24 [.ref c, .int (bI z), .int (nI k), .int x] [] (cw σ c A R (ti I p (some q))) = some (none, cw τ c A R (ti I p (some q))) ∧ dft c σ τ d W' := by
  obtain ⟨τ, W', e1, e2⟩ := P48 (A := A) (R := R) (I := ti I p (some q)) h hT hk (z := .int (bI z)) (v := .null) (x := x)
  refine ⟨τ, W', ?_, e2⟩
  rw [← e1]
  by_cases hx : x = nI 0
  · cases z with
    | false => simp (disch := first | omega | exact tl_l | exact tT_len | (simp only [List.length_cons, List.length_nil])) only [e32_24, e32_25, e32_28, e32_29, e32_32, e32_33, e32_36, e32_37, e32_40, e32_43, e32_44, e32_45, kv_s, kh_s, kr_s, kr_v, kn_s, z0, z1, z2, nI_ltI, nI_leI, nI_eq, nI_add, oN, bz0, bz1, bw0, bw1, ltT, ltF, leT, leF, eqT, eqF, if_true, if_false, kI_n, wI_n, and_true, true_and, and_false, false_and, not_true, not_false_eq_true, cwo_1, cwr_1, cwg_0, cwg_1, cwg_2, cwa_0, cwl_0, cwo_3, cwr_3, cwg_3, cwa_R, cwl_R, cwo_5, cwr_5, cwg_4, cwg_5, cwg_6, cwg_7, cwg_8, cwa_1, cwl_1, cwo_7, cwr_7, cwg_9, cwg_10, cwg_11, cwg_12, cwg_13, cwa_2, cwl_2, cwo_17, cwr_17, cwg_14, cwa_3, cwl_3, cwp_0, cwp_1, cwp_2, cwp_3, cwp_4, cwp_5, cwp_6, cwp_7, cwp_8, cwp_9, cwp_10, cwp_11, cwp_12, cwp_13, cwp_14, cwu_0, cwu_R, cwu_1, cwu_2, cwu_3, vu_at, vu_ne, pk_us, pk_un, h.x.f0, h.x.f1, h.x.f2, h.x.f3, h.x.f4, h.x.f5, h.x.f6, h.x.f7, h.x.o, h.hi.o, h.hi.gd, h.hi.gf, h.hi.gl, Hi_keys h.hi h.d8, Hi_hasKey h.hi h.d8, Rw_empty, Rw_add, List.nil_append, List.cons_append, upd_upd, cwo_1, cwo_3, cwo_5, cwo_7, cwo_17, Bool.false_eq_true, n01, hx, bI, Bool.false_eq_true, ti_1, Tx_fail_some (show q < 2 ^ 31 by omega)]
    | true => simp (disch := first | omega | exact tl_l | exact tT_len | (simp only [List.length_cons, List.length_nil])) only [e32_24, e32_25, e32_28, e32_29, e32_32, e32_33, e32_36, e32_37, e32_40, e32_43, e32_44, e32_45, kv_s, kh_s, kr_s, kr_v, kn_s, z0, z1, z2, nI_ltI, nI_leI, nI_eq, nI_add, oN, bz0, bz1, bw0, bw1, ltT, ltF, leT, leF, eqT, eqF, if_true, if_false, kI_n, wI_n, and_true, true_and, and_false, false_and, not_true, not_false_eq_true, h.x.f0, h.x.f1, h.x.f2, h.x.f3, h.x.f4, h.x.f5, h.x.f6, h.x.f7, h.x.o, h.hi.o, h.hi.gd, h.hi.gf, h.hi.gl, Hi_keys h.hi h.d8, Hi_hasKey h.hi h.d8, Rw_empty, Rw_add, List.nil_append, List.cons_append, upd_upd, cwo_1, cwo_3, cwo_5, cwo_7, cwo_17, Bool.false_eq_true, n01, hx, bI, n01]
  · simp (disch := first | omega | exact tl_l | exact tT_len | (simp only [List.length_cons, List.length_nil])) only [e32_24, e32_25, e32_28, e32_29, e32_32, e32_33, e32_36, e32_37, e32_40, e32_43, e32_44, e32_45, kv_s, kh_s, kr_s, kr_v, kn_s, z0, z1, z2, nI_ltI, nI_leI, nI_eq, nI_add, oN, bz0, bz1, bw0, bw1, ltT, ltF, leT, leF, eqT, eqF, if_true, if_false, kI_n, wI_n, and_true, true_and, and_false, false_and, not_true, not_false_eq_true, h.x.f0, h.x.f1, h.x.f2, h.x.f3, h.x.f4, h.x.f5, h.x.f6, h.x.f7, h.x.o, h.hi.o, h.hi.gd, h.hi.gf, h.hi.gl, Hi_keys h.hi h.d8, Hi_hasKey h.hi h.d8, Rw_empty, Rw_add, List.nil_append, List.cons_append, upd_upd, cwo_1, cwo_3, cwo_5, cwo_7, cwo_17, Bool.false_eq_true, n01, hx]
theorem P14 (h : RB c σ T dp f l V) (hT : isT σ (c + 12) d W) (hB : isB A I n B) (hp : p ≤ n) (hq : q ≤ n) {k : Nat} (hk : k < 2 ^ 31) {z : Bool} {l3 : Value} : ∃ τ W' p', den 32 14 [.ref c, .int (bI z), .int (nI k), l3] [] (cw σ c A R (ti I p (some q))) = some (none, cw τ c A R (ti I p' (some q))) ∧ dft c σ τ d W' ∧ p' ≤ n := by
  have hn := hB.1
  obtain ⟨g1, g2, g3⟩ := dgs_bd (n := n) (B := B) 3 p 0 hp
  have hdig := Tx_digits (σ := σ) (c := c) (R := R) (e := some q) hB hp (fun r z => by cases z; omega) (m := 3) (by omega)
  have he : (if bad n B 3 p = true then (some q).or (some (dgs n B 3 p 0).2) else some q) = some q := by split <;> rfl
  rw [he] at hdig
  obtain ⟨τ, W', e1, e2⟩ := P24 (A := A) (R := R) (I := I) (p := (dgs n B 3 p 0).2) h hT hn hq hk (z := z) (x := nI (dgs n B 3 p 0).1)
  refine ⟨τ, W', _, ?_, e2, g2⟩
  rw [← e1]
  simp (disch := first | omega | exact tl_l | exact tT_len | (simp only [List.length_cons, List.length_nil])) only [e32_14, e32_15, e32_18, e32_19, e32_22, e32_23, kv_s, kh_s, kr_s, kr_v, kn_s, z0, z1, z2, nI_ltI, nI_leI, nI_eq, nI_add, oN, bz0, bz1, bw0, bw1, ltT, ltF, leT, leF, eqT, eqF, if_true, if_false, kI_n, wI_n, and_true, true_and, and_false, false_and, not_true, not_false_eq_true, h.x.f0, h.x.f1, h.x.f2, h.x.f3, h.x.f4, h.x.f5, h.x.f6, h.x.f7, h.x.o, h.hi.o, h.hi.gd, h.hi.gf, h.hi.gl, Hi_keys h.hi h.d8, Hi_hasKey h.hi h.d8, Rw_empty, Rw_add, List.nil_append, List.cons_append, upd_upd, cwo_1, cwo_3, cwo_5, cwo_7, cwo_17, Bool.false_eq_true, n01, z3, hdig, lN_i]
theorem P5 (h : RB c σ T dp f l V) (hT : isT σ (c + 12) d W) (hB : isB A I n B) (hp : p ≤ n) (hq : q ≤ n) {k : Nat} (hk : k < 2 ^ 31) {z : Bool} {l3 : Value} : ∃ τ W' p', den 32 5 [.ref c, .int (bI z), .int (nI k), l3] [] (cw σ c A R (ti I p (some q))) = some (none, cw τ c A R (ti I p' (some q))) ∧ dft c σ τ d W' ∧ p' ≤ n := by
  have hn := hB.1
  have hmu := Tx_must (σ := σ) (c := c) (R := R) (e := some q) hB hp (fun r z => by cases z; omega) (s := 61) (by omega)
  by_cases hc : p < n ∧ B p = 61
  · rw [if_pos hc] at hmu
    obtain ⟨τ, W', p', e1, e2, e3⟩ := P14 (R := R) h hT hB (show p + 1 ≤ n by omega) hq hk (z := z) (l3 := l3)
    refine ⟨τ, W', p', ?_, e2, e3⟩
    rw [← e1]
    simp (disch := first | omega | exact tl_l | exact tT_len | (simp only [List.length_cons, List.length_nil])) only [e32_5, e32_6, e32_9, e32_11, kv_s, kh_s, kr_s, kr_v, kn_s, z0, z1, z2, nI_ltI, nI_leI, nI_eq, nI_add, oN, bz0, bz1, bw0, bw1, ltT, ltF, leT, leF, eqT, eqF, if_true, if_false, kI_n, wI_n, and_true, true_and, and_false, false_and, not_true, not_false_eq_true, h.x.f0, h.x.f1, h.x.f2, h.x.f3, h.x.f4, h.x.f5, h.x.f6, h.x.f7, h.x.o, h.hi.o, h.hi.gd, h.hi.gf, h.hi.gl, Hi_keys h.hi h.d8, Hi_hasKey h.hi h.d8, Rw_empty, Rw_add, List.nil_append, List.cons_append, upd_upd, cwo_1, cwo_3, cwo_5, cwo_7, cwo_17, Bool.false_eq_true, n01, z61, hmu]
  · rw [if_neg hc] at hmu
    have hmu : dcall 30 [.ref (c + 1), .int (nI 61)] (cw σ c A R (ti I p (some q))) = some (none, cw σ c A R (ti I p (some q))) := hmu
    obtain ⟨τ, W', p', e1, e2, e3⟩ := P14 (R := R) h hT hB hp hq hk (z := z) (l3 := l3)
    refine ⟨τ, W', p', ?_, e2, e3⟩
    rw [← e1]
    simp (disch := first | omega | exact tl_l | exact tT_len | (simp only [List.length_cons, List.length_nil])) only [e32_5, e32_6, e32_9, e32_11, kv_s, kh_s, kr_s, kr_v, kn_s, z0, z1, z2, nI_ltI, nI_leI, nI_eq, nI_add, oN, bz0, bz1, bw0, bw1, ltT, ltF, leT, leF, eqT, eqF, if_true, if_false, kI_n, wI_n, and_true, true_and, and_false, false_and, not_true, not_false_eq_true, h.x.f0, h.x.f1, h.x.f2, h.x.f3, h.x.f4, h.x.f5, h.x.f6, h.x.f7, h.x.o, h.hi.o, h.hi.gd, h.hi.gf, h.hi.gl, Hi_keys h.hi h.d8, Hi_hasKey h.hi h.d8, Rw_empty, Rw_add, List.nil_append, List.cons_append, upd_upd, cwo_1, cwo_3, cwo_5, cwo_7, cwo_17, Bool.false_eq_true, n01, z61, hmu]
theorem isB.up3 (hB : isB A I n B) {F : Nat → Int32} : isB (va_up A 3 F) I n B := ⟨hB.1, hB.2.1, by rw [vu_ne (by omega)]; exact hB.2.2⟩
/-- behind a fault -/
theorem A_pair_no (h : RB c σ T dp f l V) (hd : d ≤ 8) (hT : isT σ (c + 12) d W) (hB : isB A I n B) (hI : I 14 = nI d) (hp : p ≤ n) (hq : q ≤ n) {z : Bool} : ∃ F τ W' p', dcall 32 [.ref c, .int (bI z)] (cw σ c A R (ti I p (some q))) = some (none, cw τ c (va_up A 3 F) R (ti I p' (some q))) ∧ dft c σ τ d W' ∧ p' ≤ n := by
  obtain ⟨F, v, p1, k1, k2, k3⟩ := A_key_no (R := R) h hd hB hI hp hq
  obtain ⟨τ, W', p', e1, e2, e3⟩ := P5 (R := R) h hT (hB.up3 (F := F)) k2 hq (show v < 2 ^ 31 by omega) (z := z) (l3 := junk)
  refine ⟨F, τ, W', p', ?_, e2, e3⟩
  rw [← e1]
  rw [q32]
  simp (disch := first | omega | exact tl_l | exact tT_len | (simp only [List.length_cons, List.length_nil])) only [e32_0, e32_1, e32_4, kv_s, kh_s, kr_s, kr_v, kn_s, z0, z1, z2, nI_ltI, nI_leI, nI_eq, nI_add, oN, bz0, bz1, bw0, bw1, ltT, ltF, leT, leF, eqT, eqF, if_true, if_false, kI_n, wI_n, and_true, true_and, and_false, false_and, not_true, not_false_eq_true, h.x.f0, h.x.f1, h.x.f2, h.x.f3, h.x.f4, h.x.f5, h.x.f6, h.x.f7, h.x.o, h.hi.o, h.hi.gd, h.hi.gf, h.hi.gl, Hi_keys h.hi h.d8, Hi_hasKey h.hi h.d8, Rw_empty, Rw_add, List.nil_append, List.cons_append, upd_upd, cwo_1, cwo_3, cwo_5, cwo_7, cwo_17, Bool.false_eq_true, n01, k1]
/-- a pair read -/
theorem A_pair (h : RB c σ T dp f l V) (hd : d ≤ 8) (hT : isT σ (c + 12) d W) (hB : isB A I n B) (hI : I 14 = nI d) (hp : p ≤ n) {L : List Nat} (hF : okF d (sL L) (A 3)) {z : Bool} : (∀ q, rp n B (2 ^ d) z L p = .inl q → ∃ F τ W' p', dcall 32 [.ref c, .int (bI z)] (cw σ c A R (ti I p none)) = some (none, cw τ c (va_up A 3 F) R (ti I p' (some q))) ∧ dft c σ τ d W' ∧ p' ≤ n) ∧ ∀ s, rp n B (2 ^ d) z L p = .inr s → ∃ F τ, dcall 32 [.ref c, .int (bI z)] (cw σ c A R (ti I p none)) = some (none, cw τ c (va_up A 3 F) R (ti I s.2 none)) ∧ dft c σ τ d (upd W s.1.1 (nI s.1.2)) ∧ okF d (sL (L ++ [s.1.1])) F := by
  have hn := hB.1
  have hK : 2 ^ d ≤ 256 ∧ 1 ≤ 2 ^ d := ⟨Nat.pow_le_pow_right (by omega) hd, Nat.one_le_two_pow⟩
  have hz := rk_bd (n := n) (B := B) (K := 2 ^ d) (L := L) hp
  unfold rp
  cases hr : rk n B (2 ^ d) L p with
  | inl q0 =>
    refine ⟨fun q hq => ?_, fun s hs => (by cases hs)⟩
    cases hq
    have hq0 := hz.1 q0 hr
    obtain ⟨F, v, p1, k1, k2, k3⟩ := A_key_bad (R := R) h hd hB hI hp hF hr
    obtain ⟨τ, W', p', e1, e2, e3⟩ := P5 (R := R) h hT (hB.up3 (F := F)) k2 hq0 (show v < 2 ^ 31 by omega) (z := z) (l3 := junk)
    refine ⟨F, τ, W', p', ?_, e2, e3⟩
    rw [← e1]
    rw [q32]
    simp (disch := first | omega | exact tl_l | exact tT_len | (simp only [List.length_cons, List.length_nil])) only [e32_0, e32_1, e32_4, kv_s, kh_s, kr_s, kr_v, kn_s, z0, z1, z2, nI_ltI, nI_leI, nI_eq, nI_add, oN, bz0, bz1, bw0, bw1, ltT, ltF, leT, leF, eqT, eqF, if_true, if_false, kI_n, wI_n, and_true, true_and, and_false, false_and, not_true, not_false_eq_true, h.x.f0, h.x.f1, h.x.f2, h.x.f3, h.x.f4, h.x.f5, h.x.f6, h.x.f7, h.x.o, h.hi.o, h.hi.gd, h.hi.gf, h.hi.gl, Hi_keys h.hi h.d8, Hi_hasKey h.hi h.d8, Rw_empty, Rw_add, List.nil_append, List.cons_append, upd_upd, cwo_1, cwo_3, cwo_5, cwo_7, cwo_17, Bool.false_eq_true, n01, k1]
  | inr r0 =>
    obtain ⟨b1, b2, b3, b4⟩ := hz.2 r0 hr
    obtain ⟨F, k1, k2⟩ := A_key (R := R) h hd hB hI hp hF hr
    have hB' := hB.up3 (F := F)
    have hmu := Tx_must (σ := σ) (c := c) (R := R) (e := none) hB' b2 (fun r z => by cases z) (s := 61) (by omega)
    by_cases hc : r0.2 < n ∧ B r0.2 = 61
    · simp only [hc, and_self, if_true]
      rw [if_pos hc] at hmu
      have hdig := Tx_digits (σ := σ) (c := c) (R := R) (e := none) hB' (show r0.2 + 1 ≤ n by omega) (fun r z => by cases z) (m := 3) (by omega)
      obtain ⟨g1, g2, g3⟩ := dgs_bd (n := n) (B := B) 3 (r0.2 + 1) 0 (by omega)
      unfold nm
      by_cases hb : bad n B 3 (r0.2 + 1) = true
      · rw [if_pos hb]
        rw [if_pos hb] at hdig
        have hdig : dcall 34 [.ref (c + 1), .int (nI 3)] (cw σ c (va_up A 3 F) R (ti I (r0.2 + 1) none)) = some (some (.long (lN (dgs n B 3 (r0.2 + 1) 0).1)), cw σ c (va_up A 3 F) R (ti I (dgs n B 3 (r0.2 + 1) 0).2 (some (dgs n B 3 (r0.2 + 1) 0).2))) := hdig
        refine ⟨fun q hq => ?_, fun s hs => (by cases hs)⟩
        cases hq
        obtain ⟨τ, W', e1, e2⟩ := P24 (A := va_up A 3 F) (R := R) (I := I) (p := (dgs n B 3 (r0.2 + 1) 0).2) h hT hn g2 (show r0.1 < 2 ^ 31 by omega) (z := z) (x := nI (dgs n B 3 (r0.2 + 1) 0).1)
        refine ⟨F, τ, W', _, ?_, e2, g2⟩
        rw [← e1]
        rw [q32]
        simp (disch := first | omega | exact tl_l | exact tT_len | (simp only [List.length_cons, List.length_nil])) only [e32_0, e32_1, e32_4, e32_5, e32_6, e32_9, e32_11, e32_14, e32_15, e32_18, e32_19, e32_22, e32_23, kv_s, kh_s, kr_s, kr_v, kn_s, z0, z1, z2, nI_ltI, nI_leI, nI_eq, nI_add, oN, bz0, bz1, bw0, bw1, ltT, ltF, leT, leF, eqT, eqF, if_true, if_false, kI_n, wI_n, and_true, true_and, and_false, false_and, not_true, not_false_eq_true, h.x.f0, h.x.f1, h.x.f2, h.x.f3, h.x.f4, h.x.f5, h.x.f6, h.x.f7, h.x.o, h.hi.o, h.hi.gd, h.hi.gf, h.hi.gl, Hi_keys h.hi h.d8, Hi_hasKey h.hi h.d8, Rw_empty, Rw_add, List.nil_append, List.cons_append, upd_upd, cwo_1, cwo_3, cwo_5, cwo_7, cwo_17, Bool.false_eq_true, n01, k1, z61, hmu, z3, hdig, lN_i]
      · rw [if_neg hb]
        rw [if_neg hb] at hdig
        by_cases hz0 : (dgs n B 3 (r0.2 + 1) 0).1 = 0 ∧ z = false
        · simp only [hz0, and_self, if_true]
          refine ⟨fun q hq => ?_, fun s hs => (by cases hs)⟩
          cases hq
          have hne : (dgs n B 3 (r0.2 + 1) 0).2 ≠ r0.2 + 1 := fun e => hb (by unfold bad; rw [decide_eq_true e]; rfl)
          have e1' : nI (dgs n B 3 (r0.2 + 1) 0).2 - nI 1 = nI ((dgs n B 3 (r0.2 + 1) 0).2 - 1) := pk_sub (by omega)
          have hfl := Tx_fail (σ := σ) (c := c) (A := va_up A 3 F) (R := R) (I := I) (p := (dgs n B 3 (r0.2 + 1) 0).2) (e := none) (q := (dgs n B 3 (r0.2 + 1) 0).2 - 1) (fun r z => by cases z)
          have hfl : dcall 27 [.ref (c + 1), .int (nI ((dgs n B 3 (r0.2 + 1) 0).2 - 1))] (cw σ c (va_up A 3 F) R (ti I (dgs n B 3 (r0.2 + 1) 0).2 none)) = some (none, cw σ c (va_up A 3 F) R (ti I (dgs n B 3 (r0.2 + 1) 0).2 (some ((dgs n B 3 (r0.2 + 1) 0).2 - 1)))) := hfl
          obtain ⟨τ, W', e1, e2⟩ := P48 (A := va_up A 3 F) (R := R) (I := ti I (dgs n B 3 (r0.2 + 1) 0).2 (some ((dgs n B 3 (r0.2 + 1) 0).2 - 1))) h hT (show r0.1 < 2 ^ 31 by omega) (z := .int (nI 0)) (v := .null) (x := nI 0)
          refine ⟨F, τ, W', _, ?_, e2, g2⟩
          rw [← e1]
          rw [q32]
          simp (disch := first | omega | exact tl_l | exact tT_len | (simp only [List.length_cons, List.length_nil])) only [e32_0, e32_1, e32_4, e32_5, e32_6, e32_9, e32_11, e32_14, e32_15, e32_18, e32_19, e32_22, e32_23, e32_24, e32_25, e32_28, e32_29, e32_32, e32_33, e32_36, e32_37, e32_40, e32_43, e32_44, e32_45, kv_s, kh_s, kr_s, kr_v, kn_s, z0, z1, z2, nI_ltI, nI_leI, nI_eq, nI_add, oN, bz0, bz1, bw0, bw1, ltT, ltF, leT, leF, eqT, eqF, if_true, if_false, kI_n, wI_n, and_true, true_and, and_false, false_and, not_true, not_false_eq_true, cwo_1, cwr_1, cwg_0, cwg_1, cwg_2, cwa_0, cwl_0, cwo_3, cwr_3, cwg_3, cwa_R, cwl_R, cwo_5, cwr_5, cwg_4, cwg_5, cwg_6, cwg_7, cwg_8, cwa_1, cwl_1, cwo_7, cwr_7, cwg_9, cwg_10, cwg_11, cwg_12, cwg_13, cwa_2, cwl_2, cwo_17, cwr_17, cwg_14, cwa_3, cwl_3, cwp_0, cwp_1, cwp_2, cwp_3, cwp_4, cwp_5, cwp_6, cwp_7, cwp_8, cwp_9, cwp_10, cwp_11, cwp_12, cwp_13, cwp_14, cwu_0, cwu_R, cwu_1, cwu_2, cwu_3, vu_at, vu_ne, pk_us, pk_un, h.x.f0, h.x.f1, h.x.f2, h.x.f3, h.x.f4, h.x.f5, h.x.f6, h.x.f7, h.x.o, h.hi.o, h.hi.gd, h.hi.gf, h.hi.gl, Hi_keys h.hi h.d8, Hi_hasKey h.hi h.d8, Rw_empty, Rw_add, List.nil_append, List.cons_append, upd_upd, cwo_1, cwo_3, cwo_5, cwo_7, cwo_17, Bool.false_eq_true, n01, k1, z61, hmu, z3, hdig, lN_i, hz0.1, bI, Bool.false_eq_true, ti_1, e1', hfl]
        · simp only [hz0, if_false]
          refine ⟨fun q hq => (by cases hq), fun s hs => ?_⟩
          cases hs
          obtain ⟨τ, e1, e2⟩ := D_place (A := va_up A 3 F) (R := R) (I := ti I (dgs n B 3 (r0.2 + 1) 0).2 none) hT b3 (nI (dgs n B 3 (r0.2 + 1) 0).1)
          refine ⟨F, τ, ?_, e2, k2⟩
          have o1 := (hT.dcw (A := va_up A 3 F) (R := R) (I := ti I (dgs n B 3 (r0.2 + 1) 0).2 none)).o
          rw [q32]
          by_cases hv0 : (dgs n B 3 (r0.2 + 1) 0).1 = 0
          · have hzt : z = true := by
              cases z with
              | true => rfl
              | false => exact absurd ⟨hv0, rfl⟩ hz0
            rw [hv0] at e1
            simp (disch := first | omega | exact tl_l | exact tT_len | (simp only [List.length_cons, List.length_nil])) only [e32_0, e32_1, e32_4, e32_5, e32_6, e32_9, e32_11, e32_14, e32_15, e32_18, e32_19, e32_22, e32_23, e32_24, e32_25, e32_28, e32_29, e32_32, e32_33, e32_36, e32_37, e32_40, e32_43, e32_44, e32_45, e32_48, e32_49, e32_52, e32_53, e32_54, e32_57, kv_s, kh_s, kr_s, kr_v, kn_s, z0, z1, z2, nI_ltI, nI_leI, nI_eq, nI_add, oN, bz0, bz1, bw0, bw1, ltT, ltF, leT, leF, eqT, eqF, if_true, if_false, kI_n, wI_n, and_true, true_and, and_false, false_and, not_true, not_false_eq_true, h.x.f0, h.x.f1, h.x.f2, h.x.f3, h.x.f4, h.x.f5, h.x.f6, h.x.f7, h.x.o, h.hi.o, h.hi.gd, h.hi.gf, h.hi.gl, Hi_keys h.hi h.d8, Hi_hasKey h.hi h.d8, Rw_empty, Rw_add, List.nil_append, List.cons_append, upd_upd, cwo_1, cwo_3, cwo_5, cwo_7, cwo_17, Bool.false_eq_true, n01, k1, z61, hmu, z3, hdig, lN_i, hv0, hzt, bI, o1, e1]
          · simp (disch := first | omega | exact tl_l | exact tT_len | (simp only [List.length_cons, List.length_nil])) only [e32_0, e32_1, e32_4, e32_5, e32_6, e32_9, e32_11, e32_14, e32_15, e32_18, e32_19, e32_22, e32_23, e32_24, e32_25, e32_28, e32_29, e32_32, e32_33, e32_36, e32_37, e32_40, e32_43, e32_44, e32_45, e32_48, e32_49, e32_52, e32_53, e32_54, e32_57, kv_s, kh_s, kr_s, kr_v, kn_s, z0, z1, z2, nI_ltI, nI_leI, nI_eq, nI_add, oN, bz0, bz1, bw0, bw1, ltT, ltF, leT, leF, eqT, eqF, if_true, if_false, kI_n, wI_n, and_true, true_and, and_false, false_and, not_true, not_false_eq_true, h.x.f0, h.x.f1, h.x.f2, h.x.f3, h.x.f4, h.x.f5, h.x.f6, h.x.f7, h.x.o, h.hi.o, h.hi.gd, h.hi.gf, h.hi.gl, Hi_keys h.hi h.d8, Hi_hasKey h.hi h.d8, Rw_empty, Rw_add, List.nil_append, List.cons_append, upd_upd, cwo_1, cwo_3, cwo_5, cwo_7, cwo_17, Bool.false_eq_true, n01, k1, z61, hmu, z3, hdig, lN_i, hv0, o1, e1]
    · simp only [hc, if_false]
      rw [if_neg hc] at hmu
      have hmu : dcall 30 [.ref (c + 1), .int (nI 61)] (cw σ c (va_up A 3 F) R (ti I r0.2 none)) = some (none, cw σ c (va_up A 3 F) R (ti I r0.2 (some r0.2))) := hmu
      refine ⟨fun q hq => ?_, fun s hs => (by cases hs)⟩
      cases hq
      obtain ⟨τ, W', p', e1, e2, e3⟩ := P14 (R := R) h hT hB' b2 b2 (show r0.1 < 2 ^ 31 by omega) (z := z) (l3 := junk)
      refine ⟨F, τ, W', p', ?_, e2, e3⟩
      rw [← e1]
      rw [q32]
      simp (disch := first | omega | exact tl_l | exact tT_len | (simp only [List.length_cons, List.length_nil])) only [e32_0, e32_1, e32_4, e32_5, e32_6, e32_9, e32_11, kv_s, kh_s, kr_s, kr_v, kn_s, z0, z1, z2, nI_ltI, nI_leI, nI_eq, nI_add, oN, bz0, bz1, bw0, bw1, ltT, ltF, leT, leF, eqT, eqF, if_true, if_false, kI_n, wI_n, and_true, true_and, and_false, false_and, not_true, not_false_eq_true, h.x.f0, h.x.f1, h.x.f2, h.x.f3, h.x.f4, h.x.f5, h.x.f6, h.x.f7, h.x.o, h.hi.o, h.hi.gd, h.hi.gf, h.hi.gl, Hi_keys h.hi h.d8, Hi_hasKey h.hi h.d8, Rw_empty, Rw_add, List.nil_append, List.cons_append, upd_upd, cwo_1, cwo_3, cwo_5, cwo_7, cwo_17, Bool.false_eq_true, n01, k1, z61, hmu]
end PA
