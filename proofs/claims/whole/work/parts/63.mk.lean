/-! versions made: the draft, the class's settle -/
/-- the draft is another one, and registers alone besides -/
def dft (c : Nat) (σ τ : Hp) (d : Nat) (W : Nat → Int32) : Prop := (∀ a, a ≤ c ∨ (c + 9 ≤ a ∧ a < c + 12) ∨ c + 19 ≤ a → τ.1 a = σ.1 a) ∧ τ.2 = σ.2 ∧ isT τ (c + 12) d W
section MK
variable {c : Nat} {σ τ ρ : Hp} {d d' f l : Nat} {V : Nat → Nat → Int32} {T : Nat → Option Nat} {A : Nat → Nat → Int32} {R : Nat → Int64} {I : Nat → Int32} {W W' : Nat → Int32} {z : Hs} {K : Nat → Option Hs}
theorem dft.tr (h1 : dft c σ τ d W) (h2 : dft c τ ρ d' W') : dft c σ ρ d' W' := ⟨fun a ha => (h2.1 a ha).trans (h1.1 a ha), h2.2.1.trans h1.2.1, h2.2.2⟩
theorem isT.dcw (h : isT σ (c + 12) d W) : isT (cw σ c A R I) (c + 12) d W := h.kept fun a q1 q2 => cw_out (by omega)
theorem ow_out (F : FO c σ (c + 9) T) {a : Nat} (ha : ow (c + 9) T a) : a ≤ c ∨ (c + 9 ≤ a ∧ a < c + 12) ∨ c + 19 ≤ a := by
  rcases ha with rfl | rfl | ⟨s, t, q1, q2, q3, q4⟩
  · omega
  · omega
  · have := (F.2.2.1 s t q1 q2).1
    omega
theorem ow_out2 {h : Nat} (F : FO c σ h T) {a : Nat} (ha : ow h T a) : a ≤ c ∨ (c + 9 ≤ a ∧ a < c + 12) ∨ c + 19 ≤ a := by
  have f1 := F.1
  rcases ha with rfl | rfl | ⟨s, t, q1, q2, q3, q4⟩
  · omega
  · omega
  · have := (F.2.2.1 s t q1 q2).1
    omega
theorem RB.dft (h : RB c σ T d f l V) (D : dft c σ τ d' W) : RB c τ T d f l V :=
  ⟨(D.1 c (by omega)).trans h.1, h.2.kept (by rw [D.2.1]; exact Nat.le_refl _) fun a _ q => D.1 a (ow_out h.2.2.1 q)⟩
theorem BC.dft (h : BC c σ z K) (D : dft c σ τ d' W) : BC c τ z K := by
  obtain ⟨T, S, Ts, b1, ⟨b3, gb, b3'⟩, b4, b5, b6, b7, b8, b9⟩ := h
  refine ⟨T, S, Ts, b1.dft D, ⟨by rw [D.2.1]; exact b3, gb, (D.1 _ (by omega)).trans b3'⟩, ⟨d', W, D.2.2⟩, (D.1 _ (by omega)).trans b5, fun j hj => ?_, b7, by rw [D.2.1]; exact b8, by rw [D.2.1]; exact b9⟩
  have := b6 j hj
  cases hS : S j with
  | none => rw [hS] at this; exact this
  | some h =>
    rw [hS] at this
    obtain ⟨y, y1, y2, y3⟩ := this
    exact ⟨y, y1, y2.kept (by rw [D.2.1]; exact Nat.le_refl _) fun a _ q => D.1 a (ow_out2 y2.2.1 q), y3⟩
/-- a change of the draft, out of a change of its own cells -/
theorem dft_of (h : fr5 (c + 12) (cw σ c A R I) τ) (ht : isT τ (c + 12) d W) : cw τ c A R I = τ ∧ dft c σ τ d W :=
  ⟨cw_keep (σ := σ) fun a q1 q2 q3 => h.1 a (by omega), fun a ha => (h.1 a (by omega)).trans (cw_out (by omega)), h.2, ht⟩
theorem D_take (h : isT σ (c + 12) d' W') {t : Nat} (ht : isT (cw σ c A R I) t d W) (far : t = c + 19 ∨ c + 42 ≤ t) : ∃ τ, dcall 17 [.ref (c + 12), .ref t] (cw σ c A R I) = some (none, cw τ c A R I) ∧ dft c σ τ d W := by
  obtain ⟨τ, e1, e2, e3⟩ := T_take (h.dcw (A := A) (R := R) (I := I)) ht (by omega)
  obtain ⟨g1, g2⟩ := dft_of e3 e2
  exact ⟨τ, by rw [g1]; exact e1, g2⟩
theorem D_clear (h : isT σ (c + 12) d' W') (hd : d ≤ 8) : ∃ τ, dcall 7 [.ref (c + 12), .int (nI d)] (cw σ c A R I) = some (none, cw τ c A R I) ∧ dft c σ τ d (fun _ => nI 0) := by
  obtain ⟨τ, e1, e2, e3⟩ := T_clear (h.dcw (A := A) (R := R) (I := I)) hd
  obtain ⟨g1, g2⟩ := dft_of e3 e2
  exact ⟨τ, by rw [g1]; exact e1, g2⟩
theorem D_place (h : isT σ (c + 12) d W) {k : Nat} (hk : k < 2 ^ d) (v : Int32) : ∃ τ, dcall 38 [.ref (c + 12), .int (nI k), .int v] (cw σ c A R I) = some (none, cw τ c A R I) ∧ dft c σ τ d (upd W k v) := by
  obtain ⟨τ, e1, e2, e3⟩ := T_place (h.dcw (A := A) (R := R) (I := I)) hk v
  obtain ⟨g1, g2⟩ := dft_of e3 e2
  exact ⟨τ, by rw [g1]; exact e1, g2⟩
/-- the latest is another one -/
def mkF (z : Hs) (W : Nat → Int32) (x y : Int32) : Int32 × Hs := if 40 < un z.1 W 1 then (x, z) else if un z.1 (dl W (z.2.2.2 z.2.2.1)) 1 = 0 then (y, z) else (nI (z.2.2.1 + 1), (z.1, fst1 z.2.1 z.2.2.1, z.2.2.1 + 1, vup z.2.2.2 (z.2.2.1 + 1) W))
/-- the past changes, as a history does -/
theorem BC.past (h : BC c σ z K) (hT : RB c σ T z.1 z.2.1 z.2.2.1 z.2.2.2) {T' : Nat → Option Nat} (e : ef (c + 9) T σ ρ T') {z' : Hs} (H : HV c ρ (c + 9) T' z'.1 z'.2.1 z'.2.2.1 z'.2.2.2) : BC c ρ z' K := by
  obtain ⟨T0, S, Ts, b1, ⟨b3, gb, b3'⟩, ⟨dd, Wd, b4⟩, b5, b6, b7, b8, b9⟩ := h
  have eT : T0 = T := by
    have h1 := b1.2.1.2
    have h2 := hT.2.1.2
    rw [h1] at h2
    simpa [rng] using h2
  subst eT
  have F := b1.2.2.1
  have fr : ∀ a, a < σ.2.1 → a ≤ c ∨ (c + 11 ≤ a ∧ a < c + 19) ∨ (c + 24 ≤ a ∧ a < c + 42) → ρ.1 a = σ.1 a := fun a q1 q2 => e.fr q1 fun q => by
    rcases q with rfl | rfl | ⟨s, t, r1, r2, r3, r4⟩
    · omega
    · omega
    · have := (F.2.2.1 s t r1 r2).1
      omega
  have e4 := e.2.2.2.1
  have e5 := e.2.2.2.2.1
  have e6 := e.2.2.2.2.2
  refine ⟨T', S, Ts, ⟨(fr c (by omega) (by omega)).trans b1.1, H⟩, ⟨by omega, gb, (fr _ (by omega) (by omega)).trans b3'⟩, ⟨dd, Wd, b4.kept fun a q1 q2 => fr a (by omega) (by omega)⟩, (fr _ (by omega) (by omega)).trans b5, fun j hj => ?_, b7, by omega, by omega⟩
  have := b6 j hj
  cases hS : S j with
  | none => rw [hS] at this; exact this
  | some h =>
    rw [hS] at this
    obtain ⟨y, y1, y2, y3⟩ := this
    exact ⟨y, y1, y2.ef y3 e, y3.ef y2.2.1 e⟩
/-- what the class leaves alone beyond its own -/
def afar (c : Nat) (σ ρ : Hp) : Prop := ∀ a, c + 24 ≤ a → a < c + 41 → ρ.1 a = σ.1 a
theorem afar.rf : afar c σ σ := fun _ _ _ => rfl
theorem afar.tr (h1 : afar c σ τ) (h2 : afar c τ ρ) : afar c σ ρ := fun a q1 q2 => (h2 a q1 q2).trans (h1 a q1 q2)
theorem dft.afar (h : dft c σ τ d W) : afar c σ τ := fun a q1 q2 => h.1 a (by omega)
theorem A_settle (h : BC c σ z K) (hd : isT σ (c + 12) z.1 W) (hl : z.2.2.1 + 1 < 2 ^ 30) {x y : Int32} : ∃ ρ, dcall 44 [.ref c, .int x, .int y] (cw σ c A R I) = some (some (.int (mkF z W x y).1), cw ρ c A R I) ∧ BC c ρ (mkF z W x y).2 K ∧ afar c σ ρ := by
  have hB := h
  obtain ⟨T, S, Ts, hb, ⟨b3, _⟩, _⟩ := hB
  have hK := hb.K
  have hd8 := hb.d8
  have hfl := hb.fl
  obtain ⟨t, t1, t2⟩ := hb.t (v := z.2.2.1) hfl.1 (Nat.le_refl _)
  have hD := hd.dcw (A := A) (R := R) (I := I)
  have hu := un_le hd8 W 1
  have far := hb.far (Nat.mod_lt _ (by omega)) t1
  unfold mkF
  by_cases h1 : 40 < un z.1 W 1
  · rw [if_pos h1]
    refine ⟨σ, ?_, h, afar.rf⟩
    have h := hb
    rw [q44]
    simp (disch := first | omega | exact tl_l | exact tT_len | (simp only [List.length_cons, List.length_nil])) only [e44_0, e44_1, e44_4, e44_7, e44_10, e44_12, e44_15, e44_16, e44_17, e44_18, e44_21, e44_22, e44_25, e44_26, e44_29, e44_32, e44_35, e44_36, e44_39, e44_42, e44_43, e44_44, e44_45, e44_48, e44_51, e44_52, e44_55, e44_56, e44_59, e44_62, e44_65, e44_66, e44_69, e44_72, e44_73, e44_76, e44_79, kv_s, kh_s, kr_s, kr_v, kn_s, z0, z1, z2, nI_ltI, nI_leI, nI_eq, nI_add, oN, bz0, bz1, bw0, bw1, ltT, ltF, leT, leF, eqT, eqF, if_true, if_false, kI_n, wI_n, and_true, true_and, and_false, false_and, not_true, not_false_eq_true, cwo_1, cwr_1, cwg_0, cwg_1, cwg_2, cwa_0, cwl_0, cwo_3, cwr_3, cwg_3, cwa_R, cwl_R, cwo_5, cwr_5, cwg_4, cwg_5, cwg_6, cwg_7, cwg_8, cwa_1, cwl_1, cwo_7, cwr_7, cwg_9, cwg_10, cwg_11, cwg_12, cwg_13, cwa_2, cwl_2, cwo_17, cwr_17, cwg_14, cwa_3, cwl_3, cwp_0, cwp_1, cwp_2, cwp_3, cwp_4, cwp_5, cwp_6, cwp_7, cwp_8, cwp_9, cwp_10, cwp_11, cwp_12, cwp_13, cwp_14, cwu_0, cwu_R, cwu_1, cwu_2, cwu_3, vu_at, vu_ne, pk_us, pk_un, h.x.f0, h.x.f1, h.x.f2, h.x.f3, h.x.f4, h.x.f5, h.x.f6, h.x.f7, h.x.o, h.hi.o, h.hi.gd, h.hi.gf, h.hi.gl, Hi_keys h.hi h.d8, Hi_hasKey h.hi h.d8, Rw_empty, Rw_add, List.nil_append, List.cons_append, upd_upd, cwo_1, cwo_3, cwo_5, cwo_7, cwo_17, Bool.false_eq_true, n01, hD.o, hD.f, hD.fo, T_size hD, z40, h1]
  · have h1' : un z.1 W 1 ≤ 40 := by omega
    rw [if_neg h1]
    have ha := T_alike hD (t2 (A := A) (R := R) (I := I)) (l := z.1) (p := 1) ⟨Nat.le_refl _, by rw [Nat.sub_self]; exact Nat.le_refl _, by rw [Nat.sub_self]; omega⟩
    by_cases h2 : un z.1 (dl W (z.2.2.2 z.2.2.1)) 1 = 0
    · rw [if_pos h2]
      rw [if_pos h2] at ha
      refine ⟨σ, ?_, h, afar.rf⟩
      have h := hb
      rw [q44]
      simp (disch := first | omega | exact tl_l | exact tT_len | (simp only [List.length_cons, List.length_nil])) only [e44_0, e44_1, e44_4, e44_7, e44_10, e44_12, e44_15, e44_16, e44_17, e44_18, e44_21, e44_22, e44_25, e44_26, e44_29, e44_32, e44_35, e44_36, e44_39, e44_42, e44_43, e44_44, e44_45, e44_48, e44_51, e44_52, e44_55, e44_56, e44_59, e44_62, e44_65, e44_66, e44_69, e44_72, e44_73, e44_76, e44_79, kv_s, kh_s, kr_s, kr_v, kn_s, z0, z1, z2, nI_ltI, nI_leI, nI_eq, nI_add, oN, bz0, bz1, bw0, bw1, ltT, ltF, leT, leF, eqT, eqF, if_true, if_false, kI_n, wI_n, and_true, true_and, and_false, false_and, not_true, not_false_eq_true, cwo_1, cwr_1, cwg_0, cwg_1, cwg_2, cwa_0, cwl_0, cwo_3, cwr_3, cwg_3, cwa_R, cwl_R, cwo_5, cwr_5, cwg_4, cwg_5, cwg_6, cwg_7, cwg_8, cwa_1, cwl_1, cwo_7, cwr_7, cwg_9, cwg_10, cwg_11, cwg_12, cwg_13, cwa_2, cwl_2, cwo_17, cwr_17, cwg_14, cwa_3, cwl_3, cwp_0, cwp_1, cwp_2, cwp_3, cwp_4, cwp_5, cwp_6, cwp_7, cwp_8, cwp_9, cwp_10, cwp_11, cwp_12, cwp_13, cwp_14, cwu_0, cwu_R, cwu_1, cwu_2, cwu_3, vu_at, vu_ne, pk_us, pk_un, h.x.f0, h.x.f1, h.x.f2, h.x.f3, h.x.f4, h.x.f5, h.x.f6, h.x.f7, h.x.o, h.hi.o, h.hi.gd, h.hi.gf, h.hi.gl, Hi_keys h.hi h.d8, Hi_hasKey h.hi h.d8, Rw_empty, Rw_add, List.nil_append, List.cons_append, upd_upd, cwo_1, cwo_3, cwo_5, cwo_7, cwo_17, Bool.false_eq_true, n01, hD.o, hD.f, hD.fo, T_size hD, z40, h1, h1', Hi_hold_is h.hi (show z.2.2.1 < 2 ^ 31 by omega) t1, ha]
    · rw [if_neg h2]
      rw [if_neg h2] at ha
      have hH := hb.2.up (A := A) (R := R) (I := I)
      have hadv := Hi_advance (hb.hi (A := A) (R := R) (I := I)) hfl.1 hfl.2.1 hfl.2.2
      obtain ⟨t', τ, ρ, T', p1, p2, p3, p4, p5, p6⟩ := Hi_push hH hl (x := c + 12) (W := W) (by rw [cw_2]; exact b3) hD (fun a q1 q2 => ⟨by rw [cw_2]; omega, fun q => by have := ow_out hH.2.1 q; omega⟩)
      have hx0 := hb.x (A := A) (R := R) (I := I)
      have nc : ∀ a, a = c ∨ (c + 1 ≤ a ∧ a < c + 9) ∨ (c + 11 ≤ a ∧ a < c + 19) ∨ (c + 24 ≤ a ∧ a < c + 42) → a < (cw σ c A R I).2.1 ∧ ¬ ow (c + 9) T a := fun a q => ⟨by rw [cw_2]; omega, fun r => by
        rcases r with rfl | rfl | ⟨s, t, r1, r2, r3, r4⟩
        · omega
        · omega
        · have := (hH.2.1.2.2.1 s t r1 r2).1
          omega⟩
      have xh : isX (hh (cw σ c A R I) (c + 9) z.1 (fst1 z.2.1 z.2.2.1) (z.2.2.1 + 1)) c := (hh_ne (by omega)).trans hx0
      have xτ : isX τ c := (p3 c (nc c (by omega)).1 (nc c (by omega)).2).trans hx0
      have fr : ∀ a, a = c ∨ (c + 1 ≤ a ∧ a < c + 9) ∨ (c + 11 ≤ a ∧ a < c + 19) ∨ (c + 24 ≤ a ∧ a < c + 42) → ρ.1 a = (cw σ c A R I).1 a := fun a q => p6.fr (nc a q).1 (nc a q).2
      have xρ : isX ρ c := (fr c (by omega)).trans hx0
      have hih := hh_is (hb.hi (A := A) (R := R) (I := I)) (d' := z.1) (f' := fst1 z.2.1 z.2.2.1) (l' := z.2.2.1 + 1)
      have hcw : cw ρ c A R I = ρ := cw_keep (σ := σ) fun a q1 q2 q3 => fr a (by omega)
      refine ⟨ρ, ?_, ?_, fun a q1 q2 => (fr a (by omega)).trans (cw_out (by omega))⟩
      · rw [hcw]
        have h := hb
        rw [q44]
        simp (disch := first | omega | exact tl_l | exact tT_len | (simp only [List.length_cons, List.length_nil])) only [e44_0, e44_1, e44_4, e44_7, e44_10, e44_12, e44_15, e44_16, e44_17, e44_18, e44_21, e44_22, e44_25, e44_26, e44_29, e44_32, e44_35, e44_36, e44_39, e44_42, e44_43, e44_44, e44_45, e44_48, e44_51, e44_52, e44_55, e44_56, e44_59, e44_62, e44_65, e44_66, e44_69, e44_72, e44_73, e44_76, e44_79, kv_s, kh_s, kr_s, kr_v, kn_s, z0, z1, z2, nI_ltI, nI_leI, nI_eq, nI_add, oN, bz0, bz1, bw0, bw1, ltT, ltF, leT, leF, eqT, eqF, if_true, if_false, kI_n, wI_n, and_true, true_and, and_false, false_and, not_true, not_false_eq_true, cwo_1, cwr_1, cwg_0, cwg_1, cwg_2, cwa_0, cwl_0, cwo_3, cwr_3, cwg_3, cwa_R, cwl_R, cwo_5, cwr_5, cwg_4, cwg_5, cwg_6, cwg_7, cwg_8, cwa_1, cwl_1, cwo_7, cwr_7, cwg_9, cwg_10, cwg_11, cwg_12, cwg_13, cwa_2, cwl_2, cwo_17, cwr_17, cwg_14, cwa_3, cwl_3, cwp_0, cwp_1, cwp_2, cwp_3, cwp_4, cwp_5, cwp_6, cwp_7, cwp_8, cwp_9, cwp_10, cwp_11, cwp_12, cwp_13, cwp_14, cwu_0, cwu_R, cwu_1, cwu_2, cwu_3, vu_at, vu_ne, pk_us, pk_un, h.x.f0, h.x.f1, h.x.f2, h.x.f3, h.x.f4, h.x.f5, h.x.f6, h.x.f7, h.x.o, h.hi.o, h.hi.gd, h.hi.gf, h.hi.gl, Hi_keys h.hi h.d8, Hi_hasKey h.hi h.d8, Rw_empty, Rw_add, List.nil_append, List.cons_append, upd_upd, cwo_1, cwo_3, cwo_5, cwo_7, cwo_17, Bool.false_eq_true, n01, hD.o, hD.f, hD.fo, T_size hD, z40, h1, h1', Hi_hold_is h.hi (show z.2.2.1 < 2 ^ 31 by omega) t1, ha, hadv, xh.f4, xh.o, hih.o, hih.gl, p1, xτ.f6, xτ.o, p2, p4, xρ.f4, p5.1.gl]
      · exact BC.past h.cw ⟨hx0, hH⟩ p6 p5
end MK
