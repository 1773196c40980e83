/-! calls: keep, again -/
section KP
variable {c : Nat} {σ τ : Hp} {m : Nat} {A : Nat → Nat → Int32} {R : Nat → Int64} {I : Nat → Int32} {z : Hs} {K : Nat → Option Hs}
theorem Hi_init {h : Nat} (hz : σ.1 h = some (.inr (0, zD 0))) (hn : σ.2.1 = h + 1) : ∃ τ, dcall 4 [.ref h] σ = some (none, τ) ∧ isHi τ h (fun _ => none) 0 0 0 ∧ (∀ a, a < h → τ.1 a = σ.1 a) ∧ τ.2 = (h + 2, σ.2.2 + 12) := by
  have a1 : hPut (hnew σ (.inl (5, 12, .inr (.inr (.inr (.inr (fun _ => none)))))) 12) h 0 0 (.ref σ.2.1) = some (hup (hnew σ (.inl (5, 12, .inr (.inr (.inr (.inr (fun _ => none)))))) 12) h (.inr (0, [.ref (h + 1), .int 0, .int 0, .int 0]))) := by
    rw [hn]
    exact hPut_of (fs := zD 0) ((hnew_ne (by omega)).trans hz) (Nat.le_of_ble_eq_true rfl)
  refine ⟨hup (hnew σ (.inl (5, 12, .inr (.inr (.inr (.inr (fun _ => none)))))) 12) h (.inr (0, [.ref (h + 1), .int 0, .int 0, .int 0])), ?_, ⟨hup_at, ?_⟩, fun a ha => ?_, ?_⟩
  rotate_left
  · rw [hup_ne (by omega), ← hn]
    exact hnew_at
  · rw [hup_ne (by omega)]
    exact hnew_ne (by omega)
  · show (σ.2.1 + 1, σ.2.2 + 12) = _
    rw [hn]
  · rw [q4]
    simp only [e4_0, e4_1, e4_4, e4_5, e4_7, e4_10, e4_13, kv_s, kh_s, kr_s, kr_v, kn_s, a1]
theorem DJ.sym {h h2 : Nat} {T T2 : Nat → Option Nat} (D : DJ h T h2 T2) : DJ h2 T2 h T := fun a q1 q2 => D a q2 q1
/-- the class's larger things, as a slot is to be written -/
def BK (c : Nat) (τ : Hp) (z : Hs) (K : Nat → Option Hs) (i o h : Nat) (Th : Nat → Option Nat) : Prop := ∃ (T S : Nat → Option Nat) (To : Nat → Option Nat) (d0 f0 l0 : Nat), RB c τ T z.1 z.2.1 z.2.2.1 z.2.2.2 ∧ (c + 42 ≤ τ.2.1 ∧ ∃ g, τ.1 (c + 41) = some (.inl (1, 1, .inr (.inl g)))) ∧ (∃ dd W, isT τ (c + 12) dd W) ∧ τ.1 (c + 11) = some (.inl (6, 2, .inr (.inr (.inr (.inr S))))) ∧ S i = some h ∧ isHi τ h Th d0 f0 l0 ∧ FO c τ h Th ∧ DJ (c + 9) T h Th ∧ (match S o with
    | none => K o = none
    | some h2 => ∃ y, K o = some y ∧ HV c τ h2 To y.1 y.2.1 y.2.2.1 y.2.2.2 ∧ DJ (c + 9) T h2 To ∧ DJ h Th h2 To) ∧ τ.2.1 + 5 * nul T + 5 * nul Th + cost (S o) To ≤ c + 300 + kx K ∧ τ.2.2 + 1285 * nul T + 1285 * nul Th + costS (S o) To ≤ 100000 + 6 * kx K
theorem BK_old {T S : Nat → Option Nat} {Ts : Nat → Nat → Option Nat} {i h : Nat} (hi : i < 2) (b : RB c σ T z.1 z.2.1 z.2.2.1 z.2.2.2) (b3 : c + 42 ≤ σ.2.1 ∧ ∃ g, σ.1 (c + 41) = some (.inl (1, 1, .inr (.inl g)))) (b4 : ∃ dd W, isT σ (c + 12) dd W) (b5 : σ.1 (c + 11) = some (.inl (6, 2, .inr (.inr (.inr (.inr S)))))) (b6 : ∀ i, i < 2 → match S i with
    | none => K i = none
    | some h => ∃ y, K i = some y ∧ HV c σ h (Ts i) y.1 y.2.1 y.2.2.1 y.2.2.2 ∧ DJ (c + 9) T h (Ts i)) (b7 : ∀ h0 h1, S 0 = some h0 → S 1 = some h1 → DJ h0 (Ts 0) h1 (Ts 1)) (b8 : σ.2.1 + 5 * nul T + cost (S 0) (Ts 0) + cost (S 1) (Ts 1) ≤ c + 300 + kx K) (b9 : σ.2.2 + 1285 * nul T + costS (S 0) (Ts 0) + costS (S 1) (Ts 1) ≤ 100000 + 6 * kx K) (hS : S i = some h) : BK c σ z K i (1 - i) h (Ts i) := by
  have hI := b6 i hi
  rw [hS] at hI
  obtain ⟨y, y1, y2, y3⟩ := hI
  have hO := b6 (1 - i) (by omega)
  refine ⟨T, S, Ts (1 - i), y.1, y.2.1, y.2.2.1, b, b3, b4, b5, hS, y2.1, y2.2.1, y3, ?_, ?_, ?_⟩
  · cases hSo : S (1 - i) with
    | none => rw [hSo] at hO; exact hO
    | some h2 =>
      rw [hSo] at hO
      obtain ⟨y', e1, e2, e3⟩ := hO
      refine ⟨y', e1, e2, e3, ?_⟩
      rcases (show i = 0 ∨ i = 1 by omega) with rfl | rfl
      · exact b7 h h2 hS hSo
      · exact (b7 h2 h hSo hS).sym
  · rcases (show i = 0 ∨ i = 1 by omega) with rfl | rfl
    · rw [hS] at b8
      show _ + cost (S 1) (Ts 1) ≤ _
      have : cost (some h) (Ts 0) = 5 * nul (Ts 0) := rfl
      omega
    · rw [hS] at b8
      show _ + cost (S 0) (Ts 0) ≤ _
      have : cost (some h) (Ts 1) = 5 * nul (Ts 1) := rfl
      omega
  · rcases (show i = 0 ∨ i = 1 by omega) with rfl | rfl
    · rw [hS] at b9
      show _ + costS (S 1) (Ts 1) ≤ _
      have : costS (some h) (Ts 0) = 1285 * nul (Ts 0) := rfl
      omega
    · rw [hS] at b9
      show _ + costS (S 0) (Ts 0) ≤ _
      have : costS (some h) (Ts 1) = 1285 * nul (Ts 1) := rfl
      omega
theorem nul_none : nul (fun _ => none) = 12 := by
  show cnt (fun s => ((fun _ => none : Nat → Option Nat) s).isNone) 0 12 = 12
  rfl
theorem K_slot (h : BC c σ z K) {i : Nat} (hi : i < 2) : ∃ τ hh Th, den 131 11 [.ref c, .int (nI i)] [] (cw σ c A R I) = den 131 33 [.ref c, .int (nI i)] [] (cw τ c A R I) ∧ BK c τ z K i (1 - i) hh Th ∧ afar c σ τ := by
  obtain ⟨T, S, Ts, b, b3, b4, b5, b6, b7, b8, b9⟩ := h
  have hx := b.x (A := A) (R := R) (I := I)
  have hS0 : hR (cw σ c A R I) (c + 11) = some (6, 2, S) := hR_of ((cw_out (by omega)).trans b5)
  cases hS : S i with
  | some h0 =>
    refine ⟨σ, h0, Ts i, ?_, BK_old hi b b3 b4 b5 b6 b7 b8 b9 hS, afar.rf⟩
    simp (disch := first | omega | exact tl_l | exact tT_len | (simp only [List.length_cons, List.length_nil])) only [e131_11, e131_12, e131_15, e131_16, e131_17, e131_17n, kv_s, kh_s, kr_s, kr_v, kn_s, z0, z1, z2, nI_ltI, nI_leI, nI_eq, nI_add, oN, bz0, bz1, bw0, bw1, ltT, ltF, leT, leF, eqT, eqF, if_true, if_false, kI_n, wI_n, and_true, true_and, and_false, false_and, not_true, not_false_eq_true, hx.f5, hx.o, hS0, kR_n, or_true, hS, va_rf]
  | none =>
    obtain ⟨τ1, i1, i2, i3, i4⟩ := Hi_init (σ := hnew (cw σ c A R I) (.inr (0, zD 0)) 4) (h := σ.2.1) hnew_at hnew_n
    have b3' := b3.1
    have lo : ∀ a, a < σ.2.1 → τ1.1 a = (cw σ c A R I).1 a := fun a ha => (i3 a ha).trans (hnew_ne (by rw [cw_2]; omega))
    let τ2 := hup τ1 (c + 11) (.inl (6, 2, .inr (.inr (.inr (.inr (va_up S i (some σ.2.1)))))))
    have lo2 : ∀ a, a < σ.2.1 → a ≠ c + 11 → τ2.1 a = (cw σ c A R I).1 a := fun a ha hne => (hup_ne hne).trans (lo a ha)
    have n2 : τ2.2 = (σ.2.1 + 2, σ.2.2 + 4 + 12) := i4
    have hcw : cw τ2 c A R I = τ2 := cw_keep (σ := σ) fun a q1 q2 q3 => lo2 a (by omega) (by omega)
    have out2 : ∀ a, a < σ.2.1 → a ≠ c + 11 → (a ≤ c ∨ (c + 9 ≤ a ∧ a < c + 17) ∨ c + 19 ≤ a) → τ2.1 a = σ.1 a := fun a q1 q2 q3 => (lo2 a q1 q2).trans (cw_out q3)
    have n11 : ∀ {h Th d f l V}, HV c σ h Th d f l V → ∀ a, ow h Th a → a ≠ c + 11 := fun {h Th d f l V} H a ha => by
      have f1 := H.2.1.1
      rcases ha with rfl | rfl | ⟨s, t, q1, q2, q3, q4⟩
      · omega
      · omega
      · have := (H.2.1.2.2.1 s t q1 q2).1
        omega
    have kp : ∀ {h Th d f l V}, HV c σ h Th d f l V → HV c τ2 h Th d f l V := fun H => H.kept (by rw [n2]; show σ.2.1 ≤ σ.2.1 + 2; omega) fun a q1 q2 => out2 a q1 (n11 H a q2) (H.2.1.out q2)
    have hiH : isHi τ2 σ.2.1 (fun _ => none) 0 0 0 := ⟨by show (hup τ1 _ _).1 _ = _; rw [hup_ne (by omega)]; exact i2.1, by show (hup τ1 _ _).1 _ = _; rw [hup_ne (by omega)]; exact i2.2⟩
    have ot0 : ∀ a, ¬ ot (fun _ => none) a := fun a ⟨s, t, q1, q2, q3⟩ => by cases q2
    have dj0 : ∀ {h Th d f l V}, HV c σ h Th d f l V → DJ h Th σ.2.1 (fun _ => none) := fun {h Th d f l V} H a q1 q2 => by
      have := H.2.1.lt q1
      rcases q2 with rfl | rfl | q
      · omega
      · omega
      · exact ot0 a q
    have hO := b6 (1 - i) (by omega)
    have eS : va_up S i (some σ.2.1) (1 - i) = S (1 - i) := vu_ne (by omega)
    refine ⟨τ2, σ.2.1, fun _ => none, ?_, ⟨T, va_up S i (some σ.2.1), Ts (1 - i), 0, 0, 0, ⟨(out2 c (by omega) (by omega) (by omega)).trans b.1, kp b.2⟩, ⟨by rw [n2]; show c + 42 ≤ σ.2.1 + 2; omega, ?_⟩, ?_, hup_at, vu_at, hiH, ⟨Or.inr b3', by rw [n2]; exact Nat.le_refl _, fun s t q1 q2 => (by cases q2), fun s s' t q1 q2 q3 => (by cases q3), fun a q => absurd q (ot0 a)⟩, dj0 b.2, ?_, ?_, ?_⟩, fun a q1 q2 => out2 a (by omega) (by omega) (by omega)⟩
    · have hS1 : hR τ1 (c + 11) = some (6, 2, S) := hR_of ((lo _ (by omega)).trans ((cw_out (by omega)).trans b5))
      have oH : hObj τ1 σ.2.1 = some 0 := i2.o
      rw [hcw]
      simp (disch := first | omega | exact tl_l | exact tT_len | (simp only [List.length_cons, List.length_nil])) only [e131_11, e131_12, e131_15, e131_16, e131_17, e131_17n, e131_20, e131_21, e131_24, e131_25, e131_28, e131_29, kv_s, kh_s, kr_s, kr_v, kn_s, z0, z1, z2, nI_ltI, nI_leI, nI_eq, nI_add, oN, bz0, bz1, bw0, bw1, ltT, ltF, leT, leF, eqT, eqF, if_true, if_false, kI_n, wI_n, and_true, true_and, and_false, false_and, not_true, not_false_eq_true, hx.f5, hx.o, hS0, kR_n, or_true, hS, va_rf, cw_2, i1, hS1, oH]
      rw [e131_32, hS1, oH, wR_s (inb_nI (by omega) (by omega)) (by decide), nI_clamp (by omega)]
    · obtain ⟨g, hg⟩ := b3.2
      exact ⟨g, (out2 _ (by omega) (by omega) (by omega)).trans hg⟩
    · obtain ⟨dd, W, hw⟩ := b4
      exact ⟨dd, W, hw.kept fun a q1 q2 => out2 a (by omega) (by omega) (by omega)⟩
    · rw [eS]
      cases hSo : S (1 - i) with
      | none => rw [hSo] at hO; exact hO
      | some h2 =>
        rw [hSo] at hO
        obtain ⟨y', e1, e2, e3⟩ := hO
        exact ⟨y', e1, kp e2, e3, (dj0 e2).sym⟩
    · rw [eS, n2, nul_none]
      rcases (show i = 0 ∨ i = 1 by omega) with rfl | rfl
      · rw [hS] at b8
        show σ.2.1 + 2 + 5 * nul T + 5 * 12 + cost (S 1) (Ts 1) ≤ _
        have : cost none (Ts 0) = 62 := rfl
        omega
      · rw [hS] at b8
        show σ.2.1 + 2 + 5 * nul T + 5 * 12 + cost (S 0) (Ts 0) ≤ _
        have : cost none (Ts 1) = 62 := rfl
        omega
    · rw [eS, n2, nul_none]
      rcases (show i = 0 ∨ i = 1 by omega) with rfl | rfl
      · rw [hS] at b9
        show σ.2.2 + 4 + 12 + 1285 * nul T + 1285 * 12 + costS (S 1) (Ts 1) ≤ _
        have : costS none (Ts 0) = 15436 := rfl
        omega
      · rw [hS] at b9
        show σ.2.2 + 4 + 12 + 1285 * nul T + 1285 * 12 + costS (S 0) (Ts 0) ≤ _
        have : costS none (Ts 1) = 15436 := rfl
        omega
/-- the rings of two slots -/
def tK (i : Nat) (T' To : Nat → Option Nat) (j : Nat) : Nat → Option Nat := if j = i then T' else To
theorem tK_i {i : Nat} {T' To : Nat → Option Nat} : tK i T' To i = T' := if_pos rfl
theorem tK_o {i j : Nat} {T' To : Nat → Option Nat} (h : j ≠ i) : tK i T' To j = To := if_neg h
/-- a slot is written -/
def upK (K : Nat → Option Hs) (i : Nat) (y : Option Hs) (j : Nat) : Option Hs := if j = i then y else K j
theorem kx_up {i : Nat} {y : Option Hs} (hi : i < 2) : kx (upK K i y) = kx K := by
  unfold kx
  rw [show upK K i y 2 = K 2 from if_neg (by omega)]
theorem K_take {i hh : Nat} {Th : Nat → Option Nat} (hi : i < 2) (h : BK c τ z K i (1 - i) hh Th) : ∃ ρ, den 131 33 [.ref c, .int (nI i)] [] (cw τ c A R I) = some (some (.int (nI 1)), cw ρ c A R I) ∧ BC c ρ z (upK K i (some z)) ∧ afar c τ ρ := by
  obtain ⟨T, S, To, d0, f0, l0, b, b3, b4, b5, b6, b7, b8, b9, b10, b11, b12⟩ := h
  have hx := b.x (A := A) (R := R) (I := I)
  have hS0 : hR (cw τ c A R I) (c + 11) = some (6, 2, S) := hR_of ((cw_out (by omega)).trans b5)
  have hH : isHi (cw τ c A R I) hh Th d0 f0 l0 := ⟨(cw_out (b8.out (Or.inl rfl))).trans b7.1, (cw_out (b8.out (Or.inr (Or.inl rfl)))).trans b7.2⟩
  have hF : FO c (cw τ c A R I) hh Th := b8.kept (Nat.le_refl _) fun a _ q => cw_out (b8.out (Or.inr (Or.inr q)))
  obtain ⟨ρ, T', t1, t2, t3⟩ := Hi_take hH hF (b.2.up (A := A) (R := R) (I := I)) b9.sym (by rw [cw_2]; exact b3.1)
  have hcw2 : (cw τ c A R I).2 = τ.2 := rfl
  have b31 := b3.1
  have hh42 := b8.1
  have notin : ∀ a, a = c ∨ (c + 1 ≤ a ∧ a < c + 9) ∨ (c + 11 ≤ a ∧ a < c + 19) ∨ (c + 24 ≤ a ∧ a < c + 42) → ¬ ow hh Th a := fun a q => by
    have hne : hh ≠ c + 9 := fun e => b9 (c + 9) (Or.inl rfl) (Or.inl e.symm)
    intro q2
    rcases q2 with rfl | rfl | ⟨s, t, r1, r2, r3, r4⟩
    · omega
    · omega
    · have := (b8.2.2.1 s t r1 r2).1
      omega
  have fr : ∀ a, a = c ∨ (c + 1 ≤ a ∧ a < c + 9) ∨ (c + 11 ≤ a ∧ a < c + 19) ∨ (c + 24 ≤ a ∧ a < c + 42) → ρ.1 a = (cw τ c A R I).1 a := fun a q => t3.fr (by rw [cw_2]; omega) (notin a q)
  have hcw : cw ρ c A R I = ρ := cw_keep (σ := τ) fun a q1 q2 q3 => fr a (by omega)
  have e4 := t3.2.2.2.1
  have e5 := t3.2.2.2.2.1
  have e6 := t3.2.2.2.2.2
  rw [hcw2] at e4 e5 e6
  refine ⟨ρ, ?_, ⟨T, S, tK i T' To, ⟨(fr c (by omega)).trans ((cw_out (by omega)).trans b.1), (b.2.up (A := A) (R := R) (I := I)).ef b9.sym t3⟩, ⟨by omega, ?_⟩, ?_, (fr _ (by omega)).trans ((cw_out (by omega)).trans b5), fun j hj => ?_, fun h0 h1 q0 q1 => ?_, ?_, ?_⟩, fun a q1 q2 => (fr a (by omega)).trans (cw_out (by omega))⟩
  · rw [hcw]
    simp (disch := first | omega | exact tl_l | exact tT_len | (simp only [List.length_cons, List.length_nil])) only [e131_33, e131_34, e131_37, e131_38, e131_39, e131_40, e131_43, e131_46, e131_47, kv_s, kh_s, kr_s, kr_v, kn_s, z0, z1, z2, nI_ltI, nI_leI, nI_eq, nI_add, oN, bz0, bz1, bw0, bw1, ltT, ltF, leT, leF, eqT, eqF, if_true, if_false, kI_n, wI_n, and_true, true_and, and_false, false_and, not_true, not_false_eq_true, hx.f5, hx.f4, hx.o, hS0, kR_n, or_true, b6, va_rf, hH.o, t1]
  · obtain ⟨g, hg⟩ := b3.2
    exact ⟨g, (fr _ (by omega)).trans ((cw_out (by omega)).trans hg)⟩
  · obtain ⟨dd, W, hw⟩ := b4
    exact ⟨dd, W, hw.kept fun a q1 q2 => (fr a (by omega)).trans (cw_out (by omega))⟩
  · by_cases hji : j = i
    · subst hji
      rw [b6]
      refine ⟨z, if_pos rfl, ?_, ?_⟩
      · rw [tK_i]; exact t2
      · rw [tK_i]; exact (b9.sym.ef b.2.up.2.1 t3).sym
    · have hjo : j = 1 - i := by omega
      subst hjo
      cases hSo : S (1 - i) with
      | none => rw [hSo] at b10; exact (if_neg hji).trans b10
      | some h2 =>
        rw [hSo] at b10
        obtain ⟨y, y1, y2, y3, y4⟩ := b10
        refine ⟨y, (if_neg hji).trans y1, ?_, ?_⟩
        · rw [tK_o hji]; exact y2.up.ef y4 t3
        · rw [tK_o hji]; exact y3
  · rcases (show i = 0 ∨ i = 1 by omega) with rfl | rfl
    · have q1' : S (1 - 0) = some h1 := q1
      rw [q1'] at b10
      obtain ⟨y, y1, y2, y3, y4⟩ := b10
      have : h0 = hh := by rw [b6] at q0; cases q0; rfl
      subst this
      rw [tK_i, tK_o (by omega)]
      exact y4.ef y2.up.2.1 t3
    · have q0' : S (1 - 1) = some h0 := q0
      rw [q0'] at b10
      obtain ⟨y, y1, y2, y3, y4⟩ := b10
      have : h1 = hh := by rw [b6] at q1; cases q1; rfl
      subst this
      rw [tK_o (show (0 : Nat) ≠ 1 by omega), tK_i]
      exact (y4.ef y2.up.2.1 t3).sym
  · rw [kx_up hi]
    rcases (show i = 0 ∨ i = 1 by omega) with rfl | rfl
    · rw [tK_i, tK_o (by omega), b6]
      have b11 : τ.2.1 + 5 * nul T + 5 * nul Th + cost (S 1) To ≤ c + 300 + kx K := b11
      have : cost (some hh) T' = 5 * nul T' := rfl
      omega
    · rw [tK_o (show (0 : Nat) ≠ 1 by omega), tK_i, b6]
      have b11 : τ.2.1 + 5 * nul T + 5 * nul Th + cost (S 0) To ≤ c + 300 + kx K := b11
      have : cost (some hh) T' = 5 * nul T' := rfl
      omega
  · rw [kx_up hi]
    rcases (show i = 0 ∨ i = 1 by omega) with rfl | rfl
    · rw [tK_i, tK_o (by omega), b6]
      have b12 : τ.2.2 + 1285 * nul T + 1285 * nul Th + costS (S 1) To ≤ 100000 + 6 * kx K := b12
      have : costS (some hh) T' = 1285 * nul T' := rfl
      omega
    · rw [tK_o (show (0 : Nat) ≠ 1 by omega), tK_i, b6]
      have b12 : τ.2.2 + 1285 * nul T + 1285 * nul Th + costS (S 0) To ≤ 100000 + 6 * kx K := b12
      have : costS (some hh) T' = 1285 * nul T' := rfl
      omega
end KP
