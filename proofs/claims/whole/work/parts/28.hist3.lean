/-! a history of versions: begin, advance, one more version, take, undo -/
def HV (c : Nat) (σ : Hp) (h : Nat) (T : Nat → Option Nat) (d f l : Nat) (V : Nat → Nat → Int32) : Prop := isHi σ h T d f l ∧ FO c σ h T ∧ d ≤ 8 ∧ f ≤ l ∧ l < f + 12 ∧ l < 2 ^ 30 ∧ ∀ v, f ≤ v → v ≤ l → ∃ t, T (v % 12) = some t ∧ isT σ t d (V v)
def hh (σ : Hp) (h d f l : Nat) : Hp := hup σ h (.inr (0, [.ref (h + 1), .int (nI d), .int (nI f), .int (nI l)]))
theorem HV.kept {c : Nat} {σ τ : Hp} {h : Nat} {T : Nat → Option Nat} {d f l : Nat} {V : Nat → Nat → Int32} (H : HV c σ h T d f l V) (hn : σ.2.1 ≤ τ.2.1) (hk : ∀ a, a < σ.2.1 → ow h T a → τ.1 a = σ.1 a) : HV c τ h T d f l V := by
  obtain ⟨h1, h2, h3, h4, h5, h6, h7⟩ := H
  have hb := h2.2.1
  refine ⟨⟨(hk h (by omega) (Or.inl rfl)).trans h1.1, (hk (h + 1) (by omega) (Or.inr (Or.inl rfl))).trans h1.2⟩, h2.kept hn (fun a q1 q2 => hk a q1 (Or.inr (Or.inr q2))), h3, h4, h5, h6, fun v q1 q2 => ?_⟩
  obtain ⟨t, t1, t2⟩ := h7 v q1 q2
  have := (h2.2.2.1 _ t (Nat.mod_lt _ (by omega)) t1).2.1
  exact ⟨t, t1, t2.kept fun a z1 z2 => hk a (by omega) (Or.inr (Or.inr ⟨_, t, Nat.mod_lt _ (by omega), t1, z1, z2⟩))⟩
section H3
variable {c h : Nat} {σ : Hp} {T : Nat → Option Nat} {d f l : Nat} {V : Nat → Nat → Int32}
theorem put_d (H : isHi σ h T d f l) {d' : Nat} : hPut σ h 0 1 (.int (nI d')) = some (hh σ h d' f l) := hPut_of H.1 (Nat.le_of_ble_eq_true rfl)
theorem put_f (H : isHi σ h T d f l) {f' : Nat} : hPut σ h 0 2 (.int (nI f')) = some (hh σ h d f' l) := hPut_of H.1 (Nat.le_of_ble_eq_true rfl)
theorem put_l (H : isHi σ h T d f l) {l' : Nat} : hPut σ h 0 3 (.int (nI l')) = some (hh σ h d f l') := hPut_of H.1 (Nat.le_of_ble_eq_true rfl)
theorem hh_is (H : isHi σ h T d f l) {d' f' l' : Nat} : isHi (hh σ h d' f' l') h T d' f' l' := ⟨hup_at, by rw [hh, hup_ne (by omega)]; exact H.2⟩
theorem hh_hh {d' f' l' : Nat} : hh (hh σ h d f l) h d' f' l' = hh σ h d' f' l' := hup_hup
theorem hh_ne {a d' f' l' : Nat} (ha : a ≠ h) : (hh σ h d' f' l').1 a = σ.1 a := hup_ne ha
theorem hh_FO (H : isHi σ h T d f l) (F : FO c σ h T) {d' f' l' : Nat} : FO c (hh σ h d' f' l') h T := (FO_head H F d' f' l').2.1
theorem hh_ef (H : isHi σ h T d f l) (F : FO c σ h T) {d' f' l' : Nat} : ef h T σ (hh σ h d' f' l') T := (FO_head H F d' f' l').2.2
theorem Hi_begin (H : isHi σ h T d f l) (F : FO c σ h T) {x dx : Nat} {W : Nat → Int32} (hc : c + 42 ≤ σ.2.1) (hx : isT σ x dx W) (hx2 : ∀ a, x ≤ a → a < x + 5 → a < σ.2.1 ∧ ¬ ow h T a) : ∃ ρ T', dcall 14 [.ref h, .ref x] σ = some (none, ρ) ∧ HV c ρ h T' dx 0 0 (fun _ => W) ∧ ef h T σ ρ T' := by
  have H1 := hh_is H (d' := dx) (f' := 0) (l' := 0)
  have hx' : isT (hh σ h dx 0 0) x dx W := hx.kept fun a q1 q2 => hh_ne fun z => (hx2 a q1 q2).2 (Or.inl z)
  obtain ⟨t, τ, ρ, T', a1, a2, a2f, a3, a4, a5, a6, a7, a8, a9, a10⟩ := Hi_into (v := 0) H1 (hh_FO H F) (by omega) hc hx' hx2
  refine ⟨ρ, T', ?_, ⟨a5, a6, hx.1, Nat.le_refl _, by omega, by omega, fun v q1 q2 => ?_⟩, (hh_ef H F).tr a9⟩
  · rw [q14]
    simp only [e14_0, e14_1, e14_2, e14_5, e14_8, e14_11, e14_12, e14_13, e14_16, e14_17, e14_18, e14_21, e14_22, e14_23, e14_26, e14_27, e14_30, kv_s, kh_s, kr_s, kr_v, kn_s, z0, z1, z2, nI_ltI, nI_leI, nI_eq, nI_add, oN, bz0, bz1, bw0, bw1, ltT, ltF, leT, leF, eqT, eqF, if_true, if_false, kI_n, wI_n, and_true, true_and, and_false, false_and, not_true, not_false_eq_true, hx.f, hx.fd, put_d H, put_f (hh_is H), put_l (hh_is (hh_is H)), hh_hh, H1.o, a1, a3, a4, put_f (hh_is H (d' := dx) (f' := f) (l' := l)), put_l (hh_is H (d' := dx) (f' := 0) (l' := l))]
  · have : v = 0 := by omega
    subst this
    exact ⟨t, a7, a8⟩
/-- the first version that stays -/
def fst1 (f l : Nat) : Nat := if l = f + 11 then f + 1 else f
theorem Hi_advance (H : isHi σ h T d f l) (hf : f ≤ l) (h12 : l < f + 12) (hl : l < 2 ^ 30) : dcall 47 [.ref h] σ = some (none, hh σ h d (fst1 f l) (l + 1)) := by
  have H1 := hh_is H (d' := d) (f' := f) (l' := l + 1)
  have e : (if nI f < nI (l + 1) - nI 12 + nI 1 then nI (l + 1) - nI 12 + nI 1 else nI f) = nI (fst1 f l) := by
    unfold fst1
    by_cases h1 : l < 11
    · have key : ∀ l, l < 11 → nI (l + 1) - nI 12 + nI 1 ≤ nI 0 := by decide +kernel
      have k2 : ¬ nI f < nI (l + 1) - nI 12 + nI 1 := Int32.not_lt.mpr (Int32.le_trans (key l h1) (nI_le (Nat.zero_le _) (by omega)))
      rw [if_neg k2, if_neg (by omega)]
    · rw [pk_sub (by omega), nI_add]
      simp only [nI_ltI (show f < 2 ^ 31 by omega) (show l + 1 - 12 + 1 < 2 ^ 31 by omega)]
      by_cases h2 : l = f + 11
      · rw [if_pos (by omega), if_pos h2]; congr 1; omega
      · rw [if_neg (by omega), if_neg h2]
  rw [q47]
  simp only [e47_0, e47_1, e47_2, e47_5, e47_6, e47_7, e47_10, e47_11, e47_12, e47_15, e47_16, e47_19, e47_21, e47_22, e47_23, e47_24, e47_27, e47_30, kv_s, kh_s, kr_s, kr_v, kn_s, z0, z1, z2, nI_ltI, nI_leI, nI_eq, nI_add, oN, bz0, bz1, bw0, bw1, ltT, ltF, leT, leF, eqT, eqF, if_true, if_false, kI_n, wI_n, and_true, true_and, and_false, false_and, not_true, not_false_eq_true, z12, H.gl, put_l H, H1.gf, H1.gl, Jm_max, e, put_f H1, hh_hh]
/-- one version more -/
def vup (V : Nat → Nat → Int32) (n : Nat) (W : Nat → Int32) (v : Nat) : Nat → Int32 := if v = n then W else V v
theorem fst1_bd (hf : f ≤ l) (h12 : l < f + 12) : f ≤ fst1 f l ∧ fst1 f l ≤ l + 1 ∧ l + 1 < fst1 f l + 12 := by
  unfold fst1
  split <;> omega
theorem Hi_push (H : HV c σ h T d f l V) (hl : l + 1 < 2 ^ 30) {x : Nat} {W : Nat → Int32} (hc : c + 42 ≤ σ.2.1) (hx : isT σ x d W) (hx2 : ∀ a, x ≤ a → a < x + 5 → a < σ.2.1 ∧ ¬ ow h T a) : ∃ t τ ρ T', dcall 15 [.ref h, .int (nI (l + 1))] (hh σ h d (fst1 f l) (l + 1)) = some (some (.ref t), τ) ∧ hObj τ t = some 5 ∧ (∀ a, a < σ.2.1 → ¬ ow h T a → τ.1 a = σ.1 a) ∧ dcall 17 [.ref t, .ref x] τ = some (none, ρ) ∧ HV c ρ h T' d (fst1 f l) (l + 1) (vup V (l + 1) W) ∧ ef h T σ ρ T' := by
  obtain ⟨H1, F, hd, h1, h2, h3, h4⟩ := H
  have hx' : isT (hh σ h d (fst1 f l) (l + 1)) x d W := hx.kept fun a q1 q2 => hh_ne fun z => (hx2 a q1 q2).2 (Or.inl z)
  have hb := fst1_bd h1 h2
  obtain ⟨t, τ, ρ, T', a1, a2, a2f, a3, a4, a5, a6, a7, a8, a9, a10⟩ := Hi_into (v := l + 1) (hh_is H1) (hh_FO H1 F) (by omega) hc hx' hx2
  refine ⟨t, τ, ρ, T', a1, a3, fun a q1 q2 => (a2f a q1 q2).trans (hh_ne fun z => q2 (Or.inl z)), a4, ⟨a5, a6, hd, hb.2.1, hb.2.2, hl, fun v q1 q2 => ?_⟩, (hh_ef H1 F).tr a9⟩
  by_cases hv : v = l + 1
  · subst hv
    refine ⟨t, a7, ?_⟩
    unfold vup
    rw [if_pos rfl]
    exact a8
  · obtain ⟨t', t1, t2⟩ := h4 v (by omega) (by omega)
    unfold vup
    rw [if_neg hv]
    obtain ⟨g1, g2⟩ := a10 (v % 12) t' d (V v) (Nat.mod_lt _ (by omega)) (by omega) t1 (t2.kept fun a z1 z2 => hh_ne (F.2.2.2.2 a ⟨_, t', Nat.mod_lt _ (by omega), t1, z1, z2⟩).1)
    exact ⟨t', g1, g2⟩
/-- two histories apart -/
def DJ (h : Nat) (T : Nat → Option Nat) (h2 : Nat) (T2 : Nat → Option Nat) : Prop := ∀ a, ow h T a → ¬ ow h2 T2 a
theorem ef.wo {T' : Nat → Option Nat} {τ : Hp} (e : ef h T σ τ T') {a : Nat} (ha : ow h T' a) : ow h T a ∨ σ.2.1 ≤ a := by
  rcases ha with rfl | rfl | z
  · exact Or.inl (Or.inl rfl)
  · exact Or.inl (Or.inr (Or.inl rfl))
  · rcases e.ot z with z | z
    · exact Or.inl (Or.inr (Or.inr z))
    · exact Or.inr z
theorem ef.fr {T' : Nat → Option Nat} {τ : Hp} (e : ef h T σ τ T') {a : Nat} (h1 : a < σ.2.1) (h2 : ¬ ow h T a) : τ.1 a = σ.1 a := e.1 a h1 (fun z => h2 (Or.inl z)) (fun z => h2 (Or.inr (Or.inl z))) (fun z => h2 (Or.inr (Or.inr z)))
theorem DJ.ef {T' : Nat → Option Nat} {τ : Hp} {h2 : Nat} {T2 : Nat → Option Nat} (D : DJ h T h2 T2) (F2 : FO c σ h2 T2) (e : ef h T σ τ T') : DJ h T' h2 T2 := fun a h1 h3 => by
  rcases e.wo h1 with z | z
  · exact D a z h3
  · have := F2.lt h3
    omega
theorem HV.ef {T' : Nat → Option Nat} {τ : Hp} {h2 : Nat} {T2 : Nat → Option Nat} (H2 : HV c σ h2 T2 d f l V) (D : DJ h T h2 T2) (e : ef h T σ τ T') : HV c τ h2 T2 d f l V := H2.kept e.2.2.2.1 fun a q1 q2 => e.fr q1 fun z => D a z q2
theorem Hi_take_loop {h2 : Nat} {T2 : Nat → Option Nat} : ∀ (m i : Nat) (σ : Hp) (T : Nat → Option Nat), i + m = 12 → isHi σ h T d f l → FO c σ h T → HV c σ h2 T2 d f l V → DJ h T h2 T2 → c + 42 ≤ σ.2.1 → (∀ v, f ≤ v → v < f + i → v ≤ l → ∃ t, T (v % 12) = some t ∧ isT σ t d (V v)) → ∃ ρ T', den 132 26 [.ref h, .ref h2, .int (nI i)] [] σ = some (none, ρ) ∧ HV c ρ h T' d f l V ∧ ef h T σ ρ T' := by
  intro m
  induction m with
  | zero =>
    intro i σ T hi H F H2 D hc hv
    refine ⟨σ, T, ?_, ⟨H, F, H2.2.2.1, H2.2.2.2.1, H2.2.2.2.2.1, H2.2.2.2.2.2.1, fun v q1 q2 => hv v q1 (by have := H2.2.2.2.2.1; omega) q2⟩, ef.rf⟩
    rw [e132_26]
    simp (disch := omega) only [e132_0, e132_1, e132_2, e132_5, e132_8, e132_9, e132_10, e132_13, e132_16, e132_17, e132_18, e132_21, e132_24, e132_25, e132_27, e132_29, e132_32, e132_33, e132_36, e132_37, e132_38, e132_39, e132_42, e132_45, e132_46, e132_47, e132_50, e132_51, e132_52, e132_55, e132_56, e132_57, e132_60, e132_61, e132_62, e132_65, e132_68, e132_71, e132_74, kv_s, kh_s, kr_s, kr_v, kn_s, z0, z1, z2, nI_ltI, nI_leI, nI_eq, nI_add, oN, bz0, bz1, bw0, bw1, ltT, ltF, leT, leF, eqT, eqF, if_true, if_false, kI_n, wI_n, and_true, true_and, and_false, false_and, not_true, not_false_eq_true, z12]
  | succ m ih =>
    intro i σ T hi H F H2 D hc hv
    have hl := H2.2.2.2.2.2.1
    have hf := H2.2.2.2.1
    by_cases h1 : l < f + i
    · refine ⟨σ, T, ?_, ⟨H, F, H2.2.2.1, H2.2.2.2.1, H2.2.2.2.2.1, H2.2.2.2.2.2.1, fun v q1 q2 => hv v q1 (by omega) q2⟩, ef.rf⟩
      rw [e132_26]
      simp (disch := omega) only [e132_0, e132_1, e132_2, e132_5, e132_8, e132_9, e132_10, e132_13, e132_16, e132_17, e132_18, e132_21, e132_24, e132_25, e132_27, e132_29, e132_32, e132_33, e132_36, e132_37, e132_38, e132_39, e132_42, e132_45, e132_46, e132_47, e132_50, e132_51, e132_52, e132_55, e132_56, e132_57, e132_60, e132_61, e132_62, e132_65, e132_68, e132_71, e132_74, kv_s, kh_s, kr_s, kr_v, kn_s, z0, z1, z2, nI_ltI, nI_leI, nI_eq, nI_add, oN, bz0, bz1, bw0, bw1, ltT, ltF, leT, leF, eqT, eqF, if_true, if_false, kI_n, wI_n, and_true, true_and, and_false, false_and, not_true, not_false_eq_true, z12, H.gf, H.gl, h1]
    · obtain ⟨x, x1, x2⟩ := H2.2.2.2.2.2.2 (f + i) (by omega) (by omega)
      have h12 : (f + i) % 12 < 12 := Nat.mod_lt _ (by omega)
      have xo : ∀ a, x ≤ a → a < x + 5 → ow h2 T2 a := fun a z1 z2 => Or.inr (Or.inr ⟨_, x, h12, x1, z1, z2⟩)
      obtain ⟨t, τ, ρ, T', a1, a2, a2f, a3, a4, a5, a6, a7, a8, a9, a10⟩ := Hi_into (v := f + i) H F (by omega) hc x2 fun a z1 z2 => ⟨H2.2.1.lt (xo a z1 z2), fun z => D a z (xo a z1 z2)⟩
      have g1 : isHi τ h2 T2 d f l := ⟨by rw [a2f h2 (H2.2.1.lt (Or.inl rfl)) fun z => D _ z (Or.inl rfl)]; exact H2.1.1, by rw [a2f (h2 + 1) (H2.2.1.lt (Or.inr (Or.inl rfl))) fun z => D _ z (Or.inr (Or.inl rfl))]; exact H2.1.2⟩
      have H2' := H2.ef D a9
      obtain ⟨ρ', T'', b1, b2, b3⟩ := ih (i + 1) ρ T' (by omega) a5 a6 H2' (D.ef H2.2.1 a9) (by have := a9.2.2.2.1; omega) (fun v q1 q2 q3 => by
        by_cases hvi : v = f + i
        · subst hvi
          exact ⟨t, a7, a8⟩
        · obtain ⟨t', t1, t2⟩ := hv v q1 (by omega) q3
          obtain ⟨g1, g2⟩ := a10 (v % 12) t' d (V v) (Nat.mod_lt _ (by omega)) (by omega) t1 t2
          exact ⟨t', g1, g2⟩)
      refine ⟨ρ', T'', ?_, b2, a9.tr b3⟩
      rw [e132_26]
      simp (disch := omega) only [e132_0, e132_1, e132_2, e132_5, e132_8, e132_9, e132_10, e132_13, e132_16, e132_17, e132_18, e132_21, e132_24, e132_25, e132_27, e132_29, e132_32, e132_33, e132_36, e132_37, e132_38, e132_39, e132_42, e132_45, e132_46, e132_47, e132_50, e132_51, e132_52, e132_55, e132_56, e132_57, e132_60, e132_61, e132_62, e132_65, e132_68, e132_71, e132_74, kv_s, kh_s, kr_s, kr_v, kn_s, z0, z1, z2, nI_ltI, nI_leI, nI_eq, nI_add, oN, bz0, bz1, bw0, bw1, ltT, ltF, leT, leF, eqT, eqF, if_true, if_false, kI_n, wI_n, and_true, true_and, and_false, false_and, not_true, not_false_eq_true, z12, H.gf, H.gl, h1, H.o, a1, a2.gf, a2.o, g1.o, Hi_hold_is g1 (show f + i < 2 ^ 31 by omega) x1, a3, a4, b1]
theorem Hi_take {h2 : Nat} {T2 : Nat → Option Nat} {d0 f0 l0 : Nat} (H : isHi σ h T d0 f0 l0) (F : FO c σ h T) (H2 : HV c σ h2 T2 d f l V) (D : DJ h T h2 T2) (hc : c + 42 ≤ σ.2.1) : ∃ ρ T', dcall 132 [.ref h, .ref h2] σ = some (none, ρ) ∧ HV c ρ h T' d f l V ∧ ef h T σ ρ T' := by
  have H1 := hh_is H (d' := d) (f' := f) (l' := l)
  have E := hh_ef H F (d' := d) (f' := f) (l' := l)
  have hne : h2 ≠ h := fun z => D h (Or.inl rfl) (Or.inl z.symm)
  have g1 : ∀ {d' f' l'}, isHi (hh σ h d' f' l') h2 T2 d f l := ⟨(hh_ne hne).trans H2.1.1, (hh_ne fun z => D h (Or.inl rfl) (Or.inr (Or.inl z.symm))).trans H2.1.2⟩
  obtain ⟨ρ, T', b1, b2, b3⟩ := Hi_take_loop 12 0 (hh σ h d f l) T (by omega) H1 (hh_FO H F) (H2.ef D E) D hc (fun v q1 q2 q3 => by omega)
  refine ⟨ρ, T', ?_, b2, E.tr b3⟩
  rw [q132]
  simp only [e132_0, e132_1, e132_2, e132_5, e132_8, e132_9, e132_10, e132_13, e132_16, e132_17, e132_18, e132_21, e132_24, e132_25, e132_27, e132_29, e132_32, e132_33, e132_36, e132_37, e132_38, e132_39, e132_42, e132_45, e132_46, e132_47, e132_50, e132_51, e132_52, e132_55, e132_56, e132_57, e132_60, e132_61, e132_62, e132_65, e132_68, e132_71, e132_74, kv_s, kh_s, kr_s, kr_v, kn_s, z0, z1, z2, nI_ltI, nI_leI, nI_eq, nI_add, oN, bz0, bz1, bw0, bw1, ltT, ltF, leT, leF, eqT, eqF, if_true, if_false, kI_n, wI_n, and_true, true_and, and_false, false_and, not_true, not_false_eq_true, H2.1.gd, put_d H, g1.gf, put_f (hh_is H (d' := d) (f' := f0) (l' := l0)), hh_hh, g1.gl, put_l (hh_is H (d' := d) (f' := f) (l' := l0)), b1]
/-- the newest version is let go -/
theorem Hi_undo (H : HV c σ h T d f (l + 1) V) (hf : f ≤ l) : hPut σ h 0 3 (.int (nI l)) = some (hh σ h d f l) ∧ HV c (hh σ h d f l) h T d f l V ∧ ef h T σ (hh σ h d f l) T := by
  obtain ⟨H1, F, hd, h1, h2, h3, h4⟩ := H
  refine ⟨put_l H1, ⟨hh_is H1, hh_FO H1 F, hd, hf, by omega, by omega, fun v q1 q2 => ?_⟩, hh_ef H1 F⟩
  obtain ⟨t, t1, t2⟩ := h4 v q1 (by omega)
  exact ⟨t, t1, t2.kept fun a z1 z2 => hh_ne (F.2.2.2.2 a ⟨_, t, Nat.mod_lt _ (by omega), t1, z1, z2⟩).1⟩
end H3
