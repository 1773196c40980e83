/-! a history's trees, apart from one another; hold, take, begin, advance -/
theorem isT_apart {σ : Hp} {t t' d d' : Nat} {V V' : Nat → Int32} (h : isT σ t d V) (h' : isT σ t' d' V') (hne : t ≠ t') : t' + 5 ≤ t ∨ t + 5 ≤ t' := by
  have key : ∀ {t t' d d' : Nat} {V V' : Nat → Int32}, isT σ t d V → isT σ t' d' V' → ∀ i, 1 ≤ i → i < 5 → t' ≠ t + i := by
    intro t t' d d' V V' h h' i h1 h2 he
    obtain ⟨_, _, _, _, ⟨a0, a1, a2, a3, a4⟩, _⟩ := h
    obtain ⟨_, _, _, _, ⟨b0, _⟩, _⟩ := h'
    rw [he] at b0
    rcases (show i = 1 ∨ i = 2 ∨ i = 3 ∨ i = 4 by omega) with rfl | rfl | rfl | rfl
    · rw [a1] at b0; cases b0
    · rw [a2] at b0; cases b0
    · rw [a3] at b0; cases b0
    · rw [show t + 4 = t + 3 + 1 from rfl, a4] at b0; cases b0
  rcases Nat.lt_or_gt_of_ne hne with h1 | h1
  · by_cases h2 : t + 5 ≤ t'
    · exact Or.inr h2
    · exact absurd (show t' = t + (t' - t) by omega) (key h h' (t' - t) (by omega) (by omega))
  · by_cases h2 : t' + 5 ≤ t
    · exact Or.inl h2
    · exact absurd (show t = t' + (t - t') by omega) (key h' h (t - t') (by omega) (by omega))
/-- a history and its trees have their own places -/
def FO (c : Nat) (σ : Hp) (h : Nat) (T : Nat → Option Nat) : Prop := (h = c + 9 ∨ c + 42 ≤ h) ∧ h + 2 ≤ σ.2.1 ∧ (∀ s t, s < 12 → T s = some t → (t = c + 19 ∨ c + 42 ≤ t) ∧ t + 5 ≤ σ.2.1 ∧ ∃ d V, isT σ t d V) ∧ (∀ s s' t, s < 12 → s' < 12 → T s = some t → T s' = some t → s = s') ∧ ∀ a, ot T a → a ≠ h ∧ a ≠ h + 1
def ow (h : Nat) (T : Nat → Option Nat) (a : Nat) : Prop := a = h ∨ a = h + 1 ∨ ot T a
theorem FO.lt {c : Nat} {σ : Hp} {h : Nat} {T : Nat → Option Nat} (F : FO c σ h T) {a : Nat} (ha : ow h T a) : a < σ.2.1 := by
  have h0 := F.2.1
  rcases ha with rfl | rfl | ⟨s, t, h1, h2, h3, h4⟩
  · omega
  · omega
  · have := (F.2.2.1 s t h1 h2).2.1
    omega
theorem FO.kept {c : Nat} {σ τ : Hp} {h : Nat} {T : Nat → Option Nat} (F : FO c σ h T) (hn : σ.2.1 ≤ τ.2.1) (hk : ∀ a, a < σ.2.1 → ot T a → τ.1 a = σ.1 a) : FO c τ h T := by
  obtain ⟨f1, f2, f3, f4, f5⟩ := F
  refine ⟨f1, by omega, fun s t h1 h2 => ?_, f4, f5⟩
  obtain ⟨g1, g2, d, V, g3⟩ := f3 s t h1 h2
  exact ⟨g1, by omega, d, V, g3.kept fun a b1 b2 => hk a (by omega) ⟨s, t, h1, h2, b1, b2⟩⟩
section H2
variable {c h : Nat} {σ : Hp} {T : Nat → Option Nat} {d f l : Nat}
theorem Hi_hold (H : isHi σ h T d f l) (F : FO c σ h T) {v : Nat} (hv : v < 2 ^ 31) (hc : c + 42 ≤ σ.2.1) : ∃ t τ T', dcall 15 [.ref h, .int (nI v)] σ = some (some (.ref t), τ) ∧ isHi τ h T' d f l ∧ FO c τ h T' ∧ T' (v % 12) = some t ∧ (∀ s, s ≠ v % 12 → T' s = T s) ∧ ef h T σ τ T' ∧ ∀ a, a < σ.2.1 → a ≠ h + 1 → τ.1 a = σ.1 a := by
  have h12 : v % 12 < 12 := Nat.mod_lt _ (by omega)
  cases hT : T (v % 12) with
  | some t => exact ⟨t, σ, T, Hi_hold_is H hv hT, H, F, hT, fun _ _ => rfl, ef.rf, fun _ _ _ => rfl⟩
  | none =>
    obtain ⟨τ, h1, h2, h3, h4, h5⟩ := Hi_hold_new H hv F.2.1 hT
    have f2 := F.2.1
    have hn := nul_up (t := σ.2.1) h12 hT
    have s1 : τ.2.1 = σ.2.1 + 5 := by rw [h5]
    have s2 : τ.2.2 = σ.2.2 + 1285 := by rw [h5]
    have hot : ∀ a, ot (va_up T (v % 12) (some σ.2.1)) a → ot T a ∨ σ.2.1 ≤ a := by
      rintro a ⟨s, t, q1, q2, q3, q4⟩
      by_cases hs : s = v % 12
      · subst hs
        rw [vu_at] at q2
        cases q2
        exact Or.inr q3
      · rw [vu_ne hs] at q2
        exact Or.inl ⟨s, t, q1, q2, q3, q4⟩
    refine ⟨σ.2.1, τ, _, h1, h2, ⟨F.1, by omega, fun s t q1 q2 => ?_, fun s s' t q1 q2 q3 q4 => ?_, fun a ha => ?_⟩, vu_at, fun s hs => vu_ne hs, ⟨fun a q1 q2 q3 q4 => h4 a q1 q3, fun s t q1 q2 => ?_, fun s t q1 q2 => ?_, by omega, by omega, by omega⟩, h4⟩
    · by_cases hs : s = v % 12
      · subst hs
        rw [vu_at] at q2
        cases q2
        exact ⟨Or.inr hc, by omega, _, _, h3⟩
      · rw [vu_ne hs] at q2
        obtain ⟨g1, g2, d, V, g3⟩ := F.2.2.1 s t q1 q2
        refine ⟨g1, by omega, d, V, g3.kept fun a b1 b2 => h4 a (by omega) (F.2.2.2.2 a ⟨s, t, q1, q2, b1, b2⟩).2⟩
    · by_cases hs : s = v % 12
      · subst hs
        rw [vu_at] at q3
        cases q3
        by_cases hs' : s' = v % 12
        · exact hs'.symm
        · rw [vu_ne hs'] at q4
          have := (F.2.2.1 s' _ q2 q4).2.1
          omega
      · rw [vu_ne hs] at q3
        by_cases hs' : s' = v % 12
        · subst hs'
          rw [vu_at] at q4
          cases q4
          have := (F.2.2.1 s _ q1 q3).2.1
          omega
        · rw [vu_ne hs'] at q4
          exact F.2.2.2.1 s s' t q1 q2 q3 q4
    · rcases hot a ha with z | z
      · exact F.2.2.2.2 a z
      · omega
    · by_cases hs : s = v % 12
      · subst hs
        rw [vu_at] at q2
        cases q2
        exact Or.inr ⟨hT, Nat.le_refl _⟩
      · rw [vu_ne hs] at q2
        exact Or.inl q2
    · by_cases hs : s = v % 12
      · subst hs
        rw [hT] at q2
        cases q2
      · rw [vu_ne hs]
        exact q2
/-- one tree of it is written -/
theorem FO_fr5 (H : isHi σ h T d f l) (F : FO c σ h T) {s t : Nat} (hs : s < 12) (ht : T s = some t) {τ : Hp} (hf : fr5 t σ τ) {d' : Nat} {W : Nat → Int32} (hT : isT τ t d' W) : isHi τ h T d f l ∧ FO c τ h T ∧ ef h T σ τ T ∧ (∀ s' t' d2 V2, s' < 12 → s' ≠ s → T s' = some t' → isT σ t' d2 V2 → isT τ t' d2 V2) := by
  have hap : ∀ s' t', s' < 12 → s' ≠ s → T s' = some t' → t' + 5 ≤ t ∨ t + 5 ≤ t' := fun s' t' q1 q2 q3 => by
    obtain ⟨_, _, d1, V1, g1⟩ := F.2.2.1 s t hs ht
    obtain ⟨_, _, d2, V2, g2⟩ := F.2.2.1 s' t' q1 q3
    refine isT_apart g1 g2 fun z => q2 ?_
    subst z
    exact F.2.2.2.1 s' s t q1 hs q3 ht
  have hk : ∀ s' t' d2 V2, s' < 12 → s' ≠ s → T s' = some t' → isT σ t' d2 V2 → isT τ t' d2 V2 := fun s' t' d2 V2 q1 q2 q3 q4 => by
    have := hap s' t' q1 q2 q3
    exact q4.kept fun a b1 b2 => hf.1 a (by omega)
  have hh : ∀ a, ¬ ot T a → τ.1 a = σ.1 a := fun a ha => hf.1 a (Classical.byContradiction fun z => ha ⟨s, t, hs, ht, by omega, by omega⟩)
  have e1 : τ.2.1 = σ.2.1 := by rw [hf.2]
  have e2 : τ.2.2 = σ.2.2 := by rw [hf.2]
  refine ⟨⟨by rw [hh h fun z => (F.2.2.2.2 _ z).1 rfl]; exact H.1, by rw [hh (h + 1) fun z => (F.2.2.2.2 _ z).2 rfl]; exact H.2⟩, ⟨F.1, by rw [e1]; exact F.2.1, fun s' t' q1 q2 => ?_, F.2.2.2.1, F.2.2.2.2⟩, ⟨fun a _ _ _ q => hh a q, fun _ _ _ q => Or.inl q, fun _ _ _ q => q, by omega, by omega, by omega⟩, hk⟩
  obtain ⟨g1, g2, d2, V2, g3⟩ := F.2.2.1 s' t' q1 q2
  by_cases hss : s' = s
  · subst hss
    rw [ht] at q2
    cases q2
    exact ⟨g1, by omega, _, _, hT⟩
  · exact ⟨g1, by omega, _, _, hk s' t' d2 V2 q1 hss q2 g3⟩
/-- the history's fields are written -/
theorem FO_head (H : isHi σ h T d f l) (F : FO c σ h T) (d' f' l' : Nat) : isHi (hup σ h (.inr (0, [.ref (h + 1), .int (nI d'), .int (nI f'), .int (nI l')]))) h T d' f' l' ∧ FO c (hup σ h (.inr (0, [.ref (h + 1), .int (nI d'), .int (nI f'), .int (nI l')]))) h T ∧ ef h T σ (hup σ h (.inr (0, [.ref (h + 1), .int (nI d'), .int (nI f'), .int (nI l')]))) T :=
  ⟨⟨hup_at, by rw [hup_ne (by omega)]; exact H.2⟩, F.kept (Nat.le_refl _) (fun a _ ha => hup_ne (F.2.2.2.2 a ha).1), fun a _ q _ _ => hup_ne q, fun _ _ _ q => Or.inl q, fun _ _ _ q => q, Nat.le_refl _, rfl, rfl⟩
/-- hold a version's tree and write another tree's values into it -/
theorem Hi_into (H : isHi σ h T d f l) (F : FO c σ h T) {v x dx : Nat} {W : Nat → Int32} (hv : v < 2 ^ 31) (hc : c + 42 ≤ σ.2.1) (hx : isT σ x dx W) (hx2 : ∀ a, x ≤ a → a < x + 5 → a < σ.2.1 ∧ ¬ ow h T a) : ∃ t τ ρ T', dcall 15 [.ref h, .int (nI v)] σ = some (some (.ref t), τ) ∧ isHi τ h T' d f l ∧ (∀ a, a < σ.2.1 → ¬ ow h T a → τ.1 a = σ.1 a) ∧ hObj τ t = some 5 ∧ dcall 17 [.ref t, .ref x] τ = some (none, ρ) ∧ isHi ρ h T' d f l ∧ FO c ρ h T' ∧ T' (v % 12) = some t ∧ isT ρ t dx W ∧ ef h T σ ρ T' ∧ (∀ s' t' d2 V2, s' < 12 → s' ≠ v % 12 → T s' = some t' → isT σ t' d2 V2 → T' s' = some t' ∧ isT ρ t' d2 V2) := by
  have h12 : v % 12 < 12 := Nat.mod_lt _ (by omega)
  obtain ⟨t, τ, T', a1, a2, a3, a4, a5, a6, a7⟩ := Hi_hold H F hv hc
  obtain ⟨b1, b2, dt, Vt, b3⟩ := a3.2.2.1 _ t h12 a4
  have hx' : isT τ x dx W := hx.kept fun a q1 q2 => a7 a (hx2 a q1 q2).1 fun z => (hx2 a q1 q2).2 (Or.inr (Or.inl z))
  have hne : t ≠ x := fun z => by
    subst z
    have := hx2 t (by omega) (by omega)
    rcases a6.ot (a := t) ⟨v % 12, t, h12, a4, by omega, by omega⟩ with z | z
    · exact this.2 (Or.inr (Or.inr z))
    · omega
  obtain ⟨ρ, c1, c2, c3⟩ := T_take b3 hx' (isT_apart b3 hx' hne)
  obtain ⟨e1, e2, e3, e4⟩ := FO_fr5 a2 a3 h12 a4 c3 c2
  refine ⟨t, τ, ρ, T', a1, a2, fun a q1 q2 => a7 a q1 fun z => q2 (Or.inr (Or.inl z)), b3.o, c1, e1, e2, a4, c2, a6.tr e3, fun s' t' d2 V2 q1 q2 q3 q4 => ?_⟩
  have q5 : T' s' = some t' := by rw [a5 s' q2]; exact q3
  have q6 := (F.2.2.1 s' t' q1 q3).2.1
  exact ⟨q5, e4 s' t' d2 V2 q1 q2 q5 (q4.kept fun a z1 z2 => a7 a (by omega) (F.2.2.2.2 a ⟨s', t', q1, q3, z1, z2⟩).2)⟩
end H2
