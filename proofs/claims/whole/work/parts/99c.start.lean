/-! the law's start is a common state -/
section SR
variable {c : Nat} {σ : Hp}
def zS : Hs := (4, 0, 0, fun _ _ => nI 0)
def A0S : Nat → Nat → Int32 := va_up (va_up (fun _ _ => 0) 1 (upd (upd (fun _ => 0) 0 (nI 4)) 2 (nI 1))) 2 (upd (fun _ => 0) 0 (-nI 1))
theorem okH_S : okH zS := fun v _ _ => ⟨fun k _ => ⟨0, by omega, rfl⟩, by rw [show un zS.1 (zS.2.2.2 v) 1 = 0 from un_zero (fun _ _ => rfl) 1 (by omega) (by decide)]; omega, fun k _ _ => rfl⟩
theorem nowM_S : nowM (A0S 1) zS.1 zS.2.1 zS.2.2.1 zS.2.2.2 := by
  have e : A0S 1 = upd (upd (fun _ => 0) 0 (nI 4)) 2 (nI 1) := by
    unfold A0S
    rw [vu_ne (by omega), vu_at]
  rw [e]
  refine ⟨?_, ?_, ?_, by decide, by decide, by decide, by decide, fun v k h1 h2 h3 => ?_⟩
  · rw [pk_un (by omega), pk_us]; rfl
  · rw [pk_un (by omega), pk_un (by omega)]; rfl
  · rw [pk_us]; rfl
  · rw [pk_un (by omega), pk_un (by omega)]; rfl
theorem Inv_ini (hc : σ.2 = (c, 0)) : ∃ ρ τ, dcall 0 [.ref c] (hnew σ (.inr (6, zD 6)) 8) = some (none, ρ) ∧ ρ.2 = (c + 24, 3352) ∧ dcall 137 [.ref (c + 24)] (hnew ρ (.inr (7, zD 7)) 24) = some (none, τ) ∧ τ.2 = (c + 41, 20027) ∧ Inv c 0 (hnew τ (zArr 1 1) 1) := by
  have hc1 : σ.2.1 = c := by rw [hc]
  have hc2 : σ.2.2 = 0 := by rw [hc]
  obtain ⟨ρ, a1, a2, a3, a4, a5, a6, a7, a8⟩ := A_ini (σ := hnew σ (.inr (6, zD 6)) 8) (c := c) (k := 8) (by rw [← hc1]; exact hnew_at) (by show (σ.2.1 + 1, σ.2.2 + 8) = _; rw [hc1, hc2])
  have r1 : ρ.2.1 = c + 24 := by rw [a8]
  have r2 : ρ.2.2 = 3352 := by rw [a8]
  obtain ⟨ω, b1, b2, b3⟩ := M_ini (σ := hnew ρ (.inr (7, zD 7)) 24) (c := c + 24) (k := 3376) (by rw [← r1]; exact hnew_at) (by show (ρ.2.1 + 1, ρ.2.2 + 24) = _; rw [r1, r2])
  refine ⟨ρ, mw ω (c + 24) A0S (fun _ => 0) (fun _ => 0), a1, a8, b1, b2, ?_⟩
  have wn : (mw ω (c + 24) A0S (fun _ => 0) (fun _ => 0)).2.1 = c + 41 := by show ω.2.1 = _; rw [b2]
  have lo : ∀ a, a < c + 24 → (hnew (mw ω (c + 24) A0S (fun _ => 0) (fun _ => 0)) (zArr 1 1) 1).1 a = ρ.1 a := fun a ha => by
    rw [hnew_ne (by omega), mw_out (by omega), b3 a ha, hnew_ne (by omega)]
  have w2 : (hnew (mw ω (c + 24) A0S (fun _ => 0) (fun _ => 0)) (zArr 1 1) 1).2 = (c + 42, 20028) := by
    show (ω.2.1 + 1, ω.2.2 + 1) = _
    rw [b2]
  have w41 : (hnew (mw ω (c + 24) A0S (fun _ => 0) (fun _ => 0)) (zArr 1 1) 1).1 (c + 41) = some (zArr 1 1) := by rw [← wn]; exact hnew_at
  have wm : mw (hnew (mw ω (c + 24) A0S (fun _ => 0) (fun _ => 0)) (zArr 1 1) 1) (c + 24) A0S (fun _ => 0) (fun _ => 0) = hnew (mw ω (c + 24) A0S (fun _ => 0) (fun _ => 0)) (zArr 1 1) 1 := mw_keep (σ := ω) fun a q1 q2 => hnew_ne (by omega)
  generalize hnew (mw ω (c + 24) A0S (fun _ => 0) (fun _ => 0)) (zArr 1 1) 1 = W at lo w2 w41 wm
  have wl : W.2.1 = c + 42 := by rw [w2]
  have ws : W.2.2 = 20028 := by rw [w2]
  have tk : ∀ {t d V}, isT ρ t d V → t + 5 ≤ c + 24 → isT W t d V := fun h q => h.kept fun a q1 q2 => lo a (by omega)
  have hT : ∀ s t, va_up (fun _ => none) 0 (some (c + 19)) s = some t → s = 0 ∧ t = c + 19 := fun s t h => by
    by_cases hs : s = 0
    · subst hs
      rw [vu_at] at h
      cases h
      exact ⟨rfl, rfl⟩
    · rw [vu_ne hs] at h
      cases h
  have hot : ∀ a, ot (va_up (fun _ => none) 0 (some (c + 19))) a → c + 19 ≤ a := fun a ⟨s, t, q1, q2, q3, q4⟩ => by
    have := (hT s t q2).2
    omega
  have hnul : nul (va_up (fun _ => none) 0 (some (c + 19))) = 11 := by
    have := nul_up (T := fun _ => none) (s := 0) (t := c + 19) (by omega) rfl
    rw [nul_none] at this
    omega
  have cz : cost none (fun _ => none) = 62 := rfl
  have cs : costS none (fun _ => none) = 15436 := rfl
  refine ⟨zS, 0, fun _ => 0, [], none, fun _ => none, fun _ _ => 0, fun _ => 0, fun _ => 0, A0S, fun _ => 0, fun _ => 0, cw_self fun j q1 q2 => (lo _ (by omega)).trans (a3 j q1 q2), wm, ⟨va_up (fun _ => none) 0 (some (c + 19)), fun _ => none, fun _ _ => none, ⟨(lo c (by omega)).trans a2, ⟨(lo _ (by omega)).trans a4.1, (lo _ (by omega)).trans a4.2⟩, ⟨Or.inl rfl, by omega, fun s t q1 q2 => ?_, fun s s' t q1 q2 q3 q4 => ?_, fun a q => ?_⟩, by decide, by decide, by decide, by decide, fun v q1 q2 => ?_⟩, ⟨by omega, _, w41⟩, ⟨4, _, tk a6 (by omega)⟩, (lo _ (by omega)).trans a7, fun j _ => rfl, fun h0 h1 q _ => (by cases q), ?_, ?_⟩, ⟨⟨by omega, rfl, fun i hi => absurd hi (Nat.not_lt_zero i)⟩, rfl, ⟨Nat.zero_le _, fun i hi => absurd hi (Nat.not_lt_zero i)⟩, rfl, 0, by omega, rfl⟩, ⟨nowM_S, ?_, rfl, fun i hi => absurd hi (Nat.not_lt_zero i), rfl, ⟨Nat.zero_le _, fun i hi => absurd hi (Nat.not_lt_zero i)⟩, fun j hj => ?_⟩, okH_S, fun j y _ q => (by cases q), by decide, fun h q => (by cases q), by decide, by decide⟩
  · obtain ⟨_, rfl⟩ := hT s t q2
    exact ⟨Or.inl rfl, by omega, 4, _, tk a5 (by omega)⟩
  · exact (hT s t q3).1.trans (hT s' t q4).1.symm
  · have := hot a q
    omega
  · have : v = 0 := Nat.le_zero.mp q2
    subst this
    exact ⟨c + 19, vu_at, tk a5 (by omega)⟩
  · rw [hnul, cz, wl]
    show _ ≤ c + 300 + 0
    omega
  · rw [hnul, cs, ws]
    show _ ≤ 100000 + 6 * 0
    omega
  · show A0S 2 0 = -nI 1
    unfold A0S
    rw [vu_at, pk_us]
  · show A0S 16 j = nI 0
    unfold A0S
    rw [vu_ne (by omega), vu_ne (by omega)]
    rfl
end SR
