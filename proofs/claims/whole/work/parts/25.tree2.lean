/-! Tree(), besideFrom, levelOf, isAlike; floorMod -/
theorem hnew_at {σ : Hp} {E : va_E} {k : Nat} : (hnew σ E k).1 σ.2.1 = some E := by simp [hnew]
theorem hnew_ne {σ : Hp} {E : va_E} {k a : Nat} (h : a ≠ σ.2.1) : (hnew σ E k).1 a = σ.1 a := by simp [hnew, h]
theorem hnew_n {σ : Hp} {E : va_E} {k : Nat} : (hnew σ E k).2.1 = σ.2.1 + 1 := rfl
theorem hnew_s {σ : Hp} {E : va_E} {k : Nat} : (hnew σ E k).2.2 = σ.2.2 + k := rfl
theorem Tr_init {σ : Hp} {t : Nat} (h : σ.1 t = some (.inr (5, zD 5))) (hn : σ.2.1 = t + 1) : ∃ τ, dcall 5 [.ref t] σ = some (none, τ) ∧ isTr τ t (fun _ => 0) (fun _ => 0) (fun _ => 0) 0 ∧ (∀ a, a < t → τ.1 a = σ.1 a) ∧ τ.2 = (t + 5, σ.2.2 + 1282) := by
  let σ1 := hnew σ (zArr 0 256) 256
  let σ2 := hup σ1 t (.inr (5, [.ref (t + 1), .null, .null]))
  let σ3 := hnew σ2 (zArr 0 512) 512
  let σ4 := hup σ3 t (.inr (5, [.ref (t + 1), .ref (t + 2), .null]))
  let σ5 := hnew σ4 (.inr (1, zD 1)) 2
  let σ6 : Hp := ((kput σ5 (t + 3) (fun _ => 0) 0).1, σ5.2.1 + 1, σ5.2.2 + 512)
  let σ7 := hup σ6 t (.inr (5, [.ref (t + 1), .ref (t + 2), .ref (t + 3)]))
  have n2 : σ2.2.1 = t + 2 := by show σ.2.1 + 1 = _; omega
  have n4 : σ4.2.1 = t + 3 := by show σ.2.1 + 1 + 1 = _; omega
  have n5 : σ5.2.1 = t + 3 + 1 := by show σ.2.1 + 1 + 1 + 1 = _; omega
  have a1 : hPut (hnew σ (zArr 0 256) 256) t 5 0 (.ref σ.2.1) = some σ2 := by
    rw [hn]
    exact hPut_of (fs := zD 5) ((hnew_ne (by omega)).trans h) (Nat.le_of_ble_eq_true rfl)
  have a2 : hPut (hnew σ2 (zArr 0 512) 512) t 5 1 (.ref σ2.2.1) = some σ4 := by
    rw [n2]
    exact hPut_of (fs := [.ref (t + 1), .null, .null]) ((hnew_ne (by omega)).trans hup_at) (Nat.le_of_ble_eq_true rfl)
  have a3 : dcall 6 [.ref σ4.2.1] (hnew σ4 (.inr (1, zD 1)) 2) = some (none, σ6) := by
    rw [n4]
    exact Ks_init (by rw [← n4]; exact hnew_at) n5
  have b6 : σ6.1 t = some (.inr (5, [.ref (t + 1), .ref (t + 2), .null])) := by
    show (kput σ5 (t + 3) (fun _ => 0) 0).1 t = _
    rw [kput_ne (by omega) (by omega)]
    exact (hnew_ne (by omega)).trans hup_at
  have a4 : hPut σ6 t 5 2 (.ref σ4.2.1) = some σ7 := by
    rw [n4]
    exact hPut_of b6 (Nat.le_of_ble_eq_true rfl)
  refine ⟨σ7, ?_, ⟨hup_at, ?_, ?_, ?_, ?_⟩, fun a ha => ?_, ?_⟩
  · rw [q5]
    simp only [e5_0, e5_1, e5_4, e5_5, e5_8, e5_10, e5_13, e5_14, e5_17, e5_19, e5_22, e5_23, e5_26, e5_27, e5_30, e5_33, kv_s, kh_s, kr_s, kr_v, kn_s, a1, a2, a3, a4]
  · show σ7.1 (t + 1) = _
    rw [hup_ne (by omega)]
    show (kput σ5 (t + 3) (fun _ => 0) 0).1 (t + 1) = _
    rw [kput_ne (by omega) (by omega), hnew_ne (by omega), hup_ne (by omega), hnew_ne (by omega), hup_ne (by omega), ← hn, hnew_at]
    rfl
  · show σ7.1 (t + 2) = _
    rw [hup_ne (by omega)]
    show (kput σ5 (t + 3) (fun _ => 0) 0).1 (t + 2) = _
    rw [kput_ne (by omega) (by omega), hnew_ne (by omega), hup_ne (by omega), ← n2, hnew_at]
    rfl
  · show σ7.1 (t + 3) = _
    rw [hup_ne (by omega)]
    exact kput_is.1
  · show σ7.1 (t + 3 + 1) = _
    rw [hup_ne (by omega)]
    exact kput_is.2
  · rw [hup_ne (by omega)]
    show (kput σ5 (t + 3) (fun _ => 0) 0).1 a = _
    rw [kput_ne (by omega) (by omega), hnew_ne (by omega), hup_ne (by omega), hnew_ne (by omega), hup_ne (by omega), hnew_ne (by omega)]
  · show (σ5.2.1 + 1, σ.2.2 + 256 + 512 + 2 + 512) = _
    rw [n5]
theorem T_init {σ : Hp} {t : Nat} (h : σ.1 t = some (.inr (5, zD 5))) (hn : σ.2.1 = t + 1) : ∃ τ, dcall 5 [.ref t] σ = some (none, τ) ∧ isT τ t 0 (fun _ => nI 0) ∧ (∀ a, a < t → τ.1 a = σ.1 a) ∧ τ.2 = (t + 5, σ.2.2 + 1282) := by
  obtain ⟨τ, h1, h2, h3, h4⟩ := Tr_init h hn
  exact ⟨τ, h1, ⟨by omega, _, _, _, h2, fun _ _ => rfl, ⟨fun k _ => (lf_0 k).symm, fun p _ _ => by omega⟩, ⟨fun k _ => rfl, fun p _ _ => by omega⟩⟩, h3, h4⟩
/-- the place beside -/
def sib (p : Nat) : Nat := if p % 2 = 0 then p + 1 else p - 1
theorem nI_sib {p : Nat} (h : p < 512) : nI p ^^^ nI 1 = nI (sib p) := by
  have key : ∀ p, p < 512 → nI p ^^^ nI 1 = nI (sib p) := by decide +kernel
  exact key p h
theorem sib_bd {d p : Nat} (h1 : 1 < p) (h2 : p < 2 * 2 ^ d) : 1 ≤ sib p ∧ sib p < 2 * 2 ^ d := by
  unfold sib
  split <;> omega
/-- siblings on the way up that are not bare -/
def bes (B : Nat → Bool) : Nat → Nat → Nat
  | 0, _ => 0
  | n + 1, p => if p ≤ 1 then 0 else (if B (sib p) = true then 0 else 1) + bes B n (p / 2)
/-- bare places -/
def br (d : Nat) (V : Nat → Int32) (p : Nat) : Bool := decide (un d V p = 0)
theorem T_bareb {σ : Hp} {t d : Nat} {V : Nat → Int32} (h : isT σ t d V) {p : Nat} (h1 : 1 ≤ p) (h2 : p < 2 * 2 ^ d) : dcall 60 [.ref t, .int (nI p)] σ = some (some (.int (if br d V p = true then nI 1 else nI 0)), σ) := by
  rw [T_bare h h1 h2]
  unfold br
  simp only [decide_eq_true_eq]
theorem isT.d8 {σ : Hp} {t d : Nat} {V : Nat → Int32} (h : isT σ t d V) : 2 ^ d ≤ 256 := Nat.pow_le_pow_right (by omega) h.1
section T2
variable {σ : Hp} {t d : Nat} {V : Nat → Int32}
theorem T_beside_loop (h : isT σ t d V) {l1 : Value} : ∀ (n p c : Nat), p < 2 * 2 ^ d → p < 2 ^ n → den 89 4 [.ref t, l1, .int (nI c), .int (nI p)] [] σ = some (some (.int (nI (c + bes (br d V) n p))), σ) := by
  have hK := h.d8
  intro n
  induction n with
  | zero =>
    intro p c h1 h2
    rw [e89_4]
    simp (disch := omega) only [e89_0, e89_1, e89_2, e89_3, e89_5, e89_6, e89_9, e89_10, e89_11, e89_12, e89_13, e89_16, e89_19, e89_22, e89_23, e89_24, e89_25, e89_26, e89_29, e89_30, kv_s, kh_s, kr_s, kr_v, kn_s, z0, z1, z2, nI_ltI, nI_leI, nI_eq, nI_add, oN, bz0, bz1, bw0, bw1, ltT, ltF, leT, leF, eqT, eqF, if_true, if_false, kI_n, wI_n, and_true, true_and, and_false, false_and, not_true, not_false_eq_true]
    rfl
  | succ n ih =>
    intro p c h1 h2
    rw [e89_4]
    rw [bes]
    by_cases h3 : p ≤ 1
    · simp (disch := omega) only [e89_0, e89_1, e89_2, e89_3, e89_5, e89_6, e89_9, e89_10, e89_11, e89_12, e89_13, e89_16, e89_19, e89_22, e89_23, e89_24, e89_25, e89_26, e89_29, e89_30, kv_s, kh_s, kr_s, kr_v, kn_s, z0, z1, z2, nI_ltI, nI_leI, nI_eq, nI_add, oN, bz0, bz1, bw0, bw1, ltT, ltF, leT, leF, eqT, eqF, if_true, if_false, kI_n, wI_n, and_true, true_and, and_false, false_and, not_true, not_false_eq_true, h3]
      rfl
    · have e1 := (sib_bd (d := d) (p := p) (by omega) h1)
      have hn : p / 2 < 2 ^ n := by rw [Nat.pow_succ] at h2; omega
      cases hb : br d V (sib p) with
      | true =>
        simp (disch := omega) only [e89_0, e89_1, e89_2, e89_3, e89_5, e89_6, e89_9, e89_10, e89_11, e89_12, e89_13, e89_16, e89_19, e89_22, e89_23, e89_24, e89_25, e89_26, e89_29, e89_30, kv_s, kh_s, kr_s, kr_v, kn_s, z0, z1, z2, nI_ltI, nI_leI, nI_eq, nI_add, oN, bz0, bz1, bw0, bw1, ltT, ltF, leT, leF, eqT, eqF, if_true, if_false, kI_n, wI_n, and_true, true_and, and_false, false_and, not_true, not_false_eq_true, h3, h.o, nI_sib, T_bareb h e1.1 e1.2, hb, shr1, pk_eq]
        rw [ih _ _ (by omega) hn, Nat.zero_add]
      | false =>
        simp (disch := omega) only [e89_0, e89_1, e89_2, e89_3, e89_5, e89_6, e89_9, e89_10, e89_11, e89_12, e89_13, e89_16, e89_19, e89_22, e89_23, e89_24, e89_25, e89_26, e89_29, e89_30, kv_s, kh_s, kr_s, kr_v, kn_s, z0, z1, z2, nI_ltI, nI_leI, nI_eq, nI_add, oN, bz0, bz1, bw0, bw1, ltT, ltF, leT, leF, eqT, eqF, if_true, if_false, kI_n, wI_n, and_true, true_and, and_false, false_and, not_true, not_false_eq_true, h3, h.o, nI_sib, T_bareb h e1.1 e1.2, hb, shr1, Bool.false_eq_true]
        rw [ih _ _ (by omega) hn, Nat.add_assoc]
theorem T_beside (h : isT σ t d V) {p : Nat} (h1 : p < 2 * 2 ^ d) : dcall 89 [.ref t, .int (nI p)] σ = some (some (.int (nI (bes (br d V) 9 p))), σ) := by
  have hK := h.d8
  rw [q89]
  simp (disch := omega) only [e89_0, e89_1, e89_2, e89_3, e89_5, e89_6, e89_9, e89_10, e89_11, e89_12, e89_13, e89_16, e89_19, e89_22, e89_23, e89_24, e89_25, e89_26, e89_29, e89_30, kv_s, kh_s, kr_s, kr_v, kn_s, z0, z1, z2, nI_ltI, nI_leI, nI_eq, nI_add, oN, bz0, bz1, bw0, bw1, ltT, ltF, leT, leF, eqT, eqF, if_true, if_false, kI_n, wI_n, and_true, true_and, and_false, false_and, not_true, not_false_eq_true]
  rw [T_beside_loop h 9 p 0 h1 (by omega), Nat.zero_add]
end T2
/-- bits above the first -/
def lg : Nat → Nat → Nat
  | 0, _ => 0
  | n + 1, p => if p < 1 then 0 else 1 + lg n (p / 2)
theorem lg_pow : ∀ (n e p : Nat), p < 2 ^ n → 2 ^ e ≤ p → p < 2 ^ (e + 1) → lg n p = e + 1 := by
  intro n
  induction n with
  | zero =>
    intro e p h1 h2 h3
    have := Nat.one_le_two_pow (n := e)
    simp at h1
    omega
  | succ n ih =>
    intro e p h1 h2 h3
    have h0 := Nat.one_le_two_pow (n := e)
    rw [lg, if_neg (by omega)]
    cases e with
    | zero =>
      have : p / 2 = 0 := by simp at h3; omega
      rw [this]
      cases n <;> simp [lg]
    | succ e =>
      rw [ih e (p / 2) (by rw [Nat.pow_succ] at h1; omega) (by rw [Nat.pow_succ] at h2; omega) (by rw [Nat.pow_succ] at h3; omega)]
      omega
theorem A_levelOf_loop {σ : Hp} {l0 l1 : Value} : ∀ (n p c : Nat), p < 2 ^ n → n < 31 → lg n p ≤ c → c < 2 ^ 31 → den 46 6 [l0, l1, .int (nI c), .int (nI p)] [] σ = some (some (.int (nI (c - lg n p))), σ) := by
  intro n
  induction n with
  | zero =>
    intro p c h1 hn h2 h3
    have h1 : p < 1 := h1
    rw [e46_6]
    simp (disch := omega) only [e46_0, e46_1, e46_2, e46_3, e46_4, e46_5, e46_7, e46_10, e46_13, e46_14, e46_15, e46_16, e46_17, e46_20, e46_21, kv_s, kh_s, kr_s, kr_v, kn_s, z0, z1, z2, nI_ltI, nI_leI, nI_eq, nI_add, oN, bz0, bz1, bw0, bw1, ltT, ltF, leT, leF, eqT, eqF, if_true, if_false, kI_n, wI_n, and_true, true_and, and_false, false_and, not_true, not_false_eq_true]
    rfl
  | succ n ih =>
    intro p c h1 hn h2 h3
    have hb : 2 ^ (n + 1) ≤ 2 ^ 30 := Nat.pow_le_pow_right (by omega) (by omega)
    rw [e46_6]
    by_cases h4 : p < 1
    · have : p = 0 := by omega
      subst this
      simp (disch := omega) only [e46_0, e46_1, e46_2, e46_3, e46_4, e46_5, e46_7, e46_10, e46_13, e46_14, e46_15, e46_16, e46_17, e46_20, e46_21, kv_s, kh_s, kr_s, kr_v, kn_s, z0, z1, z2, nI_ltI, nI_leI, nI_eq, nI_add, oN, bz0, bz1, bw0, bw1, ltT, ltF, leT, leF, eqT, eqF, if_true, if_false, kI_n, wI_n, and_true, true_and, and_false, false_and, not_true, not_false_eq_true]
      rfl
    · rw [lg, if_neg h4] at h2 ⊢
      obtain ⟨c, rfl⟩ : ∃ e, c = e + 1 := ⟨c - 1, by omega⟩
      simp (disch := omega) only [e46_0, e46_1, e46_2, e46_3, e46_4, e46_5, e46_7, e46_10, e46_13, e46_14, e46_15, e46_16, e46_17, e46_20, e46_21, kv_s, kh_s, kr_s, kr_v, kn_s, z0, z1, z2, nI_ltI, nI_leI, nI_eq, nI_add, oN, bz0, bz1, bw0, bw1, ltT, ltF, leT, leF, eqT, eqF, if_true, if_false, kI_n, wI_n, and_true, true_and, and_false, false_and, not_true, not_false_eq_true, h4, shr1, nI_dec]
      rw [ih (p / 2) c (by rw [Nat.pow_succ] at h1; omega) (by omega) (by omega) (by omega), show c + 1 - (1 + lg n (p / 2)) = c - lg n (p / 2) by omega]
/-- place p is at level l -/
def atl (d l p : Nat) : Prop := l ≤ d ∧ 2 ^ (d - l) ≤ p ∧ p < 2 ^ (d - l + 1)
theorem A_levelOf {σ : Hp} {d l p : Nat} (h : atl d l p) (hd : d ≤ 8) : dcall 46 [.int (nI p), .int (nI d)] σ = some (some (.int (nI l)), σ) := by
  obtain ⟨h1, h2, h3⟩ := h
  have e1 : 2 ^ (d - l + 1) ≤ 2 ^ 9 := Nat.pow_le_pow_right (by omega) (by omega)
  have e2 : p < 512 := by omega
  rw [q46]
  simp (disch := omega) only [e46_0, e46_1, e46_2, e46_3, e46_4, e46_5, e46_7, e46_10, e46_13, e46_14, e46_15, e46_16, e46_17, e46_20, e46_21, kv_s, kh_s, kr_s, kr_v, kn_s, z0, z1, z2, nI_ltI, nI_leI, nI_eq, nI_add, oN, bz0, bz1, bw0, bw1, ltT, ltF, leT, leF, eqT, eqF, if_true, if_false, kI_n, wI_n, and_true, true_and, and_false, false_and, not_true, not_false_eq_true, shr1]
  have hl : lg 8 (p / 2) = d - l := by
    cases he : d - l with
    | zero =>
      rw [he] at h2 h3
      have : p = 1 := by simp at h2 h3; omega
      subst this
      rfl
    | succ e =>
      rw [he] at h2 h3
      exact lg_pow 8 e (p / 2) (by omega) (by rw [Nat.pow_succ] at h2; omega) (by rw [Nat.pow_succ] at h3; omega)
  rw [A_levelOf_loop 8 (p / 2) d (by omega) (by omega) (by omega) (by omega), hl, show d - (d - l) = l by omega]
theorem atl_leaf {d p : Nat} (h : atl d 0 p) : 2 ^ d ≤ p ∧ p < 2 * 2 ^ d := by
  obtain ⟨h1, h2, h3⟩ := h
  rw [Nat.sub_zero] at h2 h3
  rw [Nat.pow_succ] at h3
  omega
theorem atl_kids {d l p : Nat} (h : atl d (l + 1) p) : 1 ≤ p ∧ p < 2 ^ d ∧ atl d l (2 * p) ∧ atl d l (2 * p + 1) := by
  obtain ⟨h1, h2, h3⟩ := h
  have e : d - l = d - (l + 1) + 1 := by omega
  have e2 : 2 ^ (d - (l + 1) + 1) ≤ 2 ^ d := Nat.pow_le_pow_right (by omega) (by omega)
  have e3 := Nat.one_le_two_pow (n := d - (l + 1))
  refine ⟨by omega, by omega, ⟨by omega, ?_, ?_⟩, ⟨by omega, ?_, ?_⟩⟩ <;> rw [e, Nat.pow_succ] <;> rw [Nat.pow_succ] at h3 <;> try rw [Nat.pow_succ]
  all_goals omega
theorem atl_bd {d l p : Nat} (h : atl d l p) : 1 ≤ p ∧ p < 2 * 2 ^ d ∧ 2 ^ d ≤ p * 2 ^ l ∧ (p + 1) * 2 ^ l ≤ 2 * 2 ^ d := by
  obtain ⟨h1, h2, h3⟩ := h
  have e0 := Nat.one_le_two_pow (n := d - l)
  have e1 : 2 ^ (d - l + 1) ≤ 2 ^ (d + 1) := Nat.pow_le_pow_right (by omega) (by omega)
  have e2 : 2 ^ (d - l) * 2 ^ l = 2 ^ d := by rw [← Nat.pow_add]; congr 1; omega
  have e3 : 2 ^ (d - l + 1) * 2 ^ l = 2 * 2 ^ d := by rw [← Nat.pow_add, Nat.mul_comm, ← Nat.pow_succ]; congr 1; omega
  refine ⟨by omega, by rw [Nat.pow_succ] at e1; omega, ?_, ?_⟩
  · rw [← e2]; exact Nat.mul_le_mul_right _ h2
  · rw [← e3]; exact Nat.mul_le_mul_right _ (by omega)
theorem atl_ex {d p : Nat} (h1 : 1 ≤ p) (h2 : p < 2 * 2 ^ d) : ∃ l, atl d l p := by
  have e1 : 2 ^ Nat.log2 p ≤ p := Nat.log2_self_le (by omega)
  have e2 : p < 2 ^ (Nat.log2 p + 1) := Nat.lt_log2_self
  have e3 : Nat.log2 p ≤ d := by
    rcases Nat.lt_or_ge d (Nat.log2 p) with h | h
    · have : 2 ^ (d + 1) ≤ 2 ^ Nat.log2 p := Nat.pow_le_pow_right (by omega) h
      rw [Nat.pow_succ] at this
      omega
    · exact h
  exact ⟨d - Nat.log2 p, by omega, by rw [show d - (d - Nat.log2 p) = Nat.log2 p by omega]; exact e1, by rw [show d - (d - Nat.log2 p) = Nat.log2 p by omega]; exact e2⟩
/-- a property of nodes, from below, level by level -/
theorem lev_ind {d : Nat} {P : Nat → Nat → Prop} (h0 : ∀ k, k < 2 ^ d → P 0 (2 ^ d + k)) (hs : ∀ l p, atl d (l + 1) p → P l (2 * p) → P l (2 * p + 1) → P (l + 1) p) : ∀ l p, atl d l p → P l p := by
  intro l
  induction l with
  | zero =>
    intro p h
    have := atl_leaf h
    have e := h0 (p - 2 ^ d) (by omega)
    rwa [show 2 ^ d + (p - 2 ^ d) = p by omega] at e
  | succ l ih =>
    intro p h
    have := atl_kids h
    exact hs l p h (ih _ this.2.2.1) (ih _ this.2.2.2)
theorem un_cnt {d : Nat} {V : Nat → Int32} : ∀ l p, atl d l p → un d V p = cnt (fun k => decide (nI 0 < V k)) (p * 2 ^ l - 2 ^ d) (2 ^ l) := by
  refine lev_ind (P := fun l p => un d V p = cnt (fun k => decide (nI 0 < V k)) (p * 2 ^ l - 2 ^ d) (2 ^ l)) (fun k hk => ?_) (fun l p h a b => ?_)
  · show un d V (2 ^ d + k) = cnt _ ((2 ^ d + k) * 1 - 2 ^ d) 1
    rw [un_leaf hk, show (2 ^ d + k) * 1 - 2 ^ d = k by omega, cnt_one]
    simp only [decide_eq_true_eq]
  · have hk := atl_kids h
    have hb := atl_bd hk.2.2.1
    have e1 : p * 2 ^ (l + 1) = 2 * p * 2 ^ l := by rw [Nat.pow_succ, ← Nat.mul_assoc, Nat.mul_comm, Nat.mul_assoc]
    have e2 : (2 * p + 1) * 2 ^ l - 2 ^ d = 2 * p * 2 ^ l - 2 ^ d + 2 ^ l := by rw [Nat.add_mul]; omega
    rw [un_node hk.1 hk.2.1, a, b, e1, e2, show 2 ^ (l + 1) = 2 ^ l + 2 ^ l by rw [Nat.pow_succ]; omega, cnt_add]
theorem cnt_zero {P : Nat → Bool} {a n : Nat} : cnt P a n = 0 ↔ ∀ i, i < n → P (a + i) = false := by
  refine ⟨fun h => ?_, cnt_none⟩
  induction n with
  | zero => intro i hi; omega
  | succ n ih =>
    intro i hi
    have h : cnt P a n + (if P (a + n) = true then 1 else 0) = 0 := h
    by_cases hin : i = n
    · subst hin
      cases hp : P (a + i) with
      | false => rfl
      | true => rw [hp] at h; simp at h
    · exact ih (by omega) i (by omega)
/-- where values are unlike -/
def dl (V W : Nat → Int32) (k : Nat) : Int32 := if V k = W k then nI 0 else nI 1
theorem dl_0 {V W : Nat → Int32} {k : Nat} : (nI 0 < dl V W k) = ¬ V k = W k := by
  unfold dl
  by_cases h : V k = W k
  · rw [if_pos h]; simp only [h, not_true]; exact eq_false (by decide)
  · rw [if_neg h]; simp only [h, not_false_eq_true]; exact eq_true (by decide)
theorem dl_sym {V W : Nat → Int32} : dl V W = dl W V := by
  funext k
  unfold dl
  by_cases h : V k = W k
  · rw [if_pos h, if_pos h.symm]
  · rw [if_neg h, if_neg (fun z => h z.symm)]
theorem mk_dl {d : Nat} {V W : Nat → Int32} : ∀ p, 1 ≤ p → p < 2 * 2 ^ d → un d (dl V W) p = 0 → mk d V p = mk d W p := by
  refine tree_ind (P := fun p => un d (dl V W) p = 0 → mk d V p = mk d W p) (fun k hk h => ?_) (fun p h1 h2 a b h => ?_)
  · rw [un_leaf hk] at h
    have : V k = W k := Classical.byContradiction fun z => by rw [if_pos (dl_0 ▸ z)] at h; cases h
    rw [mk_leaf hk, mk_leaf hk, this]
  · rw [un_node h1 h2] at h
    rw [mk_node h1 h2, mk_node h1 h2, a (by omega), b (by omega)]
theorem shlN {n k : Nat} (hk : k < 31) (h : n * 2 ^ k < 2 ^ 32) : nI n <<< (nI k &&& 31) = nI (n * 2 ^ k) := by
  have key : ∀ k, k < 31 → ((nI k &&& 31).toBitVec.smod 32).toNat = k := by decide +kernel
  exact pk_shlN _ k (key k hk) h
section AL
variable {σ : Hp} {t t2 d : Nat} {V W : Nat → Int32}
theorem T_alike_loop (h : isT σ t d V) (h2 : isT σ t2 d W) {l a : Nat} (ha : a + 2 ^ l ≤ 2 ^ d) (hl : l ≤ 8) {l2 : Value} : ∀ (m k : Nat), k + m = a + 2 ^ l → den 45 44 [.ref t, .ref t2, l2, .int (nI l), .int (nI a), .int (nI k)] [] σ = some (some (.int (if cnt (fun k => decide (nI 0 < dl V W k)) k m = 0 then nI 1 else nI 0)), σ) := by
  have hK := h.d8
  have hl1 := Nat.one_le_two_pow (n := l)
  have e1 : (nI 1) <<< (nI l &&& 31) = nI (2 ^ l) := shl_nI (by omega)
  intro m
  induction m with
  | zero =>
    intro k hk
    rw [e45_44]
    simp (disch := omega) only [e45_0, e45_1, e45_2, e45_5, e45_6, e45_7, e45_10, e45_13, e45_14, e45_15, e45_16, e45_17, e45_20, e45_23, e45_26, e45_27, e45_28, e45_29, e45_30, e45_31, e45_34, e45_37, e45_38, e45_40, e45_42, e45_46, e45_48, e45_49, e45_50, e45_51, e45_52, e45_55, e45_56, e45_58, e45_61, e45_62, e45_64, e45_67, e45_70, e45_71, e45_72, e45_75, e45_78, e45_79, kv_s, kh_s, kr_s, kr_v, kn_s, z0, z1, z2, nI_ltI, nI_leI, nI_eq, nI_add, oN, bz0, bz1, bw0, bw1, ltT, ltF, leT, leF, eqT, eqF, if_true, if_false, kI_n, wI_n, and_true, true_and, and_false, false_and, not_true, not_false_eq_true, e1]
    rfl
  | succ m ih =>
    intro k hk
    rw [e45_44, cnt_first]
    by_cases hv : V k = W k
    · simp (disch := omega) only [e45_0, e45_1, e45_2, e45_5, e45_6, e45_7, e45_10, e45_13, e45_14, e45_15, e45_16, e45_17, e45_20, e45_23, e45_26, e45_27, e45_28, e45_29, e45_30, e45_31, e45_34, e45_37, e45_38, e45_40, e45_42, e45_46, e45_48, e45_49, e45_50, e45_51, e45_52, e45_55, e45_56, e45_58, e45_61, e45_62, e45_64, e45_67, e45_70, e45_71, e45_72, e45_75, e45_78, e45_79, kv_s, kh_s, kr_s, kr_v, kn_s, z0, z1, z2, nI_ltI, nI_leI, nI_eq, nI_add, oN, bz0, bz1, bw0, bw1, ltT, ltF, leT, leF, eqT, eqF, if_true, if_false, kI_n, wI_n, and_true, true_and, and_false, false_and, not_true, not_false_eq_true, e1, h.o, h2.o, T_val h, T_val h2, hv]
      rw [ih (k + 1) (by omega)]
      simp only [dl_0, hv, not_true, decide_false, Bool.false_eq_true, if_false, Nat.zero_add]
    · simp (disch := omega) only [e45_0, e45_1, e45_2, e45_5, e45_6, e45_7, e45_10, e45_13, e45_14, e45_15, e45_16, e45_17, e45_20, e45_23, e45_26, e45_27, e45_28, e45_29, e45_30, e45_31, e45_34, e45_37, e45_38, e45_40, e45_42, e45_46, e45_48, e45_49, e45_50, e45_51, e45_52, e45_55, e45_56, e45_58, e45_61, e45_62, e45_64, e45_67, e45_70, e45_71, e45_72, e45_75, e45_78, e45_79, kv_s, kh_s, kr_s, kr_v, kn_s, z0, z1, z2, nI_ltI, nI_leI, nI_eq, nI_add, oN, bz0, bz1, bw0, bw1, ltT, ltF, leT, leF, eqT, eqF, if_true, if_false, kI_n, wI_n, and_true, true_and, and_false, false_and, not_true, not_false_eq_true, e1, h.o, h2.o, T_val h, T_val h2, hv]
      simp only [dl_0, hv, not_false_eq_true, decide_true, if_true]
      rw [if_neg (by omega)]
theorem T_alike (h : isT σ t d V) (h2 : isT σ t2 d W) {l p : Nat} (hp : atl d l p) : dcall 45 [.ref t, .ref t2, .int (nI p)] σ = some (some (.int (if un d (dl V W) p = 0 then nI 1 else nI 0)), σ) := by
  have hK := h.d8
  have hb := atl_bd hp
  have hl : l ≤ 8 := Nat.le_trans hp.1 h.1
  have hm := mk_dl (V := V) (W := W) p hb.1 hb.2.1
  have e1 : nI p <<< (nI l &&& 31) = nI (p * 2 ^ l) := shlN (by omega) (by rw [Nat.add_mul] at hb; omega)
  have e2 : nI (p * 2 ^ l) - nI (2 ^ d) = nI (p * 2 ^ l - 2 ^ d) := pk_sub hb.2.2.1
  have e3 : p * 2 ^ l - 2 ^ d + 2 ^ l ≤ 2 ^ d := by rw [Nat.add_mul] at hb; omega
  rw [q45]
  by_cases hmm : mk d V p = mk d W p
  · simp (disch := omega) only [e45_0, e45_1, e45_2, e45_5, e45_6, e45_7, e45_10, e45_13, e45_14, e45_15, e45_16, e45_17, e45_20, e45_23, e45_26, e45_27, e45_28, e45_29, e45_30, e45_31, e45_34, e45_37, e45_38, e45_40, e45_42, e45_46, e45_48, e45_49, e45_50, e45_51, e45_52, e45_55, e45_56, e45_58, e45_61, e45_62, e45_64, e45_67, e45_70, e45_71, e45_72, e45_75, e45_78, e45_79, kv_s, kh_s, kr_s, kr_v, kn_s, z0, z1, z2, nI_ltI, nI_leI, nI_eq, nI_add, oN, bz0, bz1, bw0, bw1, ltT, ltF, leT, leF, eqT, eqF, if_true, if_false, kI_n, wI_n, and_true, true_and, and_false, false_and, not_true, not_false_eq_true, h.o, h2.o, T_mark h hb.1 hb.2.1, T_mark h2 hb.1 hb.2.1, hmm, h.f, h.fo, h.fd, A_levelOf hp h.1, e1, T_keys h, e2]
    rw [T_alike_loop h h2 e3 hl (2 ^ l) _ rfl, un_cnt l p hp]
  · simp (disch := omega) only [e45_0, e45_1, e45_2, e45_5, e45_6, e45_7, e45_10, e45_13, e45_14, e45_15, e45_16, e45_17, e45_20, e45_23, e45_26, e45_27, e45_28, e45_29, e45_30, e45_31, e45_34, e45_37, e45_38, e45_40, e45_42, e45_46, e45_48, e45_49, e45_50, e45_51, e45_52, e45_55, e45_56, e45_58, e45_61, e45_62, e45_64, e45_67, e45_70, e45_71, e45_72, e45_75, e45_78, e45_79, kv_s, kh_s, kr_s, kr_v, kn_s, z0, z1, z2, nI_ltI, nI_leI, nI_eq, nI_add, oN, bz0, bz1, bw0, bw1, ltT, ltF, leT, leF, eqT, eqF, if_true, if_false, kI_n, wI_n, and_true, true_and, and_false, false_and, not_true, not_false_eq_true, h.o, h2.o, T_mark h hb.1 hb.2.1, T_mark h2 hb.1 hb.2.1, hmm]
    rw [if_neg (fun z => hmm (hm z))]
end AL
theorem nI_xor {a b : Nat} (ha : a < 2 ^ 31) (hb : b < 2 ^ 31) : nI a ^^^ nI b = nI (a ^^^ b) := by
  have hx : a ^^^ b < 2 ^ 31 := Nat.xor_lt_two_pow ha hb
  apply Int32.toBitVec_inj.mp
  apply BitVec.eq_of_toNat_eq
  rw [Int32.toBitVec_xor, BitVec.toNat_xor, pk_tn (by omega), pk_tn (by omega), pk_tn (by omega)]
theorem Jm_floorMod {σ : Hp} {v : Nat} (h : v < 2 ^ 31) : dcall 16 [.int (nI v), .int (nI 12)] σ = some (some (.int (nI (v % 12))), σ) := by
  have e1 := pk_rem (a := v) (d := 12) h (by omega) (by omega)
  have e2 := nI_xor (a := v) (b := 12) h (by omega)
  have hx : v ^^^ 12 < 2 ^ 31 := Nat.xor_lt_two_pow h (by omega)
  rw [q16]
  simp (disch := omega) only [e16_0, e16_1, e16_2, e16_3, e16_4, e16_5, e16_6, e16_7, e16_10, e16_11, e16_14, e16_15, e16_16, e16_17, e16_18, e16_19, kv_s, kh_s, kr_s, kr_v, kn_s, z0, z1, z2, nI_ltI, nI_leI, nI_eq, nI_add, oN, bz0, bz1, bw0, bw1, ltT, ltF, leT, leF, eqT, eqF, if_true, if_false, kI_n, wI_n, and_true, true_and, and_false, false_and, not_true, not_false_eq_true, e1, e2, Nat.zero_le]
