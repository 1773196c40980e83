/-! Tree: its methods over its five cells -/
def hs (a b : Int32) : Int32 := ((31 * a + b + 17) * (-1640531535)) ^^^ (((31 * a + b + 17) * (-1640531535)).toUInt32 >>> ((15 : Int32).toUInt32 &&& Int32.toUInt32 31)).toInt32
def lf (k : Nat) (v : Int32) : Int32 := if v = nI 0 then nI 0 else hs (nI (k + 1)) v
theorem A_mix {σ : Hp} {a b : Int32} : dcall 13 [.int a, .int b] σ = some (some (.int (hs a b)), σ) := by
  rw [q13]
  simp only [e13_0, e13_2, e13_3, e13_4, e13_5, e13_6, e13_8, e13_9, e13_12, e13_13, e13_14, e13_15, e13_16, e13_18, e13_19, e13_20]
  rfl
theorem A_leafMark {σ : Hp} {k : Nat} {v : Int32} : dcall 40 [.int (nI k), .int v] σ = some (some (.int (lf k v)), σ) := by
  rw [q40]
  unfold lf
  by_cases h : v = nI 0
  · simp only [e40_0, e40_1, e40_4, e40_5, e40_8, e40_9, e40_10, e40_11, e40_12, e40_15, kv_s, kh_s, kr_s, kr_v, kn_s, z0, h, if_true]
  · simp only [e40_0, e40_1, e40_4, e40_5, e40_8, e40_9, e40_10, e40_11, e40_12, e40_15, kv_s, kh_s, kr_s, kr_v, kn_s, z0, h, if_false, A_mix, z1, nI_add]
def isTr (σ : Hp) (t : Nat) (V M F : Nat → Int32) (d : Nat) : Prop := σ.1 t = some (.inr (5, [.ref (t + 1), .ref (t + 2), .ref (t + 3)])) ∧ σ.1 (t + 1) = some (.inl (0, 256, .inl V)) ∧ σ.1 (t + 2) = some (.inl (0, 512, .inl M)) ∧ isKS σ (t + 3) F d
def tput (σ : Hp) (t : Nat) (V M F : Nat → Int32) (d : Nat) : Hp := kput (hup (hup σ (t + 1) (.inl (0, 256, .inl V))) (t + 2) (.inl (0, 512, .inl M))) (t + 3) F d
section TR
variable {σ : Hp} {t : Nat} {V M F : Nat → Int32} {d : Nat}
theorem isTr.o (h : isTr σ t V M F d) : hObj σ t = some 5 := hObj_of h.1
theorem isTr.v (h : isTr σ t V M F d) : hGet σ t 5 0 = some (.ref (t + 1)) := by rw [hGet_of h.1]; rfl
theorem isTr.m (h : isTr σ t V M F d) : hGet σ t 5 1 = some (.ref (t + 2)) := by rw [hGet_of h.1]; rfl
theorem isTr.f (h : isTr σ t V M F d) : hGet σ t 5 2 = some (.ref (t + 3)) := by rw [hGet_of h.1]; rfl
theorem isTr.va (h : isTr σ t V M F d) : hI σ (t + 1) 0 = some (256, V) := hI_of h.2.1
theorem isTr.vl (h : isTr σ t V M F d) : hLen σ (t + 1) = some 256 := hLen_of h.2.1
theorem isTr.ma (h : isTr σ t V M F d) : hI σ (t + 2) 0 = some (512, M) := hI_of h.2.2.1
theorem isTr.ml (h : isTr σ t V M F d) : hLen σ (t + 2) = some 512 := hLen_of h.2.2.1
theorem isTr.ks (h : isTr σ t V M F d) : isKS σ (t + 3) F d := h.2.2.2
theorem isTr.upV (h : isTr σ t V M F d) (V' : Nat → Int32) : isTr (hup σ (t + 1) (.inl (0, 256, .inl V'))) t V' M F d :=
  ⟨(hup_ne (by omega)).trans h.1, hup_at, (hup_ne (by omega)).trans h.2.2.1, (hup_ne (by omega)).trans h.2.2.2.1, (hup_ne (by omega)).trans h.2.2.2.2⟩
theorem isTr.upM (h : isTr σ t V M F d) (M' : Nat → Int32) : isTr (hup σ (t + 2) (.inl (0, 512, .inl M'))) t V M' F d :=
  ⟨(hup_ne (by omega)).trans h.1, (hup_ne (by omega)).trans h.2.1, hup_at, (hup_ne (by omega)).trans h.2.2.2.1, (hup_ne (by omega)).trans h.2.2.2.2⟩
theorem isTr.upF (h : isTr σ t V M F d) (F' : Nat → Int32) (d' : Nat) : isTr (kput σ (t + 3) F' d') t V M F' d' :=
  ⟨(kput_ne (by omega) (by omega)).trans h.1, (kput_ne (by omega) (by omega)).trans h.2.1, (kput_ne (by omega) (by omega)).trans h.2.2.1, kput_is⟩
/-- outside of the five cells nothing changes -/
def fr5 (t : Nat) (σ τ : Hp) : Prop := (∀ a, a < t ∨ t + 5 ≤ a → τ.1 a = σ.1 a) ∧ τ.2 = σ.2
theorem fr5.rf : fr5 t σ σ := ⟨fun _ _ => rfl, rfl⟩
theorem fr5.tr {τ ρ : Hp} (h1 : fr5 t σ τ) (h2 : fr5 t τ ρ) : fr5 t σ ρ := ⟨fun a ha => (h2.1 a ha).trans (h1.1 a ha), h2.2.trans h1.2⟩
theorem fr5_V {E : va_E} : fr5 t σ (hup σ (t + 1) E) := ⟨fun a ha => hup_ne (by omega), rfl⟩
theorem fr5_M {E : va_E} : fr5 t σ (hup σ (t + 2) E) := ⟨fun a ha => hup_ne (by omega), rfl⟩
theorem fr5_F {F' : Nat → Int32} {d' : Nat} : fr5 t σ (kput σ (t + 3) F' d') := ⟨fun a ha => kput_ne (by omega) (by omega), rfl⟩
theorem Tr_val (h : isTr σ t V M F d) (hd : d ≤ 8) {p : Nat} (hp : p < 2 ^ d) : dcall 39 [.ref t, .int (nI p)] σ = some (some (.int (V p)), σ) := by
  rw [q39]
  have hK : 2 ^ d ≤ 256 := Nat.pow_le_pow_right (by omega) hd
  simp (disch := omega) only [e39_0, e39_1, e39_4, e39_5, e39_6, e39_9, e39_12, e39_15, e39_16, e39_17, e39_20, e39_21, e39_24, e39_25, e39_28, e39_29, e39_30, e39_33, e39_34, kv_s, kh_s, kr_s, kr_v, kn_s, z0, z1, z2, nI_ltI, nI_leI, nI_eq, nI_add, oN, bz0, bz1, bw0, bw1, ltT, ltF, leT, leF, eqT, eqF, if_true, if_false, kI_n, wI_n, and_true, true_and, and_false, false_and, not_true, not_false_eq_true, h.f, h.ks.o, Ks_keys h.ks hd, h.v, h.vl, h.va]
theorem Tr_val0 (h : isTr σ t V M F d) (hd : d ≤ 8) {x : Int32} (hx : x < nI 0 ∨ nI (2 ^ d) ≤ x) : dcall 39 [.ref t, .int x] σ = some (some (.int (nI 0)), σ) := by
  rw [q39]
  by_cases h0 : x < nI 0
  · simp (disch := omega) only [e39_0, e39_1, e39_4, e39_5, e39_6, e39_9, e39_12, e39_15, e39_16, e39_17, e39_20, e39_21, e39_24, e39_25, e39_28, e39_29, e39_30, e39_33, e39_34, kv_s, kh_s, kr_s, kr_v, kn_s, z0, z1, z2, nI_ltI, nI_leI, nI_eq, nI_add, oN, bz0, bz1, bw0, bw1, ltT, ltF, leT, leF, eqT, eqF, if_true, if_false, kI_n, wI_n, and_true, true_and, and_false, false_and, not_true, not_false_eq_true, h0]
  · have h1 : nI (2 ^ d) ≤ x := hx.resolve_left h0
    simp (disch := omega) only [e39_0, e39_1, e39_4, e39_5, e39_6, e39_9, e39_12, e39_15, e39_16, e39_17, e39_20, e39_21, e39_24, e39_25, e39_28, e39_29, e39_30, e39_33, e39_34, kv_s, kh_s, kr_s, kr_v, kn_s, z0, z1, z2, nI_ltI, nI_leI, nI_eq, nI_add, oN, bz0, bz1, bw0, bw1, ltT, ltF, leT, leF, eqT, eqF, if_true, if_false, kI_n, wI_n, and_true, true_and, and_false, false_and, not_true, not_false_eq_true, h0, h.f, h.ks.o, Ks_keys h.ks hd, h1]
theorem Tr_markAt (h : isTr σ t V M F d) {p : Nat} (h1 : 1 ≤ p) (h2 : p < 512) : dcall 12 [.ref t, .int (nI p)] σ = some (some (.int (M p)), σ) := by
  rw [q12]
  simp (disch := omega) only [e12_0, e12_1, e12_2, e12_5, e12_6, e12_7, e12_10, e12_11, e12_14, e12_15, e12_18, e12_19, e12_20, e12_23, e12_24, kv_s, kh_s, kr_s, kr_v, kn_s, z0, z1, z2, nI_ltI, nI_leI, nI_eq, nI_add, oN, bz0, bz1, bw0, bw1, ltT, ltF, leT, leF, eqT, eqF, if_true, if_false, kI_n, wI_n, and_true, true_and, and_false, false_and, not_true, not_false_eq_true, h.m, h.ml, h.ma]
theorem Tr_bareAt (h : isTr σ t V M F d) {p : Nat} (h1 : 1 ≤ p) (h2 : p < 512) : dcall 60 [.ref t, .int (nI p)] σ = some (some (.int (if F p = nI 0 then nI 1 else nI 0)), σ) := by
  rw [q60]
  by_cases h3 : F p = nI 0
  · simp (disch := omega) only [e60_0, e60_1, e60_4, e60_5, e60_8, e60_11, e60_12, e60_15, e60_16, kv_s, kh_s, kr_s, kr_v, kn_s, z0, z1, z2, nI_ltI, nI_leI, nI_eq, nI_add, oN, bz0, bz1, bw0, bw1, ltT, ltF, leT, leF, eqT, eqF, if_true, if_false, kI_n, wI_n, and_true, true_and, and_false, false_and, not_true, not_false_eq_true, h.f, h.ks.o, Ks_under1 h.ks, h3]
  · simp (disch := omega) only [e60_0, e60_1, e60_4, e60_5, e60_8, e60_11, e60_12, e60_15, e60_16, kv_s, kh_s, kr_s, kr_v, kn_s, z0, z1, z2, nI_ltI, nI_leI, nI_eq, nI_add, oN, bz0, bz1, bw0, bw1, ltT, ltF, leT, leF, eqT, eqF, if_true, if_false, kI_n, wI_n, and_true, true_and, and_false, false_and, not_true, not_false_eq_true, h.f, h.ks.o, Ks_under1 h.ks, h3]
/-- values together, as ints -/
def tsum (V : Nat → Int32) : Nat → Int32
  | 0 => nI 0
  | n + 1 => tsum V n + V n
theorem Tr_total_loop (h : isTr σ t V M F d) (hd : d ≤ 8) : ∀ (m k : Nat), k + m = 2 ^ d → den 63 4 [.ref t, .int (tsum V k), .int (nI k)] [] σ = some (some (.int (tsum V (2 ^ d))), σ) := by
  have hK : 2 ^ d ≤ 256 := Nat.pow_le_pow_right (by omega) hd
  intro m
  induction m with
  | zero =>
    intro k hk
    have : k = 2 ^ d := by omega
    subst this
    rw [e63_4]
    simp (disch := omega) only [e63_0, e63_1, e63_2, e63_3, e63_5, e63_6, e63_9, e63_12, e63_15, e63_16, e63_17, e63_18, e63_21, e63_22, e63_23, e63_26, e63_29, e63_30, kv_s, kh_s, kr_s, kr_v, kn_s, z0, z1, z2, nI_ltI, nI_leI, nI_eq, nI_add, oN, bz0, bz1, bw0, bw1, ltT, ltF, leT, leF, eqT, eqF, if_true, if_false, kI_n, wI_n, and_true, true_and, and_false, false_and, not_true, not_false_eq_true, h.f, h.ks.o, Ks_keys h.ks hd]
  | succ m ih =>
    intro k hk
    rw [e63_4]
    simp (disch := omega) only [e63_0, e63_1, e63_2, e63_3, e63_5, e63_6, e63_9, e63_12, e63_15, e63_16, e63_17, e63_18, e63_21, e63_22, e63_23, e63_26, e63_29, e63_30, kv_s, kh_s, kr_s, kr_v, kn_s, z0, z1, z2, nI_ltI, nI_leI, nI_eq, nI_add, oN, bz0, bz1, bw0, bw1, ltT, ltF, leT, leF, eqT, eqF, if_true, if_false, kI_n, wI_n, and_true, true_and, and_false, false_and, not_true, not_false_eq_true, h.f, h.ks.o, Ks_keys h.ks hd, h.o, Tr_val h hd]
    exact ih (k + 1) (by omega)
theorem Tr_total (h : isTr σ t V M F d) (hd : d ≤ 8) : dcall 63 [.ref t] σ = some (some (.int (tsum V (2 ^ d))), σ) := by
  rw [q63]
  simp (disch := omega) only [e63_0, e63_1, e63_2, e63_3, e63_5, e63_6, e63_9, e63_12, e63_15, e63_16, e63_17, e63_18, e63_21, e63_22, e63_23, e63_26, e63_29, e63_30, kv_s, kh_s, kr_s, kr_v, kn_s, z0, z1, z2, nI_ltI, nI_leI, nI_eq, nI_add, oN, bz0, bz1, bw0, bw1, ltT, ltF, leT, leF, eqT, eqF, if_true, if_false, kI_n, wI_n, and_true, true_and, and_false, false_and, not_true, not_false_eq_true]
  exact Tr_total_loop h hd (2 ^ d) 0 (by omega)
theorem nI_two (p : Nat) : nI 2 * nI p = nI (2 * p) := pk_mul 2 p
theorem Tr_join (h : isTr σ t V M F d) {p : Nat} (h1 : 1 ≤ p) (h2 : p < 256) : dcall 11 [.ref t, .int (nI p)] σ = some (none, hup σ (t + 2) (.inl (0, 512, .inl (upd M p (hs (M (2 * p)) (M (2 * p + 1))))))) := by
  rw [q11]
  simp (disch := omega) only [e11_0, e11_1, e11_2, e11_5, e11_6, e11_7, e11_10, e11_11, e11_14, e11_15, e11_18, e11_19, e11_20, e11_21, e11_22, e11_23, e11_26, e11_27, e11_28, e11_29, e11_30, e11_31, e11_32, e11_35, e11_38, e11_39, kv_s, kh_s, kr_s, kr_v, kn_s, z0, z1, z2, nI_ltI, nI_leI, nI_eq, nI_add, oN, bz0, bz1, bw0, bw1, ltT, ltF, leT, leF, eqT, eqF, if_true, if_false, kI_n, wI_n, and_true, true_and, and_false, false_and, not_true, not_false_eq_true, h.m, h.ml, h.ma, nI_two, h.o, Tr_markAt h, A_mix]
/-- joins from a place down to the first -/
def jd : Nat → (Nat → Int32) → (Nat → Int32)
  | 0, M => M
  | n + 1, M => jd n (upd M (n + 1) (hs (M (2 * (n + 1))) (M (2 * (n + 1) + 1))))
theorem nI_dec (n : Nat) : nI (n + 1) + -nI 1 = nI n := pk_m1 n
theorem cl0 : Int32.toNatClampNeg 0 = 0 := rfl
theorem cl256 : (nI 256).toNatClampNeg = 256 := by decide +kernel
theorem cl512 : (nI 512).toNatClampNeg = 512 := by decide +kernel
theorem Tr_clear_loop {l1 : Value} : ∀ (n : Nat) (σ : Hp) (M : Nat → Int32), isTr σ t V M F d → n < 256 → den 7 34 [.ref t, l1, .int (nI n)] [] σ = some (none, hup σ (t + 2) (.inl (0, 512, .inl (jd n M)))) := by
  intro n
  induction n with
  | zero =>
    intro σ M h hn
    rw [e7_34]
    simp (disch := omega) only [e7_0, e7_1, e7_4, e7_5, e7_8, e7_9, e7_12, e7_13, e7_16, e7_17, e7_20, e7_21, e7_24, e7_25, e7_28, e7_31, e7_32, e7_33, e7_35, e7_36, e7_39, e7_40, e7_41, e7_44, e7_47, e7_50, kv_s, kh_s, kr_s, kr_v, kn_s, z0, z1, z2, nI_ltI, nI_leI, nI_eq, nI_add, oN, bz0, bz1, bw0, bw1, ltT, ltF, leT, leF, eqT, eqF, if_true, if_false, kI_n, wI_n, and_true, true_and, and_false, false_and, not_true, not_false_eq_true]
    rw [jd, hup_id h.2.2.1]
  | succ n ih =>
    intro σ M h hn
    rw [e7_34]
    simp (disch := omega) only [e7_0, e7_1, e7_4, e7_5, e7_8, e7_9, e7_12, e7_13, e7_16, e7_17, e7_20, e7_21, e7_24, e7_25, e7_28, e7_31, e7_32, e7_33, e7_35, e7_36, e7_39, e7_40, e7_41, e7_44, e7_47, e7_50, kv_s, kh_s, kr_s, kr_v, kn_s, z0, z1, z2, nI_ltI, nI_leI, nI_eq, nI_add, oN, bz0, bz1, bw0, bw1, ltT, ltF, leT, leF, eqT, eqF, if_true, if_false, kI_n, wI_n, and_true, true_and, and_false, false_and, not_true, not_false_eq_true, h.o, Tr_join h, nI_dec]
    rw [ih _ _ (h.upM _) (by omega), hup_hup, jd]
theorem Tr_clear (h : isTr σ t V M F d) {d' : Nat} (hd : d' ≤ 8) : ∃ V' M' F' τ, dcall 7 [.ref t, .int (nI d')] σ = some (none, τ) ∧ isTr τ t V' (jd (2 ^ d' - 1) M') F' d' ∧ fr5 t σ τ ∧ (∀ k, k < 256 → V' k = nI 0) ∧ ∀ p, p < 512 → M' p = nI 0 ∧ F' p = nI 0 := by
  have hK : 2 ^ d' ≤ 256 := Nat.pow_le_pow_right (by omega) hd
  have hK1 : 1 ≤ 2 ^ d' := Nat.one_le_two_pow
  have h1 := h.upF (fun j => if j < 512 then nI 0 else F j) d'
  have h2 := h1.upV (fun j => if j < 256 then nI 0 else V j)
  have h3 := h2.upM (fun j => if j < 512 then nI 0 else M j)
  refine ⟨_, (fun j => if j < 512 then nI 0 else M j), _, _, ?_, h3.upM _, ((fr5_F.tr fr5_V).tr fr5_M).tr fr5_M, fun k hk => if_pos hk, fun p hp => ⟨if_pos hp, if_pos hp⟩⟩
  rw [q7]
  simp (disch := omega) only [e7_0, e7_1, e7_4, e7_5, e7_8, e7_9, e7_12, e7_13, e7_16, e7_17, e7_20, e7_21, e7_24, e7_25, e7_28, e7_31, e7_32, e7_33, e7_35, e7_36, e7_39, e7_40, e7_41, e7_44, e7_47, e7_50, kv_s, kh_s, kr_s, kr_v, kn_s, z0, z1, z2, nI_ltI, nI_leI, nI_eq, nI_add, oN, bz0, bz1, bw0, bw1, ltT, ltF, leT, leF, eqT, eqF, if_true, if_false, kI_n, wI_n, and_true, true_and, and_false, false_and, not_true, not_false_eq_true, h.f, h.ks.o, Ks_clear h.ks, h1.v, Ja_fill h1.2.1, h2.m, Ja_fill h2.2.2.1, h3.f, h3.ks.o, Ks_keys h3.ks hd, pk_sub]
  exact Tr_clear_loop _ _ _ h3 (by omega)
theorem Tr_take {t2 d2 : Nat} {V2 M2 F2 : Nat → Int32} (h : isTr σ t V M F d) (h2 : isTr σ t2 V2 M2 F2 d2) (hne : t2 + 5 ≤ t ∨ t + 5 ≤ t2) : ∃ τ, dcall 17 [.ref t, .ref t2] σ = some (none, τ) ∧ isTr τ t (va_cpy V2 V 0 0 256) (va_cpy M2 M 0 0 512) (va_cpy F2 F 0 0 512) d2 ∧ fr5 t σ τ := by
  have h1 := h.upF (va_cpy F2 F 0 0 512) d2
  have e2 : ∀ {τ : Hp}, fr5 t σ τ → isTr τ t2 V2 M2 F2 d2 := fun hf => ⟨(hf.1 _ (by omega)).trans h2.1, (hf.1 _ (by omega)).trans h2.2.1, (hf.1 _ (by omega)).trans h2.2.2.1, (hf.1 _ (by omega)).trans h2.2.2.2.1, (hf.1 _ (by omega)).trans h2.2.2.2.2⟩
  have g1 := e2 (fr5_F (F' := va_cpy F2 F 0 0 512) (d' := d2))
  have h3 := h1.upV (va_cpy V2 V 0 0 256)
  have g3 := e2 ((fr5_F (F' := va_cpy F2 F 0 0 512) (d' := d2)).tr (fr5_V (E := .inl (0, 256, .inl (va_cpy V2 V 0 0 256)))))
  refine ⟨_, ?_, h3.upM _, (fr5_F.tr fr5_V).tr fr5_M⟩
  rw [q17]
  simp (disch := omega) only [e17_0, e17_1, e17_4, e17_5, e17_8, e17_11, e17_12, e17_15, e17_16, e17_17, e17_20, e17_21, e17_22, e17_25, e17_26, e17_29, e17_30, e17_33, e17_34, e17_35, e17_38, e17_39, e17_40, e17_43, e17_44, e17_47, kv_s, kh_s, kr_s, kr_v, kn_s, h.f, h2.f, h.ks.o, if_true, Ks_take h.ks h2.ks, g1.v, h1.v, h1.vl, h1.va, g1.va, oN]
  rw [wC_s (by decide), cl0, cl256]
  simp (disch := omega) only [e17_0, e17_1, e17_4, e17_5, e17_8, e17_11, e17_12, e17_15, e17_16, e17_17, e17_20, e17_21, e17_22, e17_25, e17_26, e17_29, e17_30, e17_33, e17_34, e17_35, e17_38, e17_39, e17_40, e17_43, e17_44, e17_47, kv_s, kh_s, kr_s, kr_v, kn_s, h3.m, g3.m, h3.ml, h3.ma, g3.ma, oN]
  rw [wC_s (by decide), cl0, cl512]
  simp only [e17_0, e17_1, e17_4, e17_5, e17_8, e17_11, e17_12, e17_15, e17_16, e17_17, e17_20, e17_21, e17_22, e17_25, e17_26, e17_29, e17_30, e17_33, e17_34, e17_35, e17_38, e17_39, e17_40, e17_43, e17_44, e17_47, kv_s, kh_s, kr_s, kr_v, kn_s]
end TR
