/-! calls: forks -/
theorem xor_lev {a b l : Nat} : (a / 2 ^ l = b / 2 ^ l) ↔ (a ^^^ b) / 2 ^ l = 0 := by
  rw [← Nat.shiftRight_eq_div_pow, ← Nat.shiftRight_eq_div_pow, ← Nat.shiftRight_eq_div_pow, Nat.shiftRight_xor_distrib]
  constructor
  · intro h; rw [h, Nat.xor_self]
  · intro h
    have h2 : (a >>> l ^^^ b >>> l) ^^^ b >>> l = 0 ^^^ b >>> l := by rw [h]
    rw [Nat.xor_assoc, Nat.xor_self, Nat.xor_zero, Nat.zero_xor] at h2
    exact h2
/-- so many halvings bring nothing, and one fewer does not -/
theorem lg_div : ∀ (n x : Nat), x < 2 ^ n → x / 2 ^ lg n x = 0 ∧ ∀ l, l < lg n x → x / 2 ^ l ≠ 0 := by
  intro n
  induction n with
  | zero => intro x h; have : x = 0 := by simpa using h
            subst this; exact ⟨rfl, fun l hl => absurd hl (Nat.not_lt_zero _)⟩
  | succ n ih =>
    intro x h
    rw [lg]
    by_cases h0 : x < 1
    · rw [if_pos h0]
      have : x = 0 := by omega
      subst this
      exact ⟨rfl, fun l hl => absurd hl (Nat.not_lt_zero _)⟩
    · rw [if_neg h0]
      obtain ⟨g1, g2⟩ := ih (x / 2) (by rw [Nat.pow_succ] at h; omega)
      refine ⟨?_, fun l hl => ?_⟩
      · rw [Nat.add_comm, Nat.pow_succ, Nat.mul_comm, ← Nat.div_div_eq_div_mul]; exact g1
      · cases l with
        | zero => rw [Nat.pow_zero, Nat.div_one]; omega
        | succ l =>
          rw [Nat.pow_succ, Nat.mul_comm, ← Nat.div_div_eq_div_mul]
          exact g2 l (by omega)
section JY
variable {c i : Nat} {σ : Hp} {m d f l : Nat} {V : Nat → Nat → Int32} {T : Nat → Option Nat} {A : Nat → Nat → Int32} {R : Nat → Int64} {I : Nat → Int32}
theorem C_forks_loop {l1 l2 l3 l4 l0 : Value} : ∀ (n x e : Nat), x < 2 ^ n → n < 31 → den 98 47 [l0, l1, l2, l3, l4, .int (nI e), .int (nI x)] [] σ = den 98 64 [l0, l1, l2, l3, l4, .int (nI (e + lg n x)), .int (nI 0)] [] σ := by
  intro n
  induction n with
  | zero =>
    intro x e h hn
    have : x = 0 := by simpa using h
    subst this
    rw [e98_47]
    simp (disch := omega) only [e98_49, e98_52, e98_55, e98_57, e98_58, e98_59, e98_61, kv_s, kh_s, kr_s, kr_v, kn_s, z0, z1, z2, nI_ltI, nI_leI, nI_eq, nI_add, oN, bz0, bz1, bw0, bw1, ltT, ltF, leT, leF, eqT, eqF, if_true, if_false, kI_n, wI_n, and_true, true_and, and_false, false_and, not_true, not_false_eq_true, lg, Nat.add_zero]
  | succ n ih =>
    intro x e h hn
    have hb : 2 ^ (n + 1) ≤ 2 ^ 30 := Nat.pow_le_pow_right (by omega) (by omega)
    rw [e98_47, lg]
    by_cases h0 : x < 1
    · have : x = 0 := by omega
      subst this
      simp (disch := omega) only [e98_49, e98_52, e98_55, e98_57, e98_58, e98_59, e98_61, kv_s, kh_s, kr_s, kr_v, kn_s, z0, z1, z2, nI_ltI, nI_leI, nI_eq, nI_add, oN, bz0, bz1, bw0, bw1, ltT, ltF, leT, leF, eqT, eqF, if_true, if_false, kI_n, wI_n, and_true, true_and, and_false, false_and, not_true, not_false_eq_true, Nat.add_zero]
    · rw [if_neg h0, ← Nat.add_assoc, ← ih (x / 2) (e + 1) (by rw [Nat.pow_succ] at h; omega) (by omega)]
      simp (disch := omega) only [e98_49, e98_52, e98_55, e98_57, e98_58, e98_59, e98_61, kv_s, kh_s, kr_s, kr_v, kn_s, z0, z1, z2, nI_ltI, nI_leI, nI_eq, nI_add, oN, bz0, bz1, bw0, bw1, ltT, ltF, leT, leF, eqT, eqF, if_true, if_false, kI_n, wI_n, and_true, true_and, and_false, false_and, not_true, not_false_eq_true, shr1]
theorem M_forks_loop1 {a b : Nat} (ha : a < 2 ^ 8) (hb : b < 2 ^ 8) {l0 l1 l5 l6 l7 : Value} : ∀ (n e : Nat), e + n = lg 8 (a ^^^ b) → den 220 34 [l0, l1, .int (nI a), .int (nI b), .int (nI e), l5, l6, l7] [] σ = den 220 51 [l0, l1, .int (nI a), .int (nI b), .int (nI (lg 8 (a ^^^ b))), l5, l6, l7] [] σ := by
  obtain ⟨g1, g2⟩ := lg_div 8 (a ^^^ b) (Nat.xor_lt_two_pow ha hb)
  have hlg : lg 8 (a ^^^ b) ≤ 8 := by
    have key : ∀ n x, lg n x ≤ n := by
      intro n
      induction n with
      | zero => intro x; exact Nat.le_refl _
      | succ n ih => intro x; rw [lg]; have := ih (x / 2); split <;> omega
    exact key _ _
  have hd : ∀ x e : Nat, x < 2 ^ 8 → x / 2 ^ e < 2 ^ 31 := fun x e hx => Nat.lt_of_le_of_lt (Nat.div_le_self _ _) (by omega)
  intro n
  induction n with
  | zero =>
    intro e he
    have he' : e = lg 8 (a ^^^ b) := by omega
    have h1 : a / 2 ^ e = b / 2 ^ e := xor_lev.mpr (by rw [he']; exact g1)
    rw [← he']
    have hb2 := hd b e hb
    rw [e220_34]
    simp (disch := omega) only [e220_35, e220_37, e220_38, e220_39, e220_41, e220_42, e220_45, e220_48, kv_s, kh_s, kr_s, kr_v, kn_s, z0, z1, z2, nI_ltI, nI_leI, nI_eq, nI_add, oN, bz0, bz1, bw0, bw1, ltT, ltF, leT, leF, eqT, eqF, if_true, if_false, kI_n, wI_n, and_true, true_and, and_false, false_and, not_true, not_false_eq_true, shrN, h1]
  | succ n ih =>
    intro e he
    have h1 : ¬ a / 2 ^ e = b / 2 ^ e := fun z => g2 e (by omega) (xor_lev.mp z)
    have ha2 := hd a e ha
    have hb2 := hd b e hb
    rw [← ih (e + 1) (by omega)]
    rw [e220_34]
    simp (disch := omega) only [e220_35, e220_37, e220_38, e220_39, e220_41, e220_42, e220_45, e220_48, kv_s, kh_s, kr_s, kr_v, kn_s, z0, z1, z2, nI_ltI, nI_leI, nI_eq, nI_add, oN, bz0, bz1, bw0, bw1, ltT, ltF, leT, leF, eqT, eqF, if_true, if_false, kI_n, wI_n, and_true, true_and, and_false, false_and, not_true, not_false_eq_true, shrN, h1]
end JY
