/-! acts: put, move, swap, clear, back; what they make of a history -/
section AC
variable {d : Nat} {V W : Nat → Int32} {z : Hs} {x y : Int32}
theorem isK_nat {a : Nat} (hd : d ≤ 8) (ha : a < 2 ^ 31) : isK d (nI a) = decide (a < 2 ^ d) := by
  have hK : 2 ^ d ≤ 256 := Nat.pow_le_pow_right (by omega) hd
  by_cases h : a < 2 ^ d
  · rw [isK_k hd h, decide_eq_true h]
  · rw [decide_eq_false h, isK, decide_eq_false (show ¬ nI a < nI (2 ^ d) by rw [nI_ltI (by omega) (by omega)]; omega), Bool.and_false]
/-- values above the keys are none -/
def zer (d : Nat) (W : Nat → Int32) : Prop := ∀ k, 2 ^ d ≤ k → k < 256 → W k = nI 0
theorem mkF_ok (h : okH z) (hf : z.2.1 ≤ z.2.2.1) (h12 : z.2.2.1 < z.2.1 + 12) (hp : plW z.1 W) (h0 : zer z.1 W) : okH (mkF z W x y).2 ∧ z.2.2.1 ≤ (mkF z W x y).2.2.2.1 ∧ (mkF z W x y).2.2.2.1 ≤ z.2.2.1 + 1 := by
  unfold mkF
  by_cases h1 : 40 < un z.1 W 1
  · rw [if_pos h1]; exact ⟨h, Nat.le_refl _, Nat.le_succ _⟩
  · rw [if_neg h1]
    by_cases h2 : un z.1 (dl W (z.2.2.2 z.2.2.1)) 1 = 0
    · rw [if_pos h2]; exact ⟨h, Nat.le_refl _, Nat.le_succ _⟩
    · rw [if_neg h2]
      refine ⟨fun v q1 q2 => ?_, Nat.le_succ _, Nat.le_refl _⟩
      have hb := fst1_bd hf h12
      have q1 : fst1 z.2.1 z.2.2.1 ≤ v := q1
      have q2 : v ≤ z.2.2.1 + 1 := q2
      show plW z.1 (vup z.2.2.2 (z.2.2.1 + 1) W v) ∧ un z.1 (vup z.2.2.2 (z.2.2.1 + 1) W v) 1 ≤ 40 ∧ ∀ k, 2 ^ z.1 ≤ k → k < 256 → vup z.2.2.2 (z.2.2.1 + 1) W v k = nI 0
      unfold vup
      by_cases hv : v = z.2.2.1 + 1
      · rw [if_pos hv]; exact ⟨hp, by omega, h0⟩
      · rw [if_neg hv]; exact h v (by omega) (by omega)
theorem un_same {U : Nat → Int32} (h : ∀ k, k < 2 ^ d → W k = U k) : un d (dl W U) 1 = 0 := by
  rw [un_all, cnt_zero]
  intro i hi
  refine decide_eq_false ?_
  rw [Nat.zero_add, dl_0]
  exact fun z => z (h i hi)
theorem un_other {U : Nat → Int32} {k : Nat} (hk : k < 2 ^ d) (h : W k ≠ U k) : un d (dl W U) 1 ≠ 0 := by
  rw [un_all]
  intro hz
  have := of_decide_eq_false (cnt_zero.mp hz k hk)
  rw [Nat.zero_add, dl_0] at this
  exact this h
theorem plW.up (h : plW d W) {k v : Nat} (hv : v ≤ 999) : plW d (upd W k (nI v)) := fun j hj => by
  by_cases hjk : j = k
  · subst hjk; exact ⟨v, hv, pk_us⟩
  · rw [pk_un hjk]; exact h j hj
theorem plW.up' (h : plW d W) {k k' : Nat} (hk : k' < 2 ^ d) {U : Nat → Int32} (hU : plW d U) : plW d (upd W k (U k')) := by
  obtain ⟨v, h1, h2⟩ := hU k' hk
  rw [h2]
  exact h.up h1
theorem zer.up (h : zer d W) {k : Nat} (hk : k < 2 ^ d) {v : Int32} : zer d (upd W k v) := fun j h1 h2 => by
  rw [pk_un (by omega)]; exact h j h1 h2
/-- two values exchanged -/
def xch (V : Nat → Int32) (a b : Nat) : Nat → Int32 := upd (upd V a (V b)) b (V a)
theorem xch_a {a b : Nat} (h : a ≠ b) : xch V a b a = V b := by rw [xch, pk_un h, pk_us]
theorem xch_b {a b : Nat} : xch V a b b = V a := pk_us
theorem xch_o {a b j : Nat} (h1 : j ≠ a) (h2 : j ≠ b) : xch V a b j = V j := by rw [xch, pk_un h2, pk_un h1]
theorem un_xch {a b : Nat} (ha : a < 2 ^ d) (hb : b < 2 ^ d) (hne : a ≠ b) : un d (xch V a b) 1 = un d V 1 := by
  have key : ∀ {U U' : Nat → Int32} {a b : Nat}, a < 2 ^ d → b < 2 ^ d → a ≠ b → (∀ j, j ≠ a → j ≠ b → U j = U' j) → U a = U' b → U b = U' a → nI 0 < U' a → ¬ nI 0 < U' b → un d U 1 = un d U' 1 := fun {U U' a b} ha hb hne h1 h2 h3 h4 h5 => by
    rw [un_all, un_all]
    have e1 := cnt_off (P := fun k => decide (nI 0 < U' k)) (Q := fun k => decide (nI 0 < U' k) && !decide (k = a)) (k := a) (decide_eq_true h4) (by rw [decide_eq_true (rfl : a = a)]; simp) (fun j hj => by rw [decide_eq_false hj]; simp) (2 ^ d) 0
    have e2 := cnt_off (P := fun k => decide (nI 0 < U k)) (Q := fun k => decide (nI 0 < U' k) && !decide (k = a)) (k := b) (by rw [h3]; exact decide_eq_true h4) (by rw [decide_eq_false h5]; rfl) (fun j hj => by
      by_cases hja : j = a
      · subst hja; rw [h2, decide_eq_false h5, decide_eq_true (rfl : j = j)]; simp
      · rw [h1 j hja hj, decide_eq_false hja]; simp) (2 ^ d) 0
    rw [if_pos ⟨by omega, by omega⟩] at e1 e2
    omega
  by_cases p1 : nI 0 < V a
  · by_cases p2 : nI 0 < V b
    · rw [un_all, un_all]
      refine cnt_congr fun i _ => ?_
      show decide (nI 0 < xch V a b (0 + i)) = decide (nI 0 < V (0 + i))
      by_cases h1 : 0 + i = b
      · rw [h1, xch_b, decide_eq_true p1, decide_eq_true p2]
      · by_cases h2 : 0 + i = a
        · rw [h2, xch_a hne, decide_eq_true p1, decide_eq_true p2]
        · rw [xch_o h2 h1]
    · exact key ha hb hne (fun j h1 h2 => xch_o h1 h2) (xch_a hne) xch_b p1 p2
  · by_cases p2 : nI 0 < V b
    · exact key hb ha (fun e => hne e.symm) (fun j h1 h2 => xch_o h2 h1) xch_b (xch_a hne) p2 p1
    · rw [un_all, un_all]
      refine cnt_congr fun i _ => ?_
      show decide (nI 0 < xch V a b (0 + i)) = decide (nI 0 < V (0 + i))
      by_cases h1 : 0 + i = b
      · rw [h1, xch_b, decide_eq_false p1, decide_eq_false p2]
      · by_cases h2 : 0 + i = a
        · rw [h2, xch_a hne, decide_eq_false p1, decide_eq_false p2]
        · rw [xch_o h2 h1]
/-- a stretch without values -/
def clr (V : Nat → Int32) (a b : Nat) (k : Nat) : Int32 := if a ≤ k ∧ k < b then nI 0 else V k
theorem clr_s {a x : Nat} (h : a ≤ x) : upd (clr V a x) x (nI 0) = clr V a (x + 1) := by
  funext k
  by_cases hk : k = x
  · subst hk; rw [pk_us, clr, if_pos ⟨h, by omega⟩]
  · rw [pk_un hk, clr, clr]
    by_cases h2 : a ≤ k ∧ k < x
    · rw [if_pos h2, if_pos ⟨h2.1, by omega⟩]
    · rw [if_neg h2, if_neg (fun z => h2 ⟨z.1, by omega⟩)]
theorem clr_0 {a : Nat} : clr V a a = V := funext fun k => if_neg (by omega)
theorem un_clr {a b : Nat} : un d (clr V a b) 1 ≤ un d V 1 := by
  rw [un_all, un_all]
  refine cnt_imp fun i _ hp => ?_
  have hp : decide (nI 0 < clr V a b (0 + i)) = true := hp
  show decide (nI 0 < V (0 + i)) = true
  unfold clr at hp
  by_cases h : a ≤ 0 + i ∧ 0 + i < b
  · rw [if_pos h] at hp
    exact absurd (of_decide_eq_true hp) (by decide)
  · rw [if_neg h] at hp
    exact hp
theorem plW.cl (h : plW d V) {a b : Nat} : plW d (clr V a b) := fun j hj => by
  unfold clr
  split
  · exact ⟨0, by omega, rfl⟩
  · exact h j hj
theorem zer.cl (h : zer d V) {a b : Nat} : zer d (clr V a b) := fun j h1 h2 => by
  unfold clr
  split
  · rfl
  · exact h j h1 h2
theorem xor_top {a b : Nat} (ha : a < 2 ^ d) (hb : b < 2 ^ d) : (2 ^ d + a) ^^^ b = 2 ^ d + (a ^^^ b) := by
  have hx : a ^^^ b < 2 ^ d := Nat.xor_lt_two_pow ha hb
  have e : ∀ x, x < 2 ^ d → 2 ^ d + x = 2 ^ d ||| x := fun x hx => by
    have := Nat.two_pow_add_eq_or_of_lt hx 1
    rw [Nat.mul_one] at this
    exact this
  rw [e a ha, e _ hx]
  apply Nat.eq_of_testBit_eq
  intro i
  rw [Nat.testBit_xor, Nat.testBit_or, Nat.testBit_or, Nat.testBit_xor]
  by_cases hi : i = d
  · subst hi
    rw [Nat.testBit_lt_two_pow ha, Nat.testBit_lt_two_pow hb]
    simp
  · rw [Nat.testBit_two_pow_of_ne (fun e => hi e.symm)]
    simp
theorem xor_tt {a b : Nat} (ha : a < 2 ^ d) (hb : b < 2 ^ d) : (2 ^ d + a) ^^^ (2 ^ d + b) = a ^^^ b := by
  have xt : ∀ x, x < 2 ^ d → 2 ^ d + x = 2 ^ d ^^^ x := fun x hx => by
    have := xor_top (d := d) (a := 0) (b := x) (by omega) hx
    rw [Nat.add_zero, Nat.zero_xor] at this
    exact this.symm
  rw [xt a ha, xt b hb, Nat.xor_comm (2 ^ d) a, Nat.xor_assoc, ← Nat.xor_assoc (2 ^ d) (2 ^ d), Nat.xor_self, Nat.zero_xor]
theorem cnt_xor : ∀ (d : Nat) (P : Nat → Bool) (m : Nat), m < 2 ^ d → cnt (fun k => P (k ^^^ m)) 0 (2 ^ d) = cnt P 0 (2 ^ d) := by
  intro d
  induction d with
  | zero =>
    intro P m hm
    have : m = 0 := by rw [Nat.pow_zero] at hm; omega
    subst this
    refine cnt_congr fun i _ => ?_
    show P ((0 + i) ^^^ 0) = P (0 + i)
    rw [Nat.xor_zero]
  | succ d ih =>
    intro P m hm
    have e : 2 ^ (d + 1) = 2 ^ d + 2 ^ d := by rw [Nat.pow_succ]; omega
    rw [e, cnt_add, cnt_add]
    rcases Nat.lt_or_ge m (2 ^ d) with h | h
    · rw [ih P m h, Nat.zero_add, ← cnt_shift (fun k => P (k ^^^ m)) (2 ^ d), ← cnt_shift P (2 ^ d)]
      have := ih (fun k => P (2 ^ d + k)) m h
      rw [← this]
      congr 1
      refine cnt_congr fun i hi => ?_
      show P ((2 ^ d + (0 + i)) ^^^ m) = P (2 ^ d + ((0 + i) ^^^ m))
      rw [xor_top (by omega) h]
    · have hm' : m - 2 ^ d < 2 ^ d := by omega
      have em : m = 2 ^ d + (m - 2 ^ d) := by omega
      have e1 : cnt (fun k => P (k ^^^ m)) 0 (2 ^ d) = cnt P (0 + 2 ^ d) (2 ^ d) := by
        have := ih (fun k => P (2 ^ d + k)) (m - 2 ^ d) hm'
        rw [Nat.zero_add, ← cnt_shift P (2 ^ d), ← this]
        refine cnt_congr fun i hi => ?_
        show P ((0 + i) ^^^ m) = P (2 ^ d + ((0 + i) ^^^ (m - 2 ^ d)))
        rw [Nat.zero_add]
        conv => lhs; rw [em]
        rw [Nat.xor_comm i, xor_top hm' (by omega), Nat.xor_comm (m - 2 ^ d)]
      have e2 : cnt (fun k => P (k ^^^ m)) (0 + 2 ^ d) (2 ^ d) = cnt P 0 (2 ^ d) := by
        have := ih P (m - 2 ^ d) hm'
        rw [Nat.zero_add, ← cnt_shift (fun k => P (k ^^^ m)) (2 ^ d), ← this]
        refine cnt_congr fun i hi => ?_
        show P ((2 ^ d + (0 + i)) ^^^ m) = P ((0 + i) ^^^ (m - 2 ^ d))
        rw [Nat.zero_add]
        conv => lhs; rw [em]
        rw [xor_tt hi hm']
      rw [e1, e2, Nat.add_comm]
end AC
