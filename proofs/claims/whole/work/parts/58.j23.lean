/-! calls: stretch -/
/-- a node of a level begins at a key and ends in time -/
def wd (k to j : Nat) : Prop := k % 2 ^ j = 0 ∧ k + 2 ^ j ≤ to + 1
def wN (k to : Nat) : Nat → Nat
  | 0 => 0
  | n + 1 => if wN k to n = n ∧ k % 2 ^ (n + 1) = 0 ∧ k + 2 ^ (n + 1) ≤ to + 1 then n + 1 else wN k to n
theorem wN_spec {k to : Nat} (hk : k ≤ to) : ∀ n, wN k to n ≤ n ∧ (∀ j, j ≤ wN k to n → wd k to j) ∧ (wN k to n < n → ¬ wd k to (wN k to n + 1)) := by
  intro n
  induction n with
  | zero =>
    refine ⟨Nat.le_refl _, fun j hj => ?_, fun h => absurd h (Nat.lt_irrefl _)⟩
    have h0 : j = 0 := by rw [wN] at hj; omega
    subst h0
    exact ⟨by rw [Nat.pow_zero, Nat.mod_one], by rw [Nat.pow_zero]; omega⟩
  | succ n ih =>
    obtain ⟨h1, h2, h3⟩ := ih
    rw [wN]
    by_cases hc : wN k to n = n ∧ k % 2 ^ (n + 1) = 0 ∧ k + 2 ^ (n + 1) ≤ to + 1
    · rw [if_pos hc]
      refine ⟨Nat.le_refl _, fun j hj => ?_, fun h => absurd h (Nat.lt_irrefl _)⟩
      rcases Nat.lt_or_ge j (n + 1) with h | h
      · exact h2 j (by omega)
      · have : j = n + 1 := by omega
        subst this
        exact hc.2
    · rw [if_neg hc]
      refine ⟨by omega, h2, fun h => ?_⟩
      by_cases h4 : wN k to n = n
      · intro hw
        rw [h4] at hw
        exact hc ⟨h4, hw⟩
      · exact h3 (by omega)
/-- the widest level -/
def wl (k to : Nat) : Nat := wN k to 8
theorem mod_le {k i j : Nat} (h : i ≤ j) (hm : k % 2 ^ j = 0) : k % 2 ^ i = 0 := by
  have : 2 ^ i ∣ 2 ^ j := Nat.pow_dvd_pow 2 h
  exact Nat.mod_eq_zero_of_dvd (Nat.dvd_trans this (Nat.dvd_of_mod_eq_zero hm))
theorem wd_le {k to i j : Nat} (h : i ≤ j) (hc : wd k to j) : wd k to i :=
  ⟨mod_le h hc.1, Nat.le_trans (Nat.add_le_add_left (Nat.pow_le_pow_right (by omega) h) k) hc.2⟩
theorem wl_ge {k to j : Nat} (hk : k ≤ to) (hj : j ≤ 8) (hc : wd k to j) : j ≤ wl k to := by
  obtain ⟨h1, h2, h3⟩ := wN_spec hk 8
  rcases Nat.lt_or_ge (wl k to) j with h | h
  · exact absurd (wd_le (show wl k to + 1 ≤ j by omega) hc) (h3 (Nat.lt_of_lt_of_le h hj))
  · exact h
theorem wl_c {k to : Nat} (hk : k ≤ to) : wd k to (wl k to) := (wN_spec hk 8).2.1 _ (Nat.le_refl _)
theorem wl_8 {k to : Nat} (hk : k ≤ to) : wl k to ≤ 8 := (wN_spec hk 8).1
/-- the numbers told -/
def sl (to : Nat) : Nat → Nat → List Int64
  | 0, _ => []
  | n + 1, k => if k ≤ to then lN (1000 * wl k to + k / 2 ^ wl k to) :: sl to n (k + 2 ^ wl k to) else []
theorem sl_down {to : Nat} : ∀ (j n k : Nat), j ≤ 8 → k % 2 ^ j = 0 → to + 1 < k + 2 ^ j → (sl to n k).length ≤ j := by
  intro j
  induction j with
  | zero =>
    intro n k _ _ h
    rw [Nat.pow_zero] at h
    cases n with
    | zero => exact Nat.le_refl _
    | succ n => rw [sl, if_neg (by omega)]; exact Nat.le_refl _
  | succ j ih =>
    intro n k hj hm h
    have e2 : 2 ^ (j + 1) = 2 * 2 ^ j := by rw [Nat.pow_succ]; omega
    have hm2 := mod_le (show j ≤ j + 1 by omega) hm
    by_cases h2 : to + 1 < k + 2 ^ j
    · exact Nat.le_trans (ih n k (by omega) hm2 h2) (by omega)
    · cases n with
      | zero => exact Nat.zero_le _
      | succ n =>
        have hp := Nat.one_le_two_pow (n := j)
        rw [sl, if_pos (by omega)]
        have h3 := wl_ge (show k ≤ to by omega) (show j ≤ 8 by omega) ⟨hm2, by omega⟩
        have h4 : wl k to ≤ j := by
          rcases Nat.lt_or_ge j (wl k to) with h5 | h5
          · have h6 := (wl_c (show k ≤ to by omega)).2
            have h7 : 2 ^ (j + 1) ≤ 2 ^ wl k to := Nat.pow_le_pow_right (by omega) h5
            omega
          · exact h5
        have h5 : wl k to = j := by omega
        rw [h5, List.length_cons]
        have h6 : (k + 2 ^ j) % 2 ^ j = 0 := by rw [Nat.add_mod_right]; exact hm2
        have := ih n (k + 2 ^ j) (by omega) h6 (by omega)
        omega
theorem sl_up {to : Nat} (hto : to < 256) : ∀ (e j n k : Nat), j + e = 8 → k % 2 ^ j = 0 → (sl to n k).length ≤ e + 9 := by
  intro e
  induction e with
  | zero =>
    intro j n k hj hm
    have : j = 8 := by omega
    subst this
    by_cases h : to + 1 < k + 2 ^ 8
    · exact Nat.le_trans (sl_down 8 n k (by omega) hm h) (by omega)
    · cases n with
      | zero => exact Nat.zero_le _
      | succ n =>
        by_cases h1 : k ≤ to
        · rw [sl, if_pos h1]
          have h2 := wl_ge h1 (Nat.le_refl 8) ⟨hm, by omega⟩
          have h3 := wl_8 h1
          have h4 : wl k to = 8 := by omega
          rw [h4, List.length_cons]
          cases n with
          | zero => show 0 + 1 ≤ _; omega
          | succ n => rw [sl, if_neg (by omega)]; show 0 + 1 ≤ _; omega
        · rw [sl, if_neg h1]; exact Nat.zero_le _
  | succ e ih =>
    intro j n k hj hm
    have e2 : 2 ^ (j + 1) = 2 * 2 ^ j := by rw [Nat.pow_succ]; omega
    by_cases hm2 : k % 2 ^ (j + 1) = 0
    · exact Nat.le_trans (ih (j + 1) n k (by omega) hm2) (by omega)
    · by_cases h : to + 1 < k + 2 ^ j
      · exact Nat.le_trans (sl_down j n k (by omega) hm h) (by omega)
      · cases n with
        | zero => exact Nat.zero_le _
        | succ n =>
          have hp := Nat.one_le_two_pow (n := j)
          have hk : k ≤ to := by omega
          rw [sl, if_pos hk]
          have h3 := wl_ge hk (show j ≤ 8 by omega) ⟨hm, by omega⟩
          have h4 : wl k to ≤ j := by
            rcases Nat.lt_or_ge j (wl k to) with h5 | h5
            · exact absurd (mod_le h5 (wl_c hk).1) hm2
            · exact h5
          have h5 : wl k to = j := by omega
          rw [h5, List.length_cons]
          have h6 : (k + 2 ^ j) % 2 ^ (j + 1) = 0 := by
            have d1 : 2 ^ j ∣ k := Nat.dvd_of_mod_eq_zero hm
            obtain ⟨x, hx⟩ := d1
            subst hx
            have hx2 : x % 2 = 1 := by
              rcases Nat.mod_two_eq_zero_or_one x with h | h
              · refine absurd ?_ hm2
                rw [e2, show 2 ^ j * x = 2 * 2 ^ j * (x / 2) by
                  have : x = 2 * (x / 2) := by omega
                  rw [this, Nat.mul_div_cancel_left _ (by omega), ← Nat.mul_assoc, Nat.mul_comm (2 ^ j) 2]]
                exact Nat.mul_mod_right _ _
              · exact h
            rw [e2, show 2 ^ j * x + 2 ^ j = 2 * 2 ^ j * ((x + 1) / 2) by
              have : x + 1 = 2 * ((x + 1) / 2) := by omega
              rw [← Nat.mul_succ, Nat.succ_eq_add_one, this, Nat.mul_div_cancel_left _ (by omega), ← Nat.mul_assoc, Nat.mul_comm (2 ^ j) 2]]
            exact Nat.mul_mod_right _ _
          have := ih (j + 1) n (k + 2 ^ j) (by omega) h6
          omega
theorem sl_len {to : Nat} (hto : to < 256) (n k : Nat) : (sl to n k).length ≤ 17 := sl_up hto 8 0 n k (by omega) (by rw [Nat.pow_zero, Nat.mod_one])
/-- no node that is told could be wider -/
def Iv (fr to k : Nat) : Prop := ∀ j, j ≤ 8 → k % 2 ^ j ≠ 0 → k / 2 ^ j * 2 ^ j < fr ∨ to + 1 < k / 2 ^ j * 2 ^ j + 2 ^ j
theorem fl_lt {k j : Nat} (h : k % 2 ^ j ≠ 0) : k / 2 ^ j * 2 ^ j < k ∧ k < k / 2 ^ j * 2 ^ j + 2 ^ j := by
  have h1 := Nat.div_add_mod k (2 ^ j)
  have h2 := Nat.mod_lt k (Nat.two_pow_pos j)
  rw [Nat.mul_comm] at h1
  omega
theorem Iv_0 {fr to : Nat} : Iv fr to fr := fun j _ h => Or.inl (fl_lt h).1
theorem fl_same {k w j : Nat} (h1 : w < j) (h2 : k % 2 ^ w = 0) (hm : (k + 2 ^ w) % 2 ^ j ≠ 0) : k / 2 ^ j * 2 ^ j = (k + 2 ^ w) / 2 ^ j * 2 ^ j := by
  have e : 2 ^ j = 2 ^ w * 2 ^ (j - w) := by rw [← Nat.pow_add]; congr 1; omega
  obtain ⟨x, hx⟩ := Nat.dvd_of_mod_eq_zero h2
  subst hx
  have h3 : 2 ^ w * x + 2 ^ w = 2 ^ w * (x + 1) := by rw [Nat.mul_add, Nat.mul_one]
  rw [h3] at hm ⊢
  rw [e] at hm ⊢
  rw [Nat.mul_mod_mul_left] at hm
  rw [Nat.mul_div_mul_left _ _ (Nat.two_pow_pos w), Nat.mul_div_mul_left _ _ (Nat.two_pow_pos w)]
  congr 1
  rw [Nat.succ_div, if_neg (fun z => hm (by rw [Nat.mod_eq_zero_of_dvd z, Nat.mul_zero])), Nat.add_zero]
theorem Iv_s {fr to k : Nat} (hk : k ≤ to) (h : Iv fr to k) : Iv fr to (k + 2 ^ wl k to) := fun j hj hm => by
  have hc := wl_c hk
  have f := fl_lt hm
  rcases Nat.lt_or_ge (wl k to) j with h1 | h1
  · -- the level is below j
    have ha := fl_same h1 hc.1 hm
    rw [← ha]
    by_cases h2 : k % 2 ^ j = 0
    · have h3 : ¬ k + 2 ^ j ≤ to + 1 := fun z => by
        have := wl_ge hk hj ⟨h2, z⟩
        omega
      right
      have h4 := Nat.div_add_mod k (2 ^ j)
      rw [Nat.mul_comm, h2, Nat.add_zero] at h4
      omega
    · exact h j hj h2
  · -- all of it is aligned
    refine absurd ?_ hm
    have h2 : k % 2 ^ j = 0 := mod_le h1 hc.1
    have h3 : 2 ^ wl k to % 2 ^ j = 0 := Nat.mod_eq_zero_of_dvd (Nat.pow_dvd_pow 2 h1)
    rw [Nat.add_mod, h2, h3]
    exact Nat.zero_mod _
section ST
variable {c : Nat} {σ : Hp} {m d f l : Nat} {V : Nat → Nat → Int32} {T : Nat → Option Nat} {A : Nat → Nat → Int32} {R : Nat → Int64} {I : Nat → Int32} {S W : Nat → Int32}
theorem and_mask {k j : Nat} (hk : k < 2 ^ 31) (hj : j ≤ 8) : nI k &&& nI (2 ^ j - 1) = nI (k % 2 ^ j) := by
  have h8 : 2 ^ j ≤ 2 ^ 8 := Nat.pow_le_pow_right (by omega) hj
  exact pk_andN (by omega) j (pk_tn (by omega))
theorem A_widest_loop {k to : Nat} (hk : k < 256) (ht : to < 256) : ∀ (e n : Nat) {l4 : Value}, n + e = 8 → den 97 4 [.int (nI k), .int (nI to), .int (nI (wN k to n)), .int (nI (n + 1)), l4] [] σ = some (some (.int (nI (wl k to))), σ) := by
  intro e
  induction e with
  | zero =>
    intro n l4 hn
    have : n = 8 := by omega
    subst this
    rw [e97_4]
    simp (disch := first | omega | exact tl_l | exact tT_len | (simp only [List.length_cons, List.length_nil])) only [e97_0, e97_1, e97_2, e97_3, e97_5, e97_7, e97_10, e97_11, e97_12, e97_13, e97_15, e97_16, e97_17, e97_18, e97_19, e97_22, e97_23, e97_25, e97_26, e97_27, e97_28, e97_31, e97_32, e97_34, e97_35, e97_36, e97_37, e97_38, e97_41, e97_42, e97_43, e97_46, e97_49, e97_50, kv_s, kh_s, kr_s, kr_v, kn_s, z0, z1, z2, nI_ltI, nI_leI, nI_eq, nI_add, oN, bz0, bz1, bw0, bw1, ltT, ltF, leT, leF, eqT, eqF, if_true, if_false, kI_n, wI_n, and_true, true_and, and_false, false_and, not_true, not_false_eq_true, z8, wl]
  | succ e ih =>
    intro n l4 hn
    have h8 : 2 ^ (n + 1) ≤ 2 ^ 8 := Nat.pow_le_pow_right (by omega) (by omega)
    have hp := Nat.one_le_two_pow (n := n + 1)
    have hmk : k % 2 ^ (n + 1) < 256 := Nat.lt_of_le_of_lt (Nat.mod_le _ _) hk
    have hwle : wN k to n ≤ n := by
      clear ih hn l4 h8 hp hmk
      induction n with
      | zero => exact Nat.le_refl _
      | succ n ih => rw [wN]; split <;> omega
    rw [← ih (n + 1) (l4 := .int (nI (2 ^ (n + 1)))) (by omega), wN]
    rw [e97_4]
    by_cases c1 : wN k to n = n
    · by_cases c2 : k % 2 ^ (n + 1) = 0
      · by_cases c3 : k + 2 ^ (n + 1) ≤ to + 1
        · rw [if_pos ⟨c1, c2, c3⟩]
          have c4 : ¬ to < k + 2 ^ (n + 1) - 1 := by omega
          simp (disch := first | omega | exact tl_l | exact tT_len | (simp only [List.length_cons, List.length_nil])) only [e97_0, e97_1, e97_2, e97_3, e97_5, e97_7, e97_10, e97_11, e97_12, e97_13, e97_15, e97_16, e97_17, e97_18, e97_19, e97_22, e97_23, e97_25, e97_26, e97_27, e97_28, e97_31, e97_32, e97_34, e97_35, e97_36, e97_37, e97_38, e97_41, e97_42, e97_43, e97_46, e97_49, e97_50, kv_s, kh_s, kr_s, kr_v, kn_s, z0, z1, z2, nI_ltI, nI_leI, nI_eq, nI_add, oN, bz0, bz1, bw0, bw1, ltT, ltF, leT, leF, eqT, eqF, if_true, if_false, kI_n, wI_n, and_true, true_and, and_false, false_and, not_true, not_false_eq_true, z8, shl_nI, pk_sub, and_mask, Nat.add_sub_cancel, c1, c2, c4]
        · rw [if_neg (fun z => c3 z.2.2)]
          have c4 : to < k + 2 ^ (n + 1) - 1 := by omega
          simp (disch := first | omega | exact tl_l | exact tT_len | (simp only [List.length_cons, List.length_nil])) only [e97_0, e97_1, e97_2, e97_3, e97_5, e97_7, e97_10, e97_11, e97_12, e97_13, e97_15, e97_16, e97_17, e97_18, e97_19, e97_22, e97_23, e97_25, e97_26, e97_27, e97_28, e97_31, e97_32, e97_34, e97_35, e97_36, e97_37, e97_38, e97_41, e97_42, e97_43, e97_46, e97_49, e97_50, kv_s, kh_s, kr_s, kr_v, kn_s, z0, z1, z2, nI_ltI, nI_leI, nI_eq, nI_add, oN, bz0, bz1, bw0, bw1, ltT, ltF, leT, leF, eqT, eqF, if_true, if_false, kI_n, wI_n, and_true, true_and, and_false, false_and, not_true, not_false_eq_true, z8, shl_nI, pk_sub, and_mask, Nat.add_sub_cancel, c1, c2, c4]
      · rw [if_neg (fun z => c2 z.2.1)]
        simp (disch := first | omega | exact tl_l | exact tT_len | (simp only [List.length_cons, List.length_nil])) only [e97_0, e97_1, e97_2, e97_3, e97_5, e97_7, e97_10, e97_11, e97_12, e97_13, e97_15, e97_16, e97_17, e97_18, e97_19, e97_22, e97_23, e97_25, e97_26, e97_27, e97_28, e97_31, e97_32, e97_34, e97_35, e97_36, e97_37, e97_38, e97_41, e97_42, e97_43, e97_46, e97_49, e97_50, kv_s, kh_s, kr_s, kr_v, kn_s, z0, z1, z2, nI_ltI, nI_leI, nI_eq, nI_add, oN, bz0, bz1, bw0, bw1, ltT, ltF, leT, leF, eqT, eqF, if_true, if_false, kI_n, wI_n, and_true, true_and, and_false, false_and, not_true, not_false_eq_true, z8, shl_nI, pk_sub, and_mask, Nat.add_sub_cancel, c1, c2]
    · rw [if_neg (fun z => c1 z.1)]
      simp (disch := first | omega | exact tl_l | exact tT_len | (simp only [List.length_cons, List.length_nil])) only [e97_0, e97_1, e97_2, e97_3, e97_5, e97_7, e97_10, e97_11, e97_12, e97_13, e97_15, e97_16, e97_17, e97_18, e97_19, e97_22, e97_23, e97_25, e97_26, e97_27, e97_28, e97_31, e97_32, e97_34, e97_35, e97_36, e97_37, e97_38, e97_41, e97_42, e97_43, e97_46, e97_49, e97_50, kv_s, kh_s, kr_s, kr_v, kn_s, z0, z1, z2, nI_ltI, nI_leI, nI_eq, nI_add, oN, bz0, bz1, bw0, bw1, ltT, ltF, leT, leF, eqT, eqF, if_true, if_false, kI_n, wI_n, and_true, true_and, and_false, false_and, not_true, not_false_eq_true, z8, shl_nI, pk_sub, and_mask, Nat.add_sub_cancel, c1]
theorem A_widest {k to : Nat} (hk : k < 256) (ht : to < 256) : dcall 97 [.int (nI k), .int (nI to)] σ = some (some (.int (nI (wl k to))), σ) := by
  rw [← A_widest_loop (σ := σ) hk ht 8 0 (l4 := junk) (Nat.zero_add _)]
  rw [q97]
  simp (disch := first | omega | exact tl_l | exact tT_len | (simp only [List.length_cons, List.length_nil])) only [e97_0, e97_1, e97_2, e97_3, e97_5, e97_7, e97_10, e97_11, e97_12, e97_13, e97_15, e97_16, e97_17, e97_18, e97_19, e97_22, e97_23, e97_25, e97_26, e97_27, e97_28, e97_31, e97_32, e97_34, e97_35, e97_36, e97_37, e97_38, e97_41, e97_42, e97_43, e97_46, e97_49, e97_50, kv_s, kh_s, kr_s, kr_v, kn_s, z0, z1, z2, nI_ltI, nI_leI, nI_eq, nI_add, oN, bz0, bz1, bw0, bw1, ltT, ltF, leT, leF, eqT, eqF, if_true, if_false, kI_n, wI_n, and_true, true_and, and_false, false_and, not_true, not_false_eq_true, wN]
theorem C_stretch_loop (h : RB c σ T d f l V) {to : Nat} (hto : to < 2 ^ d) {l1 l2 l4 : Value} : ∀ (n k : Nat) (L : List Int64) {l6 : Value}, to + 1 ≤ k + n → k ≤ to + 1 → L.length + (sl to n k).length ≤ 127 → ∃ l6', den 96 39 [.ref c, l1, l2, .int (nI to), l4, .int (nI k), l6] [] (cw σ c A (rl R L) (upd I 3 (nI L.length))) = den 96 89 [.ref c, l1, l2, .int (nI to), l4, .int (nI (to + 1)), l6'] [] (cw σ c A (rl R (L ++ sl to n k)) (upd I 3 (nI (L ++ sl to n k).length))) := by
  have hK := h.K
  intro n
  induction n with
  | zero =>
    intro k L l6 h1 h2 h3
    have : k = to + 1 := by omega
    subst this
    refine ⟨l6, ?_⟩
    rw [sl, List.append_nil]
    rw [e96_39]
    simp (disch := first | omega | exact tl_l | exact tT_len | (simp only [List.length_cons, List.length_nil])) only [e96_41, e96_42, kv_s, kh_s, kr_s, kr_v, kn_s, z0, z1, z2, nI_ltI, nI_leI, nI_eq, nI_add, oN, bz0, bz1, bw0, bw1, ltT, ltF, leT, leF, eqT, eqF, if_true, if_false, kI_n, wI_n, and_true, true_and, and_false, false_and, not_true, not_false_eq_true]
  | succ n ih =>
    intro k L l6 h1 h2 h3
    by_cases hk : k ≤ to
    · have hw := wl_8 hk
      have hwc := wl_c hk
      have h8 : 2 ^ wl k to ≤ 2 ^ 8 := Nat.pow_le_pow_right (by omega) hw
      have hp := Nat.one_le_two_pow (n := wl k to)
      have hdv : k / 2 ^ wl k to ≤ k := Nat.div_le_self _ _
      rw [sl, if_pos hk, List.length_cons] at h3
      have hl2 : (L ++ [lN (1000 * wl k to + k / 2 ^ wl k to)]).length = L.length + 1 := by rw [List.length_append]; rfl
      obtain ⟨l6', e⟩ := ih (k + 2 ^ wl k to) (L ++ [lN (1000 * wl k to + k / 2 ^ wl k to)]) (l6 := .int (nI (wl k to))) (by omega) hwc.2 (by rw [hl2]; omega)
      rw [sl, if_pos hk]
      rw [List.append_assoc, List.singleton_append, hl2] at e
      refine ⟨l6', ?_⟩
      rw [← e]
      have hkt : ¬ to < k := by omega
      rw [e96_39]
      simp (disch := first | omega | exact tl_l | exact tT_len | (simp only [List.length_cons, List.length_nil])) only [e96_41, e96_42, e96_45, e96_47, e96_48, e96_51, e96_53, e96_54, e96_57, e96_60, e96_62, e96_63, e96_65, e96_67, e96_68, e96_69, e96_70, e96_73, e96_75, e96_76, e96_78, e96_79, e96_82, e96_83, e96_84, e96_86, kv_s, kh_s, kr_s, kr_v, kn_s, z0, z1, z2, nI_ltI, nI_leI, nI_eq, nI_add, oN, bz0, bz1, bw0, bw1, ltT, ltF, leT, leF, eqT, eqF, if_true, if_false, kI_n, wI_n, and_true, true_and, and_false, false_and, not_true, not_false_eq_true, cwo_1, cwr_1, cwg_0, cwg_1, cwg_2, cwa_0, cwl_0, cwo_3, cwr_3, cwg_3, cwa_R, cwl_R, cwo_5, cwr_5, cwg_4, cwg_5, cwg_6, cwg_7, cwg_8, cwa_1, cwl_1, cwo_7, cwr_7, cwg_9, cwg_10, cwg_11, cwg_12, cwg_13, cwa_2, cwl_2, cwo_17, cwr_17, cwg_14, cwa_3, cwl_3, cwp_0, cwp_1, cwp_2, cwp_3, cwp_4, cwp_5, cwp_6, cwp_7, cwp_8, cwp_9, cwp_10, cwp_11, cwp_12, cwp_13, cwp_14, cwu_0, cwu_R, cwu_1, cwu_2, cwu_3, vu_at, vu_ne, pk_us, pk_un, h.x.f0, h.x.f1, h.x.f2, h.x.f3, h.x.f4, h.x.f5, h.x.f6, h.x.f7, h.x.o, h.hi.o, h.hi.gd, h.hi.gf, h.hi.gl, Hi_keys h.hi h.d8, Hi_hasKey h.hi h.d8, Rw_empty, Rw_add, List.nil_append, List.cons_append, upd_upd, cwo_1, cwo_3, cwo_5, cwo_7, cwo_17, Bool.false_eq_true, n01, A_widest (show k < 256 by omega) (show to < 256 by omega), z1000, pk_mul, shrN, shl_nI, nI_l]
    · have : k = to + 1 := by omega
      subst this
      refine ⟨l6, ?_⟩
      rw [sl, if_neg hk, List.append_nil]
      rw [e96_39]
      simp (disch := first | omega | exact tl_l | exact tT_len | (simp only [List.length_cons, List.length_nil])) only [e96_41, e96_42, kv_s, kh_s, kr_s, kr_v, kn_s, z0, z1, z2, nI_ltI, nI_leI, nI_eq, nI_add, oN, bz0, bz1, bw0, bw1, ltT, ltF, leT, leF, eqT, eqF, if_true, if_false, kI_n, wI_n, and_true, true_and, and_false, false_and, not_true, not_false_eq_true]
/-- the keys of a stretch -/
def sK (a b : Nat) (k : Nat) : Int32 := if a ≤ k ∧ k < b then nI 1 else nI 0
theorem sK_s {a x k : Nat} (h : a ≤ x) : upd (sK a x) x (nI 1) k = sK a (x + 1) k := by
  by_cases hk : k = x
  · subst hk; rw [pk_us, sK, if_pos ⟨h, by omega⟩]
  · rw [pk_un hk, sK, sK]
    by_cases h2 : a ≤ k ∧ k < x
    · rw [if_pos h2, if_pos ⟨h2.1, by omega⟩]
    · rw [if_neg h2, if_neg (fun z => h2 ⟨z.1, by omega⟩)]
theorem C_stretch_keys (h : RB c σ T d f l V) {fr to : Nat} (hto : to < 2 ^ d) (hI : I 14 = nI d) {l1 l2 l4 l5 : Value} : ∀ (n x : Nat) (F : Nat → Int32), x + n = to + 1 → fr ≤ x → okF d (sK fr x) F → ∃ F', den 96 115 [.ref c, l1, l2, .int (nI to), l4, l5, .int (nI x)] [] (cw σ c (va_up A 3 F) R I) = den 96 137 [.ref c, l1, l2, .int (nI to), l4, l5, .int (nI (to + 1))] [] (cw σ c (va_up A 3 F') R I) ∧ okF d (sK fr (to + 1)) F' := by
  have hK := h.K
  have hd := h.d8
  intro n
  induction n with
  | zero =>
    intro x F hx _ hF
    have : x = to + 1 := by omega
    subst this
    refine ⟨F, ?_, hF⟩
    rw [e96_115]
    simp (disch := first | omega | exact tl_l | exact tT_len | (simp only [List.length_cons, List.length_nil])) only [e96_117, e96_118, kv_s, kh_s, kr_s, kr_v, kn_s, z0, z1, z2, nI_ltI, nI_leI, nI_eq, nI_add, oN, bz0, bz1, bw0, bw1, ltT, ltF, leT, leF, eqT, eqF, if_true, if_false, kI_n, wI_n, and_true, true_and, and_false, false_and, not_true, not_false_eq_true]
  | succ n ih =>
    intro x F hx hfr hF
    have nd : ¬ nI 0 < nI 0 := by decide
    have n1 : nI 0 < nI 1 := by decide
    obtain ⟨F1, k1, k2⟩ := Ch_change (σ := σ) (c := c) (A := va_up A 3 F) (R := R) (I := I) (d := d) (S := sK fr x) ⟨hI, by rw [vu_at]; exact hF⟩ hd (show x < 2 ^ d by omega) (x := nI 1) (v := nI 1) (by rw [show sK fr x x = nI 0 from if_neg (by omega), if_neg nd, if_pos n1]; rfl)
    rw [vu_vu] at k1
    obtain ⟨F', e1, e2⟩ := ih (x + 1) F1 (by omega) (by omega) ((funext fun k => sK_s (k := k) hfr : upd (sK fr x) x (nI 1) = sK fr (x + 1)) ▸ k2)
    refine ⟨F', ?_, e2⟩
    rw [← e1]
    rw [e96_115]
    simp (disch := first | omega | exact tl_l | exact tT_len | (simp only [List.length_cons, List.length_nil])) only [e96_117, e96_118, e96_121, e96_122, e96_125, e96_127, e96_128, e96_131, e96_134, kv_s, kh_s, kr_s, kr_v, kn_s, z0, z1, z2, nI_ltI, nI_leI, nI_eq, nI_add, oN, bz0, bz1, bw0, bw1, ltT, ltF, leT, leF, eqT, eqF, if_true, if_false, kI_n, wI_n, and_true, true_and, and_false, false_and, not_true, not_false_eq_true, cwo_1, cwr_1, cwg_0, cwg_1, cwg_2, cwa_0, cwl_0, cwo_3, cwr_3, cwg_3, cwa_R, cwl_R, cwo_5, cwr_5, cwg_4, cwg_5, cwg_6, cwg_7, cwg_8, cwa_1, cwl_1, cwo_7, cwr_7, cwg_9, cwg_10, cwg_11, cwg_12, cwg_13, cwa_2, cwl_2, cwo_17, cwr_17, cwg_14, cwa_3, cwl_3, cwp_0, cwp_1, cwp_2, cwp_3, cwp_4, cwp_5, cwp_6, cwp_7, cwp_8, cwp_9, cwp_10, cwp_11, cwp_12, cwp_13, cwp_14, cwu_0, cwu_R, cwu_1, cwu_2, cwu_3, vu_at, vu_ne, pk_us, pk_un, h.x.f0, h.x.f1, h.x.f2, h.x.f3, h.x.f4, h.x.f5, h.x.f6, h.x.f7, h.x.o, h.hi.o, h.hi.gd, h.hi.gf, h.hi.gl, Hi_keys h.hi h.d8, Hi_hasKey h.hi h.d8, Rw_empty, Rw_add, List.nil_append, List.cons_append, upd_upd, cwo_1, cwo_3, cwo_5, cwo_7, cwo_17, Bool.false_eq_true, n01, k1]
theorem M_isWithin {fr to j i : Nat} (hj : j ≤ 8) (hi : i ≤ 256) (hfr : fr < 256) (ht : to < 256) : dcall 219 [.int (nI fr), .int (nI to), .int (nI j), .int (nI i)] σ = some (some (.int (if fr ≤ i * 2 ^ j ∧ (i + 1) * 2 ^ j ≤ to + 1 then nI 1 else nI 0)), σ) := by
  have h8 : 2 ^ j ≤ 2 ^ 8 := Nat.pow_le_pow_right (by omega) hj
  have hm : i * 2 ^ j ≤ 256 * 2 ^ 8 := Nat.mul_le_mul hi h8
  have hm2 : (i + 1) * 2 ^ j ≤ 257 * 2 ^ 8 := Nat.mul_le_mul (by omega) h8
  have hp : 1 * 1 ≤ (i + 1) * 2 ^ j := Nat.mul_le_mul (by omega) Nat.one_le_two_pow
  rw [q219]
  by_cases c1 : i * 2 ^ j < fr
  · rw [if_neg (fun z => by omega)]
    simp (disch := first | omega | exact tl_l | exact tT_len | (simp only [List.length_cons, List.length_nil])) only [e219_0, e219_1, e219_2, e219_3, e219_4, e219_7, e219_8, e219_9, e219_10, e219_11, e219_12, e219_13, e219_14, e219_15, e219_18, e219_19, e219_22, e219_23, kv_s, kh_s, kr_s, kr_v, kn_s, z0, z1, z2, nI_ltI, nI_leI, nI_eq, nI_add, oN, bz0, bz1, bw0, bw1, ltT, ltF, leT, leF, eqT, eqF, if_true, if_false, kI_n, wI_n, and_true, true_and, and_false, false_and, not_true, not_false_eq_true, shlN, c1]
  · by_cases c2 : to < (i + 1) * 2 ^ j - 1
    · rw [if_neg (fun z => by omega)]
      simp (disch := first | omega | exact tl_l | exact tT_len | (simp only [List.length_cons, List.length_nil])) only [e219_0, e219_1, e219_2, e219_3, e219_4, e219_7, e219_8, e219_9, e219_10, e219_11, e219_12, e219_13, e219_14, e219_15, e219_18, e219_19, e219_22, e219_23, kv_s, kh_s, kr_s, kr_v, kn_s, z0, z1, z2, nI_ltI, nI_leI, nI_eq, nI_add, oN, bz0, bz1, bw0, bw1, ltT, ltF, leT, leF, eqT, eqF, if_true, if_false, kI_n, wI_n, and_true, true_and, and_false, false_and, not_true, not_false_eq_true, shlN, c1, pk_sub, c2]
    · rw [if_pos ⟨by omega, by omega⟩]
      simp (disch := first | omega | exact tl_l | exact tT_len | (simp only [List.length_cons, List.length_nil])) only [e219_0, e219_1, e219_2, e219_3, e219_4, e219_7, e219_8, e219_9, e219_10, e219_11, e219_12, e219_13, e219_14, e219_15, e219_18, e219_19, e219_22, e219_23, kv_s, kh_s, kr_s, kr_v, kn_s, z0, z1, z2, nI_ltI, nI_leI, nI_eq, nI_add, oN, bz0, bz1, bw0, bw1, ltT, ltF, leT, leF, eqT, eqF, if_true, if_false, kI_n, wI_n, and_true, true_and, and_false, false_and, not_true, not_false_eq_true, shlN, c1, pk_sub, c2]
theorem M_stretch_in (h : nowM (A 1) d f l V) {fr to k : Nat} (hto : to < 2 ^ d) (hk : k ≤ to) (hfr : fr ≤ k) (hv : Iv fr to k) {l1 l4 : Value} : ∀ (n j : Nat), j + n = wl k to → den 218 53 [.ref m, l1, .int (nI fr), .int (nI to), l4, .int (nI k), .int (nI j)] [] (mw σ m A R I) = den 218 87 [.ref m, l1, .int (nI fr), .int (nI to), l4, .int (nI k), .int (nI (wl k to))] [] (mw σ m A R I) := by
  have hK := h.K
  obtain ⟨w1, w2, w3⟩ := wN_spec hk 8
  have hw := wl_8 hk
  have hww : wl k to ≤ d := by
    have h1 := (wl_c hk).2
    have h2 : 2 ^ wl k to ≤ 2 ^ d := by omega
    exact (Nat.pow_le_pow_iff_right (by omega)).mp h2
  intro n
  induction n with
  | zero =>
    intro j hj
    have : j = wl k to := by omega
    subst this
    by_cases hd : wl k to < d
    · have hdv : k / 2 ^ (wl k to + 1) ≤ k := Nat.div_le_self _ _
      have hno : ¬ (fr ≤ k / 2 ^ (wl k to + 1) * 2 ^ (wl k to + 1) ∧ (k / 2 ^ (wl k to + 1) + 1) * 2 ^ (wl k to + 1) ≤ to + 1) := fun z => by
        rw [Nat.add_mul, Nat.one_mul] at z
        by_cases hm : k % 2 ^ (wl k to + 1) = 0
        · have h4 := Nat.div_add_mod k (2 ^ (wl k to + 1))
          rw [Nat.mul_comm, hm, Nat.add_zero] at h4
          exact w3 (show wl k to < 8 by omega) ⟨hm, by rw [h4] at z; exact z.2⟩
        · have := hv (wl k to + 1) (by omega) hm
          omega
      rw [e218_53]
      simp (disch := first | omega | exact tl_l | exact tT_len | (simp only [List.length_cons, List.length_nil])) only [e218_55, e218_56, e218_59, e218_62, e218_63, e218_64, e218_66, e218_67, e218_68, e218_70, e218_72, e218_73, e218_74, e218_75, e218_78, e218_81, e218_84, kv_s, kh_s, kr_s, kr_v, kn_s, z0, z1, z2, nI_ltI, nI_leI, nI_eq, nI_add, oN, bz0, bz1, bw0, bw1, ltT, ltF, leT, leF, eqT, eqF, if_true, if_false, kI_n, wI_n, and_true, true_and, and_false, false_and, not_true, not_false_eq_true, mwo, M_depth h, shrN, M_isWithin, hno]
    · have hd : wl k to = d := by omega
      rw [e218_53]
      simp (disch := first | omega | exact tl_l | exact tT_len | (simp only [List.length_cons, List.length_nil])) only [e218_55, e218_56, e218_59, e218_62, e218_63, e218_64, e218_66, e218_67, e218_68, e218_70, e218_72, e218_73, e218_74, e218_75, e218_78, e218_81, e218_84, kv_s, kh_s, kr_s, kr_v, kn_s, z0, z1, z2, nI_ltI, nI_leI, nI_eq, nI_add, oN, bz0, bz1, bw0, bw1, ltT, ltF, leT, leF, eqT, eqF, if_true, if_false, kI_n, wI_n, and_true, true_and, and_false, false_and, not_true, not_false_eq_true, mwo, M_depth h]
  | succ n ih =>
    intro j hj
    have hdv : k / 2 ^ (j + 1) ≤ k := Nat.div_le_self _ _
    obtain ⟨c1, c2⟩ := w2 (j + 1) (show j + 1 ≤ wl k to by omega)
    have h4 := Nat.div_add_mod k (2 ^ (j + 1))
    rw [Nat.mul_comm, c1, Nat.add_zero] at h4
    have hyes : fr ≤ k / 2 ^ (j + 1) * 2 ^ (j + 1) ∧ (k / 2 ^ (j + 1) + 1) * 2 ^ (j + 1) ≤ to + 1 := by
      rw [Nat.add_mul, Nat.one_mul, h4]
      exact ⟨hfr, c2⟩
    rw [← ih (j + 1) (by omega)]
    rw [e218_53]
    simp (disch := first | omega | exact tl_l | exact tT_len | (simp only [List.length_cons, List.length_nil])) only [e218_55, e218_56, e218_59, e218_62, e218_63, e218_64, e218_66, e218_67, e218_68, e218_70, e218_72, e218_73, e218_74, e218_75, e218_78, e218_81, e218_84, kv_s, kh_s, kr_s, kr_v, kn_s, z0, z1, z2, nI_ltI, nI_leI, nI_eq, nI_add, oN, bz0, bz1, bw0, bw1, ltT, ltF, leT, leF, eqT, eqF, if_true, if_false, kI_n, wI_n, and_true, true_and, and_false, false_and, not_true, not_false_eq_true, mwo, M_depth h, shrN, M_isWithin, hyes, n01]
theorem M_stretch_loop (h : nowM (A 1) d f l V) {fr to : Nat} (hto : to < 2 ^ d) {l1 : Value} : ∀ (n k : Nat) (L : List Int64) {l6 : Value}, to + 1 ≤ k + n → k ≤ to + 1 → fr ≤ k → Iv fr to k → L.length + (sl to n k).length ≤ 127 → ∃ l6', den 218 44 [.ref m, l1, .int (nI fr), .int (nI to), .int (nI L.length), .int (nI k), l6] [] (mw σ m A (rl R L) (upd I 5 (nI L.length))) = den 218 122 [.ref m, l1, .int (nI fr), .int (nI to), .int (nI (L ++ sl to n k).length), .int (nI (to + 1)), l6'] [] (mw σ m A (rl R (L ++ sl to n k)) (upd I 5 (nI (L ++ sl to n k).length))) := by
  have hK := h.K
  intro n
  induction n with
  | zero =>
    intro k L l6 h1 h2 hfr hv h3
    have : k = to + 1 := by omega
    subst this
    refine ⟨l6, ?_⟩
    rw [sl, List.append_nil]
    rw [e218_44]
    simp (disch := first | omega | exact tl_l | exact tT_len | (simp only [List.length_cons, List.length_nil])) only [e218_46, e218_47, kv_s, kh_s, kr_s, kr_v, kn_s, z0, z1, z2, nI_ltI, nI_leI, nI_eq, nI_add, oN, bz0, bz1, bw0, bw1, ltT, ltF, leT, leF, eqT, eqF, if_true, if_false, kI_n, wI_n, and_true, true_and, and_false, false_and, not_true, not_false_eq_true]
  | succ n ih =>
    intro k L l6 h1 h2 hfr hv h3
    by_cases hk : k ≤ to
    · have hw := wl_8 hk
      have hwc := wl_c hk
      have h8 : 2 ^ wl k to ≤ 2 ^ 8 := Nat.pow_le_pow_right (by omega) hw
      have hp := Nat.one_le_two_pow (n := wl k to)
      have hdv : k / 2 ^ wl k to ≤ k := Nat.div_le_self _ _
      rw [sl, if_pos hk, List.length_cons] at h3
      have hl2 : (L ++ [lN (1000 * wl k to + k / 2 ^ wl k to)]).length = L.length + 1 := by rw [List.length_append]; rfl
      obtain ⟨l6', e⟩ := ih (k + 2 ^ wl k to) (L ++ [lN (1000 * wl k to + k / 2 ^ wl k to)]) (l6 := .int (nI (wl k to))) (by omega) hwc.2 (by omega) (Iv_s hk hv) (by rw [hl2]; omega)
      rw [sl, if_pos hk]
      rw [List.append_assoc, List.singleton_append, hl2] at e
      refine ⟨l6', ?_⟩
      rw [← e]
      have hkt : ¬ to < k := by omega
      have h4 := Nat.div_add_mod k (2 ^ wl k to)
      rw [Nat.mul_comm, hwc.1, Nat.add_zero] at h4
      have e4 : (k / 2 ^ wl k to + 1) * 2 ^ wl k to = k + 2 ^ wl k to := by rw [Nat.add_mul, Nat.one_mul, h4]
      have hi := M_stretch_in (σ := σ) (m := m) (R := rl R L) (I := upd I 5 (nI L.length)) h hto hk hfr hv (l1 := l1) (l4 := .int (nI L.length)) (wl k to) 0 (Nat.zero_add _)
      rw [e218_44]
      simp (disch := first | omega | exact tl_l | exact tT_len | (simp only [List.length_cons, List.length_nil])) only [e218_46, e218_47, e218_50, e218_51, kv_s, kh_s, kr_s, kr_v, kn_s, z0, z1, z2, nI_ltI, nI_leI, nI_eq, nI_add, oN, bz0, bz1, bw0, bw1, ltT, ltF, leT, leF, eqT, eqF, if_true, if_false, kI_n, wI_n, and_true, true_and, and_false, false_and, not_true, not_false_eq_true]
      rw [hi]
      simp (disch := first | omega | exact tl_l | exact tT_len | (simp only [List.length_cons, List.length_nil])) only [e218_87, e218_88, e218_91, e218_93, e218_94, e218_96, e218_98, e218_99, e218_100, e218_101, e218_104, e218_107, e218_109, e218_111, e218_112, e218_113, e218_114, e218_116, e218_117, e218_119, kv_s, kh_s, kr_s, kr_v, kn_s, z0, z1, z2, nI_ltI, nI_leI, nI_eq, nI_add, oN, bz0, bz1, bw0, bw1, ltT, ltF, leT, leF, eqT, eqF, if_true, if_false, kI_n, wI_n, and_true, true_and, and_false, false_and, not_true, not_false_eq_true, mwo, shrN, shlN, e4, z1000, pk_mul, nI_l, M_tell]
    · have : k = to + 1 := by omega
      subst this
      refine ⟨l6, ?_⟩
      rw [sl, if_neg hk, List.append_nil]
      rw [e218_44]
      simp (disch := first | omega | exact tl_l | exact tT_len | (simp only [List.length_cons, List.length_nil])) only [e218_46, e218_47, kv_s, kh_s, kr_s, kr_v, kn_s, z0, z1, z2, nI_ltI, nI_leI, nI_eq, nI_add, oN, bz0, bz1, bw0, bw1, ltT, ltF, leT, leF, eqT, eqF, if_true, if_false, kI_n, wI_n, and_true, true_and, and_false, false_and, not_true, not_false_eq_true]
theorem M_stretch_keys (h : nowM (A 1) d f l V) {fr to : Nat} (hto : to < 2 ^ d) {l1 l2 l4 l5 : Value} : ∀ (n x : Nat) (O : Nat → Int32), x + n = to + 1 → fr ≤ x → OV d (sK fr x) O → ∃ O', den 218 125 [.ref m, l1, l2, .int (nI to), l4, l5, .int (nI x)] [] (mw σ m (va_up A 9 O) R I) = den 218 143 [.ref m, l1, l2, .int (nI to), l4, l5, .int (nI (to + 1))] [] (mw σ m (va_up A 9 O') R I) ∧ OV d (sK fr (to + 1)) O' := by
  have hK := h.K
  have hh : ∀ {N}, nowM (va_up A 9 N 1) d f l V := fun {N} => by rw [vu_ne (by omega)]; exact h
  intro n
  induction n with
  | zero =>
    intro x O hx _ hO
    have : x = to + 1 := by omega
    subst this
    refine ⟨O, ?_, hO⟩
    rw [e218_125]
    simp (disch := first | omega | exact tl_l | exact tT_len | (simp only [List.length_cons, List.length_nil])) only [e218_127, e218_128, kv_s, kh_s, kr_s, kr_v, kn_s, z0, z1, z2, nI_ltI, nI_leI, nI_eq, nI_add, oN, bz0, bz1, bw0, bw1, ltT, ltF, leT, leF, eqT, eqF, if_true, if_false, kI_n, wI_n, and_true, true_and, and_false, false_and, not_true, not_false_eq_true]
  | succ n ih =>
    intro x O hx hfr hO
    have e := M_markOver (σ := σ) (m := m) (A := va_up A 9 O) (R := R) (I := I) hh (show x < 2 ^ d by omega)
    rw [vu_vu, vu_at] at e
    obtain ⟨O', e1, e2⟩ := ih (x + 1) (fun q => if onb 9 (2 ^ d + x) q = true then nI 1 else O q) (by omega) (by omega) ((funext fun k => sK_s (k := k) hfr : upd (sK fr x) x (nI 1) = sK fr (x + 1)) ▸ OV_add hK.2.2.1 hO (by omega))
    refine ⟨O', ?_, e2⟩
    rw [← e1]
    rw [e218_125]
    simp (disch := first | omega | exact tl_l | exact tT_len | (simp only [List.length_cons, List.length_nil])) only [e218_127, e218_128, e218_131, e218_132, e218_134, e218_137, e218_140, kv_s, kh_s, kr_s, kr_v, kn_s, z0, z1, z2, nI_ltI, nI_leI, nI_eq, nI_add, oN, bz0, bz1, bw0, bw1, ltT, ltF, leT, leF, eqT, eqF, if_true, if_false, kI_n, wI_n, and_true, true_and, and_false, false_and, not_true, not_false_eq_true, mwo, e]
end ST
