/-! calls: together -/
/-- keys behind the first -/
def kt (n : Nat) (B : Nat → Nat) (K : Nat) : Nat → List Nat → Nat → Nat ⊕ List Nat
  | 0, _, p => .inl p
  | m + 1, L, p => if p = n then .inr L else if B p = 44 then (match rk n B K L (p + 1) with
    | .inl q => .inl q
    | .inr r => kt n B K m (L ++ [r.1]) r.2) else .inl p
/-- keys, from one on -/
def kr1 (n : Nat) (B : Nat → Nat) (K m : Nat) (L : List Nat) (p : Nat) : Nat ⊕ List Nat := match rk n B K L p with
  | .inl q => .inl q
  | .inr r => kt n B K m (L ++ [r.1]) r.2
theorem RD.push {N : Nat → Int32} {L : List Nat} (h : RD N L) {v : Nat} : RD (upd N (2 * L.length) (nI v)) (L ++ [v]) := fun i hi => by
  rw [List.length_append] at hi
  have h1 : ([v] : List Nat).length = 1 := rfl
  by_cases hi2 : i = L.length
  · subst hi2
    rw [pk_us, List.getElem?_append_right (Nat.le_refl _), Nat.sub_self]
    rfl
  · rw [pk_un (by omega), List.getElem?_append_left (by omega)]
    exact h i (by omega)
section TG
variable {c : Nat} {σ τ : Hp} {m d f l : Nat} {V : Nat → Nat → Int32} {T : Nat → Option Nat} {R : Nat → Int64} {n : Nat} {B : Nat → Nat} {q : Nat}
theorem C_keys_out (h : RB c σ T d f l V) {A : Nat → Nat → Int32} {I : Nat → Int32} (hB : isB A I n B) {p i : Nat} (hp : p ≤ n) (hq : q ≤ n) (hi : i ≤ 80) : den 91 28 [.ref c, .int (nI i)] [] (cw σ c A R (ti I p (some q))) = some (some (.int (nI q)), cw σ c A R (ti I p (some q))) := by
  have hn := hB.1
  have hm := Tx_more (σ := σ) (c := c) (R := R) (e := some q) hB hp (fun r z => by cases z; omega)
  rw [if_neg (fun z => by cases z.1)] at hm
  by_cases h80 : i < 80
  · rw [e91_28]
    simp (disch := first | omega | exact tl_l | exact tT_len | (simp only [List.length_cons, List.length_nil])) only [e91_0, e91_1, e91_4, e91_7, e91_8, e91_11, e91_12, e91_15, e91_18, e91_21, e91_22, e91_25, e91_26, e91_27, e91_29, e91_31, e91_34, e91_35, e91_38, e91_41, e91_44, e91_45, e91_48, e91_50, e91_53, e91_54, e91_57, e91_58, e91_61, e91_64, e91_65, e91_68, e91_71, kv_s, kh_s, kr_s, kr_v, kn_s, z0, z1, z2, nI_ltI, nI_leI, nI_eq, nI_add, oN, bz0, bz1, bw0, bw1, ltT, ltF, leT, leF, eqT, eqF, if_true, if_false, kI_n, wI_n, and_true, true_and, and_false, false_and, not_true, not_false_eq_true, cwo_1, cwr_1, cwg_0, cwg_1, cwg_2, cwa_0, cwl_0, cwo_3, cwr_3, cwg_3, cwa_R, cwl_R, cwo_5, cwr_5, cwg_4, cwg_5, cwg_6, cwg_7, cwg_8, cwa_1, cwl_1, cwo_7, cwr_7, cwg_9, cwg_10, cwg_11, cwg_12, cwg_13, cwa_2, cwl_2, cwo_17, cwr_17, cwg_14, cwa_3, cwl_3, cwp_0, cwp_1, cwp_2, cwp_3, cwp_4, cwp_5, cwp_6, cwp_7, cwp_8, cwp_9, cwp_10, cwp_11, cwp_12, cwp_13, cwp_14, cwu_0, cwu_R, cwu_1, cwu_2, cwu_3, vu_at, vu_ne, pk_us, pk_un, h.x.f0, h.x.f1, h.x.f2, h.x.f3, h.x.f4, h.x.f5, h.x.f6, h.x.f7, h.x.o, h.hi.o, h.hi.gd, h.hi.gf, h.hi.gl, Hi_keys h.hi h.d8, Hi_hasKey h.hi h.d8, Rw_empty, Rw_add, List.nil_append, List.cons_append, upd_upd, cwo_1, cwo_3, cwo_5, cwo_7, cwo_17, Bool.false_eq_true, n01, z80, hm, ti_2, fl]
  · have : i = 80 := by omega
    subst this
    rw [e91_28]
    simp (disch := first | omega | exact tl_l | exact tT_len | (simp only [List.length_cons, List.length_nil])) only [e91_0, e91_1, e91_4, e91_7, e91_8, e91_11, e91_12, e91_15, e91_18, e91_21, e91_22, e91_25, e91_26, e91_27, e91_29, e91_31, e91_34, e91_35, e91_38, e91_41, e91_44, e91_45, e91_48, e91_50, e91_53, e91_54, e91_57, e91_58, e91_61, e91_64, e91_65, e91_68, e91_71, kv_s, kh_s, kr_s, kr_v, kn_s, z0, z1, z2, nI_ltI, nI_leI, nI_eq, nI_add, oN, bz0, bz1, bw0, bw1, ltT, ltF, leT, leF, eqT, eqF, if_true, if_false, kI_n, wI_n, and_true, true_and, and_false, false_and, not_true, not_false_eq_true, cwo_1, cwr_1, cwg_0, cwg_1, cwg_2, cwa_0, cwl_0, cwo_3, cwr_3, cwg_3, cwa_R, cwl_R, cwo_5, cwr_5, cwg_4, cwg_5, cwg_6, cwg_7, cwg_8, cwa_1, cwl_1, cwo_7, cwr_7, cwg_9, cwg_10, cwg_11, cwg_12, cwg_13, cwa_2, cwl_2, cwo_17, cwr_17, cwg_14, cwa_3, cwl_3, cwp_0, cwp_1, cwp_2, cwp_3, cwp_4, cwp_5, cwp_6, cwp_7, cwp_8, cwp_9, cwp_10, cwp_11, cwp_12, cwp_13, cwp_14, cwu_0, cwu_R, cwu_1, cwu_2, cwu_3, vu_at, vu_ne, pk_us, pk_un, h.x.f0, h.x.f1, h.x.f2, h.x.f3, h.x.f4, h.x.f5, h.x.f6, h.x.f7, h.x.o, h.hi.o, h.hi.gd, h.hi.gf, h.hi.gl, Hi_keys h.hi h.d8, Hi_hasKey h.hi h.d8, Rw_empty, Rw_add, List.nil_append, List.cons_append, upd_upd, cwo_1, cwo_3, cwo_5, cwo_7, cwo_17, Bool.false_eq_true, n01, z80, ti_2, fl]
theorem C_keys_loop (h : RB c σ T d f l V) : ∀ (k : Nat) (L : List Nat) (p i : Nat) (A : Nat → Nat → Int32) (I : Nat → Int32), isB A I n B → I 14 = nI d → okF d (sL L) (A 3) → p ≤ n → i ≤ p → n < p + k → (∀ q, kt n B (2 ^ d) k L p = .inl q → ∃ F p', den 91 28 [.ref c, .int (nI i)] [] (cw σ c A R (ti I p none)) = some (some (.int (nI q)), cw σ c (va_up A 3 F) R (ti I p' (some q))) ∧ q ≤ n) ∧ ∀ L', kt n B (2 ^ d) k L p = .inr L' → ∃ F, den 91 28 [.ref c, .int (nI i)] [] (cw σ c A R (ti I p none)) = some (some (.int (-nI 1)), cw σ c (va_up A 3 F) R (ti I n none)) ∧ okF d (sL L') F := by
  intro k
  induction k with
  | zero => intro L p i A I hB hI hF hp hi hk; omega
  | succ k ih =>
    intro L p i A I hB hI hF hp hi hk
    have hn := hB.1
    have hm := Tx_more (σ := σ) (c := c) (R := R) (e := none) hB hp (fun r z => by cases z)
    have hmu := Tx_must (σ := σ) (c := c) (R := R) (e := none) hB hp (fun r z => by cases z) (s := 44) (by omega)
    rw [kt]
    by_cases h1 : p = n
    · rw [if_pos h1]
      rw [if_neg (fun z => by omega)] at hm
      refine ⟨fun q z => (by cases z), fun L' z => ?_⟩
      cases z
      refine ⟨A 3, ?_, hF⟩
      rw [vu_id, ← h1]
      by_cases h80 : i < 80
      · rw [e91_28]
        simp (disch := first | omega | exact tl_l | exact tT_len | (simp only [List.length_cons, List.length_nil])) only [e91_0, e91_1, e91_4, e91_7, e91_8, e91_11, e91_12, e91_15, e91_18, e91_21, e91_22, e91_25, e91_26, e91_27, e91_29, e91_31, e91_34, e91_35, e91_38, e91_41, e91_44, e91_45, e91_48, e91_50, e91_53, e91_54, e91_57, e91_58, e91_61, e91_64, e91_65, e91_68, e91_71, kv_s, kh_s, kr_s, kr_v, kn_s, z0, z1, z2, nI_ltI, nI_leI, nI_eq, nI_add, oN, bz0, bz1, bw0, bw1, ltT, ltF, leT, leF, eqT, eqF, if_true, if_false, kI_n, wI_n, and_true, true_and, and_false, false_and, not_true, not_false_eq_true, cwo_1, cwr_1, cwg_0, cwg_1, cwg_2, cwa_0, cwl_0, cwo_3, cwr_3, cwg_3, cwa_R, cwl_R, cwo_5, cwr_5, cwg_4, cwg_5, cwg_6, cwg_7, cwg_8, cwa_1, cwl_1, cwo_7, cwr_7, cwg_9, cwg_10, cwg_11, cwg_12, cwg_13, cwa_2, cwl_2, cwo_17, cwr_17, cwg_14, cwa_3, cwl_3, cwp_0, cwp_1, cwp_2, cwp_3, cwp_4, cwp_5, cwp_6, cwp_7, cwp_8, cwp_9, cwp_10, cwp_11, cwp_12, cwp_13, cwp_14, cwu_0, cwu_R, cwu_1, cwu_2, cwu_3, vu_at, vu_ne, pk_us, pk_un, h.x.f0, h.x.f1, h.x.f2, h.x.f3, h.x.f4, h.x.f5, h.x.f6, h.x.f7, h.x.o, h.hi.o, h.hi.gd, h.hi.gf, h.hi.gl, Hi_keys h.hi h.d8, Hi_hasKey h.hi h.d8, Rw_empty, Rw_add, List.nil_append, List.cons_append, upd_upd, cwo_1, cwo_3, cwo_5, cwo_7, cwo_17, Bool.false_eq_true, n01, z80, hm, ti_2, fl]
      · have : i = 80 := by omega
        subst this
        rw [e91_28]
        simp (disch := first | omega | exact tl_l | exact tT_len | (simp only [List.length_cons, List.length_nil])) only [e91_0, e91_1, e91_4, e91_7, e91_8, e91_11, e91_12, e91_15, e91_18, e91_21, e91_22, e91_25, e91_26, e91_27, e91_29, e91_31, e91_34, e91_35, e91_38, e91_41, e91_44, e91_45, e91_48, e91_50, e91_53, e91_54, e91_57, e91_58, e91_61, e91_64, e91_65, e91_68, e91_71, kv_s, kh_s, kr_s, kr_v, kn_s, z0, z1, z2, nI_ltI, nI_leI, nI_eq, nI_add, oN, bz0, bz1, bw0, bw1, ltT, ltF, leT, leF, eqT, eqF, if_true, if_false, kI_n, wI_n, and_true, true_and, and_false, false_and, not_true, not_false_eq_true, cwo_1, cwr_1, cwg_0, cwg_1, cwg_2, cwa_0, cwl_0, cwo_3, cwr_3, cwg_3, cwa_R, cwl_R, cwo_5, cwr_5, cwg_4, cwg_5, cwg_6, cwg_7, cwg_8, cwa_1, cwl_1, cwo_7, cwr_7, cwg_9, cwg_10, cwg_11, cwg_12, cwg_13, cwa_2, cwl_2, cwo_17, cwr_17, cwg_14, cwa_3, cwl_3, cwp_0, cwp_1, cwp_2, cwp_3, cwp_4, cwp_5, cwp_6, cwp_7, cwp_8, cwp_9, cwp_10, cwp_11, cwp_12, cwp_13, cwp_14, cwu_0, cwu_R, cwu_1, cwu_2, cwu_3, vu_at, vu_ne, pk_us, pk_un, h.x.f0, h.x.f1, h.x.f2, h.x.f3, h.x.f4, h.x.f5, h.x.f6, h.x.f7, h.x.o, h.hi.o, h.hi.gd, h.hi.gf, h.hi.gl, Hi_keys h.hi h.d8, Hi_hasKey h.hi h.d8, Rw_empty, Rw_add, List.nil_append, List.cons_append, upd_upd, cwo_1, cwo_3, cwo_5, cwo_7, cwo_17, Bool.false_eq_true, n01, z80, ti_2, fl]
    · rw [if_neg h1]
      have hlt : p < n := by omega
      have h80 : i < 80 := by omega
      rw [if_pos ⟨rfl, hlt⟩] at hm
      by_cases h2 : B p = 44
      · rw [if_pos h2]
        rw [if_pos ⟨hlt, h2⟩] at hmu
        cases hr : rk n B (2 ^ d) L (p + 1) with
        | inl q0 =>
          obtain ⟨F, v, p', k1, k2, k3⟩ := A_key_bad (R := R) h h.d8 hB hI (show p + 1 ≤ n by omega) hF hr
          have hq := (rk_bd (n := n) (B := B) (K := 2 ^ d) (L := L) (show p + 1 ≤ n by omega)).1 q0 hr
          refine ⟨fun q z => ?_, fun L' z => (by cases z)⟩
          cases z
          refine ⟨F, p', ?_, hq⟩
          have ho := C_keys_out (R := R) (i := i + 1) h (A := va_up A 3 F) (I := I) (n := n) (B := B) ⟨hB.1, hB.2.1, by rw [vu_ne (by omega)]; exact hB.2.2⟩ k2 hq (by omega)
          rw [← ho]
          rw [e91_28]
          simp (disch := first | omega | exact tl_l | exact tT_len | (simp only [List.length_cons, List.length_nil])) only [e91_0, e91_1, e91_4, e91_7, e91_8, e91_11, e91_12, e91_15, e91_18, e91_21, e91_22, e91_25, e91_26, e91_27, e91_29, e91_31, e91_34, e91_35, e91_38, e91_41, e91_44, e91_45, e91_48, e91_50, e91_53, e91_54, e91_57, e91_58, e91_61, e91_64, e91_65, e91_68, e91_71, kv_s, kh_s, kr_s, kr_v, kn_s, z0, z1, z2, nI_ltI, nI_leI, nI_eq, nI_add, oN, bz0, bz1, bw0, bw1, ltT, ltF, leT, leF, eqT, eqF, if_true, if_false, kI_n, wI_n, and_true, true_and, and_false, false_and, not_true, not_false_eq_true, cwo_1, cwr_1, cwg_0, cwg_1, cwg_2, cwa_0, cwl_0, cwo_3, cwr_3, cwg_3, cwa_R, cwl_R, cwo_5, cwr_5, cwg_4, cwg_5, cwg_6, cwg_7, cwg_8, cwa_1, cwl_1, cwo_7, cwr_7, cwg_9, cwg_10, cwg_11, cwg_12, cwg_13, cwa_2, cwl_2, cwo_17, cwr_17, cwg_14, cwa_3, cwl_3, cwp_0, cwp_1, cwp_2, cwp_3, cwp_4, cwp_5, cwp_6, cwp_7, cwp_8, cwp_9, cwp_10, cwp_11, cwp_12, cwp_13, cwp_14, cwu_0, cwu_R, cwu_1, cwu_2, cwu_3, vu_at, vu_ne, pk_us, pk_un, h.x.f0, h.x.f1, h.x.f2, h.x.f3, h.x.f4, h.x.f5, h.x.f6, h.x.f7, h.x.o, h.hi.o, h.hi.gd, h.hi.gf, h.hi.gl, Hi_keys h.hi h.d8, Hi_hasKey h.hi h.d8, Rw_empty, Rw_add, List.nil_append, List.cons_append, upd_upd, cwo_1, cwo_3, cwo_5, cwo_7, cwo_17, Bool.false_eq_true, n01, z80, z44, hm, hmu, k1]
        | inr r0 =>
          obtain ⟨F, k1, k2⟩ := A_key (R := R) h h.d8 hB hI (show p + 1 ≤ n by omega) hF hr
          obtain ⟨b1, b2, b3, b4⟩ := (rk_bd (n := n) (B := B) (K := 2 ^ d) (L := L) (show p + 1 ≤ n by omega)).2 r0 hr
          have e : den 91 28 [.ref c, .int (nI i)] [] (cw σ c A R (ti I p none)) = den 91 28 [.ref c, .int (nI (i + 1))] [] (cw σ c (va_up A 3 F) R (ti I r0.2 none)) := by
            rw [e91_28]
            simp (disch := first | omega | exact tl_l | exact tT_len | (simp only [List.length_cons, List.length_nil])) only [e91_0, e91_1, e91_4, e91_7, e91_8, e91_11, e91_12, e91_15, e91_18, e91_21, e91_22, e91_25, e91_26, e91_27, e91_29, e91_31, e91_34, e91_35, e91_38, e91_41, e91_44, e91_45, e91_48, e91_50, e91_53, e91_54, e91_57, e91_58, e91_61, e91_64, e91_65, e91_68, e91_71, kv_s, kh_s, kr_s, kr_v, kn_s, z0, z1, z2, nI_ltI, nI_leI, nI_eq, nI_add, oN, bz0, bz1, bw0, bw1, ltT, ltF, leT, leF, eqT, eqF, if_true, if_false, kI_n, wI_n, and_true, true_and, and_false, false_and, not_true, not_false_eq_true, cwo_1, cwr_1, cwg_0, cwg_1, cwg_2, cwa_0, cwl_0, cwo_3, cwr_3, cwg_3, cwa_R, cwl_R, cwo_5, cwr_5, cwg_4, cwg_5, cwg_6, cwg_7, cwg_8, cwa_1, cwl_1, cwo_7, cwr_7, cwg_9, cwg_10, cwg_11, cwg_12, cwg_13, cwa_2, cwl_2, cwo_17, cwr_17, cwg_14, cwa_3, cwl_3, cwp_0, cwp_1, cwp_2, cwp_3, cwp_4, cwp_5, cwp_6, cwp_7, cwp_8, cwp_9, cwp_10, cwp_11, cwp_12, cwp_13, cwp_14, cwu_0, cwu_R, cwu_1, cwu_2, cwu_3, vu_at, vu_ne, pk_us, pk_un, h.x.f0, h.x.f1, h.x.f2, h.x.f3, h.x.f4, h.x.f5, h.x.f6, h.x.f7, h.x.o, h.hi.o, h.hi.gd, h.hi.gf, h.hi.gl, Hi_keys h.hi h.d8, Hi_hasKey h.hi h.d8, Rw_empty, Rw_add, List.nil_append, List.cons_append, upd_upd, cwo_1, cwo_3, cwo_5, cwo_7, cwo_17, Bool.false_eq_true, n01, z80, z44, hm, hmu, k1]
          obtain ⟨i1, i2⟩ := ih (L ++ [r0.1]) r0.2 (i + 1) (va_up A 3 F) I ⟨hB.1, hB.2.1, by rw [vu_ne (by omega)]; exact hB.2.2⟩ hI (by rw [vu_at]; exact k2) b2 (by omega) (by omega)
          rw [e]
          refine ⟨fun q z => ?_, fun L' z => ?_⟩
          · obtain ⟨F', p', w1, w2⟩ := i1 q z
            rw [vu_vu] at w1
            exact ⟨F', p', w1, w2⟩
          · obtain ⟨F', w1, w2⟩ := i2 L' z
            rw [vu_vu] at w1
            exact ⟨F', w1, w2⟩
      · rw [if_neg h2]
        rw [if_neg (fun z => h2 z.2)] at hmu
        have hmu : dcall 30 [.ref (c + 1), .int (nI 44)] (cw σ c A R (ti I p none)) = some (none, cw σ c A R (ti I p (some p))) := hmu
        refine ⟨fun q z => ?_, fun L' z => (by cases z)⟩
        cases z
        obtain ⟨F, v, p', k1, k2, k3⟩ := A_key_no (R := R) h h.d8 hB hI hp hp
        refine ⟨F, p', ?_, hp⟩
        have ho := C_keys_out (R := R) (i := i + 1) h (A := va_up A 3 F) (I := I) (n := n) (B := B) ⟨hB.1, hB.2.1, by rw [vu_ne (by omega)]; exact hB.2.2⟩ k2 hp (by omega)
        rw [← ho]
        rw [e91_28]
        simp (disch := first | omega | exact tl_l | exact tT_len | (simp only [List.length_cons, List.length_nil])) only [e91_0, e91_1, e91_4, e91_7, e91_8, e91_11, e91_12, e91_15, e91_18, e91_21, e91_22, e91_25, e91_26, e91_27, e91_29, e91_31, e91_34, e91_35, e91_38, e91_41, e91_44, e91_45, e91_48, e91_50, e91_53, e91_54, e91_57, e91_58, e91_61, e91_64, e91_65, e91_68, e91_71, kv_s, kh_s, kr_s, kr_v, kn_s, z0, z1, z2, nI_ltI, nI_leI, nI_eq, nI_add, oN, bz0, bz1, bw0, bw1, ltT, ltF, leT, leF, eqT, eqF, if_true, if_false, kI_n, wI_n, and_true, true_and, and_false, false_and, not_true, not_false_eq_true, cwo_1, cwr_1, cwg_0, cwg_1, cwg_2, cwa_0, cwl_0, cwo_3, cwr_3, cwg_3, cwa_R, cwl_R, cwo_5, cwr_5, cwg_4, cwg_5, cwg_6, cwg_7, cwg_8, cwa_1, cwl_1, cwo_7, cwr_7, cwg_9, cwg_10, cwg_11, cwg_12, cwg_13, cwa_2, cwl_2, cwo_17, cwr_17, cwg_14, cwa_3, cwl_3, cwp_0, cwp_1, cwp_2, cwp_3, cwp_4, cwp_5, cwp_6, cwp_7, cwp_8, cwp_9, cwp_10, cwp_11, cwp_12, cwp_13, cwp_14, cwu_0, cwu_R, cwu_1, cwu_2, cwu_3, vu_at, vu_ne, pk_us, pk_un, h.x.f0, h.x.f1, h.x.f2, h.x.f3, h.x.f4, h.x.f5, h.x.f6, h.x.f7, h.x.o, h.hi.o, h.hi.gd, h.hi.gf, h.hi.gl, Hi_keys h.hi h.d8, Hi_hasKey h.hi h.d8, Rw_empty, Rw_add, List.nil_append, List.cons_append, upd_upd, cwo_1, cwo_3, cwo_5, cwo_7, cwo_17, Bool.false_eq_true, n01, z80, z44, hm, hmu, k1]
theorem ti_14 {I : Nat → Int32} {p : Nat} {e : Option Nat} {x : Int32} : upd (ti I p e) 14 x = ti (upd I 14 x) p e := ti_u (by omega) (by omega)
/-- all keys read -/
theorem C_readKeys (h : RB c σ T d f l V) {A : Nat → Nat → Int32} {I : Nat → Int32} (hB : isB A I n B) {dc : Nat} (hI : I 14 = nI dc) : (∀ q, kr1 n B (2 ^ d) (n + 1) [] 0 = .inl q → ∃ F p', dcall 91 [.ref c] (cw σ c A R I) = some (some (.int (nI q)), cw σ c (va_up A 3 F) R (ti (upd I 14 (nI d)) p' (some q))) ∧ q ≤ n) ∧ ∀ L', kr1 n B (2 ^ d) (n + 1) [] 0 = .inr L' → ∃ F, dcall 91 [.ref c] (cw σ c A R I) = some (some (.int (-nI 1)), cw σ c (va_up A 3 F) R (ti (upd I 14 (nI d)) n none)) ∧ okF d (sL L') F := by
  have hn := hB.1
  obtain ⟨F0, c1, c2⟩ := Ch_clear (σ := σ) (c := c) (A := A) (R := R) (I := ti I 0 none) (d := d) ((ti_o (by omega) (by omega)).trans hI) h.d8
  rw [ti_14] at c1
  have hB0 : isB (va_up A 3 F0) (upd I 14 (nI d)) n B := ⟨hB.1, (pk_un (by omega)).trans hB.2.1, by rw [vu_ne (by omega)]; exact hB.2.2⟩
  have hF0 : okF d (sL []) (va_up A 3 F0 3) := by rw [vu_at, sL_nil]; exact c2
  unfold kr1
  cases hr : rk n B (2 ^ d) [] 0 with
  | inl q0 =>
    obtain ⟨F, v, p', k1, k2, k3⟩ := A_key_bad (R := R) h h.d8 hB0 pk_us (Nat.zero_le n) hF0 hr
    have hq := (rk_bd (n := n) (B := B) (K := 2 ^ d) (L := []) (Nat.zero_le n)).1 q0 hr
    refine ⟨fun q z => ?_, fun L' z => (by cases z)⟩
    cases z
    rw [vu_vu] at k1
    refine ⟨F, p', ?_, hq⟩
    have ho := C_keys_out (R := R) (i := 0) h (A := va_up A 3 F) (I := upd I 14 (nI d)) (n := n) (B := B) ⟨hB.1, (pk_un (by omega)).trans hB.2.1, by rw [vu_ne (by omega)]; exact hB.2.2⟩ k2 hq (by omega)
    rw [← ho]
    rw [q91]
    simp (disch := first | omega | exact tl_l | exact tT_len | (simp only [List.length_cons, List.length_nil])) only [e91_0, e91_1, e91_4, e91_7, e91_8, e91_11, e91_12, e91_15, e91_18, e91_21, e91_22, e91_25, e91_26, e91_27, e91_29, e91_31, e91_34, e91_35, e91_38, e91_41, e91_44, e91_45, e91_48, e91_50, e91_53, e91_54, e91_57, e91_58, e91_61, e91_64, e91_65, e91_68, e91_71, kv_s, kh_s, kr_s, kr_v, kn_s, z0, z1, z2, nI_ltI, nI_leI, nI_eq, nI_add, oN, bz0, bz1, bw0, bw1, ltT, ltF, leT, leF, eqT, eqF, if_true, if_false, kI_n, wI_n, and_true, true_and, and_false, false_and, not_true, not_false_eq_true, cwo_1, cwr_1, cwg_0, cwg_1, cwg_2, cwa_0, cwl_0, cwo_3, cwr_3, cwg_3, cwa_R, cwl_R, cwo_5, cwr_5, cwg_4, cwg_5, cwg_6, cwg_7, cwg_8, cwa_1, cwl_1, cwo_7, cwr_7, cwg_9, cwg_10, cwg_11, cwg_12, cwg_13, cwa_2, cwl_2, cwo_17, cwr_17, cwg_14, cwa_3, cwl_3, cwp_0, cwp_1, cwp_2, cwp_3, cwp_4, cwp_5, cwp_6, cwp_7, cwp_8, cwp_9, cwp_10, cwp_11, cwp_12, cwp_13, cwp_14, cwu_0, cwu_R, cwu_1, cwu_2, cwu_3, vu_at, vu_ne, pk_us, pk_un, h.x.f0, h.x.f1, h.x.f2, h.x.f3, h.x.f4, h.x.f5, h.x.f6, h.x.f7, h.x.o, h.hi.o, h.hi.gd, h.hi.gf, h.hi.gl, Hi_keys h.hi h.d8, Hi_hasKey h.hi h.d8, Rw_empty, Rw_add, List.nil_append, List.cons_append, upd_upd, cwo_1, cwo_3, cwo_5, cwo_7, cwo_17, Bool.false_eq_true, n01, Tx_rewind, c1, k1]
  | inr r0 =>
    obtain ⟨F, k1, k2⟩ := A_key (R := R) h h.d8 hB0 pk_us (Nat.zero_le n) hF0 hr
    obtain ⟨b1, b2, b3, b4⟩ := (rk_bd (n := n) (B := B) (K := 2 ^ d) (L := []) (Nat.zero_le n)).2 r0 hr
    rw [vu_vu] at k1
    have e : dcall 91 [.ref c] (cw σ c A R I) = den 91 28 [.ref c, .int (nI 0)] [] (cw σ c (va_up A 3 F) R (ti (upd I 14 (nI d)) r0.2 none)) := by
      rw [q91]
      simp (disch := first | omega | exact tl_l | exact tT_len | (simp only [List.length_cons, List.length_nil])) only [e91_0, e91_1, e91_4, e91_7, e91_8, e91_11, e91_12, e91_15, e91_18, e91_21, e91_22, e91_25, e91_26, e91_27, e91_29, e91_31, e91_34, e91_35, e91_38, e91_41, e91_44, e91_45, e91_48, e91_50, e91_53, e91_54, e91_57, e91_58, e91_61, e91_64, e91_65, e91_68, e91_71, kv_s, kh_s, kr_s, kr_v, kn_s, z0, z1, z2, nI_ltI, nI_leI, nI_eq, nI_add, oN, bz0, bz1, bw0, bw1, ltT, ltF, leT, leF, eqT, eqF, if_true, if_false, kI_n, wI_n, and_true, true_and, and_false, false_and, not_true, not_false_eq_true, cwo_1, cwr_1, cwg_0, cwg_1, cwg_2, cwa_0, cwl_0, cwo_3, cwr_3, cwg_3, cwa_R, cwl_R, cwo_5, cwr_5, cwg_4, cwg_5, cwg_6, cwg_7, cwg_8, cwa_1, cwl_1, cwo_7, cwr_7, cwg_9, cwg_10, cwg_11, cwg_12, cwg_13, cwa_2, cwl_2, cwo_17, cwr_17, cwg_14, cwa_3, cwl_3, cwp_0, cwp_1, cwp_2, cwp_3, cwp_4, cwp_5, cwp_6, cwp_7, cwp_8, cwp_9, cwp_10, cwp_11, cwp_12, cwp_13, cwp_14, cwu_0, cwu_R, cwu_1, cwu_2, cwu_3, vu_at, vu_ne, pk_us, pk_un, h.x.f0, h.x.f1, h.x.f2, h.x.f3, h.x.f4, h.x.f5, h.x.f6, h.x.f7, h.x.o, h.hi.o, h.hi.gd, h.hi.gf, h.hi.gl, Hi_keys h.hi h.d8, Hi_hasKey h.hi h.d8, Rw_empty, Rw_add, List.nil_append, List.cons_append, upd_upd, cwo_1, cwo_3, cwo_5, cwo_7, cwo_17, Bool.false_eq_true, n01, Tx_rewind, c1, k1]
    obtain ⟨i1, i2⟩ := C_keys_loop (R := R) h (n + 1) ([] ++ [r0.1]) r0.2 0 (va_up A 3 F) (upd I 14 (nI d)) (n := n) (B := B) ⟨hB.1, (pk_un (by omega)).trans hB.2.1, by rw [vu_ne (by omega)]; exact hB.2.2⟩ pk_us (by rw [vu_at]; exact k2) b2 (by omega) (by omega)
    rw [e]
    refine ⟨fun q z => ?_, fun L' z => ?_⟩
    · obtain ⟨F', p', w1, w2⟩ := i1 q z
      rw [vu_vu] at w1
      exact ⟨F', p', w1, w2⟩
    · obtain ⟨F', w1, w2⟩ := i2 L' z
      rw [vu_vu] at w1
      exact ⟨F', w1, w2⟩
theorem M_keys_loop {x l3 l4 : Value} : ∀ (k : Nat) (L : List Nat) (p : Nat) (A : Nat → Nat → Int32) (I : Nat → Int32), MB A n B → nowM (A 1) d f l V → RD (A 7) L → I 13 = nI L.length → (∀ y, y ∈ L → y < 2 ^ d) → L.length ≤ p → p ≤ n → n < p + k + 1 → (∀ q, kr1 n B (2 ^ d) k L p = .inl q → ∃ A' I' p', den 206 28 [.ref m, x, .int (nI 1), l3, l4] [] (mw σ m A R (mt I n p none)) = some (some (.int (-nI 1 - nI q)), mw σ m A' R (mt I' n p' (some q))) ∧ (∀ j, j ≠ 7 → A' j = A j) ∧ ∀ j, j ≠ 13 → I' j = I j) ∧ ∀ L', kr1 n B (2 ^ d) k L p = .inr L' → ∃ A' I', den 206 28 [.ref m, x, .int (nI 1), l3, l4] [] (mw σ m A R (mt I n p none)) = den 206 85 [.ref m, x, .int (nI 0), l3, l4] [] (mw σ m A' R (mt I' n n none)) ∧ RD (A' 7) L' ∧ I' 13 = nI L'.length ∧ L'.length ≤ n ∧ (∀ y, y ∈ L' → y < 2 ^ d) ∧ (∀ j, j ≠ 7 → A' j = A j) ∧ ∀ j, j ≠ 13 → I' j = I j := by
  intro k
  induction k with
  | zero =>
    intro L p A I hB h hL hI hm hl hp hk
    have hpn : p = n := by omega
    have hn := hB.1
    have hK := h.K
    obtain ⟨r1, r2⟩ := M_readKey (σ := σ) (m := m) (R := R) (I := I) hB hp hL (by omega) hI (fun y hy => by have := hm y hy; omega) hK.1
    obtain ⟨b1, b2⟩ := rk_bd (n := n) (B := B) (K := 2 ^ d) (L := L) hp
    unfold kr1
    cases hr : rk n B (2 ^ d) L p with
    | inl q0 =>
      obtain ⟨y, p', w1, w2⟩ := r1 q0 hr
      have hq := b1 q0 hr
      refine ⟨fun q z => ?_, fun L' z => (by cases z)⟩
      cases z
      refine ⟨va_up A 7 (upd (A 7) (2 * L.length) y), upd I 13 (nI (L.length + 1)), p', ?_, fun j hj => vu_ne hj, fun j hj => pk_un hj⟩
      have h13 : mt I n p' (some q0) 13 = nI L.length := (mt_o (by omega)).trans hI
      have hu : upd (mt I n p' (some q0)) 13 (nI (L.length + 1)) = mt (upd I 13 (nI (L.length + 1))) n p' (some q0) := mt_u (by omega)
      have h13' : mt I n p none 13 = nI L.length := (mt_o (by omega)).trans hI
      rw [e206_28]
      simp (disch := first | omega | exact tl_l | exact tT_len | (simp only [List.length_cons, List.length_nil])) only [e206_0, e206_1, e206_2, e206_5, e206_6, e206_9, e206_10, e206_11, e206_14, e206_17, e206_20, e206_21, e206_22, e206_23, e206_26, e206_27, e206_29, e206_32, e206_33, e206_36, e206_37, e206_38, e206_41, e206_42, e206_43, e206_44, e206_47, e206_50, e206_51, e206_52, e206_53, e206_56, e206_57, e206_58, e206_61, e206_62, e206_64, e206_67, e206_68, e206_71, e206_72, e206_75, e206_78, e206_79, e206_80, e206_83, e206_84, e206_85, e206_86, e206_87, e206_90, e206_91, e206_94, e206_95, e206_96, e206_97, e206_101, e206_102, e206_105, e206_108, e206_109, e206_110, e206_113, e206_114, e206_116, e206_117, e206_118, e206_121, e206_122, e206_123, e206_124, e206_127, e206_128, e206_130, e206_131, e206_132, e206_135, e206_136, e206_137, e206_140, e206_143, e206_144, e206_147, e206_149, e206_150, e206_151, e206_154, e206_155, e206_156, e206_157, e206_160, e206_161, e206_162, e206_165, e206_166, e206_169, e206_171, kv_s, kh_s, kr_s, kr_v, kn_s, z0, z1, z2, nI_ltI, nI_leI, nI_eq, nI_add, oN, bz0, bz1, bw0, bw1, ltT, ltF, leT, leF, eqT, eqF, if_true, if_false, kI_n, wI_n, and_true, true_and, and_false, false_and, not_true, not_false_eq_true, mwo, mwr_0, mwr_1, mwr_2, mwg_3, mwp_3, mwr_4, mwg_5, mwp_5, mwg_6, mwp_6, mwr_7, mwr_8, mwg_9, mwp_9, mwg_10, mwp_10, mwg_11, mwp_11, mwr_12, mwg_13, mwp_13, mwr_14, mwr_15, mwr_16, mwr_17, mwr_18, mwr_19, mwg_20, mwp_20, mwr_21, mwr_22, mwr_23, mwa_1, mwu_1, mwa_2, mwu_2, mwa_3, mwu_3, mwa_4, mwu_4, mwa_5, mwu_5, mwa_6, mwu_6, mwa_7, mwu_7, mwa_8, mwu_8, mwa_9, mwu_9, mwa_10, mwu_10, mwa_11, mwu_11, mwa_12, mwu_12, mwa_13, mwu_13, mwa_14, mwu_14, mwa_15, mwu_15, mwa_16, mwu_16, vu_at, vu_ne, pk_us, pk_un, kB_n, wB_n, kL_n, wL_n, n01, h13', nI_two, M_keys h, w2, h13, hu, z44, M_passes1 (show q0 ≤ 80 by omega)]
      rw [e206_28]
      simp (disch := first | omega | exact tl_l | exact tT_len | (simp only [List.length_cons, List.length_nil])) only [e206_0, e206_1, e206_2, e206_5, e206_6, e206_9, e206_10, e206_11, e206_14, e206_17, e206_20, e206_21, e206_22, e206_23, e206_26, e206_27, e206_29, e206_32, e206_33, e206_36, e206_37, e206_38, e206_41, e206_42, e206_43, e206_44, e206_47, e206_50, e206_51, e206_52, e206_53, e206_56, e206_57, e206_58, e206_61, e206_62, e206_64, e206_67, e206_68, e206_71, e206_72, e206_75, e206_78, e206_79, e206_80, e206_83, e206_84, e206_85, e206_86, e206_87, e206_90, e206_91, e206_94, e206_95, e206_96, e206_97, e206_101, e206_102, e206_105, e206_108, e206_109, e206_110, e206_113, e206_114, e206_116, e206_117, e206_118, e206_121, e206_122, e206_123, e206_124, e206_127, e206_128, e206_130, e206_131, e206_132, e206_135, e206_136, e206_137, e206_140, e206_143, e206_144, e206_147, e206_149, e206_150, e206_151, e206_154, e206_155, e206_156, e206_157, e206_160, e206_161, e206_162, e206_165, e206_166, e206_169, e206_171, kv_s, kh_s, kr_s, kr_v, kn_s, z0, z1, z2, nI_ltI, nI_leI, nI_eq, nI_add, oN, bz0, bz1, bw0, bw1, ltT, ltF, leT, leF, eqT, eqF, if_true, if_false, kI_n, wI_n, and_true, true_and, and_false, false_and, not_true, not_false_eq_true, mwo, mwr_0, mwr_1, mwr_2, mwg_3, mwp_3, mwr_4, mwg_5, mwp_5, mwg_6, mwp_6, mwr_7, mwr_8, mwg_9, mwp_9, mwg_10, mwp_10, mwg_11, mwp_11, mwr_12, mwg_13, mwp_13, mwr_14, mwr_15, mwr_16, mwr_17, mwr_18, mwr_19, mwg_20, mwp_20, mwr_21, mwr_22, mwr_23, mwa_1, mwu_1, mwa_2, mwu_2, mwa_3, mwu_3, mwa_4, mwu_4, mwa_5, mwu_5, mwa_6, mwu_6, mwa_7, mwu_7, mwa_8, mwu_8, mwa_9, mwu_9, mwa_10, mwu_10, mwa_11, mwu_11, mwa_12, mwu_12, mwa_13, mwu_13, mwa_14, mwu_14, mwa_15, mwu_15, mwa_16, mwu_16, vu_at, vu_ne, pk_us, pk_un, kB_n, wB_n, kL_n, wL_n, M_wasRight1 (show q0 ≤ 80 by omega) w1 hn, mt_11, fl]
    | inr r0 => have := b2 r0 hr; omega
  | succ k ih =>
    intro L p A I hB h hL hI hm hl hp hk
    have hn := hB.1
    have hK := h.K
    obtain ⟨r1, r2⟩ := M_readKey (σ := σ) (m := m) (R := R) (I := I) hB hp hL (by omega) hI (fun y hy => by have := hm y hy; omega) hK.1
    obtain ⟨b1, b2⟩ := rk_bd (n := n) (B := B) (K := 2 ^ d) (L := L) hp
    have h13' : mt I n p none 13 = nI L.length := (mt_o (by omega)).trans hI
    unfold kr1
    cases hr : rk n B (2 ^ d) L p with
    | inl q0 =>
      obtain ⟨y, p', w1, w2⟩ := r1 q0 hr
      have hq := b1 q0 hr
      refine ⟨fun q z => ?_, fun L' z => (by cases z)⟩
      cases z
      refine ⟨va_up A 7 (upd (A 7) (2 * L.length) y), upd I 13 (nI (L.length + 1)), p', ?_, fun j hj => vu_ne hj, fun j hj => pk_un hj⟩
      have h13 : mt I n p' (some q0) 13 = nI L.length := (mt_o (by omega)).trans hI
      have hu : upd (mt I n p' (some q0)) 13 (nI (L.length + 1)) = mt (upd I 13 (nI (L.length + 1))) n p' (some q0) := mt_u (by omega)
      rw [e206_28]
      simp (disch := first | omega | exact tl_l | exact tT_len | (simp only [List.length_cons, List.length_nil])) only [e206_0, e206_1, e206_2, e206_5, e206_6, e206_9, e206_10, e206_11, e206_14, e206_17, e206_20, e206_21, e206_22, e206_23, e206_26, e206_27, e206_29, e206_32, e206_33, e206_36, e206_37, e206_38, e206_41, e206_42, e206_43, e206_44, e206_47, e206_50, e206_51, e206_52, e206_53, e206_56, e206_57, e206_58, e206_61, e206_62, e206_64, e206_67, e206_68, e206_71, e206_72, e206_75, e206_78, e206_79, e206_80, e206_83, e206_84, e206_85, e206_86, e206_87, e206_90, e206_91, e206_94, e206_95, e206_96, e206_97, e206_101, e206_102, e206_105, e206_108, e206_109, e206_110, e206_113, e206_114, e206_116, e206_117, e206_118, e206_121, e206_122, e206_123, e206_124, e206_127, e206_128, e206_130, e206_131, e206_132, e206_135, e206_136, e206_137, e206_140, e206_143, e206_144, e206_147, e206_149, e206_150, e206_151, e206_154, e206_155, e206_156, e206_157, e206_160, e206_161, e206_162, e206_165, e206_166, e206_169, e206_171, kv_s, kh_s, kr_s, kr_v, kn_s, z0, z1, z2, nI_ltI, nI_leI, nI_eq, nI_add, oN, bz0, bz1, bw0, bw1, ltT, ltF, leT, leF, eqT, eqF, if_true, if_false, kI_n, wI_n, and_true, true_and, and_false, false_and, not_true, not_false_eq_true, mwo, mwr_0, mwr_1, mwr_2, mwg_3, mwp_3, mwr_4, mwg_5, mwp_5, mwg_6, mwp_6, mwr_7, mwr_8, mwg_9, mwp_9, mwg_10, mwp_10, mwg_11, mwp_11, mwr_12, mwg_13, mwp_13, mwr_14, mwr_15, mwr_16, mwr_17, mwr_18, mwr_19, mwg_20, mwp_20, mwr_21, mwr_22, mwr_23, mwa_1, mwu_1, mwa_2, mwu_2, mwa_3, mwu_3, mwa_4, mwu_4, mwa_5, mwu_5, mwa_6, mwu_6, mwa_7, mwu_7, mwa_8, mwu_8, mwa_9, mwu_9, mwa_10, mwu_10, mwa_11, mwu_11, mwa_12, mwu_12, mwa_13, mwu_13, mwa_14, mwu_14, mwa_15, mwu_15, mwa_16, mwu_16, vu_at, vu_ne, pk_us, pk_un, kB_n, wB_n, kL_n, wL_n, n01, h13', nI_two, M_keys h, w2, h13, hu, z44, M_passes1 (show q0 ≤ 80 by omega)]
      rw [e206_28]
      simp (disch := first | omega | exact tl_l | exact tT_len | (simp only [List.length_cons, List.length_nil])) only [e206_0, e206_1, e206_2, e206_5, e206_6, e206_9, e206_10, e206_11, e206_14, e206_17, e206_20, e206_21, e206_22, e206_23, e206_26, e206_27, e206_29, e206_32, e206_33, e206_36, e206_37, e206_38, e206_41, e206_42, e206_43, e206_44, e206_47, e206_50, e206_51, e206_52, e206_53, e206_56, e206_57, e206_58, e206_61, e206_62, e206_64, e206_67, e206_68, e206_71, e206_72, e206_75, e206_78, e206_79, e206_80, e206_83, e206_84, e206_85, e206_86, e206_87, e206_90, e206_91, e206_94, e206_95, e206_96, e206_97, e206_101, e206_102, e206_105, e206_108, e206_109, e206_110, e206_113, e206_114, e206_116, e206_117, e206_118, e206_121, e206_122, e206_123, e206_124, e206_127, e206_128, e206_130, e206_131, e206_132, e206_135, e206_136, e206_137, e206_140, e206_143, e206_144, e206_147, e206_149, e206_150, e206_151, e206_154, e206_155, e206_156, e206_157, e206_160, e206_161, e206_162, e206_165, e206_166, e206_169, e206_171, kv_s, kh_s, kr_s, kr_v, kn_s, z0, z1, z2, nI_ltI, nI_leI, nI_eq, nI_add, oN, bz0, bz1, bw0, bw1, ltT, ltF, leT, leF, eqT, eqF, if_true, if_false, kI_n, wI_n, and_true, true_and, and_false, false_and, not_true, not_false_eq_true, mwo, mwr_0, mwr_1, mwr_2, mwg_3, mwp_3, mwr_4, mwg_5, mwp_5, mwg_6, mwp_6, mwr_7, mwr_8, mwg_9, mwp_9, mwg_10, mwp_10, mwg_11, mwp_11, mwr_12, mwg_13, mwp_13, mwr_14, mwr_15, mwr_16, mwr_17, mwr_18, mwr_19, mwg_20, mwp_20, mwr_21, mwr_22, mwr_23, mwa_1, mwu_1, mwa_2, mwu_2, mwa_3, mwu_3, mwa_4, mwu_4, mwa_5, mwu_5, mwa_6, mwu_6, mwa_7, mwu_7, mwa_8, mwu_8, mwa_9, mwu_9, mwa_10, mwu_10, mwa_11, mwu_11, mwa_12, mwu_12, mwa_13, mwu_13, mwa_14, mwu_14, mwa_15, mwu_15, mwa_16, mwu_16, vu_at, vu_ne, pk_us, pk_un, kB_n, wB_n, kL_n, wL_n, M_wasRight1 (show q0 ≤ 80 by omega) w1 hn, mt_11, fl]
    | inr r0 =>
      have w2 := r2 r0 hr
      obtain ⟨c1, c2, c3, c4⟩ := b2 r0 hr
      have h13 : mt I n r0.2 none 13 = nI L.length := (mt_o (by omega)).trans hI
      have hu : upd (mt I n r0.2 none) 13 (nI (L.length + 1)) = mt (upd I 13 (nI (L.length + 1))) n r0.2 none := mt_u (by omega)
      have hB' : MB (va_up A 7 (upd (A 7) (2 * L.length) (nI r0.1))) n B := ⟨hB.1, by rw [vu_ne (by omega)]; exact hB.2⟩
      have hps := M_passes0 (σ := σ) (m := m) (R := R) (I := upd I 13 (nI (L.length + 1))) hB' c2 (s := 44) (by omega)
      have hll : (L ++ [r0.1]).length = L.length + 1 := by rw [List.length_append]; rfl
      show (∀ q, kt n B (2 ^ d) (k + 1) (L ++ [r0.1]) r0.2 = .inl q → _) ∧ ∀ L', kt n B (2 ^ d) (k + 1) (L ++ [r0.1]) r0.2 = .inr L' → _
      rw [kt]
      have hml : ∀ y, y ∈ L ++ [r0.1] → y < 2 ^ d := fun y hy => by
        rcases List.mem_append.mp hy with z | z
        · exact hm y z
        · rw [List.mem_singleton.mp z]; exact c3
      by_cases h1 : r0.2 = n
      · rw [if_pos h1]
        rw [if_neg (fun z => by omega)] at hps
        refine ⟨fun q z => (by cases z), fun L' z => ?_⟩
        cases z
        refine ⟨va_up A 7 (upd (A 7) (2 * L.length) (nI r0.1)), upd I 13 (nI (L.length + 1)), ?_, by rw [vu_at]; exact hL.push, by rw [pk_us, hll], by omega, hml, fun j hj => vu_ne hj, fun j hj => pk_un hj⟩
        have hwr := M_wasRight0 (σ := σ) (m := m) (A := va_up A 7 (upd (A 7) (2 * L.length) (nI r0.1))) (R := R) (I := upd I 13 (nI (L.length + 1))) c2 hn
        rw [if_neg (fun z => by omega)] at hwr
        rw [h1] at hps hwr w2 h13 hu
        rw [e206_28]
        simp (disch := first | omega | exact tl_l | exact tT_len | (simp only [List.length_cons, List.length_nil])) only [e206_0, e206_1, e206_2, e206_5, e206_6, e206_9, e206_10, e206_11, e206_14, e206_17, e206_20, e206_21, e206_22, e206_23, e206_26, e206_27, e206_29, e206_32, e206_33, e206_36, e206_37, e206_38, e206_41, e206_42, e206_43, e206_44, e206_47, e206_50, e206_51, e206_52, e206_53, e206_56, e206_57, e206_58, e206_61, e206_62, e206_64, e206_67, e206_68, e206_71, e206_72, e206_75, e206_78, e206_79, e206_80, e206_83, e206_84, e206_85, e206_86, e206_87, e206_90, e206_91, e206_94, e206_95, e206_96, e206_97, e206_101, e206_102, e206_105, e206_108, e206_109, e206_110, e206_113, e206_114, e206_116, e206_117, e206_118, e206_121, e206_122, e206_123, e206_124, e206_127, e206_128, e206_130, e206_131, e206_132, e206_135, e206_136, e206_137, e206_140, e206_143, e206_144, e206_147, e206_149, e206_150, e206_151, e206_154, e206_155, e206_156, e206_157, e206_160, e206_161, e206_162, e206_165, e206_166, e206_169, e206_171, kv_s, kh_s, kr_s, kr_v, kn_s, z0, z1, z2, nI_ltI, nI_leI, nI_eq, nI_add, oN, bz0, bz1, bw0, bw1, ltT, ltF, leT, leF, eqT, eqF, if_true, if_false, kI_n, wI_n, and_true, true_and, and_false, false_and, not_true, not_false_eq_true, mwo, mwr_0, mwr_1, mwr_2, mwg_3, mwp_3, mwr_4, mwg_5, mwp_5, mwg_6, mwp_6, mwr_7, mwr_8, mwg_9, mwp_9, mwg_10, mwp_10, mwg_11, mwp_11, mwr_12, mwg_13, mwp_13, mwr_14, mwr_15, mwr_16, mwr_17, mwr_18, mwr_19, mwg_20, mwp_20, mwr_21, mwr_22, mwr_23, mwa_1, mwu_1, mwa_2, mwu_2, mwa_3, mwu_3, mwa_4, mwu_4, mwa_5, mwu_5, mwa_6, mwu_6, mwa_7, mwu_7, mwa_8, mwu_8, mwa_9, mwu_9, mwa_10, mwu_10, mwa_11, mwu_11, mwa_12, mwu_12, mwa_13, mwu_13, mwa_14, mwu_14, mwa_15, mwu_15, mwa_16, mwu_16, vu_at, vu_ne, pk_us, pk_un, kB_n, wB_n, kL_n, wL_n, n01, h13', nI_two, M_keys h, w2, h13, hu, z44, hps]
        rw [e206_28]
        simp (disch := first | omega | exact tl_l | exact tT_len | (simp only [List.length_cons, List.length_nil])) only [e206_0, e206_1, e206_2, e206_5, e206_6, e206_9, e206_10, e206_11, e206_14, e206_17, e206_20, e206_21, e206_22, e206_23, e206_26, e206_27, e206_29, e206_32, e206_33, e206_36, e206_37, e206_38, e206_41, e206_42, e206_43, e206_44, e206_47, e206_50, e206_51, e206_52, e206_53, e206_56, e206_57, e206_58, e206_61, e206_62, e206_64, e206_67, e206_68, e206_71, e206_72, e206_75, e206_78, e206_79, e206_80, e206_83, e206_84, e206_85, e206_86, e206_87, e206_90, e206_91, e206_94, e206_95, e206_96, e206_97, e206_101, e206_102, e206_105, e206_108, e206_109, e206_110, e206_113, e206_114, e206_116, e206_117, e206_118, e206_121, e206_122, e206_123, e206_124, e206_127, e206_128, e206_130, e206_131, e206_132, e206_135, e206_136, e206_137, e206_140, e206_143, e206_144, e206_147, e206_149, e206_150, e206_151, e206_154, e206_155, e206_156, e206_157, e206_160, e206_161, e206_162, e206_165, e206_166, e206_169, e206_171, kv_s, kh_s, kr_s, kr_v, kn_s, z0, z1, z2, nI_ltI, nI_leI, nI_eq, nI_add, oN, bz0, bz1, bw0, bw1, ltT, ltF, leT, leF, eqT, eqF, if_true, if_false, kI_n, wI_n, and_true, true_and, and_false, false_and, not_true, not_false_eq_true, mwo, mwr_0, mwr_1, mwr_2, mwg_3, mwp_3, mwr_4, mwg_5, mwp_5, mwg_6, mwp_6, mwr_7, mwr_8, mwg_9, mwp_9, mwg_10, mwp_10, mwg_11, mwp_11, mwr_12, mwg_13, mwp_13, mwr_14, mwr_15, mwr_16, mwr_17, mwr_18, mwr_19, mwg_20, mwp_20, mwr_21, mwr_22, mwr_23, mwa_1, mwu_1, mwa_2, mwu_2, mwa_3, mwu_3, mwa_4, mwu_4, mwa_5, mwu_5, mwa_6, mwu_6, mwa_7, mwu_7, mwa_8, mwu_8, mwa_9, mwu_9, mwa_10, mwu_10, mwa_11, mwu_11, mwa_12, mwu_12, mwa_13, mwu_13, mwa_14, mwu_14, mwa_15, mwu_15, mwa_16, mwu_16, vu_at, vu_ne, pk_us, pk_un, kB_n, wB_n, kL_n, wL_n, hwr, n01]
      · rw [if_neg h1]
        by_cases h2 : B r0.2 = 44
        · rw [if_pos h2]
          rw [if_pos ⟨by omega, h2⟩] at hps
          have e : den 206 28 [.ref m, x, .int (nI 1), l3, l4] [] (mw σ m A R (mt I n p none)) = den 206 28 [.ref m, x, .int (nI 1), l3, l4] [] (mw σ m (va_up A 7 (upd (A 7) (2 * L.length) (nI r0.1))) R (mt (upd I 13 (nI (L.length + 1))) n (r0.2 + 1) none)) := by
            rw [e206_28]
            simp (disch := first | omega | exact tl_l | exact tT_len | (simp only [List.length_cons, List.length_nil])) only [e206_0, e206_1, e206_2, e206_5, e206_6, e206_9, e206_10, e206_11, e206_14, e206_17, e206_20, e206_21, e206_22, e206_23, e206_26, e206_27, e206_29, e206_32, e206_33, e206_36, e206_37, e206_38, e206_41, e206_42, e206_43, e206_44, e206_47, e206_50, e206_51, e206_52, e206_53, e206_56, e206_57, e206_58, e206_61, e206_62, e206_64, e206_67, e206_68, e206_71, e206_72, e206_75, e206_78, e206_79, e206_80, e206_83, e206_84, e206_85, e206_86, e206_87, e206_90, e206_91, e206_94, e206_95, e206_96, e206_97, e206_101, e206_102, e206_105, e206_108, e206_109, e206_110, e206_113, e206_114, e206_116, e206_117, e206_118, e206_121, e206_122, e206_123, e206_124, e206_127, e206_128, e206_130, e206_131, e206_132, e206_135, e206_136, e206_137, e206_140, e206_143, e206_144, e206_147, e206_149, e206_150, e206_151, e206_154, e206_155, e206_156, e206_157, e206_160, e206_161, e206_162, e206_165, e206_166, e206_169, e206_171, kv_s, kh_s, kr_s, kr_v, kn_s, z0, z1, z2, nI_ltI, nI_leI, nI_eq, nI_add, oN, bz0, bz1, bw0, bw1, ltT, ltF, leT, leF, eqT, eqF, if_true, if_false, kI_n, wI_n, and_true, true_and, and_false, false_and, not_true, not_false_eq_true, mwo, mwr_0, mwr_1, mwr_2, mwg_3, mwp_3, mwr_4, mwg_5, mwp_5, mwg_6, mwp_6, mwr_7, mwr_8, mwg_9, mwp_9, mwg_10, mwp_10, mwg_11, mwp_11, mwr_12, mwg_13, mwp_13, mwr_14, mwr_15, mwr_16, mwr_17, mwr_18, mwr_19, mwg_20, mwp_20, mwr_21, mwr_22, mwr_23, mwa_1, mwu_1, mwa_2, mwu_2, mwa_3, mwu_3, mwa_4, mwu_4, mwa_5, mwu_5, mwa_6, mwu_6, mwa_7, mwu_7, mwa_8, mwu_8, mwa_9, mwu_9, mwa_10, mwu_10, mwa_11, mwu_11, mwa_12, mwu_12, mwa_13, mwu_13, mwa_14, mwu_14, mwa_15, mwu_15, mwa_16, mwu_16, vu_at, vu_ne, pk_us, pk_un, kB_n, wB_n, kL_n, wL_n, n01, h13', nI_two, M_keys h, w2, h13, hu, z44, hps]
          obtain ⟨i1, i2⟩ := ih (L ++ [r0.1]) (r0.2 + 1) (va_up A 7 (upd (A 7) (2 * L.length) (nI r0.1))) (upd I 13 (nI (L.length + 1))) hB' (by rw [vu_ne (by omega)]; exact h) (by rw [vu_at]; exact hL.push) (by rw [pk_us, hll]) hml (by omega) (by omega) (by omega)
          rw [e]
          refine ⟨fun q z => ?_, fun L' z => ?_⟩
          · obtain ⟨A', I', p', v1, v2, v3⟩ := i1 q z
            exact ⟨A', I', p', v1, fun j hj => (v2 j hj).trans (vu_ne hj), fun j hj => (v3 j hj).trans (pk_un hj)⟩
          · obtain ⟨A', I', v1, v2, v3, v4, v5, v6, v7⟩ := i2 L' z
            exact ⟨A', I', v1, v2, v3, v4, v5, fun j hj => (v6 j hj).trans (vu_ne hj), fun j hj => (v7 j hj).trans (pk_un hj)⟩
        · rw [if_neg h2]
          rw [if_neg (fun z => h2 z.2)] at hps
          refine ⟨fun q z => ?_, fun L' z => (by cases z)⟩
          cases z
          refine ⟨va_up A 7 (upd (A 7) (2 * L.length) (nI r0.1)), upd I 13 (nI (L.length + 1)), r0.2, ?_, fun j hj => vu_ne hj, fun j hj => pk_un hj⟩
          have hwr := M_wasRight0 (σ := σ) (m := m) (A := va_up A 7 (upd (A 7) (2 * L.length) (nI r0.1))) (R := R) (I := upd I 13 (nI (L.length + 1))) c2 hn
          rw [if_pos (by omega)] at hwr
          rw [e206_28]
          simp (disch := first | omega | exact tl_l | exact tT_len | (simp only [List.length_cons, List.length_nil])) only [e206_0, e206_1, e206_2, e206_5, e206_6, e206_9, e206_10, e206_11, e206_14, e206_17, e206_20, e206_21, e206_22, e206_23, e206_26, e206_27, e206_29, e206_32, e206_33, e206_36, e206_37, e206_38, e206_41, e206_42, e206_43, e206_44, e206_47, e206_50, e206_51, e206_52, e206_53, e206_56, e206_57, e206_58, e206_61, e206_62, e206_64, e206_67, e206_68, e206_71, e206_72, e206_75, e206_78, e206_79, e206_80, e206_83, e206_84, e206_85, e206_86, e206_87, e206_90, e206_91, e206_94, e206_95, e206_96, e206_97, e206_101, e206_102, e206_105, e206_108, e206_109, e206_110, e206_113, e206_114, e206_116, e206_117, e206_118, e206_121, e206_122, e206_123, e206_124, e206_127, e206_128, e206_130, e206_131, e206_132, e206_135, e206_136, e206_137, e206_140, e206_143, e206_144, e206_147, e206_149, e206_150, e206_151, e206_154, e206_155, e206_156, e206_157, e206_160, e206_161, e206_162, e206_165, e206_166, e206_169, e206_171, kv_s, kh_s, kr_s, kr_v, kn_s, z0, z1, z2, nI_ltI, nI_leI, nI_eq, nI_add, oN, bz0, bz1, bw0, bw1, ltT, ltF, leT, leF, eqT, eqF, if_true, if_false, kI_n, wI_n, and_true, true_and, and_false, false_and, not_true, not_false_eq_true, mwo, mwr_0, mwr_1, mwr_2, mwg_3, mwp_3, mwr_4, mwg_5, mwp_5, mwg_6, mwp_6, mwr_7, mwr_8, mwg_9, mwp_9, mwg_10, mwp_10, mwg_11, mwp_11, mwr_12, mwg_13, mwp_13, mwr_14, mwr_15, mwr_16, mwr_17, mwr_18, mwr_19, mwg_20, mwp_20, mwr_21, mwr_22, mwr_23, mwa_1, mwu_1, mwa_2, mwu_2, mwa_3, mwu_3, mwa_4, mwu_4, mwa_5, mwu_5, mwa_6, mwu_6, mwa_7, mwu_7, mwa_8, mwu_8, mwa_9, mwu_9, mwa_10, mwu_10, mwa_11, mwu_11, mwa_12, mwu_12, mwa_13, mwu_13, mwa_14, mwu_14, mwa_15, mwu_15, mwa_16, mwu_16, vu_at, vu_ne, pk_us, pk_un, kB_n, wB_n, kL_n, wL_n, n01, h13', nI_two, M_keys h, w2, h13, hu, z44, hps]
          rw [e206_28]
          simp (disch := first | omega | exact tl_l | exact tT_len | (simp only [List.length_cons, List.length_nil])) only [e206_0, e206_1, e206_2, e206_5, e206_6, e206_9, e206_10, e206_11, e206_14, e206_17, e206_20, e206_21, e206_22, e206_23, e206_26, e206_27, e206_29, e206_32, e206_33, e206_36, e206_37, e206_38, e206_41, e206_42, e206_43, e206_44, e206_47, e206_50, e206_51, e206_52, e206_53, e206_56, e206_57, e206_58, e206_61, e206_62, e206_64, e206_67, e206_68, e206_71, e206_72, e206_75, e206_78, e206_79, e206_80, e206_83, e206_84, e206_85, e206_86, e206_87, e206_90, e206_91, e206_94, e206_95, e206_96, e206_97, e206_101, e206_102, e206_105, e206_108, e206_109, e206_110, e206_113, e206_114, e206_116, e206_117, e206_118, e206_121, e206_122, e206_123, e206_124, e206_127, e206_128, e206_130, e206_131, e206_132, e206_135, e206_136, e206_137, e206_140, e206_143, e206_144, e206_147, e206_149, e206_150, e206_151, e206_154, e206_155, e206_156, e206_157, e206_160, e206_161, e206_162, e206_165, e206_166, e206_169, e206_171, kv_s, kh_s, kr_s, kr_v, kn_s, z0, z1, z2, nI_ltI, nI_leI, nI_eq, nI_add, oN, bz0, bz1, bw0, bw1, ltT, ltF, leT, leF, eqT, eqF, if_true, if_false, kI_n, wI_n, and_true, true_and, and_false, false_and, not_true, not_false_eq_true, mwo, mwr_0, mwr_1, mwr_2, mwg_3, mwp_3, mwr_4, mwg_5, mwp_5, mwg_6, mwp_6, mwr_7, mwr_8, mwg_9, mwp_9, mwg_10, mwp_10, mwg_11, mwp_11, mwr_12, mwg_13, mwp_13, mwr_14, mwr_15, mwr_16, mwr_17, mwr_18, mwr_19, mwg_20, mwp_20, mwr_21, mwr_22, mwr_23, mwa_1, mwu_1, mwa_2, mwu_2, mwa_3, mwu_3, mwa_4, mwu_4, mwa_5, mwu_5, mwa_6, mwu_6, mwa_7, mwu_7, mwa_8, mwu_8, mwa_9, mwu_9, mwa_10, mwu_10, mwa_11, mwu_11, mwa_12, mwu_12, mwa_13, mwu_13, mwa_14, mwu_14, mwa_15, mwu_15, mwa_16, mwu_16, vu_at, vu_ne, pk_us, pk_un, kB_n, wB_n, kL_n, wL_n, hwr, mt_11, fl]
end TG
