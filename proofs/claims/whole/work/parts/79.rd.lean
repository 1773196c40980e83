/-! reading keys and pairs: what is read, and the class's reading -/
/-- a number, or the place of its fault -/
def nm (n : Nat) (B : Nat → Nat) (m p : Nat) : Nat ⊕ (Nat × Nat) := if bad n B m p = true then .inl (dgs n B m p 0).2 else .inr (dgs n B m p 0)
/-- a key that is new -/
def rk (n : Nat) (B : Nat → Nat) (K : Nat) (L : List Nat) (p : Nat) : Nat ⊕ (Nat × Nat) := match nm n B 3 p with
  | .inl q => .inl q
  | .inr r => if K ≤ r.1 ∨ r.1 ∈ L then .inl (r.2 - 1) else .inr r
/-- keys that are chosen -/
def sL (L : List Nat) (k : Nat) : Int32 := if k ∈ L then nI 1 else nI 0
theorem sL_pos {L : List Nat} {k : Nat} : nI 0 < sL L k ↔ k ∈ L := by
  unfold sL
  by_cases h : k ∈ L
  · rw [if_pos h]; exact ⟨fun _ => h, fun _ => by decide⟩
  · rw [if_neg h]; exact ⟨fun z => absurd z (by decide), fun z => absurd z h⟩
theorem sL_nil : sL [] = fun _ => nI 0 := funext fun k => if_neg (by simp)
theorem sL_add {L : List Nat} {v : Nat} : upd (sL L) v (nI 1) = sL (L ++ [v]) := by
  funext k
  by_cases h : k = v
  · subst h; rw [pk_us, sL, if_pos (by simp)]
  · rw [pk_un h, sL, sL]
    by_cases h2 : k ∈ L
    · rw [if_pos h2, if_pos (by simp [h2])]
    · rw [if_neg h2, if_neg (by simp [h2, h])]
section RE
variable {c : Nat} {σ τ : Hp} {d dp f l : Nat} {V : Nat → Nat → Int32} {T : Nat → Option Nat} {A : Nat → Nat → Int32} {R : Nat → Int64} {I : Nat → Int32} {n : Nat} {B : Nat → Nat} {p q : Nat} {e : Option Nat} {W : Nat → Int32}
theorem nm_bd {m : Nat} (hp : p ≤ n) : (∀ q, nm n B m p = .inl q → q ≤ n) ∧ ∀ r, nm n B m p = .inr r → p < r.2 ∧ r.2 ≤ n ∧ r.1 < 10 ^ m := by
  obtain ⟨g1, g2, g3⟩ := dgs_bd (n := n) (B := B) m p 0 hp
  unfold nm
  by_cases h : bad n B m p = true
  · rw [if_pos h]
    exact ⟨fun q hq => by cases hq; exact g2, fun r hr => by cases hr⟩
  · rw [if_neg h]
    refine ⟨fun q hq => (by cases hq), fun r hr => ?_⟩
    cases hr
    have hne : (dgs n B m p 0).2 ≠ p := fun e => h (by unfold bad; rw [decide_eq_true e]; rfl)
    exact ⟨by omega, g2, by omega⟩
theorem rk_bd {K : Nat} {L : List Nat} (hp : p ≤ n) : (∀ q, rk n B K L p = .inl q → q ≤ n) ∧ ∀ r, rk n B K L p = .inr r → p < r.2 ∧ r.2 ≤ n ∧ r.1 < K ∧ ¬ r.1 ∈ L := by
  obtain ⟨g1, g2⟩ := nm_bd (n := n) (B := B) (m := 3) hp
  unfold rk
  cases h : nm n B 3 p with
  | inl q => exact ⟨fun q hq => by cases hq; exact g1 _ h, fun r hr => by cases hr⟩
  | inr r =>
    obtain ⟨b1, b2, b3⟩ := g2 r h
    by_cases hc : K ≤ r.1 ∨ r.1 ∈ L
    · simp only [hc, if_true]
      exact ⟨fun q hq => by cases hq; omega, fun r hr => by cases hr⟩
    · simp only [hc, if_false]
      exact ⟨fun q hq => (by cases hq), fun r' hr => by cases hr; exact ⟨b1, b2, by omega, fun z => hc (Or.inr z)⟩⟩
theorem Tx_fail_some {x : Int32} (hq : q < 2 ^ 31) : dcall 27 [.ref (c + 1), .int x] (cw σ c A R (ti I p (some q))) = some (none, cw σ c A R (ti I p (some q))) := by
  rw [q27]
  simp (disch := omega) only [e27_0, e27_1, e27_4, e27_5, e27_8, e27_9, e27_10, e27_13, kv_s, kh_s, kr_s, kr_v, kn_s, z0, z1, z2, nI_ltI, nI_leI, nI_eq, nI_add, oN, bz0, bz1, bw0, bw1, ltT, ltF, leT, leF, eqT, eqF, if_true, if_false, kI_n, wI_n, and_true, true_and, and_false, false_and, not_true, not_false_eq_true, cwo_1, cwr_1, cwg_0, cwg_1, cwg_2, cwa_0, cwl_0, cwo_3, cwr_3, cwg_3, cwa_R, cwl_R, cwo_5, cwr_5, cwg_4, cwg_5, cwg_6, cwg_7, cwg_8, cwa_1, cwl_1, cwo_7, cwr_7, cwg_9, cwg_10, cwg_11, cwg_12, cwg_13, cwa_2, cwl_2, cwo_17, cwr_17, cwg_14, cwa_3, cwl_3, cwp_0, cwp_1, cwp_2, cwp_3, cwp_4, cwp_5, cwp_6, cwp_7, cwp_8, cwp_9, cwp_10, cwp_11, cwp_12, cwp_13, cwp_14, cwu_0, cwu_R, cwu_1, cwu_2, cwu_3, vu_at, vu_ne, pk_us, pk_un, ti_2, fl, nI_n1]
/-- reading a key: all that happens -/
theorem A_newKey (h : RB c σ T dp f l V) (hd : d ≤ 8) (hB : isB A I n B) (hI : I 14 = nI d) (hp : p ≤ n) (he : ∀ r, e = some r → r ≤ n) : ∃ F e2, dcall 33 [.ref c] (cw σ c A R (ti I p e)) = some (some (.int (nI (dgs n B 3 p 0).1)), cw σ c (va_up A 3 F) R (ti I (dgs n B 3 p 0).2 e2)) ∧ (e2 = if 2 ^ d ≤ (dgs n B 3 p 0).1 ∨ ((dgs n B 3 p 0).1 < 2 ^ d ∧ nI 0 < A 3 (2 ^ d + (dgs n B 3 p 0).1)) then (if bad n B 3 p = true then e.or (some (dgs n B 3 p 0).2) else e).or (some ((dgs n B 3 p 0).2 - 1)) else (if bad n B 3 p = true then e.or (some (dgs n B 3 p 0).2) else e)) ∧ (F = if (dgs n B 3 p 0).1 < 2 ^ d then chg 9 (2 ^ d + (dgs n B 3 p 0).1) (A 3) (nI 1) else A 3) := by
  have hK : 2 ^ d ≤ 256 ∧ 1 ≤ 2 ^ d := ⟨Nat.pow_le_pow_right (by omega) hd, Nat.one_le_two_pow⟩
  have hn := hB.1
  have he' : ∀ r, e = some r → r < 2 ^ 31 := fun r hr => by have := he r hr; omega
  obtain ⟨g1, g2, g3⟩ := dgs_bd (n := n) (B := B) 3 p 0 hp
  have hdig := Tx_digits (σ := σ) (c := c) (R := R) (e := e) hB hp he' (m := 3) (by omega)
  generalize he1 : (if bad n B 3 p = true then e.or (some (dgs n B 3 p 0).2) else e) = e1 at hdig
  have hb0 : (dgs n B 3 p 0).2 = 0 → ∃ r, e1 = some r := fun hz => by
    have : bad n B 3 p = true := by unfold bad; rw [decide_eq_true (show (dgs n B 3 p 0).2 = p by omega)]; rfl
    rw [← he1, if_pos this]
    cases e with
    | none => exact ⟨_, rfl⟩
    | some r => exact ⟨r, rfl⟩
  have he1b : ∀ r, e1 = some r → r ≤ n := fun r hr => by
    rw [← he1] at hr
    split at hr
    · cases e with
      | none => cases hr; exact g2
      | some r' => cases hr; exact he _ rfl
    · exact he r hr
  generalize hv : (dgs n B 3 p 0).1 = v at hdig g3
  generalize hp' : (dgs n B 3 p 0).2 = p' at hdig g1 g2 hb0
  have hv3 : v < 1000 := by omega
  have hti : ∀ (p : Nat) (e : Option Nat), ti I p e 14 = nI d := fun p e => (ti_o (by omega) (by omega)).trans hI
  have kk := fun e => Ks_keys (σ := cw σ c A R (ti I p' e)) (KSx (A := A) (R := R) (hti p' e)) hd
  have kh := fun e => Ks_has (σ := cw σ c A R (ti I p' e)) (KSx (A := A) (R := R) (hti p' e)) hd (p := v) (by omega)
  have hid : ∀ e, upd (ti I p' e) 14 (nI d) = ti I p' e := fun e => upd_id (hti p' e)
  have kc : ∀ e, dcall 37 [.ref (c + 17), .int (nI v), .int (nI 1)] (cw σ c A R (ti I p' e)) = some (none, cw σ c (va_up A 3 (if v < 2 ^ d then chg 9 (2 ^ d + v) (A 3) (nI 1) else A 3)) R (ti I p' e)) := fun e => by
    by_cases hk : v < 2 ^ d
    · rw [if_pos hk, Ks_change (KSx (A := A) (R := R) (hti p' e)) hd hk, kput_cw, hid]
    · rw [if_neg hk, vu_id, Ks_change0 (KSx (A := A) (R := R) (hti p' e)) hd (by omega) (by omega)]
  have hfail : dcall 27 [.ref (c + 1), .int (nI p' - nI 1)] (cw σ c A R (ti I p' e1)) = some (none, cw σ c A R (ti I p' (e1.or (some (p' - 1))))) := by
    cases e1 with
    | some r => exact Tx_fail_some (by have := he1b r rfl; omega)
    | none =>
      have : 1 ≤ p' := Nat.one_le_iff_ne_zero.mpr fun hz => by obtain ⟨r, hr⟩ := hb0 hz; cases hr
      rw [pk_sub this]
      exact Tx_fail (fun r hr => by cases hr)
  refine ⟨_, _, ?_, rfl, rfl⟩
  rw [q33]
  by_cases c1 : 2 ^ d ≤ v
  · have c2 : ¬ v < 2 ^ d := by omega
    rw [if_pos (Or.inl c1)]
    have kc' := kc (e1.or (some (p' - 1)))
    rw [if_neg c2] at kc' ⊢
    simp (disch := first | omega | exact tl_l | exact tT_len | (simp only [List.length_cons, List.length_nil])) only [e33_0, e33_1, e33_4, e33_5, e33_8, e33_9, e33_10, e33_11, e33_12, e33_15, e33_18, e33_21, e33_22, e33_25, e33_26, e33_29, e33_32, e33_33, e33_36, e33_37, e33_40, e33_43, e33_44, e33_45, e33_48, e33_49, e33_52, e33_53, e33_54, e33_57, e33_58, kv_s, kh_s, kr_s, kr_v, kn_s, z0, z1, z2, nI_ltI, nI_leI, nI_eq, nI_add, oN, bz0, bz1, bw0, bw1, ltT, ltF, leT, leF, eqT, eqF, if_true, if_false, kI_n, wI_n, and_true, true_and, and_false, false_and, not_true, not_false_eq_true, cwo_1, cwr_1, cwg_0, cwg_1, cwg_2, cwa_0, cwl_0, cwo_3, cwr_3, cwg_3, cwa_R, cwl_R, cwo_5, cwr_5, cwg_4, cwg_5, cwg_6, cwg_7, cwg_8, cwa_1, cwl_1, cwo_7, cwr_7, cwg_9, cwg_10, cwg_11, cwg_12, cwg_13, cwa_2, cwl_2, cwo_17, cwr_17, cwg_14, cwa_3, cwl_3, cwp_0, cwp_1, cwp_2, cwp_3, cwp_4, cwp_5, cwp_6, cwp_7, cwp_8, cwp_9, cwp_10, cwp_11, cwp_12, cwp_13, cwp_14, cwu_0, cwu_R, cwu_1, cwu_2, cwu_3, vu_at, vu_ne, pk_us, pk_un, h.x.f0, h.x.f1, h.x.f2, h.x.f3, h.x.f4, h.x.f5, h.x.f6, h.x.f7, h.x.o, h.hi.o, h.hi.gd, h.hi.gf, h.hi.gl, Hi_keys h.hi h.d8, Hi_hasKey h.hi h.d8, Rw_empty, Rw_add, List.nil_append, List.cons_append, upd_upd, cwo_1, cwo_3, cwo_5, cwo_7, cwo_17, Bool.false_eq_true, n01, z3, hdig, lN_i, kk, c1, ti_1, hfail, kc']
  · have c2 : v < 2 ^ d := by omega
    by_cases c3 : nI 0 < A 3 (2 ^ d + v)
    · rw [if_pos (Or.inr ⟨c2, c3⟩)]
      have kc' := kc (e1.or (some (p' - 1)))
      have kh' := kh e1
      rw [if_pos ⟨c2, c3⟩] at kh'
      rw [if_pos c2] at kc' ⊢
      simp (disch := first | omega | exact tl_l | exact tT_len | (simp only [List.length_cons, List.length_nil])) only [e33_0, e33_1, e33_4, e33_5, e33_8, e33_9, e33_10, e33_11, e33_12, e33_15, e33_18, e33_21, e33_22, e33_25, e33_26, e33_29, e33_32, e33_33, e33_36, e33_37, e33_40, e33_43, e33_44, e33_45, e33_48, e33_49, e33_52, e33_53, e33_54, e33_57, e33_58, kv_s, kh_s, kr_s, kr_v, kn_s, z0, z1, z2, nI_ltI, nI_leI, nI_eq, nI_add, oN, bz0, bz1, bw0, bw1, ltT, ltF, leT, leF, eqT, eqF, if_true, if_false, kI_n, wI_n, and_true, true_and, and_false, false_and, not_true, not_false_eq_true, cwo_1, cwr_1, cwg_0, cwg_1, cwg_2, cwa_0, cwl_0, cwo_3, cwr_3, cwg_3, cwa_R, cwl_R, cwo_5, cwr_5, cwg_4, cwg_5, cwg_6, cwg_7, cwg_8, cwa_1, cwl_1, cwo_7, cwr_7, cwg_9, cwg_10, cwg_11, cwg_12, cwg_13, cwa_2, cwl_2, cwo_17, cwr_17, cwg_14, cwa_3, cwl_3, cwp_0, cwp_1, cwp_2, cwp_3, cwp_4, cwp_5, cwp_6, cwp_7, cwp_8, cwp_9, cwp_10, cwp_11, cwp_12, cwp_13, cwp_14, cwu_0, cwu_R, cwu_1, cwu_2, cwu_3, vu_at, vu_ne, pk_us, pk_un, h.x.f0, h.x.f1, h.x.f2, h.x.f3, h.x.f4, h.x.f5, h.x.f6, h.x.f7, h.x.o, h.hi.o, h.hi.gd, h.hi.gf, h.hi.gl, Hi_keys h.hi h.d8, Hi_hasKey h.hi h.d8, Rw_empty, Rw_add, List.nil_append, List.cons_append, upd_upd, cwo_1, cwo_3, cwo_5, cwo_7, cwo_17, Bool.false_eq_true, n01, z3, hdig, lN_i, kk, c1, kh', ti_1, hfail, kc']
    · have hn' : ¬ (2 ^ d ≤ v ∨ (v < 2 ^ d ∧ nI 0 < A 3 (2 ^ d + v))) := fun z => z.elim c1 (fun y => c3 y.2)
      rw [if_neg hn']
      have kc' := kc e1
      have kh' := kh e1
      rw [if_neg (show ¬ (v < 2 ^ d ∧ nI 0 < A 3 (2 ^ d + v)) from fun z => c3 z.2)] at kh'
      rw [if_pos c2] at kc' ⊢
      simp (disch := first | omega | exact tl_l | exact tT_len | (simp only [List.length_cons, List.length_nil])) only [e33_0, e33_1, e33_4, e33_5, e33_8, e33_9, e33_10, e33_11, e33_12, e33_15, e33_18, e33_21, e33_22, e33_25, e33_26, e33_29, e33_32, e33_33, e33_36, e33_37, e33_40, e33_43, e33_44, e33_45, e33_48, e33_49, e33_52, e33_53, e33_54, e33_57, e33_58, kv_s, kh_s, kr_s, kr_v, kn_s, z0, z1, z2, nI_ltI, nI_leI, nI_eq, nI_add, oN, bz0, bz1, bw0, bw1, ltT, ltF, leT, leF, eqT, eqF, if_true, if_false, kI_n, wI_n, and_true, true_and, and_false, false_and, not_true, not_false_eq_true, cwo_1, cwr_1, cwg_0, cwg_1, cwg_2, cwa_0, cwl_0, cwo_3, cwr_3, cwg_3, cwa_R, cwl_R, cwo_5, cwr_5, cwg_4, cwg_5, cwg_6, cwg_7, cwg_8, cwa_1, cwl_1, cwo_7, cwr_7, cwg_9, cwg_10, cwg_11, cwg_12, cwg_13, cwa_2, cwl_2, cwo_17, cwr_17, cwg_14, cwa_3, cwl_3, cwp_0, cwp_1, cwp_2, cwp_3, cwp_4, cwp_5, cwp_6, cwp_7, cwp_8, cwp_9, cwp_10, cwp_11, cwp_12, cwp_13, cwp_14, cwu_0, cwu_R, cwu_1, cwu_2, cwu_3, vu_at, vu_ne, pk_us, pk_un, h.x.f0, h.x.f1, h.x.f2, h.x.f3, h.x.f4, h.x.f5, h.x.f6, h.x.f7, h.x.o, h.hi.o, h.hi.gd, h.hi.gf, h.hi.gl, Hi_keys h.hi h.d8, Hi_hasKey h.hi h.d8, Rw_empty, Rw_add, List.nil_append, List.cons_append, upd_upd, cwo_1, cwo_3, cwo_5, cwo_7, cwo_17, Bool.false_eq_true, n01, z3, hdig, lN_i, kk, c1, kh', kc']
/-- a key read -/
theorem A_key (h : RB c σ T dp f l V) (hd : d ≤ 8) (hB : isB A I n B) (hI : I 14 = nI d) (hp : p ≤ n) {L : List Nat} (hF : okF d (sL L) (A 3)) {r : Nat × Nat} (hr : rk n B (2 ^ d) L p = .inr r) : ∃ F, dcall 33 [.ref c] (cw σ c A R (ti I p none)) = some (some (.int (nI r.1)), cw σ c (va_up A 3 F) R (ti I r.2 none)) ∧ okF d (sL (L ++ [r.1])) F := by
  have hK : 2 ^ d ≤ 256 ∧ 1 ≤ 2 ^ d := ⟨Nat.pow_le_pow_right (by omega) hd, Nat.one_le_two_pow⟩
  obtain ⟨F, e2, k1, k2, k3⟩ := A_newKey (R := R) h hd hB hI hp (e := none) (fun r z => by cases z)
  unfold rk nm at hr
  by_cases hb : bad n B 3 p = true
  · rw [if_pos hb] at hr; cases hr
  · rw [if_neg hb] at hr
    by_cases hc : 2 ^ d ≤ (dgs n B 3 p 0).1 ∨ (dgs n B 3 p 0).1 ∈ L
    · simp only [hc, if_true] at hr; cases hr
    · simp only [hc, if_false] at hr
      cases hr
      have hv : (dgs n B 3 p 0).1 < 2 ^ d := by omega
      have hl := hF.1 _ hv
      have hnl : ¬ nI 0 < sL L (dgs n B 3 p 0).1 := fun z => hc (Or.inr (sL_pos.mp z))
      rw [if_neg hnl] at hl
      have hn' : ¬ (2 ^ d ≤ (dgs n B 3 p 0).1 ∨ ((dgs n B 3 p 0).1 < 2 ^ d ∧ nI 0 < A 3 (2 ^ d + (dgs n B 3 p 0).1))) := fun z => z.elim (fun y => hc (Or.inl y)) (fun y => by rw [hl] at y; exact absurd y.2 (by decide))
      rw [if_neg hb, if_neg hn'] at k2
      rw [k2] at k1
      refine ⟨F, k1, ?_⟩
      rw [k3, if_pos hv, ← sL_add]
      refine okF_place hF hd hv (v := nI 1) (x := nI 1) ?_ fun q => chg_eq 9 _ _ q (by omega)
      rw [if_neg hnl, if_pos (by decide)]
      rfl
/-- a fault with a key -/
theorem A_key_bad (h : RB c σ T dp f l V) (hd : d ≤ 8) (hB : isB A I n B) (hI : I 14 = nI d) (hp : p ≤ n) {L : List Nat} (hF : okF d (sL L) (A 3)) (hr : rk n B (2 ^ d) L p = .inl q) : ∃ F v p', dcall 33 [.ref c] (cw σ c A R (ti I p none)) = some (some (.int (nI v)), cw σ c (va_up A 3 F) R (ti I p' (some q))) ∧ p' ≤ n ∧ v < 1000 := by
  obtain ⟨F, e2, k1, k2, k3⟩ := A_newKey (R := R) h hd hB hI hp (e := none) (fun r z => by cases z)
  obtain ⟨g1, g2, g3⟩ := dgs_bd (n := n) (B := B) 3 p 0 hp
  have he2 : e2 = some q := by
    unfold rk nm at hr
    by_cases hb : bad n B 3 p = true
    · rw [if_pos hb] at hr
      cases hr
      rw [k2, if_pos hb]
      split <;> rfl
    · rw [if_neg hb] at hr
      by_cases hc : 2 ^ d ≤ (dgs n B 3 p 0).1 ∨ (dgs n B 3 p 0).1 ∈ L
      · simp only [hc, if_true] at hr
        cases hr
        rw [k2, if_neg hb, if_pos]
        · rfl
        · rcases hc with z | z
          · exact Or.inl z
          · by_cases hv : (dgs n B 3 p 0).1 < 2 ^ d
            · refine Or.inr ⟨hv, ?_⟩
              rw [hF.1 _ hv, if_pos (sL_pos.mpr z)]
              decide
            · exact Or.inl (by omega)
      · simp only [hc, if_false] at hr; cases hr
  rw [he2] at k1
  exact ⟨F, _, _, k1, g2, by omega⟩
/-- behind a fault -/
theorem A_key_no (h : RB c σ T dp f l V) (hd : d ≤ 8) (hB : isB A I n B) (hI : I 14 = nI d) (hp : p ≤ n) (hq : q ≤ n) : ∃ F v p', dcall 33 [.ref c] (cw σ c A R (ti I p (some q))) = some (some (.int (nI v)), cw σ c (va_up A 3 F) R (ti I p' (some q))) ∧ p' ≤ n ∧ v < 1000 := by
  obtain ⟨F, e2, k1, k2, k3⟩ := A_newKey (R := R) h hd hB hI hp (e := some q) (fun r z => by cases z; exact hq)
  obtain ⟨g1, g2, g3⟩ := dgs_bd (n := n) (B := B) 3 p 0 hp
  have he2 : e2 = some q := by
    rw [k2]
    split <;> split <;> rfl
  rw [he2] at k1
  exact ⟨F, _, _, k1, g2, by omega⟩
end RE
