/-! chosen keys: the class's set, the reference's places over them -/
/-- the chosen keys are those of W that are not bare -/
def CH (A : Nat → Nat → Int32) (I : Nat → Int32) (d : Nat) (W : Nat → Int32) : Prop := I 14 = nI d ∧ okF d W (A 3)
/-- is a place needed? -/
def nP (d : Nat) (S W : Nat → Int32) (p : Nat) : Bool := nz d S (sib p) && (!nz d S p && !br d W p)
section CS
variable {c : Nat} {σ : Hp} {m d f l : Nat} {V : Nat → Nat → Int32} {T : Nat → Option Nat} {A : Nat → Nat → Int32} {R : Nat → Int64} {I : Nat → Int32} {S W : Nat → Int32}
theorem KSx (hI : I 14 = nI d) : isKS (cw σ c A R I) (c + 17) (A 3) d := by
  refine ⟨?_, cw_at (j := 18) rfl⟩
  rw [← hI]
  exact cw_at (j := 17) rfl
theorem kput_cw {F : Nat → Int32} : kput (cw σ c A R I) (c + 17) F d = cw σ c (va_up A 3 F) R (upd I 14 (nI d)) := by
  unfold kput
  have e : hup (cw σ c A R I) (c + 17) (.inr (1, [.ref (c + 17 + 1), .int (nI d)])) = cw σ c A R (upd I 14 (nI d)) := cw_hup fun i => by
    by_cases hi : i = 17
    · rw [if_pos hi, hi]; rfl
    · rw [if_neg hi]; unfold cel; split <;> first | rfl | exact absurd rfl hi
  rw [e]
  exact cwu_3
theorem Ch_clear {dc : Nat} (hI : I 14 = nI dc) (hd : d ≤ 8) : ∃ F, dcall 8 [.ref (c + 17), .int (nI d)] (cw σ c A R I) = some (none, cw σ c (va_up A 3 F) R (upd I 14 (nI d))) ∧ okF d (fun _ => nI 0) F := by
  have hK : 2 ^ d ≤ 256 := Nat.pow_le_pow_right (by omega) hd
  have e : ∀ j, j < 512 → (fun j => if j < 512 then nI 0 else A 3 j) j = nI 0 := fun j hj => if_pos hj
  refine ⟨fun j => if j < 512 then nI 0 else A 3 j, by rw [Ks_clear (KSx hI), kput_cw], fun k hk => ?_, fun p h1 h2 => ?_⟩
  · rw [e _ (by omega)]; rfl
  · rw [e _ (by omega), e _ (by omega), e _ (by omega)]; rfl
theorem Ch_change (h : CH A I d S) (hd : d ≤ 8) {k : Nat} (hk : k < 2 ^ d) {x v : Int32} (hx : (if nI 0 < S k then nI 1 else nI 0) + x = if nI 0 < v then nI 1 else nI 0) : ∃ F, dcall 37 [.ref (c + 17), .int (nI k), .int x] (cw σ c A R I) = some (none, cw σ c (va_up A 3 F) R I) ∧ okF d (upd S k v) F := by
  have hK : 2 ^ d ≤ 256 := Nat.pow_le_pow_right (by omega) hd
  refine ⟨chg 9 (2 ^ d + k) (A 3) x, ?_, okF_place h.2 hd hk hx fun q => chg_eq 9 _ _ q (by omega)⟩
  rw [Ks_change (KSx h.1) hd hk, kput_cw, upd_id h.1]
theorem CH.up (h : CH A I d S) {F : Nat → Int32} {S' : Nat → Int32} (hF : okF d S' F) : CH (va_up A 3 F) I d S' := ⟨h.1, by rw [vu_at]; exact hF⟩
theorem Ch_under (h : CH A I d S) (hd : d ≤ 8) {p : Nat} (h1 : 1 ≤ p) (h2 : p < 2 * 2 ^ d) : dcall 36 [.ref (c + 17), .int (nI p)] (cw σ c A R I) = some (some (.int (nI (un d S p))), cw σ c A R I) := by
  have hK : 2 ^ d ≤ 256 := Nat.pow_le_pow_right (by omega) hd
  rw [Ks_under1 (KSx h.1) h1 (by omega), h.2.eq p h1 h2]
theorem Ch_size (h : CH A I d S) : dcall 29 [.ref (c + 17)] (cw σ c A R I) = some (some (.int (nI (un d S 1))), cw σ c A R I) := by
  have hK1 := Nat.one_le_two_pow (n := d)
  rw [Ks_size (KSx h.1), h.2.eq 1 (by omega) (by omega)]
theorem Ch_keys (h : CH A I d S) (hd : d ≤ 8) : dcall 10 [.ref (c + 17)] (cw σ c A R I) = some (some (.int (nI (2 ^ d))), cw σ c A R I) := Ks_keys (KSx h.1) hd
theorem Ch_has (h : CH A I d S) (hd : d ≤ 8) {k : Nat} (hk : k < 2 ^ d) : dcall 35 [.ref (c + 17), .int (nI k)] (cw σ c A R I) = some (some (.int (if nI 0 < S k then nI 1 else nI 0)), cw σ c A R I) := by
  have hK : 2 ^ d ≤ 256 := Nat.pow_le_pow_right (by omega) hd
  rw [Ks_has (KSx h.1) hd (by omega), h.2.1 k hk]
  by_cases hz : nI 0 < S k
  · rw [if_pos hz, if_pos ⟨hk, by decide⟩]
  · rw [if_neg hz, if_neg (fun z => absurd z.2 (by decide))]
theorem Ch_has0 (h : CH A I d S) (hd : d ≤ 8) {k : Nat} (hk : 2 ^ d ≤ k) (hk2 : k < 2 ^ 30) : dcall 35 [.ref (c + 17), .int (nI k)] (cw σ c A R I) = some (some (.int (nI 0)), cw σ c A R I) := by
  rw [Ks_has (KSx h.1) hd hk2, if_neg (fun z => by omega)]
theorem Ch_nodes (h : CH A I d S) (hd : d ≤ 8) {e : Nat} (he : 1 ≤ e) (he2 : e ≤ 2 * 2 ^ d) : dcall 51 [.ref (c + 17), .int (nI 1), .int (nI e)] (cw σ c A R I) = some (some (.int (nI (cnt (nz d S) 1 (e - 1)))), cw σ c A R I) := by
  have hK : 2 ^ d ≤ 256 := Nat.pow_le_pow_right (by omega) hd
  rw [Ks_nodesIn (KSx h.1) (by omega) (by omega), show min e 512 - 1 = e - 1 by omega]
  have : cnt (fun j => decide (nI 0 < A 3 j)) 1 (e - 1) = cnt (nz d S) 1 (e - 1) := cnt_congr fun i hi => by
    have hu := un_le hd S (1 + i)
    show decide (nI 0 < A 3 (1 + i)) = decide (0 < un d S (1 + i))
    rw [h.2.eq (1 + i) (by omega) (by omega)]
    simp (disch := omega) only [nI_ltI]
  rw [this]
theorem nz_leaves : cnt (nz d S) (2 ^ d) (2 ^ d) = un d S 1 := by
  rw [un_all, ← cnt_shift (nz d S) (2 ^ d) (2 ^ d)]
  refine cnt_congr fun i hi => ?_
  show decide (0 < un d S (2 ^ d + (0 + i))) = decide (nI 0 < S (0 + i))
  rw [Nat.zero_add, un_leaf hi]
  by_cases h : nI 0 < S i
  · rw [if_pos h, decide_eq_true h]; rfl
  · rw [if_neg h, decide_eq_false h]; rfl
theorem Ch_work (h : CH A I d S) (hd : d ≤ 8) : dcall 50 [.ref (c + 17)] (cw σ c A R I) = some (some (.int (nI (cnt (nz d S) 1 (2 * 2 ^ d - 1)))), cw σ c A R I) := by
  have hK : 2 ^ d ≤ 256 := Nat.pow_le_pow_right (by omega) hd
  have hK1 := Nat.one_le_two_pow (n := d)
  have e := Ks_work (σ := cw σ c A R I) (KSx h.1) hd
  rw [e]
  have : cnt (fun j => decide (nI 0 < A 3 j)) 1 (2 ^ d - 1) = cnt (nz d S) 1 (2 ^ d - 1) := cnt_congr fun i hi => by
    have hu := un_le hd S (1 + i)
    show decide (nI 0 < A 3 (1 + i)) = decide (0 < un d S (1 + i))
    rw [h.2.eq (1 + i) (by omega) (by omega)]
    simp (disch := omega) only [nI_ltI]
  rw [this, h.2.eq 1 (by omega) (by omega), nI_add, show 2 * 2 ^ d - 1 = 2 ^ d - 1 + 2 ^ d by omega, cnt_add, show 1 + (2 ^ d - 1) = 2 ^ d by omega, nz_leaves]
theorem A_isNeeded (hb : RB c σ T d f l V) {t : Nat} (t2 : isT (cw σ c A R I) t d W) (h : CH A I d S) {p : Nat} (h1 : 2 ≤ p) (h2 : p < 2 * 2 ^ d) : dcall 93 [.ref c, .ref t, .int (nI p)] (cw σ c A R I) = some (some (.int (bI (nP d S W p))), cw σ c A R I) := by
  have hd := hb.d8
  have hK := hb.K
  have es := sib_bd (d := d) (p := p) (by omega) h2
  have u1 := un_le hd S p
  have u2 := un_le hd S (sib p)
  have hbb := T_bareb t2 (p := p) (by omega) h2
  have hx := hb.x (A := A) (R := R) (I := I)
  rw [q93]
  unfold nP nz
  by_cases a : un d S p = 0
  · by_cases b : un d S (sib p) ≤ 0
    · rw [decide_eq_false (show ¬ 0 < un d S (sib p) by omega)]
      simp (disch := first | omega | exact tl_l | exact tT_len | (simp only [List.length_cons, List.length_nil])) only [e93_0, e93_1, e93_4, e93_5, e93_8, e93_11, e93_12, e93_15, e93_16, e93_17, e93_18, e93_21, e93_24, e93_25, e93_26, e93_29, e93_32, e93_33, e93_36, e93_37, kv_s, kh_s, kr_s, kr_v, kn_s, z0, z1, z2, nI_ltI, nI_leI, nI_eq, nI_add, oN, bz0, bz1, bw0, bw1, ltT, ltF, leT, leF, eqT, eqF, if_true, if_false, kI_n, wI_n, and_true, true_and, and_false, false_and, not_true, not_false_eq_true, cwo_1, cwr_1, cwg_0, cwg_1, cwg_2, cwa_0, cwl_0, cwo_3, cwr_3, cwg_3, cwa_R, cwl_R, cwo_5, cwr_5, cwg_4, cwg_5, cwg_6, cwg_7, cwg_8, cwa_1, cwl_1, cwo_7, cwr_7, cwg_9, cwg_10, cwg_11, cwg_12, cwg_13, cwa_2, cwl_2, cwo_17, cwr_17, cwg_14, cwa_3, cwl_3, cwp_0, cwp_1, cwp_2, cwp_3, cwp_4, cwp_5, cwp_6, cwp_7, cwp_8, cwp_9, cwp_10, cwp_11, cwp_12, cwp_13, cwp_14, cwu_0, cwu_R, cwu_1, cwu_2, cwu_3, vu_at, vu_ne, pk_us, pk_un, hx.f0, hx.f7, hx.o, Ch_under h hd, nI_sib, a, b, bI, Bool.false_and, Bool.false_eq_true]
    · rw [decide_eq_true (show 0 < un d S (sib p) by omega), decide_eq_false (show ¬ 0 < un d S p by omega)]
      cases hr : br d W p with
      | true =>
        rw [hr] at hbb
        simp (disch := first | omega | exact tl_l | exact tT_len | (simp only [List.length_cons, List.length_nil])) only [e93_0, e93_1, e93_4, e93_5, e93_8, e93_11, e93_12, e93_15, e93_16, e93_17, e93_18, e93_21, e93_24, e93_25, e93_26, e93_29, e93_32, e93_33, e93_36, e93_37, kv_s, kh_s, kr_s, kr_v, kn_s, z0, z1, z2, nI_ltI, nI_leI, nI_eq, nI_add, oN, bz0, bz1, bw0, bw1, ltT, ltF, leT, leF, eqT, eqF, if_true, if_false, kI_n, wI_n, and_true, true_and, and_false, false_and, not_true, not_false_eq_true, cwo_1, cwr_1, cwg_0, cwg_1, cwg_2, cwa_0, cwl_0, cwo_3, cwr_3, cwg_3, cwa_R, cwl_R, cwo_5, cwr_5, cwg_4, cwg_5, cwg_6, cwg_7, cwg_8, cwa_1, cwl_1, cwo_7, cwr_7, cwg_9, cwg_10, cwg_11, cwg_12, cwg_13, cwa_2, cwl_2, cwo_17, cwr_17, cwg_14, cwa_3, cwl_3, cwp_0, cwp_1, cwp_2, cwp_3, cwp_4, cwp_5, cwp_6, cwp_7, cwp_8, cwp_9, cwp_10, cwp_11, cwp_12, cwp_13, cwp_14, cwu_0, cwu_R, cwu_1, cwu_2, cwu_3, vu_at, vu_ne, pk_us, pk_un, hx.f0, hx.f7, hx.o, Ch_under h hd, nI_sib, a, b, bI, Bool.true_and, Bool.false_eq_true, t2.o, hbb, n01, Bool.not_false, Bool.not_true]
      | false =>
        rw [hr] at hbb
        simp (disch := first | omega | exact tl_l | exact tT_len | (simp only [List.length_cons, List.length_nil])) only [e93_0, e93_1, e93_4, e93_5, e93_8, e93_11, e93_12, e93_15, e93_16, e93_17, e93_18, e93_21, e93_24, e93_25, e93_26, e93_29, e93_32, e93_33, e93_36, e93_37, kv_s, kh_s, kr_s, kr_v, kn_s, z0, z1, z2, nI_ltI, nI_leI, nI_eq, nI_add, oN, bz0, bz1, bw0, bw1, ltT, ltF, leT, leF, eqT, eqF, if_true, if_false, kI_n, wI_n, and_true, true_and, and_false, false_and, not_true, not_false_eq_true, cwo_1, cwr_1, cwg_0, cwg_1, cwg_2, cwa_0, cwl_0, cwo_3, cwr_3, cwg_3, cwa_R, cwl_R, cwo_5, cwr_5, cwg_4, cwg_5, cwg_6, cwg_7, cwg_8, cwa_1, cwl_1, cwo_7, cwr_7, cwg_9, cwg_10, cwg_11, cwg_12, cwg_13, cwa_2, cwl_2, cwo_17, cwr_17, cwg_14, cwa_3, cwl_3, cwp_0, cwp_1, cwp_2, cwp_3, cwp_4, cwp_5, cwp_6, cwp_7, cwp_8, cwp_9, cwp_10, cwp_11, cwp_12, cwp_13, cwp_14, cwu_0, cwu_R, cwu_1, cwu_2, cwu_3, vu_at, vu_ne, pk_us, pk_un, hx.f0, hx.f7, hx.o, Ch_under h hd, nI_sib, a, b, bI, Bool.true_and, Bool.false_eq_true, t2.o, hbb, n01, Bool.not_false, Bool.not_true]
  · rw [decide_eq_true (show 0 < un d S p by omega)]
    simp (disch := first | omega | exact tl_l | exact tT_len | (simp only [List.length_cons, List.length_nil])) only [e93_0, e93_1, e93_4, e93_5, e93_8, e93_11, e93_12, e93_15, e93_16, e93_17, e93_18, e93_21, e93_24, e93_25, e93_26, e93_29, e93_32, e93_33, e93_36, e93_37, kv_s, kh_s, kr_s, kr_v, kn_s, z0, z1, z2, nI_ltI, nI_leI, nI_eq, nI_add, oN, bz0, bz1, bw0, bw1, ltT, ltF, leT, leF, eqT, eqF, if_true, if_false, kI_n, wI_n, and_true, true_and, and_false, false_and, not_true, not_false_eq_true, cwo_1, cwr_1, cwg_0, cwg_1, cwg_2, cwa_0, cwl_0, cwo_3, cwr_3, cwg_3, cwa_R, cwl_R, cwo_5, cwr_5, cwg_4, cwg_5, cwg_6, cwg_7, cwg_8, cwa_1, cwl_1, cwo_7, cwr_7, cwg_9, cwg_10, cwg_11, cwg_12, cwg_13, cwa_2, cwl_2, cwo_17, cwr_17, cwg_14, cwa_3, cwl_3, cwp_0, cwp_1, cwp_2, cwp_3, cwp_4, cwp_5, cwp_6, cwp_7, cwp_8, cwp_9, cwp_10, cwp_11, cwp_12, cwp_13, cwp_14, cwu_0, cwu_R, cwu_1, cwu_2, cwu_3, vu_at, vu_ne, pk_us, pk_un, hx.f0, hx.f7, hx.o, Ch_under h hd, a, bI, Bool.false_and, Bool.and_false, Bool.not_true, Bool.false_eq_true]
theorem A_needed_loop (hb : RB c σ T d f l V) {t : Nat} (t2 : isT (cw σ c A R I) t d W) (h : CH A I d S) : ∀ (n k : Nat), k + n = 2 * 2 ^ d - 2 → den 92 4 [.ref c, .ref t, .int (nI (cnt (nP d S W) 2 k)), .int (nI (2 + k))] [] (cw σ c A R I) = some (some (.int (nI (cnt (nP d S W) 2 (2 * 2 ^ d - 2)))), cw σ c A R I) := by
  have hK := hb.K
  have hd := hb.d8
  have hx := hb.x (A := A) (R := R) (I := I)
  have hhi := hb.hi (A := A) (R := R) (I := I)
  intro n
  induction n with
  | zero =>
    intro k hk
    have : k = 2 * 2 ^ d - 2 := by omega
    subst this
    rw [e92_4]
    have : ¬ 2 + (2 * 2 ^ d - 2) < 2 * 2 ^ d := by omega
    simp (disch := first | omega | exact tl_l | exact tT_len | (simp only [List.length_cons, List.length_nil])) only [e92_0, e92_1, e92_2, e92_3, e92_5, e92_6, e92_7, e92_10, e92_13, e92_14, e92_17, e92_18, e92_19, e92_20, e92_23, e92_26, e92_29, e92_32, e92_35, e92_36, kv_s, kh_s, kr_s, kr_v, kn_s, z0, z1, z2, nI_ltI, nI_leI, nI_eq, nI_add, oN, bz0, bz1, bw0, bw1, ltT, ltF, leT, leF, eqT, eqF, if_true, if_false, kI_n, wI_n, and_true, true_and, and_false, false_and, not_true, not_false_eq_true, hx.f0, hx.f4, hx.o, hhi.o, Hi_keys hhi hd, nI_two]
  | succ n ih =>
    intro k hk
    have hn := A_isNeeded hb t2 h (p := 2 + k) (by omega) (by omega)
    rw [← ih (k + 1) (by omega)]
    have ec : cnt (nP d S W) 2 (k + 1) = cnt (nP d S W) 2 k + if nP d S W (2 + k) = true then 1 else 0 := rfl
    rw [ec]
    rw [e92_4]
    cases hp : nP d S W (2 + k) with
    | true =>
      rw [hp] at hn
      simp (disch := first | omega | exact tl_l | exact tT_len | (simp only [List.length_cons, List.length_nil])) only [e92_0, e92_1, e92_2, e92_3, e92_5, e92_6, e92_7, e92_10, e92_13, e92_14, e92_17, e92_18, e92_19, e92_20, e92_23, e92_26, e92_29, e92_32, e92_35, e92_36, kv_s, kh_s, kr_s, kr_v, kn_s, z0, z1, z2, nI_ltI, nI_leI, nI_eq, nI_add, oN, bz0, bz1, bw0, bw1, ltT, ltF, leT, leF, eqT, eqF, if_true, if_false, kI_n, wI_n, and_true, true_and, and_false, false_and, not_true, not_false_eq_true, hx.f0, hx.f4, hx.o, hhi.o, Hi_keys hhi hd, nI_two, hn, bI, n01, Nat.add_assoc]
    | false =>
      rw [hp] at hn
      simp (disch := first | omega | exact tl_l | exact tT_len | (simp only [List.length_cons, List.length_nil])) only [e92_0, e92_1, e92_2, e92_3, e92_5, e92_6, e92_7, e92_10, e92_13, e92_14, e92_17, e92_18, e92_19, e92_20, e92_23, e92_26, e92_29, e92_32, e92_35, e92_36, kv_s, kh_s, kr_s, kr_v, kn_s, z0, z1, z2, nI_ltI, nI_leI, nI_eq, nI_add, oN, bz0, bz1, bw0, bw1, ltT, ltF, leT, leF, eqT, eqF, if_true, if_false, kI_n, wI_n, and_true, true_and, and_false, false_and, not_true, not_false_eq_true, hx.f0, hx.f4, hx.o, hhi.o, Hi_keys hhi hd, nI_two, hn, bI, Bool.false_eq_true, Nat.add_assoc, Nat.add_zero]
theorem A_needed (hb : RB c σ T d f l V) {t : Nat} (t2 : isT (cw σ c A R I) t d W) (h : CH A I d S) : dcall 92 [.ref c, .ref t] (cw σ c A R I) = some (some (.int (nI (cnt (nP d S W) 2 (2 * 2 ^ d - 2)))), cw σ c A R I) := by
  have hK := hb.K
  rw [← A_needed_loop hb t2 h (2 * 2 ^ d - 2) 0 (Nat.zero_add _)]
  rw [q92]
  simp (disch := first | omega | exact tl_l | exact tT_len | (simp only [List.length_cons, List.length_nil])) only [e92_0, e92_1, e92_2, e92_3, e92_5, e92_6, e92_7, e92_10, e92_13, e92_14, e92_17, e92_18, e92_19, e92_20, e92_23, e92_26, e92_29, e92_32, e92_35, e92_36, kv_s, kh_s, kr_s, kr_v, kn_s, z0, z1, z2, nI_ltI, nI_leI, nI_eq, nI_add, oN, bz0, bz1, bw0, bw1, ltT, ltF, leT, leF, eqT, eqF, if_true, if_false, kI_n, wI_n, and_true, true_and, and_false, false_and, not_true, not_false_eq_true, cnt, Nat.add_zero]
/-- places over the chosen keys -/
def OV (d : Nat) (S O : Nat → Int32) : Prop := ∀ p, 1 ≤ p → p < 2 * 2 ^ d → O p = bI (nz d S p)
theorem onb_leaf {a b k n : Nat} (ha : a = 2 ^ d + k) (hb : 2 ^ d ≤ b) (hk : k < 2 ^ d) (hn : a < 2 ^ (n + 1)) : onb (n + 1) a b = decide (b = a) := by
  by_cases h : b = a
  · subst h
    rw [onb_self (by omega) hn, decide_eq_true rfl]
  · rw [decide_eq_false h, onb, decide_eq_true (show 1 ≤ a by omega), decide_eq_false h, onb_hi (by omega)]
    rfl
theorem nz_add (hd : d ≤ 8) {k : Nat} (hk : k < 2 ^ d) : ∀ p, 1 ≤ p → p < 2 * 2 ^ d → nz d (upd S k (nI 1)) p = (nz d S p || onb 9 (2 ^ d + k) p) := by
  have hK : 2 ^ d ≤ 256 := Nat.pow_le_pow_right (by omega) hd
  refine tree_ind (fun j hj => ?_) (fun p h1 h2 a b => ?_)
  · rw [onb_leaf (n := 8) rfl (by omega) hk (by omega)]
    unfold nz
    rw [un_leaf hj, un_leaf hj]
    by_cases hjk : j = k
    · subst hjk
      rw [pk_us, decide_eq_true (show 2 ^ d + j = 2 ^ d + j from rfl), Bool.or_true]
      rfl
    · rw [pk_un hjk, decide_eq_false (show ¬ 2 ^ d + j = 2 ^ d + k by omega), Bool.or_false]
  · have ho := (onb_kids 9 (2 ^ d + k) p (by omega) h1 (by omega)).1
    have e : ∀ X, nz d X p = (nz d X (2 * p) || nz d X (2 * p + 1)) := fun X => by
      unfold nz
      rw [un_node h1 h2]
      by_cases u : 0 < un d X (2 * p) <;> by_cases w : 0 < un d X (2 * p + 1)
      · rw [decide_eq_true u, decide_eq_true (show 0 < un d X (2 * p) + un d X (2 * p + 1) by omega)]; rfl
      · rw [decide_eq_true u, decide_eq_true (show 0 < un d X (2 * p) + un d X (2 * p + 1) by omega)]; rfl
      · rw [decide_eq_true w, decide_eq_true (show 0 < un d X (2 * p) + un d X (2 * p + 1) by omega), Bool.or_true]
      · rw [decide_eq_false u, decide_eq_false w, decide_eq_false (show ¬ 0 < un d X (2 * p) + un d X (2 * p + 1) by omega)]; rfl
    rw [e, e S, a, b, ho]
    cases nz d S (2 * p) <;> cases nz d S (2 * p + 1) <;> cases onb 9 (2 ^ d + k) (2 * p) <;> cases onb 9 (2 ^ d + k) (2 * p + 1) <;> rfl
theorem OV_add {O : Nat → Int32} (hd : d ≤ 8) (h : OV d S O) {k : Nat} (hk : k < 2 ^ d) : OV d (upd S k (nI 1)) (fun q => if onb 9 (2 ^ d + k) q = true then nI 1 else O q) := fun p h1 h2 => by
  show (if onb 9 (2 ^ d + k) p = true then nI 1 else O p) = _
  rw [nz_add hd hk p h1 h2, h p h1 h2]
  cases onb 9 (2 ^ d + k) p <;> cases nz d S p <;> rfl
theorem M_clearOver_loop : ∀ (n k : Nat) (A : Nat → Nat → Int32), k + n = 512 → (∀ p, p < k → A 9 p = nI 0) → ∃ O, den 163 2 [.ref m, .int (nI k)] [] (mw σ m A R I) = some (none, mw σ m (va_up A 9 O) R I) ∧ ∀ p, p < 512 → O p = nI 0 := by
  intro n
  induction n with
  | zero =>
    intro k A hk h0
    have : k = 512 := by omega
    subst this
    refine ⟨A 9, ?_, h0⟩
    rw [vu_id]
    rw [e163_2]
    simp (disch := first | omega | exact tl_l | exact tT_len | (simp only [List.length_cons, List.length_nil])) only [e163_0, e163_1, e163_3, e163_6, e163_9, e163_10, e163_13, e163_14, e163_15, e163_16, e163_19, e163_22, kv_s, kh_s, kr_s, kr_v, kn_s, z0, z1, z2, nI_ltI, nI_leI, nI_eq, nI_add, oN, bz0, bz1, bw0, bw1, ltT, ltF, leT, leF, eqT, eqF, if_true, if_false, kI_n, wI_n, and_true, true_and, and_false, false_and, not_true, not_false_eq_true, z512]
  | succ n ih =>
    intro k A hk h0
    obtain ⟨O, e1, e2⟩ := ih (k + 1) (va_up A 9 (upd (A 9) k (nI 0))) (by omega) (fun p hp => by
      rw [vu_at]
      by_cases h : p = k
      · subst h; rw [pk_us]
      · rw [pk_un h]; exact h0 p (by omega))
    refine ⟨O, ?_, e2⟩
    rw [vu_vu] at e1
    rw [← e1]
    rw [e163_2]
    simp (disch := first | omega | exact tl_l | exact tT_len | (simp only [List.length_cons, List.length_nil])) only [e163_0, e163_1, e163_3, e163_6, e163_9, e163_10, e163_13, e163_14, e163_15, e163_16, e163_19, e163_22, kv_s, kh_s, kr_s, kr_v, kn_s, z0, z1, z2, nI_ltI, nI_leI, nI_eq, nI_add, oN, bz0, bz1, bw0, bw1, ltT, ltF, leT, leF, eqT, eqF, if_true, if_false, kI_n, wI_n, and_true, true_and, and_false, false_and, not_true, not_false_eq_true, mwo, mwr_0, mwr_1, mwr_2, mwg_3, mwp_3, mwr_4, mwg_5, mwp_5, mwg_6, mwp_6, mwr_7, mwr_8, mwg_9, mwp_9, mwg_10, mwp_10, mwg_11, mwp_11, mwr_12, mwg_13, mwp_13, mwr_14, mwr_15, mwr_16, mwr_17, mwr_18, mwr_19, mwg_20, mwp_20, mwr_21, mwr_22, mwr_23, mwa_1, mwu_1, mwa_2, mwu_2, mwa_3, mwu_3, mwa_4, mwu_4, mwa_5, mwu_5, mwa_6, mwu_6, mwa_7, mwu_7, mwa_8, mwu_8, mwa_9, mwu_9, mwa_10, mwu_10, mwa_11, mwu_11, mwa_12, mwu_12, mwa_13, mwu_13, mwa_14, mwu_14, mwa_15, mwu_15, mwa_16, mwu_16, vu_at, vu_ne, pk_us, pk_un, kB_n, wB_n, kL_n, wL_n, z512, vnb0]
theorem M_clearOver : ∃ O, dcall 163 [.ref m] (mw σ m A R I) = some (none, mw σ m (va_up A 9 O) R I) ∧ ∀ p, p < 512 → O p = nI 0 := by
  obtain ⟨O, e1, e2⟩ := M_clearOver_loop (σ := σ) (m := m) (R := R) (I := I) 512 0 A (Nat.zero_add _) (fun p hp => absurd hp (Nat.not_lt_zero p))
  refine ⟨O, ?_, e2⟩
  rw [← e1]
  rw [q163]
  simp (disch := first | omega | exact tl_l | exact tT_len | (simp only [List.length_cons, List.length_nil])) only [e163_0, e163_1, e163_3, e163_6, e163_9, e163_10, e163_13, e163_14, e163_15, e163_16, e163_19, e163_22, kv_s, kh_s, kr_s, kr_v, kn_s, z0, z1, z2, nI_ltI, nI_leI, nI_eq, nI_add, oN, bz0, bz1, bw0, bw1, ltT, ltF, leT, leF, eqT, eqF, if_true, if_false, kI_n, wI_n, and_true, true_and, and_false, false_and, not_true, not_false_eq_true]
theorem OV_0 {O : Nat → Int32} (hd : d ≤ 8) (h : ∀ p, p < 512 → O p = nI 0) : OV d (fun _ => nI 0) O := fun p h1 h2 => by
  have hK : 2 ^ d ≤ 256 := Nat.pow_le_pow_right (by omega) hd
  rw [h p (by omega), nz, un_zero (fun _ _ => rfl) p h1 h2]
  rfl
theorem M_markOver_loop {l1 : Value} : ∀ (n p : Nat) (A : Nat → Nat → Int32), p < 2 ^ n → p < 512 → den 164 7 [.ref m, l1, .int (nI p)] [] (mw σ m A R I) = some (none, mw σ m (va_up A 9 (fun q => if onb n p q = true then nI 1 else A 9 q)) R I) := by
  intro n
  induction n with
  | zero =>
    intro p A h1 h2
    have hp : p ≤ 0 := by rw [Nat.pow_zero] at h1; omega
    have e : (fun q => if onb 0 p q = true then nI 1 else A 9 q) = A 9 := funext fun q => rfl
    rw [e, vu_id]
    rw [e164_7]
    simp (disch := first | omega | exact tl_l | exact tT_len | (simp only [List.length_cons, List.length_nil])) only [e164_0, e164_1, e164_4, e164_5, e164_6, e164_8, e164_11, e164_12, e164_15, e164_16, e164_17, e164_18, e164_19, e164_20, e164_21, e164_22, e164_25, kv_s, kh_s, kr_s, kr_v, kn_s, z0, z1, z2, nI_ltI, nI_leI, nI_eq, nI_add, oN, bz0, bz1, bw0, bw1, ltT, ltF, leT, leF, eqT, eqF, if_true, if_false, kI_n, wI_n, and_true, true_and, and_false, false_and, not_true, not_false_eq_true, hp]
  | succ n ih =>
    intro p A h1 h2
    by_cases hp : p ≤ 0
    · have h0 : p = 0 := by omega
      have e : (fun q => if onb (n + 1) p q = true then nI 1 else A 9 q) = A 9 := funext fun q => by rw [h0, onb_0]; rfl
      rw [e, vu_id]
      rw [e164_7]
      simp (disch := first | omega | exact tl_l | exact tT_len | (simp only [List.length_cons, List.length_nil])) only [e164_0, e164_1, e164_4, e164_5, e164_6, e164_8, e164_11, e164_12, e164_15, e164_16, e164_17, e164_18, e164_19, e164_20, e164_21, e164_22, e164_25, kv_s, kh_s, kr_s, kr_v, kn_s, z0, z1, z2, nI_ltI, nI_leI, nI_eq, nI_add, oN, bz0, bz1, bw0, bw1, ltT, ltF, leT, leF, eqT, eqF, if_true, if_false, kI_n, wI_n, and_true, true_and, and_false, false_and, not_true, not_false_eq_true, hp]
    · have i1 := ih (p / 2) (va_up A 9 (upd (A 9) p (nI 1))) (by rw [Nat.pow_succ] at h1; omega) (by omega)
      have e : (fun q => if onb (n + 1) p q = true then nI 1 else A 9 q) = (fun q => if onb n (p / 2) q = true then nI 1 else va_up A 9 (upd (A 9) p (nI 1)) 9 q) := funext fun q => by
        rw [vu_at, onb, decide_eq_true (show 1 ≤ p by omega), Bool.true_and]
        by_cases hq : q = p
        · subst hq
          rw [pk_us, decide_eq_true rfl]
          cases onb n (q / 2) q <;> rfl
        · rw [pk_un hq, decide_eq_false hq, Bool.false_or]
      rw [e]
      rw [vu_vu] at i1
      rw [← i1]
      rw [e164_7]
      simp (disch := first | omega | exact tl_l | exact tT_len | (simp only [List.length_cons, List.length_nil])) only [e164_0, e164_1, e164_4, e164_5, e164_6, e164_8, e164_11, e164_12, e164_15, e164_16, e164_17, e164_18, e164_19, e164_20, e164_21, e164_22, e164_25, kv_s, kh_s, kr_s, kr_v, kn_s, z0, z1, z2, nI_ltI, nI_leI, nI_eq, nI_add, oN, bz0, bz1, bw0, bw1, ltT, ltF, leT, leF, eqT, eqF, if_true, if_false, kI_n, wI_n, and_true, true_and, and_false, false_and, not_true, not_false_eq_true, mwo, mwr_0, mwr_1, mwr_2, mwg_3, mwp_3, mwr_4, mwg_5, mwp_5, mwg_6, mwp_6, mwr_7, mwr_8, mwg_9, mwp_9, mwg_10, mwp_10, mwg_11, mwp_11, mwr_12, mwg_13, mwp_13, mwr_14, mwr_15, mwr_16, mwr_17, mwr_18, mwr_19, mwg_20, mwp_20, mwr_21, mwr_22, mwr_23, mwa_1, mwu_1, mwa_2, mwu_2, mwa_3, mwu_3, mwa_4, mwu_4, mwa_5, mwu_5, mwa_6, mwu_6, mwa_7, mwu_7, mwa_8, mwu_8, mwa_9, mwu_9, mwa_10, mwu_10, mwa_11, mwu_11, mwa_12, mwu_12, mwa_13, mwu_13, mwa_14, mwu_14, mwa_15, mwu_15, mwa_16, mwu_16, vu_at, vu_ne, pk_us, pk_un, kB_n, wB_n, kL_n, wL_n, hp, vnb1, div2, eq_false (show ¬ (nI 2 = nI 0) by decide)]
theorem M_markOver (h : nowM (A 1) d f l V) {k : Nat} (hk : k < 2 ^ d) : dcall 164 [.ref m, .int (nI k)] (mw σ m A R I) = some (none, mw σ m (va_up A 9 (fun q => if onb 9 (2 ^ d + k) q = true then nI 1 else A 9 q)) R I) := by
  have hK := h.K
  rw [← M_markOver_loop (l1 := .int (nI k)) 9 (2 ^ d + k) A (by omega) (by omega)]
  rw [q164]
  simp (disch := first | omega | exact tl_l | exact tT_len | (simp only [List.length_cons, List.length_nil])) only [e164_0, e164_1, e164_4, e164_5, e164_6, e164_8, e164_11, e164_12, e164_15, e164_16, e164_17, e164_18, e164_19, e164_20, e164_21, e164_22, e164_25, kv_s, kh_s, kr_s, kr_v, kn_s, z0, z1, z2, nI_ltI, nI_leI, nI_eq, nI_add, oN, bz0, bz1, bw0, bw1, ltT, ltF, leT, leF, eqT, eqF, if_true, if_false, kI_n, wI_n, and_true, true_and, and_false, false_and, not_true, not_false_eq_true, mwo, M_keys h]
theorem M_layNeed_loop (hO : OV d S (A 9)) (hB : ∀ p, 1 ≤ p → p < 2 * 2 ^ d → A 6 p = bI (br d W p)) (h : nowM (A 1) d f l V) : ∀ (n k : Nat) (N : Nat → Int32), k + n = 2 * 2 ^ d - 2 → (∀ p, 2 ≤ p → p < 2 + k → N p = bI (nP d S W p)) → ∃ N', den 208 4 [.ref m, .int (nI (cnt (nP d S W) 2 k)), .int (nI (2 + k))] [] (mw σ m (va_up A 10 N) R I) = some (some (.int (nI (cnt (nP d S W) 2 (2 * 2 ^ d - 2)))), mw σ m (va_up A 10 N') R I) ∧ ∀ p, 2 ≤ p → p < 2 * 2 ^ d → N' p = bI (nP d S W p) := by
  have hK := h.K
  have hh : ∀ {N}, nowM (va_up A 10 N 1) d f l V := fun {N} => by rw [vu_ne (by omega)]; exact h
  intro n
  induction n with
  | zero =>
    intro k N hk h0
    have : k = 2 * 2 ^ d - 2 := by omega
    subst this
    refine ⟨N, ?_, fun p q1 q2 => h0 p q1 (by omega)⟩
    have : ¬ 2 + (2 * 2 ^ d - 2) < 2 * 2 ^ d := by omega
    rw [e208_4]
    simp (disch := first | omega | exact tl_l | exact tT_len | (simp only [List.length_cons, List.length_nil])) only [e208_0, e208_1, e208_2, e208_3, e208_5, e208_6, e208_7, e208_10, e208_11, e208_14, e208_15, e208_18, e208_19, e208_20, e208_23, e208_24, e208_27, e208_28, e208_31, e208_32, e208_35, e208_36, e208_37, e208_40, e208_41, e208_44, e208_45, e208_46, e208_49, e208_50, e208_53, e208_54, e208_55, e208_56, e208_57, e208_60, e208_61, e208_62, e208_65, e208_66, e208_69, e208_70, e208_71, e208_72, e208_75, e208_78, e208_79, kv_s, kh_s, kr_s, kr_v, kn_s, z0, z1, z2, nI_ltI, nI_leI, nI_eq, nI_add, oN, bz0, bz1, bw0, bw1, ltT, ltF, leT, leF, eqT, eqF, if_true, if_false, kI_n, wI_n, and_true, true_and, and_false, false_and, not_true, not_false_eq_true, mwo, M_keys hh, nI_two]
  | succ n ih =>
    intro k N hk h0
    have ec : cnt (nP d S W) 2 (k + 1) = cnt (nP d S W) 2 k + if nP d S W (2 + k) = true then 1 else 0 := rfl
    obtain ⟨N', e1, e2⟩ := ih (k + 1) (upd N (2 + k) (bI (nP d S W (2 + k)))) (by omega) (fun p q1 q2 => by
      by_cases hp : p = 2 + k
      · subst hp; rw [pk_us]
      · rw [pk_un hp]; exact h0 p q1 (by omega))
    refine ⟨N', ?_, e2⟩
    rw [← e1, ec]
    have es := sib_bd (d := d) (p := 2 + k) (by omega) (by omega)
    have o1 := hO (2 + k) (by omega) (by omega)
    have o2 := hO (sib (2 + k)) es.1 es.2
    have b1 := hB (2 + k) (by omega) (by omega)
    have hs := M_sibling (σ := mw σ m (va_up A 10 N) R I) (p := 2 + k) (by omega) (by omega)
    rw [e208_4]
    unfold nP
    have h10 : ∀ {X}, va_up A 10 X 9 = A 9 := fun {X} => vu_ne (by omega)
    have h16 : ∀ {X}, va_up A 10 X 6 = A 6 := fun {X} => vu_ne (by omega)
    cases z1' : nz d S (sib (2 + k)) with
    | false =>
      rw [z1'] at o2
      simp (disch := first | omega | exact tl_l | exact tT_len | (simp only [List.length_cons, List.length_nil])) only [e208_0, e208_1, e208_2, e208_3, e208_5, e208_6, e208_7, e208_10, e208_11, e208_14, e208_15, e208_18, e208_19, e208_20, e208_23, e208_24, e208_27, e208_28, e208_31, e208_32, e208_35, e208_36, e208_37, e208_40, e208_41, e208_44, e208_45, e208_46, e208_49, e208_50, e208_53, e208_54, e208_55, e208_56, e208_57, e208_60, e208_61, e208_62, e208_65, e208_66, e208_69, e208_70, e208_71, e208_72, e208_75, e208_78, e208_79, kv_s, kh_s, kr_s, kr_v, kn_s, z0, z1, z2, nI_ltI, nI_leI, nI_eq, nI_add, oN, bz0, bz1, bw0, bw1, ltT, ltF, leT, leF, eqT, eqF, if_true, if_false, kI_n, wI_n, and_true, true_and, and_false, false_and, not_true, not_false_eq_true, mwo, mwr_0, mwr_1, mwr_2, mwg_3, mwp_3, mwr_4, mwg_5, mwp_5, mwg_6, mwp_6, mwr_7, mwr_8, mwg_9, mwp_9, mwg_10, mwp_10, mwg_11, mwp_11, mwr_12, mwg_13, mwp_13, mwr_14, mwr_15, mwr_16, mwr_17, mwr_18, mwr_19, mwg_20, mwp_20, mwr_21, mwr_22, mwr_23, mwa_1, mwu_1, mwa_2, mwu_2, mwa_3, mwu_3, mwa_4, mwu_4, mwa_5, mwu_5, mwa_6, mwu_6, mwa_7, mwu_7, mwa_8, mwu_8, mwa_9, mwu_9, mwa_10, mwu_10, mwa_11, mwu_11, mwa_12, mwu_12, mwa_13, mwu_13, mwa_14, mwu_14, mwa_15, mwu_15, mwa_16, mwu_16, vu_at, vu_ne, pk_us, pk_un, kB_n, wB_n, kL_n, wL_n, M_keys hh, nI_two, h10, h16, M_sibling, o1, o2, b1, bI, vnb0, vu_vu, Bool.false_eq_true, Bool.false_and, Nat.add_zero, Nat.add_assoc]
    | true =>
      rw [z1'] at o2
      cases z2' : nz d S (2 + k) with
      | true =>
        rw [z2'] at o1
        simp (disch := first | omega | exact tl_l | exact tT_len | (simp only [List.length_cons, List.length_nil])) only [e208_0, e208_1, e208_2, e208_3, e208_5, e208_6, e208_7, e208_10, e208_11, e208_14, e208_15, e208_18, e208_19, e208_20, e208_23, e208_24, e208_27, e208_28, e208_31, e208_32, e208_35, e208_36, e208_37, e208_40, e208_41, e208_44, e208_45, e208_46, e208_49, e208_50, e208_53, e208_54, e208_55, e208_56, e208_57, e208_60, e208_61, e208_62, e208_65, e208_66, e208_69, e208_70, e208_71, e208_72, e208_75, e208_78, e208_79, kv_s, kh_s, kr_s, kr_v, kn_s, z0, z1, z2, nI_ltI, nI_leI, nI_eq, nI_add, oN, bz0, bz1, bw0, bw1, ltT, ltF, leT, leF, eqT, eqF, if_true, if_false, kI_n, wI_n, and_true, true_and, and_false, false_and, not_true, not_false_eq_true, mwo, mwr_0, mwr_1, mwr_2, mwg_3, mwp_3, mwr_4, mwg_5, mwp_5, mwg_6, mwp_6, mwr_7, mwr_8, mwg_9, mwp_9, mwg_10, mwp_10, mwg_11, mwp_11, mwr_12, mwg_13, mwp_13, mwr_14, mwr_15, mwr_16, mwr_17, mwr_18, mwr_19, mwg_20, mwp_20, mwr_21, mwr_22, mwr_23, mwa_1, mwu_1, mwa_2, mwu_2, mwa_3, mwu_3, mwa_4, mwu_4, mwa_5, mwu_5, mwa_6, mwu_6, mwa_7, mwu_7, mwa_8, mwu_8, mwa_9, mwu_9, mwa_10, mwu_10, mwa_11, mwu_11, mwa_12, mwu_12, mwa_13, mwu_13, mwa_14, mwu_14, mwa_15, mwu_15, mwa_16, mwu_16, vu_at, vu_ne, pk_us, pk_un, kB_n, wB_n, kL_n, wL_n, M_keys hh, nI_two, h10, h16, M_sibling, o1, o2, b1, bI, vnb0, vu_vu, Bool.false_eq_true, Bool.true_and, Bool.not_true, Bool.false_and, Nat.add_zero, Nat.add_assoc, n01]
      | false =>
        rw [z2'] at o1
        cases z3' : br d W (2 + k) with
        | true =>
          rw [z3'] at b1
          simp (disch := first | omega | exact tl_l | exact tT_len | (simp only [List.length_cons, List.length_nil])) only [e208_0, e208_1, e208_2, e208_3, e208_5, e208_6, e208_7, e208_10, e208_11, e208_14, e208_15, e208_18, e208_19, e208_20, e208_23, e208_24, e208_27, e208_28, e208_31, e208_32, e208_35, e208_36, e208_37, e208_40, e208_41, e208_44, e208_45, e208_46, e208_49, e208_50, e208_53, e208_54, e208_55, e208_56, e208_57, e208_60, e208_61, e208_62, e208_65, e208_66, e208_69, e208_70, e208_71, e208_72, e208_75, e208_78, e208_79, kv_s, kh_s, kr_s, kr_v, kn_s, z0, z1, z2, nI_ltI, nI_leI, nI_eq, nI_add, oN, bz0, bz1, bw0, bw1, ltT, ltF, leT, leF, eqT, eqF, if_true, if_false, kI_n, wI_n, and_true, true_and, and_false, false_and, not_true, not_false_eq_true, mwo, mwr_0, mwr_1, mwr_2, mwg_3, mwp_3, mwr_4, mwg_5, mwp_5, mwg_6, mwp_6, mwr_7, mwr_8, mwg_9, mwp_9, mwg_10, mwp_10, mwg_11, mwp_11, mwr_12, mwg_13, mwp_13, mwr_14, mwr_15, mwr_16, mwr_17, mwr_18, mwr_19, mwg_20, mwp_20, mwr_21, mwr_22, mwr_23, mwa_1, mwu_1, mwa_2, mwu_2, mwa_3, mwu_3, mwa_4, mwu_4, mwa_5, mwu_5, mwa_6, mwu_6, mwa_7, mwu_7, mwa_8, mwu_8, mwa_9, mwu_9, mwa_10, mwu_10, mwa_11, mwu_11, mwa_12, mwu_12, mwa_13, mwu_13, mwa_14, mwu_14, mwa_15, mwu_15, mwa_16, mwu_16, vu_at, vu_ne, pk_us, pk_un, kB_n, wB_n, kL_n, wL_n, M_keys hh, nI_two, h10, h16, M_sibling, o1, o2, b1, bI, vnb0, vu_vu, Bool.false_eq_true, Bool.true_and, Bool.not_true, Bool.not_false, Bool.false_and, Nat.add_zero, Nat.add_assoc, n01]
        | false =>
          rw [z3'] at b1
          simp (disch := first | omega | exact tl_l | exact tT_len | (simp only [List.length_cons, List.length_nil])) only [e208_0, e208_1, e208_2, e208_3, e208_5, e208_6, e208_7, e208_10, e208_11, e208_14, e208_15, e208_18, e208_19, e208_20, e208_23, e208_24, e208_27, e208_28, e208_31, e208_32, e208_35, e208_36, e208_37, e208_40, e208_41, e208_44, e208_45, e208_46, e208_49, e208_50, e208_53, e208_54, e208_55, e208_56, e208_57, e208_60, e208_61, e208_62, e208_65, e208_66, e208_69, e208_70, e208_71, e208_72, e208_75, e208_78, e208_79, kv_s, kh_s, kr_s, kr_v, kn_s, z0, z1, z2, nI_ltI, nI_leI, nI_eq, nI_add, oN, bz0, bz1, bw0, bw1, ltT, ltF, leT, leF, eqT, eqF, if_true, if_false, kI_n, wI_n, and_true, true_and, and_false, false_and, not_true, not_false_eq_true, mwo, mwr_0, mwr_1, mwr_2, mwg_3, mwp_3, mwr_4, mwg_5, mwp_5, mwg_6, mwp_6, mwr_7, mwr_8, mwg_9, mwp_9, mwg_10, mwp_10, mwg_11, mwp_11, mwr_12, mwg_13, mwp_13, mwr_14, mwr_15, mwr_16, mwr_17, mwr_18, mwr_19, mwg_20, mwp_20, mwr_21, mwr_22, mwr_23, mwa_1, mwu_1, mwa_2, mwu_2, mwa_3, mwu_3, mwa_4, mwu_4, mwa_5, mwu_5, mwa_6, mwu_6, mwa_7, mwu_7, mwa_8, mwu_8, mwa_9, mwu_9, mwa_10, mwu_10, mwa_11, mwu_11, mwa_12, mwu_12, mwa_13, mwu_13, mwa_14, mwu_14, mwa_15, mwu_15, mwa_16, mwu_16, vu_at, vu_ne, pk_us, pk_un, kB_n, wB_n, kL_n, wL_n, M_keys hh, nI_two, h10, h16, M_sibling, o1, o2, b1, bI, vnb1, vu_vu, Bool.false_eq_true, Bool.true_and, Bool.not_true, Bool.not_false, Bool.false_and, Nat.add_assoc, n01]
theorem M_layNeed (hO : OV d S (A 9)) (hB : ∀ p, 1 ≤ p → p < 2 * 2 ^ d → A 6 p = bI (br d W p)) (h : nowM (A 1) d f l V) : ∃ N', dcall 208 [.ref m] (mw σ m A R I) = some (some (.int (nI (cnt (nP d S W) 2 (2 * 2 ^ d - 2)))), mw σ m (va_up A 10 N') R I) ∧ ∀ p, 2 ≤ p → p < 2 * 2 ^ d → N' p = bI (nP d S W p) := by
  have hK := h.K
  obtain ⟨N', e1, e2⟩ := M_layNeed_loop (σ := σ) (m := m) (R := R) (I := I) hO hB h (2 * 2 ^ d - 2) 0 (A 10) (Nat.zero_add _) (fun p q1 q2 => by omega)
  refine ⟨N', ?_, e2⟩
  rw [vu_id] at e1
  rw [← e1]
  rw [q208]
  simp (disch := first | omega | exact tl_l | exact tT_len | (simp only [List.length_cons, List.length_nil])) only [e208_0, e208_1, e208_2, e208_3, e208_5, e208_6, e208_7, e208_10, e208_11, e208_14, e208_15, e208_18, e208_19, e208_20, e208_23, e208_24, e208_27, e208_28, e208_31, e208_32, e208_35, e208_36, e208_37, e208_40, e208_41, e208_44, e208_45, e208_46, e208_49, e208_50, e208_53, e208_54, e208_55, e208_56, e208_57, e208_60, e208_61, e208_62, e208_65, e208_66, e208_69, e208_70, e208_71, e208_72, e208_75, e208_78, e208_79, kv_s, kh_s, kr_s, kr_v, kn_s, z0, z1, z2, nI_ltI, nI_leI, nI_eq, nI_add, oN, bz0, bz1, bw0, bw1, ltT, ltF, leT, leF, eqT, eqF, if_true, if_false, kI_n, wI_n, and_true, true_and, and_false, false_and, not_true, not_false_eq_true, cnt, Nat.add_zero]
theorem M_work_loop (hO : OV d S (A 9)) (h : nowM (A 1) d f l V) : ∀ (n k : Nat), k + n = 2 * 2 ^ d - 1 → den 167 4 [.ref m, .int (nI (cnt (nz d S) 1 k)), .int (nI (1 + k))] [] (mw σ m A R I) = some (some (.int (nI (cnt (nz d S) 1 (2 * 2 ^ d - 1)))), mw σ m A R I) := by
  have hK := h.K
  intro n
  induction n with
  | zero =>
    intro k hk
    have : k = 2 * 2 ^ d - 1 := by omega
    subst this
    have : ¬ 1 + (2 * 2 ^ d - 1) < 2 * 2 ^ d := by omega
    rw [e167_4]
    simp (disch := first | omega | exact tl_l | exact tT_len | (simp only [List.length_cons, List.length_nil])) only [e167_0, e167_1, e167_2, e167_3, e167_5, e167_6, e167_7, e167_10, e167_11, e167_14, e167_15, e167_16, e167_19, e167_20, e167_21, e167_24, e167_25, e167_28, e167_29, e167_30, e167_31, e167_34, e167_37, e167_38, kv_s, kh_s, kr_s, kr_v, kn_s, z0, z1, z2, nI_ltI, nI_leI, nI_eq, nI_add, oN, bz0, bz1, bw0, bw1, ltT, ltF, leT, leF, eqT, eqF, if_true, if_false, kI_n, wI_n, and_true, true_and, and_false, false_and, not_true, not_false_eq_true, mwo, M_keys h, nI_two]
  | succ n ih =>
    intro k hk
    have ec : cnt (nz d S) 1 (k + 1) = cnt (nz d S) 1 k + if nz d S (1 + k) = true then 1 else 0 := rfl
    rw [← ih (k + 1) (by omega), ec]
    have o1 := hO (1 + k) (by omega) (by omega)
    rw [e167_4]
    cases hp : nz d S (1 + k) with
    | true =>
      rw [hp] at o1
      simp (disch := first | omega | exact tl_l | exact tT_len | (simp only [List.length_cons, List.length_nil])) only [e167_0, e167_1, e167_2, e167_3, e167_5, e167_6, e167_7, e167_10, e167_11, e167_14, e167_15, e167_16, e167_19, e167_20, e167_21, e167_24, e167_25, e167_28, e167_29, e167_30, e167_31, e167_34, e167_37, e167_38, kv_s, kh_s, kr_s, kr_v, kn_s, z0, z1, z2, nI_ltI, nI_leI, nI_eq, nI_add, oN, bz0, bz1, bw0, bw1, ltT, ltF, leT, leF, eqT, eqF, if_true, if_false, kI_n, wI_n, and_true, true_and, and_false, false_and, not_true, not_false_eq_true, mwo, mwr_0, mwr_1, mwr_2, mwg_3, mwp_3, mwr_4, mwg_5, mwp_5, mwg_6, mwp_6, mwr_7, mwr_8, mwg_9, mwp_9, mwg_10, mwp_10, mwg_11, mwp_11, mwr_12, mwg_13, mwp_13, mwr_14, mwr_15, mwr_16, mwr_17, mwr_18, mwr_19, mwg_20, mwp_20, mwr_21, mwr_22, mwr_23, mwa_1, mwu_1, mwa_2, mwu_2, mwa_3, mwu_3, mwa_4, mwu_4, mwa_5, mwu_5, mwa_6, mwu_6, mwa_7, mwu_7, mwa_8, mwu_8, mwa_9, mwu_9, mwa_10, mwu_10, mwa_11, mwu_11, mwa_12, mwu_12, mwa_13, mwu_13, mwa_14, mwu_14, mwa_15, mwu_15, mwa_16, mwu_16, vu_at, vu_ne, pk_us, pk_un, kB_n, wB_n, kL_n, wL_n, M_keys h, nI_two, o1, bI, n01, Nat.add_assoc]
    | false =>
      rw [hp] at o1
      simp (disch := first | omega | exact tl_l | exact tT_len | (simp only [List.length_cons, List.length_nil])) only [e167_0, e167_1, e167_2, e167_3, e167_5, e167_6, e167_7, e167_10, e167_11, e167_14, e167_15, e167_16, e167_19, e167_20, e167_21, e167_24, e167_25, e167_28, e167_29, e167_30, e167_31, e167_34, e167_37, e167_38, kv_s, kh_s, kr_s, kr_v, kn_s, z0, z1, z2, nI_ltI, nI_leI, nI_eq, nI_add, oN, bz0, bz1, bw0, bw1, ltT, ltF, leT, leF, eqT, eqF, if_true, if_false, kI_n, wI_n, and_true, true_and, and_false, false_and, not_true, not_false_eq_true, mwo, mwr_0, mwr_1, mwr_2, mwg_3, mwp_3, mwr_4, mwg_5, mwp_5, mwg_6, mwp_6, mwr_7, mwr_8, mwg_9, mwp_9, mwg_10, mwp_10, mwg_11, mwp_11, mwr_12, mwg_13, mwp_13, mwr_14, mwr_15, mwr_16, mwr_17, mwr_18, mwr_19, mwg_20, mwp_20, mwr_21, mwr_22, mwr_23, mwa_1, mwu_1, mwa_2, mwu_2, mwa_3, mwu_3, mwa_4, mwu_4, mwa_5, mwu_5, mwa_6, mwu_6, mwa_7, mwu_7, mwa_8, mwu_8, mwa_9, mwu_9, mwa_10, mwu_10, mwa_11, mwu_11, mwa_12, mwu_12, mwa_13, mwu_13, mwa_14, mwu_14, mwa_15, mwu_15, mwa_16, mwu_16, vu_at, vu_ne, pk_us, pk_un, kB_n, wB_n, kL_n, wL_n, M_keys h, nI_two, o1, bI, Bool.false_eq_true, Nat.add_assoc, Nat.add_zero]
theorem M_work (hO : OV d S (A 9)) (h : nowM (A 1) d f l V) : dcall 167 [.ref m] (mw σ m A R I) = some (some (.int (nI (cnt (nz d S) 1 (2 * 2 ^ d - 1)))), mw σ m A R I) := by
  have hK := h.K
  rw [← M_work_loop hO h (2 * 2 ^ d - 1) 0 (Nat.zero_add _)]
  rw [q167]
  simp (disch := first | omega | exact tl_l | exact tT_len | (simp only [List.length_cons, List.length_nil])) only [e167_0, e167_1, e167_2, e167_3, e167_5, e167_6, e167_7, e167_10, e167_11, e167_14, e167_15, e167_16, e167_19, e167_20, e167_21, e167_24, e167_25, e167_28, e167_29, e167_30, e167_31, e167_34, e167_37, e167_38, kv_s, kh_s, kr_s, kr_v, kn_s, z0, z1, z2, nI_ltI, nI_leI, nI_eq, nI_add, oN, bz0, bz1, bw0, bw1, ltT, ltF, leT, leF, eqT, eqF, if_true, if_false, kI_n, wI_n, and_true, true_and, and_false, false_and, not_true, not_false_eq_true, cnt, Nat.add_zero]
end CS
