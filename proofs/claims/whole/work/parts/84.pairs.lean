/-! reading pairs one after another -/
/-- pairs behind the first -/
def pt (n : Nat) (B : Nat → Nat) (K : Nat) (z : Bool) (cap : Nat) : Nat → List (Nat × Nat) → Nat → Nat ⊕ List (Nat × Nat)
  | 0, _, p => .inl p
  | m + 1, L, p => if p = n then .inr L else if L.length = cap then .inl p else if B p = 44 then (match rp n B K z (L.map Prod.fst) (p + 1) with
    | .inl q => .inl q
    | .inr s => pt n B K z cap m (L ++ [s.1]) s.2) else .inl p
/-- pairs as they are read -/
def PI (K : Nat) (z : Bool) (L : List (Nat × Nat)) : Prop := nd2 [] (L.map Prod.fst) ∧ ∀ y, y ∈ L → y.1 < K ∧ y.2 ≤ 999 ∧ (z = false → y.2 ≠ 0)
theorem PI_nil {K : Nat} {z : Bool} : PI K z [] := ⟨trivial, fun y hy => by cases hy⟩
theorem PI.add {K n p : Nat} {B : Nat → Nat} {z : Bool} {L : List (Nat × Nat)} (h : PI K z L) (hp : p ≤ n) {s : (Nat × Nat) × Nat} (hs : rp n B K z (L.map Prod.fst) p = .inr s) : PI K z (L ++ [s.1]) := by
  obtain ⟨b1, b2, b3, b4, b5, b6⟩ := (rp_bd (n := n) (B := B) (K := K) (z := z) (L := L.map Prod.fst) hp).2 s hs
  refine ⟨?_, fun y hy => ?_⟩
  · rw [List.map_append]
    exact nd2_app h.1 (by simpa using b4)
  · rcases List.mem_append.mp hy with w | w
    · exact h.2 y w
    · rw [List.mem_singleton.mp w]; exact ⟨b3, b5, b6⟩
/-- values placed -/
def plc (W : Nat → Int32) : List (Nat × Nat) → (Nat → Int32)
  | [] => W
  | x :: xs => plc (upd W x.1 (nI x.2)) xs
theorem plc_add {W : Nat → Int32} {L : List (Nat × Nat)} {s : Nat × Nat} : plc W (L ++ [s]) = upd (plc W L) s.1 (nI s.2) := by
  induction L generalizing W with
  | nil => rfl
  | cons x xs ih => exact ih
theorem smL_nd {f : Nat → Nat} {N : Nat} : ∀ (S P : List Nat), nd2 P S → (∀ y, y ∈ S → y < N) → smL f (P ++ S) N = smL f P N + lsm f S := by
  intro S
  induction S with
  | nil => intro P _ _; rw [List.append_nil]; rfl
  | cons v S ih =>
    intro P h1 h2
    have e : P ++ v :: S = (P ++ [v]) ++ S := by rw [List.append_assoc]; rfl
    rw [e, ih (P ++ [v]) h1.2 (fun y hy => h2 y (List.mem_cons_of_mem _ hy)), smL_add (h2 v List.mem_cons_self) h1.1, lsm]
    omega
theorem lsm_1 {L : List Nat} : lsm (fun _ => 1) L = L.length := by
  induction L with
  | nil => rfl
  | cons x xs ih => show 1 + lsm _ xs = xs.length + 1; rw [ih]; omega
theorem cnt_smP {P : Nat → Bool} {a : Nat} : ∀ n, cnt P a n = sm (fun k => if P k = true then 1 else 0) a n := by
  intro n
  induction n with
  | zero => rfl
  | succ n ih => show cnt P a n + _ = sm _ a n + _; rw [ih]
theorem un_sL {d : Nat} {L : List Nat} (h : nd2 [] L) (hm : ∀ y, y ∈ L → y < 2 ^ d) : un d (sL L) 1 = L.length := by
  rw [un_all, cnt_smP]
  have e : sm (fun k => if decide (nI 0 < sL L k) = true then 1 else 0) 0 (2 ^ d) = smL (fun _ => 1) ([] ++ L) (2 ^ d) := sm_congr fun k hk => by
    show (if decide (nI 0 < sL L (0 + k)) = true then 1 else 0) = if 0 + k ∈ [] ++ L then 1 else 0
    by_cases hl : 0 + k ∈ L
    · rw [if_pos (decide_eq_true (sL_pos.mpr hl)), if_pos (by simpa using hl)]
    · rw [if_neg (fun z => hl (sL_pos.mp (of_decide_eq_true z))), if_neg (by simpa using hl)]
  rw [e, smL_nd L [] h hm, lsm_1]
  have : ∀ N, smL (fun _ => 1) [] N = 0 := fun N => by
    unfold smL
    induction N with
    | zero => rfl
    | succ N ih => show sm _ 0 N + _ = 0; rw [ih]; simp
  rw [this, Nat.zero_add]
section PB
variable {c : Nat} {d dp f l : Nat} {V : Nat → Nat → Int32} {T : Nat → Option Nat} {R : Nat → Int64} {n : Nat} {B : Nat → Nat} {q : Nat} {W0 : Nat → Int32}
theorem C_batch_out {σ : Hp} (h : RB c σ T dp f l V) {A : Nat → Nat → Int32} {I : Nat → Int32} (hB : isB A I n B) {p i : Nat} (hp : p ≤ n) (hq : q ≤ n) (hi : i ≤ 80) : den 42 42 [.ref c, .int (nI i)] [] (cw σ c A R (ti I p (some q))) = some (some (.int (nI q)), cw σ c A R (ti I p (some q))) := by
  have hn := hB.1
  have hm := Tx_more (σ := σ) (c := c) (R := R) (e := some q) hB hp (fun r z => by cases z; omega)
  rw [if_neg (fun z => by cases z.1)] at hm
  by_cases h80 : i < 80
  · rw [e42_42]
    simp (disch := first | omega | exact tl_l | exact tT_len | (simp only [List.length_cons, List.length_nil])) only [e42_0, e42_1, e42_4, e42_7, e42_8, e42_11, e42_12, e42_15, e42_18, e42_21, e42_22, e42_25, e42_26, e42_29, e42_32, e42_35, e42_36, e42_37, e42_40, e42_41, e42_43, e42_45, e42_48, e42_49, e42_52, e42_55, e42_58, e42_59, e42_62, e42_64, e42_67, e42_68, e42_69, e42_72, e42_75, e42_78, e42_79, e42_82, e42_85, kv_s, kh_s, kr_s, kr_v, kn_s, z0, z1, z2, nI_ltI, nI_leI, nI_eq, nI_add, oN, bz0, bz1, bw0, bw1, ltT, ltF, leT, leF, eqT, eqF, if_true, if_false, kI_n, wI_n, and_true, true_and, and_false, false_and, not_true, not_false_eq_true, cwo_1, cwr_1, cwg_0, cwg_1, cwg_2, cwa_0, cwl_0, cwo_3, cwr_3, cwg_3, cwa_R, cwl_R, cwo_5, cwr_5, cwg_4, cwg_5, cwg_6, cwg_7, cwg_8, cwa_1, cwl_1, cwo_7, cwr_7, cwg_9, cwg_10, cwg_11, cwg_12, cwg_13, cwa_2, cwl_2, cwo_17, cwr_17, cwg_14, cwa_3, cwl_3, cwp_0, cwp_1, cwp_2, cwp_3, cwp_4, cwp_5, cwp_6, cwp_7, cwp_8, cwp_9, cwp_10, cwp_11, cwp_12, cwp_13, cwp_14, cwu_0, cwu_R, cwu_1, cwu_2, cwu_3, vu_at, vu_ne, pk_us, pk_un, h.x.f0, h.x.f1, h.x.f2, h.x.f3, h.x.f4, h.x.f5, h.x.f6, h.x.f7, h.x.o, h.hi.o, h.hi.gd, h.hi.gf, h.hi.gl, Hi_keys h.hi h.d8, Hi_hasKey h.hi h.d8, Rw_empty, Rw_add, List.nil_append, List.cons_append, upd_upd, cwo_1, cwo_3, cwo_5, cwo_7, cwo_17, Bool.false_eq_true, n01, z80, hm, ti_2, fl]
  · have : i = 80 := by omega
    subst this
    rw [e42_42]
    simp (disch := first | omega | exact tl_l | exact tT_len | (simp only [List.length_cons, List.length_nil])) only [e42_0, e42_1, e42_4, e42_7, e42_8, e42_11, e42_12, e42_15, e42_18, e42_21, e42_22, e42_25, e42_26, e42_29, e42_32, e42_35, e42_36, e42_37, e42_40, e42_41, e42_43, e42_45, e42_48, e42_49, e42_52, e42_55, e42_58, e42_59, e42_62, e42_64, e42_67, e42_68, e42_69, e42_72, e42_75, e42_78, e42_79, e42_82, e42_85, kv_s, kh_s, kr_s, kr_v, kn_s, z0, z1, z2, nI_ltI, nI_leI, nI_eq, nI_add, oN, bz0, bz1, bw0, bw1, ltT, ltF, leT, leF, eqT, eqF, if_true, if_false, kI_n, wI_n, and_true, true_and, and_false, false_and, not_true, not_false_eq_true, cwo_1, cwr_1, cwg_0, cwg_1, cwg_2, cwa_0, cwl_0, cwo_3, cwr_3, cwg_3, cwa_R, cwl_R, cwo_5, cwr_5, cwg_4, cwg_5, cwg_6, cwg_7, cwg_8, cwa_1, cwl_1, cwo_7, cwr_7, cwg_9, cwg_10, cwg_11, cwg_12, cwg_13, cwa_2, cwl_2, cwo_17, cwr_17, cwg_14, cwa_3, cwl_3, cwp_0, cwp_1, cwp_2, cwp_3, cwp_4, cwp_5, cwp_6, cwp_7, cwp_8, cwp_9, cwp_10, cwp_11, cwp_12, cwp_13, cwp_14, cwu_0, cwu_R, cwu_1, cwu_2, cwu_3, vu_at, vu_ne, pk_us, pk_un, h.x.f0, h.x.f1, h.x.f2, h.x.f3, h.x.f4, h.x.f5, h.x.f6, h.x.f7, h.x.o, h.hi.o, h.hi.gd, h.hi.gf, h.hi.gl, Hi_keys h.hi h.d8, Hi_hasKey h.hi h.d8, Rw_empty, Rw_add, List.nil_append, List.cons_append, upd_upd, cwo_1, cwo_3, cwo_5, cwo_7, cwo_17, Bool.false_eq_true, n01, z80, ti_2, fl]
theorem C_batch_loop (hd : d ≤ 8) : ∀ (k : Nat) (L : List (Nat × Nat)) (p i : Nat) (σ : Hp) (A : Nat → Nat → Int32) (I : Nat → Int32), RB c σ T dp f l V → isT σ (c + 12) d (plc W0 L) → isB A I n B → I 14 = nI d → okF d (sL (L.map Prod.fst)) (A 3) → PI (2 ^ d) true L → L.length ≤ p → p ≤ n → i ≤ p → n < p + k → (∀ q, pt n B (2 ^ d) true 1000 k L p = .inl q → ∃ F τ W' p', den 42 42 [.ref c, .int (nI i)] [] (cw σ c A R (ti I p none)) = some (some (.int (nI q)), cw τ c (va_up A 3 F) R (ti I p' (some q))) ∧ dft c σ τ d W' ∧ q ≤ n) ∧ ∀ L', pt n B (2 ^ d) true 1000 k L p = .inr L' → ∃ F τ, den 42 42 [.ref c, .int (nI i)] [] (cw σ c A R (ti I p none)) = some (some (.int (-nI 1)), cw τ c (va_up A 3 F) R (ti I n none)) ∧ dft c σ τ d (plc W0 L') ∧ okF d (sL (L'.map Prod.fst)) F ∧ PI (2 ^ d) true L' ∧ L'.length ≤ n := by
  have hK : 2 ^ d ≤ 256 ∧ 1 ≤ 2 ^ d := ⟨Nat.pow_le_pow_right (by omega) hd, Nat.one_le_two_pow⟩
  intro k
  induction k with
  | zero => intro L p i σ A I h hT hB hI hF hPI hL hp hi hk; omega
  | succ k ih =>
    intro L p i σ A I h hT hB hI hF hPI hL hp hi hk
    have hn := hB.1
    have hm := Tx_more (σ := σ) (c := c) (R := R) (e := none) hB hp (fun r z => by cases z)
    rw [pt]
    by_cases h1 : p = n
    · rw [if_pos h1]
      rw [if_neg (fun z => by omega)] at hm
      refine ⟨fun q z => (by cases z), fun L' z => ?_⟩
      cases z
      refine ⟨A 3, σ, ?_, dft.rf hT, hF, hPI, by omega⟩
      rw [vu_id, ← h1]
      by_cases h80 : i < 80
      · rw [e42_42]
        simp (disch := first | omega | exact tl_l | exact tT_len | (simp only [List.length_cons, List.length_nil])) only [e42_0, e42_1, e42_4, e42_7, e42_8, e42_11, e42_12, e42_15, e42_18, e42_21, e42_22, e42_25, e42_26, e42_29, e42_32, e42_35, e42_36, e42_37, e42_40, e42_41, e42_43, e42_45, e42_48, e42_49, e42_52, e42_55, e42_58, e42_59, e42_62, e42_64, e42_67, e42_68, e42_69, e42_72, e42_75, e42_78, e42_79, e42_82, e42_85, kv_s, kh_s, kr_s, kr_v, kn_s, z0, z1, z2, nI_ltI, nI_leI, nI_eq, nI_add, oN, bz0, bz1, bw0, bw1, ltT, ltF, leT, leF, eqT, eqF, if_true, if_false, kI_n, wI_n, and_true, true_and, and_false, false_and, not_true, not_false_eq_true, cwo_1, cwr_1, cwg_0, cwg_1, cwg_2, cwa_0, cwl_0, cwo_3, cwr_3, cwg_3, cwa_R, cwl_R, cwo_5, cwr_5, cwg_4, cwg_5, cwg_6, cwg_7, cwg_8, cwa_1, cwl_1, cwo_7, cwr_7, cwg_9, cwg_10, cwg_11, cwg_12, cwg_13, cwa_2, cwl_2, cwo_17, cwr_17, cwg_14, cwa_3, cwl_3, cwp_0, cwp_1, cwp_2, cwp_3, cwp_4, cwp_5, cwp_6, cwp_7, cwp_8, cwp_9, cwp_10, cwp_11, cwp_12, cwp_13, cwp_14, cwu_0, cwu_R, cwu_1, cwu_2, cwu_3, vu_at, vu_ne, pk_us, pk_un, h.x.f0, h.x.f1, h.x.f2, h.x.f3, h.x.f4, h.x.f5, h.x.f6, h.x.f7, h.x.o, h.hi.o, h.hi.gd, h.hi.gf, h.hi.gl, Hi_keys h.hi h.d8, Hi_hasKey h.hi h.d8, Rw_empty, Rw_add, List.nil_append, List.cons_append, upd_upd, cwo_1, cwo_3, cwo_5, cwo_7, cwo_17, Bool.false_eq_true, n01, z80, hm, ti_2, fl]
      · have : i = 80 := by omega
        subst this
        rw [e42_42]
        simp (disch := first | omega | exact tl_l | exact tT_len | (simp only [List.length_cons, List.length_nil])) only [e42_0, e42_1, e42_4, e42_7, e42_8, e42_11, e42_12, e42_15, e42_18, e42_21, e42_22, e42_25, e42_26, e42_29, e42_32, e42_35, e42_36, e42_37, e42_40, e42_41, e42_43, e42_45, e42_48, e42_49, e42_52, e42_55, e42_58, e42_59, e42_62, e42_64, e42_67, e42_68, e42_69, e42_72, e42_75, e42_78, e42_79, e42_82, e42_85, kv_s, kh_s, kr_s, kr_v, kn_s, z0, z1, z2, nI_ltI, nI_leI, nI_eq, nI_add, oN, bz0, bz1, bw0, bw1, ltT, ltF, leT, leF, eqT, eqF, if_true, if_false, kI_n, wI_n, and_true, true_and, and_false, false_and, not_true, not_false_eq_true, cwo_1, cwr_1, cwg_0, cwg_1, cwg_2, cwa_0, cwl_0, cwo_3, cwr_3, cwg_3, cwa_R, cwl_R, cwo_5, cwr_5, cwg_4, cwg_5, cwg_6, cwg_7, cwg_8, cwa_1, cwl_1, cwo_7, cwr_7, cwg_9, cwg_10, cwg_11, cwg_12, cwg_13, cwa_2, cwl_2, cwo_17, cwr_17, cwg_14, cwa_3, cwl_3, cwp_0, cwp_1, cwp_2, cwp_3, cwp_4, cwp_5, cwp_6, cwp_7, cwp_8, cwp_9, cwp_10, cwp_11, cwp_12, cwp_13, cwp_14, cwu_0, cwu_R, cwu_1, cwu_2, cwu_3, vu_at, vu_ne, pk_us, pk_un, h.x.f0, h.x.f1, h.x.f2, h.x.f3, h.x.f4, h.x.f5, h.x.f6, h.x.f7, h.x.o, h.hi.o, h.hi.gd, h.hi.gf, h.hi.gl, Hi_keys h.hi h.d8, Hi_hasKey h.hi h.d8, Rw_empty, Rw_add, List.nil_append, List.cons_append, upd_upd, cwo_1, cwo_3, cwo_5, cwo_7, cwo_17, Bool.false_eq_true, n01, z80, ti_2, fl]
    · rw [if_neg h1]
      have hlt : p < n := by omega
      have h80 : i < 80 := by omega
      rw [if_pos ⟨rfl, hlt⟩] at hm
      rw [if_neg (show ¬ L.length = 1000 by omega)]
      have hmu := Tx_must (σ := σ) (c := c) (R := R) (e := none) hB hp (fun r z => by cases z) (s := 44) (by omega)
      by_cases h2 : B p = 44
      · rw [if_pos h2]
        rw [if_pos ⟨hlt, h2⟩] at hmu
        obtain ⟨a1, a2⟩ := A_pair (R := R) h hd hT hB hI (show p + 1 ≤ n by omega) hF (z := true)
        have hbd := rp_bd (n := n) (B := B) (K := 2 ^ d) (z := true) (L := L.map Prod.fst) (show p + 1 ≤ n by omega)
        cases hr : rp n B (2 ^ d) true (L.map Prod.fst) (p + 1) with
        | inl q0 =>
          obtain ⟨F, τ, W', p', k1, k2, k3⟩ := a1 q0 hr
          have hq := hbd.1 q0 hr
          refine ⟨fun q z => ?_, fun L' z => (by cases z)⟩
          cases z
          refine ⟨F, τ, W', p', ?_, k2, hq⟩
          have ho := C_batch_out (R := R) (i := i + 1) (h.dft k2) (A := va_up A 3 F) (I := I) (n := n) (B := B) hB.up3 k3 hq (by omega)
          rw [← ho]
          have k1 : dcall 32 [.ref c, .int (nI 1)] (cw σ c A R (ti I (p + 1) none)) = some (none, cw τ c (va_up A 3 F) R (ti I p' (some q0))) := k1
          rw [e42_42]
          simp (disch := first | omega | exact tl_l | exact tT_len | (simp only [List.length_cons, List.length_nil])) only [e42_0, e42_1, e42_4, e42_7, e42_8, e42_11, e42_12, e42_15, e42_18, e42_21, e42_22, e42_25, e42_26, e42_29, e42_32, e42_35, e42_36, e42_37, e42_40, e42_41, e42_43, e42_45, e42_48, e42_49, e42_52, e42_55, e42_58, e42_59, e42_62, e42_64, e42_67, e42_68, e42_69, e42_72, e42_75, e42_78, e42_79, e42_82, e42_85, kv_s, kh_s, kr_s, kr_v, kn_s, z0, z1, z2, nI_ltI, nI_leI, nI_eq, nI_add, oN, bz0, bz1, bw0, bw1, ltT, ltF, leT, leF, eqT, eqF, if_true, if_false, kI_n, wI_n, and_true, true_and, and_false, false_and, not_true, not_false_eq_true, cwo_1, cwr_1, cwg_0, cwg_1, cwg_2, cwa_0, cwl_0, cwo_3, cwr_3, cwg_3, cwa_R, cwl_R, cwo_5, cwr_5, cwg_4, cwg_5, cwg_6, cwg_7, cwg_8, cwa_1, cwl_1, cwo_7, cwr_7, cwg_9, cwg_10, cwg_11, cwg_12, cwg_13, cwa_2, cwl_2, cwo_17, cwr_17, cwg_14, cwa_3, cwl_3, cwp_0, cwp_1, cwp_2, cwp_3, cwp_4, cwp_5, cwp_6, cwp_7, cwp_8, cwp_9, cwp_10, cwp_11, cwp_12, cwp_13, cwp_14, cwu_0, cwu_R, cwu_1, cwu_2, cwu_3, vu_at, vu_ne, pk_us, pk_un, h.x.f0, h.x.f1, h.x.f2, h.x.f3, h.x.f4, h.x.f5, h.x.f6, h.x.f7, h.x.o, h.hi.o, h.hi.gd, h.hi.gf, h.hi.gl, Hi_keys h.hi h.d8, Hi_hasKey h.hi h.d8, Rw_empty, Rw_add, List.nil_append, List.cons_append, upd_upd, cwo_1, cwo_3, cwo_5, cwo_7, cwo_17, Bool.false_eq_true, n01, z80, z44, hm, hmu, k1]
        | inr s0 =>
          obtain ⟨F, τ, k1, k2, k3⟩ := a2 s0 hr
          obtain ⟨b1, b2, b3⟩ := hbd.2 s0 hr
          have k1 : dcall 32 [.ref c, .int (nI 1)] (cw σ c A R (ti I (p + 1) none)) = some (none, cw τ c (va_up A 3 F) R (ti I s0.2 none)) := k1
          have e : den 42 42 [.ref c, .int (nI i)] [] (cw σ c A R (ti I p none)) = den 42 42 [.ref c, .int (nI (i + 1))] [] (cw τ c (va_up A 3 F) R (ti I s0.2 none)) := by
            rw [e42_42]
            simp (disch := first | omega | exact tl_l | exact tT_len | (simp only [List.length_cons, List.length_nil])) only [e42_0, e42_1, e42_4, e42_7, e42_8, e42_11, e42_12, e42_15, e42_18, e42_21, e42_22, e42_25, e42_26, e42_29, e42_32, e42_35, e42_36, e42_37, e42_40, e42_41, e42_43, e42_45, e42_48, e42_49, e42_52, e42_55, e42_58, e42_59, e42_62, e42_64, e42_67, e42_68, e42_69, e42_72, e42_75, e42_78, e42_79, e42_82, e42_85, kv_s, kh_s, kr_s, kr_v, kn_s, z0, z1, z2, nI_ltI, nI_leI, nI_eq, nI_add, oN, bz0, bz1, bw0, bw1, ltT, ltF, leT, leF, eqT, eqF, if_true, if_false, kI_n, wI_n, and_true, true_and, and_false, false_and, not_true, not_false_eq_true, cwo_1, cwr_1, cwg_0, cwg_1, cwg_2, cwa_0, cwl_0, cwo_3, cwr_3, cwg_3, cwa_R, cwl_R, cwo_5, cwr_5, cwg_4, cwg_5, cwg_6, cwg_7, cwg_8, cwa_1, cwl_1, cwo_7, cwr_7, cwg_9, cwg_10, cwg_11, cwg_12, cwg_13, cwa_2, cwl_2, cwo_17, cwr_17, cwg_14, cwa_3, cwl_3, cwp_0, cwp_1, cwp_2, cwp_3, cwp_4, cwp_5, cwp_6, cwp_7, cwp_8, cwp_9, cwp_10, cwp_11, cwp_12, cwp_13, cwp_14, cwu_0, cwu_R, cwu_1, cwu_2, cwu_3, vu_at, vu_ne, pk_us, pk_un, h.x.f0, h.x.f1, h.x.f2, h.x.f3, h.x.f4, h.x.f5, h.x.f6, h.x.f7, h.x.o, h.hi.o, h.hi.gd, h.hi.gf, h.hi.gl, Hi_keys h.hi h.d8, Hi_hasKey h.hi h.d8, Rw_empty, Rw_add, List.nil_append, List.cons_append, upd_upd, cwo_1, cwo_3, cwo_5, cwo_7, cwo_17, Bool.false_eq_true, n01, z80, z44, hm, hmu, k1]
          have hll : (L ++ [s0.1]).length = L.length + 1 := by rw [List.length_append]; rfl
          obtain ⟨i1, i2⟩ := ih (L ++ [s0.1]) s0.2 (i + 1) τ (va_up A 3 F) I (h.dft k2) (by rw [plc_add]; exact k2.2.2) hB.up3 hI (by rw [vu_at, List.map_append]; exact k3) (hPI.add (show p + 1 ≤ n by omega) hr) (by omega) b2 (by omega) (by omega)
          rw [e]
          refine ⟨fun q z => ?_, fun L' z => ?_⟩
          · obtain ⟨F', τ', W', p', w1, w2, w3⟩ := i1 q z
            rw [vu_vu] at w1
            exact ⟨F', τ', W', p', w1, k2.tr w2, w3⟩
          · obtain ⟨F', τ', w1, w2, w3⟩ := i2 L' z
            rw [vu_vu] at w1
            exact ⟨F', τ', w1, k2.tr w2, w3⟩
      · rw [if_neg h2]
        rw [if_neg (fun z => h2 z.2)] at hmu
        have hmu : dcall 30 [.ref (c + 1), .int (nI 44)] (cw σ c A R (ti I p none)) = some (none, cw σ c A R (ti I p (some p))) := hmu
        refine ⟨fun q z => ?_, fun L' z => (by cases z)⟩
        cases z
        obtain ⟨F, τ, W', p', k1, k2, k3⟩ := A_pair_no (R := R) h hd hT hB hI hp hp (z := true)
        refine ⟨F, τ, W', p', ?_, k2, hp⟩
        have ho := C_batch_out (R := R) (i := i + 1) (h.dft k2) (A := va_up A 3 F) (I := I) (n := n) (B := B) hB.up3 k3 hp (by omega)
        rw [← ho]
        have k1 : dcall 32 [.ref c, .int (nI 1)] (cw σ c A R (ti I p (some p))) = some (none, cw τ c (va_up A 3 F) R (ti I p' (some p))) := k1
        rw [e42_42]
        simp (disch := first | omega | exact tl_l | exact tT_len | (simp only [List.length_cons, List.length_nil])) only [e42_0, e42_1, e42_4, e42_7, e42_8, e42_11, e42_12, e42_15, e42_18, e42_21, e42_22, e42_25, e42_26, e42_29, e42_32, e42_35, e42_36, e42_37, e42_40, e42_41, e42_43, e42_45, e42_48, e42_49, e42_52, e42_55, e42_58, e42_59, e42_62, e42_64, e42_67, e42_68, e42_69, e42_72, e42_75, e42_78, e42_79, e42_82, e42_85, kv_s, kh_s, kr_s, kr_v, kn_s, z0, z1, z2, nI_ltI, nI_leI, nI_eq, nI_add, oN, bz0, bz1, bw0, bw1, ltT, ltF, leT, leF, eqT, eqF, if_true, if_false, kI_n, wI_n, and_true, true_and, and_false, false_and, not_true, not_false_eq_true, cwo_1, cwr_1, cwg_0, cwg_1, cwg_2, cwa_0, cwl_0, cwo_3, cwr_3, cwg_3, cwa_R, cwl_R, cwo_5, cwr_5, cwg_4, cwg_5, cwg_6, cwg_7, cwg_8, cwa_1, cwl_1, cwo_7, cwr_7, cwg_9, cwg_10, cwg_11, cwg_12, cwg_13, cwa_2, cwl_2, cwo_17, cwr_17, cwg_14, cwa_3, cwl_3, cwp_0, cwp_1, cwp_2, cwp_3, cwp_4, cwp_5, cwp_6, cwp_7, cwp_8, cwp_9, cwp_10, cwp_11, cwp_12, cwp_13, cwp_14, cwu_0, cwu_R, cwu_1, cwu_2, cwu_3, vu_at, vu_ne, pk_us, pk_un, h.x.f0, h.x.f1, h.x.f2, h.x.f3, h.x.f4, h.x.f5, h.x.f6, h.x.f7, h.x.o, h.hi.o, h.hi.gd, h.hi.gf, h.hi.gl, Hi_keys h.hi h.d8, Hi_hasKey h.hi h.d8, Rw_empty, Rw_add, List.nil_append, List.cons_append, upd_upd, cwo_1, cwo_3, cwo_5, cwo_7, cwo_17, Bool.false_eq_true, n01, z80, z44, hm, hmu, k1]
theorem C_map_out {σ : Hp} (h : RB c σ T dp f l V) {A : Nat → Nat → Int32} {I : Nat → Int32} (hB : isB A I n B) {p i : Nat} (hp : p ≤ n) (hq : q ≤ n) (hi : i ≤ 80) {l1 : Value} : den 23 73 [.ref c, l1, .int (nI i)] [] (cw σ c A R (ti I p (some q))) = some (some (.int (nI q)), cw σ c A R (ti I p (some q))) := by
  have hn := hB.1
  have hm := Tx_more (σ := σ) (c := c) (R := R) (e := some q) hB hp (fun r z => by cases z; omega)
  rw [if_neg (fun z => by cases z.1)] at hm
  by_cases h80 : i < 80
  · rw [e23_73]
    simp (disch := first | omega | exact tl_l | exact tT_len | (simp only [List.length_cons, List.length_nil])) only [e23_0, e23_1, e23_4, e23_7, e23_8, e23_11, e23_14, e23_15, e23_16, e23_17, e23_20, e23_21, e23_23, e23_26, e23_27, e23_30, e23_31, e23_34, e23_35, e23_38, e23_41, e23_42, e23_43, e23_46, e23_47, e23_50, e23_51, e23_52, e23_55, e23_56, e23_59, e23_60, e23_63, e23_64, e23_67, e23_68, e23_71, e23_72, e23_74, e23_76, e23_79, e23_80, e23_83, e23_86, e23_89, e23_90, e23_93, e23_96, e23_98, e23_101, e23_102, e23_105, e23_106, e23_109, e23_112, e23_115, e23_116, e23_119, e23_121, e23_124, e23_125, e23_126, e23_129, e23_132, e23_135, e23_136, e23_139, e23_142, kv_s, kh_s, kr_s, kr_v, kn_s, z0, z1, z2, nI_ltI, nI_leI, nI_eq, nI_add, oN, bz0, bz1, bw0, bw1, ltT, ltF, leT, leF, eqT, eqF, if_true, if_false, kI_n, wI_n, and_true, true_and, and_false, false_and, not_true, not_false_eq_true, cwo_1, cwr_1, cwg_0, cwg_1, cwg_2, cwa_0, cwl_0, cwo_3, cwr_3, cwg_3, cwa_R, cwl_R, cwo_5, cwr_5, cwg_4, cwg_5, cwg_6, cwg_7, cwg_8, cwa_1, cwl_1, cwo_7, cwr_7, cwg_9, cwg_10, cwg_11, cwg_12, cwg_13, cwa_2, cwl_2, cwo_17, cwr_17, cwg_14, cwa_3, cwl_3, cwp_0, cwp_1, cwp_2, cwp_3, cwp_4, cwp_5, cwp_6, cwp_7, cwp_8, cwp_9, cwp_10, cwp_11, cwp_12, cwp_13, cwp_14, cwu_0, cwu_R, cwu_1, cwu_2, cwu_3, vu_at, vu_ne, pk_us, pk_un, h.x.f0, h.x.f1, h.x.f2, h.x.f3, h.x.f4, h.x.f5, h.x.f6, h.x.f7, h.x.o, h.hi.o, h.hi.gd, h.hi.gf, h.hi.gl, Hi_keys h.hi h.d8, Hi_hasKey h.hi h.d8, Rw_empty, Rw_add, List.nil_append, List.cons_append, upd_upd, cwo_1, cwo_3, cwo_5, cwo_7, cwo_17, Bool.false_eq_true, n01, z80, hm, ti_2, fl]
  · have : i = 80 := by omega
    subst this
    rw [e23_73]
    simp (disch := first | omega | exact tl_l | exact tT_len | (simp only [List.length_cons, List.length_nil])) only [e23_0, e23_1, e23_4, e23_7, e23_8, e23_11, e23_14, e23_15, e23_16, e23_17, e23_20, e23_21, e23_23, e23_26, e23_27, e23_30, e23_31, e23_34, e23_35, e23_38, e23_41, e23_42, e23_43, e23_46, e23_47, e23_50, e23_51, e23_52, e23_55, e23_56, e23_59, e23_60, e23_63, e23_64, e23_67, e23_68, e23_71, e23_72, e23_74, e23_76, e23_79, e23_80, e23_83, e23_86, e23_89, e23_90, e23_93, e23_96, e23_98, e23_101, e23_102, e23_105, e23_106, e23_109, e23_112, e23_115, e23_116, e23_119, e23_121, e23_124, e23_125, e23_126, e23_129, e23_132, e23_135, e23_136, e23_139, e23_142, kv_s, kh_s, kr_s, kr_v, kn_s, z0, z1, z2, nI_ltI, nI_leI, nI_eq, nI_add, oN, bz0, bz1, bw0, bw1, ltT, ltF, leT, leF, eqT, eqF, if_true, if_false, kI_n, wI_n, and_true, true_and, and_false, false_and, not_true, not_false_eq_true, cwo_1, cwr_1, cwg_0, cwg_1, cwg_2, cwa_0, cwl_0, cwo_3, cwr_3, cwg_3, cwa_R, cwl_R, cwo_5, cwr_5, cwg_4, cwg_5, cwg_6, cwg_7, cwg_8, cwa_1, cwl_1, cwo_7, cwr_7, cwg_9, cwg_10, cwg_11, cwg_12, cwg_13, cwa_2, cwl_2, cwo_17, cwr_17, cwg_14, cwa_3, cwl_3, cwp_0, cwp_1, cwp_2, cwp_3, cwp_4, cwp_5, cwp_6, cwp_7, cwp_8, cwp_9, cwp_10, cwp_11, cwp_12, cwp_13, cwp_14, cwu_0, cwu_R, cwu_1, cwu_2, cwu_3, vu_at, vu_ne, pk_us, pk_un, h.x.f0, h.x.f1, h.x.f2, h.x.f3, h.x.f4, h.x.f5, h.x.f6, h.x.f7, h.x.o, h.hi.o, h.hi.gd, h.hi.gf, h.hi.gl, Hi_keys h.hi h.d8, Hi_hasKey h.hi h.d8, Rw_empty, Rw_add, List.nil_append, List.cons_append, upd_upd, cwo_1, cwo_3, cwo_5, cwo_7, cwo_17, Bool.false_eq_true, n01, z80, ti_2, fl]
theorem C_map_loop (hd : d ≤ 8) {l1 : Value} : ∀ (k : Nat) (L : List (Nat × Nat)) (p i : Nat) (σ : Hp) (A : Nat → Nat → Int32) (I : Nat → Int32), RB c σ T dp f l V → isT σ (c + 12) d (plc W0 L) → isB A I n B → I 14 = nI d → okF d (sL (L.map Prod.fst)) (A 3) → PI (2 ^ d) false L → L.length ≤ p → p ≤ n → i ≤ p → n < p + k → (∀ q, pt n B (2 ^ d) false 40 k L p = .inl q → ∃ F τ W' p', den 23 73 [.ref c, l1, .int (nI i)] [] (cw σ c A R (ti I p none)) = some (some (.int (nI q)), cw τ c (va_up A 3 F) R (ti I p' (some q))) ∧ dft c σ τ d W' ∧ q ≤ n) ∧ ∀ L', pt n B (2 ^ d) false 40 k L p = .inr L' → ∃ F τ, den 23 73 [.ref c, l1, .int (nI i)] [] (cw σ c A R (ti I p none)) = some (some (.int (-nI 1)), cw τ c (va_up A 3 F) R (ti I n none)) ∧ dft c σ τ d (plc W0 L') ∧ okF d (sL (L'.map Prod.fst)) F ∧ PI (2 ^ d) false L' ∧ L'.length ≤ n := by
  have hK : 2 ^ d ≤ 256 ∧ 1 ≤ 2 ^ d := ⟨Nat.pow_le_pow_right (by omega) hd, Nat.one_le_two_pow⟩
  intro k
  induction k with
  | zero => intro L p i σ A I h hT hB hI hF hPI hL hp hi hk; omega
  | succ k ih =>
    intro L p i σ A I h hT hB hI hF hPI hL hp hi hk
    have hn := hB.1
    have hm := Tx_more (σ := σ) (c := c) (R := R) (e := none) hB hp (fun r z => by cases z)
    have hsz : ∀ e, dcall 29 [.ref (c + 17)] (cw σ c A R (ti I p e)) = some (some (.int (nI L.length)), cw σ c A R (ti I p e)) := fun e => by
      have := Ch_size (σ := σ) (c := c) (A := A) (R := R) (I := ti I p e) (d := d) (S := sL (L.map Prod.fst)) ⟨(ti_o (by omega) (by omega)).trans hI, hF⟩
      rw [un_sL hPI.1 (fun y hy => by obtain ⟨w, w1, w2⟩ := List.mem_map.mp hy; rw [← w2]; exact (hPI.2 w w1).1), List.length_map] at this
      exact this
    rw [pt]
    by_cases h1 : p = n
    · rw [if_pos h1]
      rw [if_neg (fun z => by omega)] at hm
      refine ⟨fun q z => (by cases z), fun L' z => ?_⟩
      cases z
      refine ⟨A 3, σ, ?_, dft.rf hT, hF, hPI, by omega⟩
      rw [vu_id, ← h1]
      by_cases h80 : i < 80
      · rw [e23_73]
        simp (disch := first | omega | exact tl_l | exact tT_len | (simp only [List.length_cons, List.length_nil])) only [e23_0, e23_1, e23_4, e23_7, e23_8, e23_11, e23_14, e23_15, e23_16, e23_17, e23_20, e23_21, e23_23, e23_26, e23_27, e23_30, e23_31, e23_34, e23_35, e23_38, e23_41, e23_42, e23_43, e23_46, e23_47, e23_50, e23_51, e23_52, e23_55, e23_56, e23_59, e23_60, e23_63, e23_64, e23_67, e23_68, e23_71, e23_72, e23_74, e23_76, e23_79, e23_80, e23_83, e23_86, e23_89, e23_90, e23_93, e23_96, e23_98, e23_101, e23_102, e23_105, e23_106, e23_109, e23_112, e23_115, e23_116, e23_119, e23_121, e23_124, e23_125, e23_126, e23_129, e23_132, e23_135, e23_136, e23_139, e23_142, kv_s, kh_s, kr_s, kr_v, kn_s, z0, z1, z2, nI_ltI, nI_leI, nI_eq, nI_add, oN, bz0, bz1, bw0, bw1, ltT, ltF, leT, leF, eqT, eqF, if_true, if_false, kI_n, wI_n, and_true, true_and, and_false, false_and, not_true, not_false_eq_true, cwo_1, cwr_1, cwg_0, cwg_1, cwg_2, cwa_0, cwl_0, cwo_3, cwr_3, cwg_3, cwa_R, cwl_R, cwo_5, cwr_5, cwg_4, cwg_5, cwg_6, cwg_7, cwg_8, cwa_1, cwl_1, cwo_7, cwr_7, cwg_9, cwg_10, cwg_11, cwg_12, cwg_13, cwa_2, cwl_2, cwo_17, cwr_17, cwg_14, cwa_3, cwl_3, cwp_0, cwp_1, cwp_2, cwp_3, cwp_4, cwp_5, cwp_6, cwp_7, cwp_8, cwp_9, cwp_10, cwp_11, cwp_12, cwp_13, cwp_14, cwu_0, cwu_R, cwu_1, cwu_2, cwu_3, vu_at, vu_ne, pk_us, pk_un, h.x.f0, h.x.f1, h.x.f2, h.x.f3, h.x.f4, h.x.f5, h.x.f6, h.x.f7, h.x.o, h.hi.o, h.hi.gd, h.hi.gf, h.hi.gl, Hi_keys h.hi h.d8, Hi_hasKey h.hi h.d8, Rw_empty, Rw_add, List.nil_append, List.cons_append, upd_upd, cwo_1, cwo_3, cwo_5, cwo_7, cwo_17, Bool.false_eq_true, n01, z80, hm, ti_2, fl]
      · have : i = 80 := by omega
        subst this
        rw [e23_73]
        simp (disch := first | omega | exact tl_l | exact tT_len | (simp only [List.length_cons, List.length_nil])) only [e23_0, e23_1, e23_4, e23_7, e23_8, e23_11, e23_14, e23_15, e23_16, e23_17, e23_20, e23_21, e23_23, e23_26, e23_27, e23_30, e23_31, e23_34, e23_35, e23_38, e23_41, e23_42, e23_43, e23_46, e23_47, e23_50, e23_51, e23_52, e23_55, e23_56, e23_59, e23_60, e23_63, e23_64, e23_67, e23_68, e23_71, e23_72, e23_74, e23_76, e23_79, e23_80, e23_83, e23_86, e23_89, e23_90, e23_93, e23_96, e23_98, e23_101, e23_102, e23_105, e23_106, e23_109, e23_112, e23_115, e23_116, e23_119, e23_121, e23_124, e23_125, e23_126, e23_129, e23_132, e23_135, e23_136, e23_139, e23_142, kv_s, kh_s, kr_s, kr_v, kn_s, z0, z1, z2, nI_ltI, nI_leI, nI_eq, nI_add, oN, bz0, bz1, bw0, bw1, ltT, ltF, leT, leF, eqT, eqF, if_true, if_false, kI_n, wI_n, and_true, true_and, and_false, false_and, not_true, not_false_eq_true, cwo_1, cwr_1, cwg_0, cwg_1, cwg_2, cwa_0, cwl_0, cwo_3, cwr_3, cwg_3, cwa_R, cwl_R, cwo_5, cwr_5, cwg_4, cwg_5, cwg_6, cwg_7, cwg_8, cwa_1, cwl_1, cwo_7, cwr_7, cwg_9, cwg_10, cwg_11, cwg_12, cwg_13, cwa_2, cwl_2, cwo_17, cwr_17, cwg_14, cwa_3, cwl_3, cwp_0, cwp_1, cwp_2, cwp_3, cwp_4, cwp_5, cwp_6, cwp_7, cwp_8, cwp_9, cwp_10, cwp_11, cwp_12, cwp_13, cwp_14, cwu_0, cwu_R, cwu_1, cwu_2, cwu_3, vu_at, vu_ne, pk_us, pk_un, h.x.f0, h.x.f1, h.x.f2, h.x.f3, h.x.f4, h.x.f5, h.x.f6, h.x.f7, h.x.o, h.hi.o, h.hi.gd, h.hi.gf, h.hi.gl, Hi_keys h.hi h.d8, Hi_hasKey h.hi h.d8, Rw_empty, Rw_add, List.nil_append, List.cons_append, upd_upd, cwo_1, cwo_3, cwo_5, cwo_7, cwo_17, Bool.false_eq_true, n01, z80, ti_2, fl]
    · rw [if_neg h1]
      have hlt : p < n := by omega
      have h80 : i < 80 := by omega
      rw [if_pos ⟨rfl, hlt⟩] at hm
      by_cases hcap : L.length = 40
      · rw [if_pos hcap]
        refine ⟨fun q z => ?_, fun L' z => (by cases z)⟩
        cases z
        have hfl := Tx_fail (σ := σ) (c := c) (A := A) (R := R) (I := I) (p := p) (e := none) (q := p) (fun r z => by cases z)
        have hfl : dcall 27 [.ref (c + 1), .int (nI p)] (cw σ c A R (ti I p none)) = some (none, cw σ c A R (ti I p (some p))) := hfl
        have hmu := Tx_must (σ := σ) (c := c) (R := R) (e := some p) hB hp (fun r z => by cases z; omega) (s := 44) (by omega)
        by_cases h2 : p < n ∧ B p = 44
        · rw [if_pos h2] at hmu
          obtain ⟨F, τ, W', p', k1, k2, k3⟩ := A_pair_no (R := R) h hd hT hB hI (show p + 1 ≤ n by omega) hp (z := false)
          refine ⟨F, τ, W', p', ?_, k2, hp⟩
          have ho := C_map_out (R := R) (i := i + 1) (h.dft k2) (A := va_up A 3 F) (I := I) (n := n) (B := B) hB.up3 k3 hp (by omega) (l1 := l1)
          rw [← ho]
          have k1 : dcall 32 [.ref c, .int (nI 0)] (cw σ c A R (ti I (p + 1) (some p))) = some (none, cw τ c (va_up A 3 F) R (ti I p' (some p))) := k1
          rw [e23_73]
          simp (disch := first | omega | exact tl_l | exact tT_len | (simp only [List.length_cons, List.length_nil])) only [e23_0, e23_1, e23_4, e23_7, e23_8, e23_11, e23_14, e23_15, e23_16, e23_17, e23_20, e23_21, e23_23, e23_26, e23_27, e23_30, e23_31, e23_34, e23_35, e23_38, e23_41, e23_42, e23_43, e23_46, e23_47, e23_50, e23_51, e23_52, e23_55, e23_56, e23_59, e23_60, e23_63, e23_64, e23_67, e23_68, e23_71, e23_72, e23_74, e23_76, e23_79, e23_80, e23_83, e23_86, e23_89, e23_90, e23_93, e23_96, e23_98, e23_101, e23_102, e23_105, e23_106, e23_109, e23_112, e23_115, e23_116, e23_119, e23_121, e23_124, e23_125, e23_126, e23_129, e23_132, e23_135, e23_136, e23_139, e23_142, kv_s, kh_s, kr_s, kr_v, kn_s, z0, z1, z2, nI_ltI, nI_leI, nI_eq, nI_add, oN, bz0, bz1, bw0, bw1, ltT, ltF, leT, leF, eqT, eqF, if_true, if_false, kI_n, wI_n, and_true, true_and, and_false, false_and, not_true, not_false_eq_true, cwo_1, cwr_1, cwg_0, cwg_1, cwg_2, cwa_0, cwl_0, cwo_3, cwr_3, cwg_3, cwa_R, cwl_R, cwo_5, cwr_5, cwg_4, cwg_5, cwg_6, cwg_7, cwg_8, cwa_1, cwl_1, cwo_7, cwr_7, cwg_9, cwg_10, cwg_11, cwg_12, cwg_13, cwa_2, cwl_2, cwo_17, cwr_17, cwg_14, cwa_3, cwl_3, cwp_0, cwp_1, cwp_2, cwp_3, cwp_4, cwp_5, cwp_6, cwp_7, cwp_8, cwp_9, cwp_10, cwp_11, cwp_12, cwp_13, cwp_14, cwu_0, cwu_R, cwu_1, cwu_2, cwu_3, vu_at, vu_ne, pk_us, pk_un, h.x.f0, h.x.f1, h.x.f2, h.x.f3, h.x.f4, h.x.f5, h.x.f6, h.x.f7, h.x.o, h.hi.o, h.hi.gd, h.hi.gf, h.hi.gl, Hi_keys h.hi h.d8, Hi_hasKey h.hi h.d8, Rw_empty, Rw_add, List.nil_append, List.cons_append, upd_upd, cwo_1, cwo_3, cwo_5, cwo_7, cwo_17, Bool.false_eq_true, n01, z80, z44, z40, hm, hsz, hcap, ti_1, hfl, hmu, k1]
        · rw [if_neg h2] at hmu
          have hmu : dcall 30 [.ref (c + 1), .int (nI 44)] (cw σ c A R (ti I p (some p))) = some (none, cw σ c A R (ti I p (some p))) := hmu
          obtain ⟨F, τ, W', p', k1, k2, k3⟩ := A_pair_no (R := R) h hd hT hB hI hp hp (z := false)
          refine ⟨F, τ, W', p', ?_, k2, hp⟩
          have ho := C_map_out (R := R) (i := i + 1) (h.dft k2) (A := va_up A 3 F) (I := I) (n := n) (B := B) hB.up3 k3 hp (by omega) (l1 := l1)
          rw [← ho]
          have k1 : dcall 32 [.ref c, .int (nI 0)] (cw σ c A R (ti I p (some p))) = some (none, cw τ c (va_up A 3 F) R (ti I p' (some p))) := k1
          rw [e23_73]
          simp (disch := first | omega | exact tl_l | exact tT_len | (simp only [List.length_cons, List.length_nil])) only [e23_0, e23_1, e23_4, e23_7, e23_8, e23_11, e23_14, e23_15, e23_16, e23_17, e23_20, e23_21, e23_23, e23_26, e23_27, e23_30, e23_31, e23_34, e23_35, e23_38, e23_41, e23_42, e23_43, e23_46, e23_47, e23_50, e23_51, e23_52, e23_55, e23_56, e23_59, e23_60, e23_63, e23_64, e23_67, e23_68, e23_71, e23_72, e23_74, e23_76, e23_79, e23_80, e23_83, e23_86, e23_89, e23_90, e23_93, e23_96, e23_98, e23_101, e23_102, e23_105, e23_106, e23_109, e23_112, e23_115, e23_116, e23_119, e23_121, e23_124, e23_125, e23_126, e23_129, e23_132, e23_135, e23_136, e23_139, e23_142, kv_s, kh_s, kr_s, kr_v, kn_s, z0, z1, z2, nI_ltI, nI_leI, nI_eq, nI_add, oN, bz0, bz1, bw0, bw1, ltT, ltF, leT, leF, eqT, eqF, if_true, if_false, kI_n, wI_n, and_true, true_and, and_false, false_and, not_true, not_false_eq_true, cwo_1, cwr_1, cwg_0, cwg_1, cwg_2, cwa_0, cwl_0, cwo_3, cwr_3, cwg_3, cwa_R, cwl_R, cwo_5, cwr_5, cwg_4, cwg_5, cwg_6, cwg_7, cwg_8, cwa_1, cwl_1, cwo_7, cwr_7, cwg_9, cwg_10, cwg_11, cwg_12, cwg_13, cwa_2, cwl_2, cwo_17, cwr_17, cwg_14, cwa_3, cwl_3, cwp_0, cwp_1, cwp_2, cwp_3, cwp_4, cwp_5, cwp_6, cwp_7, cwp_8, cwp_9, cwp_10, cwp_11, cwp_12, cwp_13, cwp_14, cwu_0, cwu_R, cwu_1, cwu_2, cwu_3, vu_at, vu_ne, pk_us, pk_un, h.x.f0, h.x.f1, h.x.f2, h.x.f3, h.x.f4, h.x.f5, h.x.f6, h.x.f7, h.x.o, h.hi.o, h.hi.gd, h.hi.gf, h.hi.gl, Hi_keys h.hi h.d8, Hi_hasKey h.hi h.d8, Rw_empty, Rw_add, List.nil_append, List.cons_append, upd_upd, cwo_1, cwo_3, cwo_5, cwo_7, cwo_17, Bool.false_eq_true, n01, z80, z44, z40, hm, hsz, hcap, ti_1, hfl, hmu, k1]
      rw [if_neg hcap]
      have hmu := Tx_must (σ := σ) (c := c) (R := R) (e := none) hB hp (fun r z => by cases z) (s := 44) (by omega)
      by_cases h2 : B p = 44
      · rw [if_pos h2]
        rw [if_pos ⟨hlt, h2⟩] at hmu
        obtain ⟨a1, a2⟩ := A_pair (R := R) h hd hT hB hI (show p + 1 ≤ n by omega) hF (z := false)
        have hbd := rp_bd (n := n) (B := B) (K := 2 ^ d) (z := false) (L := L.map Prod.fst) (show p + 1 ≤ n by omega)
        cases hr : rp n B (2 ^ d) false (L.map Prod.fst) (p + 1) with
        | inl q0 =>
          obtain ⟨F, τ, W', p', k1, k2, k3⟩ := a1 q0 hr
          have hq := hbd.1 q0 hr
          refine ⟨fun q z => ?_, fun L' z => (by cases z)⟩
          cases z
          refine ⟨F, τ, W', p', ?_, k2, hq⟩
          have ho := C_map_out (R := R) (i := i + 1) (h.dft k2) (A := va_up A 3 F) (I := I) (n := n) (B := B) hB.up3 k3 hq (by omega) (l1 := l1)
          rw [← ho]
          have k1 : dcall 32 [.ref c, .int (nI 0)] (cw σ c A R (ti I (p + 1) none)) = some (none, cw τ c (va_up A 3 F) R (ti I p' (some q0))) := k1
          rw [e23_73]
          simp (disch := first | omega | exact tl_l | exact tT_len | (simp only [List.length_cons, List.length_nil])) only [e23_0, e23_1, e23_4, e23_7, e23_8, e23_11, e23_14, e23_15, e23_16, e23_17, e23_20, e23_21, e23_23, e23_26, e23_27, e23_30, e23_31, e23_34, e23_35, e23_38, e23_41, e23_42, e23_43, e23_46, e23_47, e23_50, e23_51, e23_52, e23_55, e23_56, e23_59, e23_60, e23_63, e23_64, e23_67, e23_68, e23_71, e23_72, e23_74, e23_76, e23_79, e23_80, e23_83, e23_86, e23_89, e23_90, e23_93, e23_96, e23_98, e23_101, e23_102, e23_105, e23_106, e23_109, e23_112, e23_115, e23_116, e23_119, e23_121, e23_124, e23_125, e23_126, e23_129, e23_132, e23_135, e23_136, e23_139, e23_142, kv_s, kh_s, kr_s, kr_v, kn_s, z0, z1, z2, nI_ltI, nI_leI, nI_eq, nI_add, oN, bz0, bz1, bw0, bw1, ltT, ltF, leT, leF, eqT, eqF, if_true, if_false, kI_n, wI_n, and_true, true_and, and_false, false_and, not_true, not_false_eq_true, cwo_1, cwr_1, cwg_0, cwg_1, cwg_2, cwa_0, cwl_0, cwo_3, cwr_3, cwg_3, cwa_R, cwl_R, cwo_5, cwr_5, cwg_4, cwg_5, cwg_6, cwg_7, cwg_8, cwa_1, cwl_1, cwo_7, cwr_7, cwg_9, cwg_10, cwg_11, cwg_12, cwg_13, cwa_2, cwl_2, cwo_17, cwr_17, cwg_14, cwa_3, cwl_3, cwp_0, cwp_1, cwp_2, cwp_3, cwp_4, cwp_5, cwp_6, cwp_7, cwp_8, cwp_9, cwp_10, cwp_11, cwp_12, cwp_13, cwp_14, cwu_0, cwu_R, cwu_1, cwu_2, cwu_3, vu_at, vu_ne, pk_us, pk_un, h.x.f0, h.x.f1, h.x.f2, h.x.f3, h.x.f4, h.x.f5, h.x.f6, h.x.f7, h.x.o, h.hi.o, h.hi.gd, h.hi.gf, h.hi.gl, Hi_keys h.hi h.d8, Hi_hasKey h.hi h.d8, Rw_empty, Rw_add, List.nil_append, List.cons_append, upd_upd, cwo_1, cwo_3, cwo_5, cwo_7, cwo_17, Bool.false_eq_true, n01, z80, z44, hm, z40, hsz, hcap, hmu, k1]
        | inr s0 =>
          obtain ⟨F, τ, k1, k2, k3⟩ := a2 s0 hr
          obtain ⟨b1, b2, b3⟩ := hbd.2 s0 hr
          have k1 : dcall 32 [.ref c, .int (nI 0)] (cw σ c A R (ti I (p + 1) none)) = some (none, cw τ c (va_up A 3 F) R (ti I s0.2 none)) := k1
          have e : den 23 73 [.ref c, l1, .int (nI i)] [] (cw σ c A R (ti I p none)) = den 23 73 [.ref c, l1, .int (nI (i + 1))] [] (cw τ c (va_up A 3 F) R (ti I s0.2 none)) := by
            rw [e23_73]
            simp (disch := first | omega | exact tl_l | exact tT_len | (simp only [List.length_cons, List.length_nil])) only [e23_0, e23_1, e23_4, e23_7, e23_8, e23_11, e23_14, e23_15, e23_16, e23_17, e23_20, e23_21, e23_23, e23_26, e23_27, e23_30, e23_31, e23_34, e23_35, e23_38, e23_41, e23_42, e23_43, e23_46, e23_47, e23_50, e23_51, e23_52, e23_55, e23_56, e23_59, e23_60, e23_63, e23_64, e23_67, e23_68, e23_71, e23_72, e23_74, e23_76, e23_79, e23_80, e23_83, e23_86, e23_89, e23_90, e23_93, e23_96, e23_98, e23_101, e23_102, e23_105, e23_106, e23_109, e23_112, e23_115, e23_116, e23_119, e23_121, e23_124, e23_125, e23_126, e23_129, e23_132, e23_135, e23_136, e23_139, e23_142, kv_s, kh_s, kr_s, kr_v, kn_s, z0, z1, z2, nI_ltI, nI_leI, nI_eq, nI_add, oN, bz0, bz1, bw0, bw1, ltT, ltF, leT, leF, eqT, eqF, if_true, if_false, kI_n, wI_n, and_true, true_and, and_false, false_and, not_true, not_false_eq_true, cwo_1, cwr_1, cwg_0, cwg_1, cwg_2, cwa_0, cwl_0, cwo_3, cwr_3, cwg_3, cwa_R, cwl_R, cwo_5, cwr_5, cwg_4, cwg_5, cwg_6, cwg_7, cwg_8, cwa_1, cwl_1, cwo_7, cwr_7, cwg_9, cwg_10, cwg_11, cwg_12, cwg_13, cwa_2, cwl_2, cwo_17, cwr_17, cwg_14, cwa_3, cwl_3, cwp_0, cwp_1, cwp_2, cwp_3, cwp_4, cwp_5, cwp_6, cwp_7, cwp_8, cwp_9, cwp_10, cwp_11, cwp_12, cwp_13, cwp_14, cwu_0, cwu_R, cwu_1, cwu_2, cwu_3, vu_at, vu_ne, pk_us, pk_un, h.x.f0, h.x.f1, h.x.f2, h.x.f3, h.x.f4, h.x.f5, h.x.f6, h.x.f7, h.x.o, h.hi.o, h.hi.gd, h.hi.gf, h.hi.gl, Hi_keys h.hi h.d8, Hi_hasKey h.hi h.d8, Rw_empty, Rw_add, List.nil_append, List.cons_append, upd_upd, cwo_1, cwo_3, cwo_5, cwo_7, cwo_17, Bool.false_eq_true, n01, z80, z44, hm, z40, hsz, hcap, hmu, k1]
          have hll : (L ++ [s0.1]).length = L.length + 1 := by rw [List.length_append]; rfl
          obtain ⟨i1, i2⟩ := ih (L ++ [s0.1]) s0.2 (i + 1) τ (va_up A 3 F) I (h.dft k2) (by rw [plc_add]; exact k2.2.2) hB.up3 hI (by rw [vu_at, List.map_append]; exact k3) (hPI.add (show p + 1 ≤ n by omega) hr) (by omega) b2 (by omega) (by omega)
          rw [e]
          refine ⟨fun q z => ?_, fun L' z => ?_⟩
          · obtain ⟨F', τ', W', p', w1, w2, w3⟩ := i1 q z
            rw [vu_vu] at w1
            exact ⟨F', τ', W', p', w1, k2.tr w2, w3⟩
          · obtain ⟨F', τ', w1, w2, w3⟩ := i2 L' z
            rw [vu_vu] at w1
            exact ⟨F', τ', w1, k2.tr w2, w3⟩
      · rw [if_neg h2]
        rw [if_neg (fun z => h2 z.2)] at hmu
        have hmu : dcall 30 [.ref (c + 1), .int (nI 44)] (cw σ c A R (ti I p none)) = some (none, cw σ c A R (ti I p (some p))) := hmu
        refine ⟨fun q z => ?_, fun L' z => (by cases z)⟩
        cases z
        obtain ⟨F, τ, W', p', k1, k2, k3⟩ := A_pair_no (R := R) h hd hT hB hI hp hp (z := false)
        refine ⟨F, τ, W', p', ?_, k2, hp⟩
        have ho := C_map_out (R := R) (i := i + 1) (h.dft k2) (A := va_up A 3 F) (I := I) (n := n) (B := B) hB.up3 k3 hp (by omega) (l1 := l1)
        rw [← ho]
        have k1 : dcall 32 [.ref c, .int (nI 0)] (cw σ c A R (ti I p (some p))) = some (none, cw τ c (va_up A 3 F) R (ti I p' (some p))) := k1
        rw [e23_73]
        simp (disch := first | omega | exact tl_l | exact tT_len | (simp only [List.length_cons, List.length_nil])) only [e23_0, e23_1, e23_4, e23_7, e23_8, e23_11, e23_14, e23_15, e23_16, e23_17, e23_20, e23_21, e23_23, e23_26, e23_27, e23_30, e23_31, e23_34, e23_35, e23_38, e23_41, e23_42, e23_43, e23_46, e23_47, e23_50, e23_51, e23_52, e23_55, e23_56, e23_59, e23_60, e23_63, e23_64, e23_67, e23_68, e23_71, e23_72, e23_74, e23_76, e23_79, e23_80, e23_83, e23_86, e23_89, e23_90, e23_93, e23_96, e23_98, e23_101, e23_102, e23_105, e23_106, e23_109, e23_112, e23_115, e23_116, e23_119, e23_121, e23_124, e23_125, e23_126, e23_129, e23_132, e23_135, e23_136, e23_139, e23_142, kv_s, kh_s, kr_s, kr_v, kn_s, z0, z1, z2, nI_ltI, nI_leI, nI_eq, nI_add, oN, bz0, bz1, bw0, bw1, ltT, ltF, leT, leF, eqT, eqF, if_true, if_false, kI_n, wI_n, and_true, true_and, and_false, false_and, not_true, not_false_eq_true, cwo_1, cwr_1, cwg_0, cwg_1, cwg_2, cwa_0, cwl_0, cwo_3, cwr_3, cwg_3, cwa_R, cwl_R, cwo_5, cwr_5, cwg_4, cwg_5, cwg_6, cwg_7, cwg_8, cwa_1, cwl_1, cwo_7, cwr_7, cwg_9, cwg_10, cwg_11, cwg_12, cwg_13, cwa_2, cwl_2, cwo_17, cwr_17, cwg_14, cwa_3, cwl_3, cwp_0, cwp_1, cwp_2, cwp_3, cwp_4, cwp_5, cwp_6, cwp_7, cwp_8, cwp_9, cwp_10, cwp_11, cwp_12, cwp_13, cwp_14, cwu_0, cwu_R, cwu_1, cwu_2, cwu_3, vu_at, vu_ne, pk_us, pk_un, h.x.f0, h.x.f1, h.x.f2, h.x.f3, h.x.f4, h.x.f5, h.x.f6, h.x.f7, h.x.o, h.hi.o, h.hi.gd, h.hi.gf, h.hi.gl, Hi_keys h.hi h.d8, Hi_hasKey h.hi h.d8, Rw_empty, Rw_add, List.nil_append, List.cons_append, upd_upd, cwo_1, cwo_3, cwo_5, cwo_7, cwo_17, Bool.false_eq_true, n01, z80, z44, hm, z40, hsz, hcap, hmu, k1]
end PB
