/-! the class over a world: what its calls read -/
/-- what readers need -/
def RB (c : Nat) (σ : Hp) (T : Nat → Option Nat) (d f l : Nat) (V : Nat → Nat → Int32) : Prop := isX σ c ∧ HV c σ (c + 9) T d f l V
/-- the places of a history lie outside of the registers -/
theorem FO.out {c h : Nat} {σ : Hp} {T : Nat → Option Nat} (F : FO c σ h T) {a : Nat} (ha : ow h T a) : a ≤ c ∨ (c + 9 ≤ a ∧ a < c + 17) ∨ c + 19 ≤ a := by
  have f1 := F.1
  rcases ha with rfl | rfl | ⟨s, t, q1, q2, q3, q4⟩
  · omega
  · omega
  · have := (F.2.2.1 s t q1 q2).1
    omega
section RBS
variable {c : Nat} {σ : Hp} {T : Nat → Option Nat} {d f l : Nat} {V : Nat → Nat → Int32} {A : Nat → Nat → Int32} {R : Nat → Int64} {I : Nat → Int32}
theorem HV.up {h : Nat} (H : HV c σ h T d f l V) : HV c (cw σ c A R I) h T d f l V := H.kept (Nat.le_refl _) fun a _ q => cw_out (H.2.1.out q)
theorem RB.x (h : RB c σ T d f l V) : isX (cw σ c A R I) c := h.1.up
theorem RB.hi (h : RB c σ T d f l V) : isHi (cw σ c A R I) (c + 9) T d f l := h.2.up.1
theorem RB.d8 (h : RB c σ T d f l V) : d ≤ 8 := h.2.2.2.1
theorem RB.K (h : RB c σ T d f l V) : 2 ^ d ≤ 256 ∧ 1 ≤ 2 ^ d := ⟨Nat.pow_le_pow_right (by omega) h.d8, Nat.one_le_two_pow⟩
theorem RB.fl (h : RB c σ T d f l V) : f ≤ l ∧ l < f + 12 ∧ l < 2 ^ 30 := ⟨h.2.2.2.2.1, h.2.2.2.2.2.1, h.2.2.2.2.2.2.1⟩
theorem RB.t (h : RB c σ T d f l V) {v : Nat} (h1 : f ≤ v) (h2 : v ≤ l) : ∃ t, T (v % 12) = some t ∧ ∀ {A R I}, isT (cw σ c A R I) t d (V v) := by
  obtain ⟨t, t1, t2⟩ := h.2.2.2.2.2.2.2 v h1 h2
  refine ⟨t, t1, fun {A R I} => t2.kept fun a q1 q2 => cw_out (h.2.2.1.out (Or.inr (Or.inr ⟨_, t, Nat.mod_lt _ (by omega), t1, q1, q2⟩)))⟩
theorem C_root (h : RB c σ T d f l V) {v : Nat} (h1 : f ≤ v) (h2 : v ≤ l) : dcall 64 [.ref c, .int (nI v)] (cw σ c A R I) = some (some (.int (nI (un d (V v) 1))), cw σ c A (rl R [(mk d (V v) 1).toInt64]) (upd I 3 (nI 1))) := by
  obtain ⟨t, t1, t2⟩ := h.t h1 h2
  have hl := h.fl
  have hK := h.K
  rw [q64]
  simp (disch := first | omega | (simp only [List.length_cons, List.length_nil])) only [e64_0, e64_1, e64_4, e64_5, e64_8, e64_8n, e64_9, e64_9n, e64_10, e64_10n, e64_13, e64_14, e64_15, e64_16, e64_19, e64_22, e64_23, e64_26, e64_26n, e64_27, e64_28, e64_31, e64_32, e64_35, e64_35n, e64_36, e64_39, e64_42, kv_s, kh_s, kr_s, kr_v, kn_s, z0, z1, z2, nI_ltI, nI_leI, nI_eq, nI_add, oN, bz0, bz1, bw0, bw1, ltT, ltF, leT, leF, eqT, eqF, if_true, if_false, kI_n, wI_n, and_true, true_and, and_false, false_and, not_true, not_false_eq_true, h.x.f0, h.x.f1, h.x.f2, h.x.f3, h.x.f4, h.x.f5, h.x.f6, h.x.f7, h.x.o, h.hi.o, h.hi.gd, h.hi.gf, h.hi.gl, Hi_keys h.hi h.d8, Hi_hasKey h.hi h.d8, Rw_empty, Rw_add, List.nil_append, List.cons_append, upd_upd, cwo_1, cwo_3, cwo_5, cwo_7, cwo_17, Bool.false_eq_true, n01, Hi_find_is h.hi (show l < 2 ^ 31 by omega) h1 h2 t1, t2.o, t2.f, t2.fo, T_mark t2, T_size t2]
theorem C_root0 (h : RB c σ T d f l V) {x : Int32} (hx : x < nI f ∨ nI l < x) : dcall 64 [.ref c, .int x] (cw σ c A R I) = some (some (.int (-nI 1)), cw σ c A R I) := by
  rw [q64]
  simp (disch := first | omega | (simp only [List.length_cons, List.length_nil])) only [e64_0, e64_1, e64_4, e64_5, e64_8, e64_8n, e64_9, e64_9n, e64_10, e64_10n, e64_13, e64_14, e64_15, e64_16, e64_19, e64_22, e64_23, e64_26, e64_26n, e64_27, e64_28, e64_31, e64_32, e64_35, e64_35n, e64_36, e64_39, e64_42, kv_s, kh_s, kr_s, kr_v, kn_s, z0, z1, z2, nI_ltI, nI_leI, nI_eq, nI_add, oN, bz0, bz1, bw0, bw1, ltT, ltF, leT, leF, eqT, eqF, if_true, if_false, kI_n, wI_n, and_true, true_and, and_false, false_and, not_true, not_false_eq_true, h.x.f0, h.x.f1, h.x.f2, h.x.f3, h.x.f4, h.x.f5, h.x.f6, h.x.f7, h.x.o, h.hi.o, h.hi.gd, h.hi.gf, h.hi.gl, Hi_keys h.hi h.d8, Hi_hasKey h.hi h.d8, Rw_empty, Rw_add, List.nil_append, List.cons_append, upd_upd, cwo_1, cwo_3, cwo_5, cwo_7, cwo_17, Bool.false_eq_true, n01, Hi_find_no h.hi hx]
theorem C_versions (h : RB c σ T d f l V) : dcall 112 [.ref c] (cw σ c A R I) = some (some (.int (nI (l - f + 1))), cw σ c A (rl R [lN f, lN l]) (upd I 3 (nI 2))) := by
  have hl := h.fl
  rw [q112]
  simp (disch := first | omega | (simp only [List.length_cons, List.length_nil])) only [e112_0, e112_1, e112_4, e112_7, e112_8, e112_11, e112_12, e112_15, e112_18, e112_19, e112_22, e112_23, e112_26, e112_27, e112_30, e112_33, e112_34, e112_37, e112_38, e112_41, e112_44, kv_s, kh_s, kr_s, kr_v, kn_s, z0, z1, z2, nI_ltI, nI_leI, nI_eq, nI_add, oN, bz0, bz1, bw0, bw1, ltT, ltF, leT, leF, eqT, eqF, if_true, if_false, kI_n, wI_n, and_true, true_and, and_false, false_and, not_true, not_false_eq_true, h.x.f0, h.x.f1, h.x.f2, h.x.f3, h.x.f4, h.x.f5, h.x.f6, h.x.f7, h.x.o, h.hi.o, h.hi.gd, h.hi.gf, h.hi.gl, Hi_keys h.hi h.d8, Hi_hasKey h.hi h.d8, Rw_empty, Rw_add, List.nil_append, List.cons_append, upd_upd, cwo_1, cwo_3, cwo_5, cwo_7, cwo_17, Bool.false_eq_true, n01, Hi_kept h.hi hl.1, nI_l]
/-- a row told, place by place -/
def tl (L : List Int64) (P : Nat → Bool) (g : Nat → Int64) (a : Nat) : Nat → List Int64
  | 0 => L
  | n + 1 => if P (a + n) = true then tl L P g a n ++ [g (a + n)] else tl L P g a n
theorem tl_len {L : List Int64} {P : Nat → Bool} {g : Nat → Int64} {a : Nat} : ∀ n, (tl L P g a n).length = L.length + cnt P a n := by
  intro n
  induction n with
  | zero => rfl
  | succ n ih =>
    show (if P (a + n) = true then tl L P g a n ++ [g (a + n)] else tl L P g a n).length = L.length + (cnt P a n + if P (a + n) = true then 1 else 0)
    by_cases h : P (a + n) = true
    · rw [if_pos h, if_pos h, List.length_append, ih]; rfl
    · rw [if_neg h, if_neg h, ih]; rfl
theorem cnt_mono {P : Nat → Bool} {a n m : Nat} (h : n ≤ m) : cnt P a n ≤ cnt P a m := by
  rw [show m = n + (m - n) by omega, cnt_add]
  omega
/-- one place more told, or not -/
theorem tl_s {L : List Int64} {P : Nat → Bool} {g : Nat → Int64} {a n : Nat} (h : P (a + n) = true) : tl L P g a (n + 1) = tl L P g a n ++ [g (a + n)] ∧ cnt P a (n + 1) = cnt P a n + 1 := by
  constructor
  · show (if P (a + n) = true then _ else _) = _
    rw [if_pos h]
  · show cnt P a n + (if P (a + n) = true then 1 else 0) = _
    rw [if_pos h]
theorem tl_n {L : List Int64} {P : Nat → Bool} {g : Nat → Int64} {a n : Nat} (h : P (a + n) = false) : tl L P g a (n + 1) = tl L P g a n ∧ cnt P a (n + 1) = cnt P a n := by
  constructor
  · show (if P (a + n) = true then _ else _) = _
    rw [h]; rfl
  · show cnt P a n + (if P (a + n) = true then 1 else 0) = _
    rw [h]; rfl
/-- nodes of a level that are not bare -/
def lvP (d : Nat) (V : Nat → Int32) (w i : Nat) : Bool := !br d V (w + i)
theorem C_level_loop (h : RB c σ T d f l V) {W : Nat → Int32} {t : Nat} (t2 : ∀ {A R I}, isT (cw σ c A R I) t d W) {w : Nat} (hw : w ≤ 2 ^ d) (hw1 : 1 ≤ w) (hc : cnt (lvP d W w) 0 w ≤ 128) {l1 l2 : Value} : ∀ (m i : Nat), i + m = w → den 58 53 [.ref c, l1, l2, .ref t, .int (nI w), .int (nI i)] [] (cw σ c A (rl R (tl [] (lvP d W w) lN 0 i)) (upd I 3 (nI (cnt (lvP d W w) 0 i)))) = some (some (.int (nI (cnt (lvP d W w) 0 w))), cw σ c A (rl R (tl [] (lvP d W w) lN 0 w)) (upd I 3 (nI (cnt (lvP d W w) 0 w)))) := by
  have hK := h.K
  intro m
  induction m with
  | zero =>
    intro i hi
    have : i = w := by omega
    subst this
    rw [e58_53]
    simp (disch := first | omega | (simp only [List.length_cons, List.length_nil])) only [e58_0, e58_1, e58_4, e58_5, e58_8, e58_8n, e58_9, e58_9n, e58_10, e58_10n, e58_13, e58_14, e58_17, e58_18, e58_19, e58_22, e58_25, e58_28, e58_29, e58_30, e58_31, e58_34, e58_37, e58_38, e58_39, e58_42, e58_45, e58_46, e58_47, e58_48, e58_50, e58_51, e58_55, e58_57, e58_60, e58_60n, e58_61, e58_63, e58_65, e58_66, e58_69, e58_72, e58_73, e58_76, e58_78, e58_79, e58_82, e58_85, e58_88, e58_89, e58_92, e58_95, kv_s, kh_s, kr_s, kr_v, kn_s, z0, z1, z2, nI_ltI, nI_leI, nI_eq, nI_add, oN, bz0, bz1, bw0, bw1, ltT, ltF, leT, leF, eqT, eqF, if_true, if_false, kI_n, wI_n, and_true, true_and, and_false, false_and, not_true, not_false_eq_true, cwo_1, cwr_1, cwg_0, cwg_1, cwg_2, cwa_0, cwl_0, cwo_3, cwr_3, cwg_3, cwa_R, cwl_R, cwo_5, cwr_5, cwg_4, cwg_5, cwg_6, cwg_7, cwg_8, cwa_1, cwl_1, cwo_7, cwr_7, cwg_9, cwg_10, cwg_11, cwg_12, cwg_13, cwa_2, cwl_2, cwo_17, cwr_17, cwg_14, cwa_3, cwl_3, cwp_0, cwp_1, cwp_2, cwp_3, cwp_4, cwp_5, cwp_6, cwp_7, cwp_8, cwp_9, cwp_10, cwp_11, cwp_12, cwp_13, cwp_14, cwu_0, cwu_R, cwu_1, cwu_2, cwu_3, vu_at, vu_ne, pk_us, pk_un, h.x.f0, h.x.f1, h.x.f2, h.x.f3, h.x.f4, h.x.f5, h.x.f6, h.x.f7, h.x.o, h.hi.o, h.hi.gd, h.hi.gf, h.hi.gl, Hi_keys h.hi h.d8, Hi_hasKey h.hi h.d8, Rw_empty, Rw_add, List.nil_append, List.cons_append, upd_upd, cwo_1, cwo_3, cwo_5, cwo_7, cwo_17, Bool.false_eq_true, n01]
  | succ m ih =>
    intro i hi
    rw [← ih (i + 1) (by omega)]
    rw [e58_53]
    have hb := T_bareb (t2 (A := A) (R := rl R (tl [] (lvP d W w) lN 0 i)) (I := upd I 3 (nI (cnt (lvP d W w) 0 i)))) (p := w + i) (by omega) (by omega)
    cases hp : br d W (w + i) with
    | true =>
      have hP : lvP d W w (0 + i) = false := by rw [Nat.zero_add, lvP, hp]; rfl
      rw [(tl_n hP).1, (tl_n (L := []) (g := lN) hP).2]
      rw [hp] at hb
      simp (disch := first | omega | (simp only [List.length_cons, List.length_nil])) only [e58_0, e58_1, e58_4, e58_5, e58_8, e58_8n, e58_9, e58_9n, e58_10, e58_10n, e58_13, e58_14, e58_17, e58_18, e58_19, e58_22, e58_25, e58_28, e58_29, e58_30, e58_31, e58_34, e58_37, e58_38, e58_39, e58_42, e58_45, e58_46, e58_47, e58_48, e58_50, e58_51, e58_55, e58_57, e58_60, e58_60n, e58_61, e58_63, e58_65, e58_66, e58_69, e58_72, e58_73, e58_76, e58_78, e58_79, e58_82, e58_85, e58_88, e58_89, e58_92, e58_95, kv_s, kh_s, kr_s, kr_v, kn_s, z0, z1, z2, nI_ltI, nI_leI, nI_eq, nI_add, oN, bz0, bz1, bw0, bw1, ltT, ltF, leT, leF, eqT, eqF, if_true, if_false, kI_n, wI_n, and_true, true_and, and_false, false_and, not_true, not_false_eq_true, cwo_1, cwr_1, cwg_0, cwg_1, cwg_2, cwa_0, cwl_0, cwo_3, cwr_3, cwg_3, cwa_R, cwl_R, cwo_5, cwr_5, cwg_4, cwg_5, cwg_6, cwg_7, cwg_8, cwa_1, cwl_1, cwo_7, cwr_7, cwg_9, cwg_10, cwg_11, cwg_12, cwg_13, cwa_2, cwl_2, cwo_17, cwr_17, cwg_14, cwa_3, cwl_3, cwp_0, cwp_1, cwp_2, cwp_3, cwp_4, cwp_5, cwp_6, cwp_7, cwp_8, cwp_9, cwp_10, cwp_11, cwp_12, cwp_13, cwp_14, cwu_0, cwu_R, cwu_1, cwu_2, cwu_3, vu_at, vu_ne, pk_us, pk_un, h.x.f0, h.x.f1, h.x.f2, h.x.f3, h.x.f4, h.x.f5, h.x.f6, h.x.f7, h.x.o, h.hi.o, h.hi.gd, h.hi.gf, h.hi.gl, Hi_keys h.hi h.d8, Hi_hasKey h.hi h.d8, Rw_empty, Rw_add, List.nil_append, List.cons_append, upd_upd, cwo_1, cwo_3, cwo_5, cwo_7, cwo_17, Bool.false_eq_true, n01, t2.o, hb]
    | false =>
      have hP : lvP d W w (0 + i) = true := by rw [Nat.zero_add, lvP, hp]; rfl
      have hlen := tl_len (L := []) (P := lvP d W w) (g := lN) (a := 0) i
      have hcm := cnt_mono (P := lvP d W w) (a := 0) (show i + 1 ≤ w by omega)
      rw [(tl_s (L := []) (g := lN) hP).2] at hcm
      have hlen2 : (tl [] (lvP d W w) lN 0 i).length = cnt (lvP d W w) 0 i := by rw [hlen]; exact Nat.zero_add _
      rw [(tl_s hP).1, (tl_s (L := []) (g := lN) hP).2]
      rw [hp] at hb
      simp (disch := first | omega | (simp only [List.length_cons, List.length_nil])) only [e58_0, e58_1, e58_4, e58_5, e58_8, e58_8n, e58_9, e58_9n, e58_10, e58_10n, e58_13, e58_14, e58_17, e58_18, e58_19, e58_22, e58_25, e58_28, e58_29, e58_30, e58_31, e58_34, e58_37, e58_38, e58_39, e58_42, e58_45, e58_46, e58_47, e58_48, e58_50, e58_51, e58_55, e58_57, e58_60, e58_60n, e58_61, e58_63, e58_65, e58_66, e58_69, e58_72, e58_73, e58_76, e58_78, e58_79, e58_82, e58_85, e58_88, e58_89, e58_92, e58_95, kv_s, kh_s, kr_s, kr_v, kn_s, z0, z1, z2, nI_ltI, nI_leI, nI_eq, nI_add, oN, bz0, bz1, bw0, bw1, ltT, ltF, leT, leF, eqT, eqF, if_true, if_false, kI_n, wI_n, and_true, true_and, and_false, false_and, not_true, not_false_eq_true, cwo_1, cwr_1, cwg_0, cwg_1, cwg_2, cwa_0, cwl_0, cwo_3, cwr_3, cwg_3, cwa_R, cwl_R, cwo_5, cwr_5, cwg_4, cwg_5, cwg_6, cwg_7, cwg_8, cwa_1, cwl_1, cwo_7, cwr_7, cwg_9, cwg_10, cwg_11, cwg_12, cwg_13, cwa_2, cwl_2, cwo_17, cwr_17, cwg_14, cwa_3, cwl_3, cwp_0, cwp_1, cwp_2, cwp_3, cwp_4, cwp_5, cwp_6, cwp_7, cwp_8, cwp_9, cwp_10, cwp_11, cwp_12, cwp_13, cwp_14, cwu_0, cwu_R, cwu_1, cwu_2, cwu_3, vu_at, vu_ne, pk_us, pk_un, h.x.f0, h.x.f1, h.x.f2, h.x.f3, h.x.f4, h.x.f5, h.x.f6, h.x.f7, h.x.o, h.hi.o, h.hi.gd, h.hi.gf, h.hi.gl, Hi_keys h.hi h.d8, Hi_hasKey h.hi h.d8, Rw_empty, Rw_add, List.nil_append, List.cons_append, upd_upd, cwo_1, cwo_3, cwo_5, cwo_7, cwo_17, Bool.false_eq_true, n01, t2.o, hb, nI_l, hlen2, Nat.zero_add]
theorem C_level (h : RB c σ T d f l V) {v j : Nat} (h1 : f ≤ v) (h2 : v ≤ l) (hj : j ≤ d) (hc : cnt (lvP d (V v) (2 ^ (d - j))) 0 (2 ^ (d - j)) ≤ 128) : dcall 58 [.ref c, .int (nI v), .int (nI j)] (cw σ c A R I) = some (some (.int (nI (cnt (lvP d (V v) (2 ^ (d - j))) 0 (2 ^ (d - j))))), cw σ c A (rl R (tl [] (lvP d (V v) (2 ^ (d - j))) lN 0 (2 ^ (d - j)))) (upd I 3 (nI (cnt (lvP d (V v) (2 ^ (d - j))) 0 (2 ^ (d - j)))))) := by
  obtain ⟨t, t1, t2⟩ := h.t h1 h2
  have hl := h.fl
  have hd := h.d8
  rw [q58]
  simp (disch := first | omega | (simp only [List.length_cons, List.length_nil])) only [e58_0, e58_1, e58_4, e58_5, e58_8, e58_8n, e58_9, e58_9n, e58_10, e58_10n, e58_13, e58_14, e58_17, e58_18, e58_19, e58_22, e58_25, e58_28, e58_29, e58_30, e58_31, e58_34, e58_37, e58_38, e58_39, e58_42, e58_45, e58_46, e58_47, e58_48, e58_50, e58_51, e58_55, e58_57, e58_60, e58_60n, e58_61, e58_63, e58_65, e58_66, e58_69, e58_72, e58_73, e58_76, e58_78, e58_79, e58_82, e58_85, e58_88, e58_89, e58_92, e58_95, kv_s, kh_s, kr_s, kr_v, kn_s, z0, z1, z2, nI_ltI, nI_leI, nI_eq, nI_add, oN, bz0, bz1, bw0, bw1, ltT, ltF, leT, leF, eqT, eqF, if_true, if_false, kI_n, wI_n, and_true, true_and, and_false, false_and, not_true, not_false_eq_true, cwo_1, cwr_1, cwg_0, cwg_1, cwg_2, cwa_0, cwl_0, cwo_3, cwr_3, cwg_3, cwa_R, cwl_R, cwo_5, cwr_5, cwg_4, cwg_5, cwg_6, cwg_7, cwg_8, cwa_1, cwl_1, cwo_7, cwr_7, cwg_9, cwg_10, cwg_11, cwg_12, cwg_13, cwa_2, cwl_2, cwo_17, cwr_17, cwg_14, cwa_3, cwl_3, cwp_0, cwp_1, cwp_2, cwp_3, cwp_4, cwp_5, cwp_6, cwp_7, cwp_8, cwp_9, cwp_10, cwp_11, cwp_12, cwp_13, cwp_14, cwu_0, cwu_R, cwu_1, cwu_2, cwu_3, vu_at, vu_ne, pk_us, pk_un, h.x.f0, h.x.f1, h.x.f2, h.x.f3, h.x.f4, h.x.f5, h.x.f6, h.x.f7, h.x.o, h.hi.o, h.hi.gd, h.hi.gf, h.hi.gl, Hi_keys h.hi h.d8, Hi_hasKey h.hi h.d8, Rw_empty, Rw_add, List.nil_append, List.cons_append, upd_upd, cwo_1, cwo_3, cwo_5, cwo_7, cwo_17, Bool.false_eq_true, n01, Hi_find_is h.hi (show l < 2 ^ 31 by omega) h1 h2 t1, pk_sub hj, shl_nI]
  exact C_level_loop (R := R) (I := I) h t2 (Nat.pow_le_pow_right (by omega) (by omega)) Nat.one_le_two_pow hc _ 0 (Nat.zero_add _)
end RBS
