/-- a sum over a list -/
def lsm (f : Nat → Nat) : List Nat → Nat
  | [] => 0
  | x :: xs => f x + lsm f xs
theorem lsm_app {f : Nat → Nat} {a b : List Nat} : lsm f (a ++ b) = lsm f a + lsm f b := by
  induction a with
  | nil => show lsm f b = 0 + lsm f b; rw [Nat.zero_add]
  | cons x xs ih => show f x + lsm f (xs ++ b) = f x + lsm f xs + lsm f b; rw [ih]; omega
def smL (f : Nat → Nat) (L : List Nat) (N : Nat) : Nat := sm (fun k => if k ∈ L then f k else 0) 0 N
theorem sm_one {f : Nat → Nat} {v : Nat} : ∀ N, sm (fun k => if k = v then f v else 0) 0 N = if v < N then f v else 0 := by
  intro N
  induction N with
  | zero => rw [if_neg (by omega)]; rfl
  | succ N ih =>
    show sm _ 0 N + (if 0 + N = v then f v else 0) = _
    rw [ih, Nat.zero_add]
    by_cases h : N = v
    · rw [if_pos h, if_neg (by omega), if_pos (by omega), Nat.zero_add]
    · rw [if_neg h, Nat.add_zero]
      by_cases h2 : v < N
      · rw [if_pos h2, if_pos (by omega)]
      · rw [if_neg h2, if_neg (by omega)]
theorem sm_add2 {f g : Nat → Nat} {a : Nat} : ∀ N, sm (fun k => f k + g k) a N = sm f a N + sm g a N := by
  intro N
  induction N with
  | zero => rfl
  | succ N ih =>
    show sm _ a N + (f (a + N) + g (a + N)) = sm f a N + f (a + N) + (sm g a N + g (a + N))
    rw [ih]; omega
theorem smL_add {f : Nat → Nat} {L : List Nat} {v N : Nat} (hv : v < N) (hn : ¬ v ∈ L) : smL f (L ++ [v]) N = smL f L N + f v := by
  unfold smL
  have e : sm (fun k => if k ∈ L ++ [v] then f k else 0) 0 N = sm (fun k => (if k ∈ L then f k else 0) + (if k = v then f v else 0)) 0 N := sm_congr fun k hk => by
    show (if 0 + k ∈ L ++ [v] then f (0 + k) else 0) = (if 0 + k ∈ L then f (0 + k) else 0) + (if 0 + k = v then f v else 0)
    rw [Nat.zero_add]
    by_cases h1 : k = v
    · subst h1; rw [if_pos (by simp), if_neg hn, if_pos rfl, Nat.zero_add]
    · by_cases h2 : k ∈ L
      · rw [if_pos (by simp [h2]), if_pos h2, if_neg h1]; omega
      · rw [if_neg (by simp [h1, h2]), if_neg h2, if_neg h1]
  rw [e, sm_add2, sm_one, if_pos hv]
/-- keys without one twice -/
def nd2 : List Nat → List Nat → Prop
  | _, [] => True
  | P, x :: xs => ¬ x ∈ P ∧ nd2 (P ++ [x]) xs
theorem nd2_app {P : List Nat} : ∀ {S : List Nat} {v : Nat}, nd2 P S → ¬ v ∈ P ++ S → nd2 P (S ++ [v]) := by
  intro S
  induction S generalizing P with
  | nil => intro v _ h; exact ⟨by simpa using h, trivial⟩
  | cons x xs ih =>
    intro v h1 h2
    exact ⟨h1.1, ih h1.2 (by simpa [List.append_assoc] using h2)⟩
theorem kt_nd {n K : Nat} {B : Nat → Nat} : ∀ (k : Nat) (L : List Nat) (p : Nat) (L' : List Nat), p ≤ n → nd2 [] L → (∀ y, y ∈ L → y < K) → kt n B K k L p = .inr L' → nd2 [] L' ∧ ∀ y, y ∈ L' → y < K := by
  intro k
  induction k with
  | zero => intro L p L' _ _ _ h; cases h
  | succ k ih =>
    intro L p L' hp h1 h2 h
    rw [kt] at h
    by_cases c1 : p = n
    · rw [if_pos c1] at h; cases h; exact ⟨h1, h2⟩
    · rw [if_neg c1] at h
      by_cases c2 : B p = 44
      · rw [if_pos c2] at h
        cases hr : rk n B K L (p + 1) with
        | inl q => rw [hr] at h; cases h
        | inr r =>
          rw [hr] at h
          obtain ⟨b1, b2, b3, b4⟩ := (rk_bd (n := n) (B := B) (K := K) (L := L) (show p + 1 ≤ n by omega)).2 r hr
          exact ih _ _ _ b2 (nd2_app h1 (by simpa using b4)) (fun y hy => by
            rcases List.mem_append.mp hy with z | z
            · exact h2 y z
            · rw [List.mem_singleton.mp z]; exact b3) h
      · rw [if_neg c2] at h; cases h
theorem kr_nd {n K k : Nat} {B : Nat → Nat} {L' : List Nat} (h : kr1 n B K k [] 0 = .inr L') : nd2 [] L' ∧ ∀ y, y ∈ L' → y < K := by
  unfold kr1 at h
  cases hr : rk n B K [] 0 with
  | inl q => rw [hr] at h; cases h
  | inr r =>
    rw [hr] at h
    obtain ⟨b1, b2, b3, b4⟩ := (rk_bd (n := n) (B := B) (K := K) (L := []) (Nat.zero_le n)).2 r hr
    have hnd : nd2 [] ([] ++ [r.1]) := ⟨fun z => (by cases z), trivial⟩
    exact kt_nd _ _ _ _ b2 hnd (fun y hy => by
      have e : y = r.1 := by simpa using hy
      rw [e]; exact b3) h
section TH
variable {c : Nat} {σ τ : Hp} {m d f l : Nat} {V : Nat → Nat → Int32} {T : Nat → Option Nat} {A : Nat → Nat → Int32} {R : Nat → Int64} {I : Nat → Int32} {W : Nat → Int32} {L : List Nat}
theorem M_proofMany_loop (hd : d ≤ 8) (hB : ∀ p, 1 ≤ p → p < 2 * 2 ^ d → A 6 p = bI (br d W p)) {l1 : Value} : ∀ (k q s : Nat), q < 2 * 2 ^ d → q < 2 ^ k → den 207 9 [.ref m, l1, .int (nI s), .int (nI q)] [] (mw σ m A R I) = some (some (.int (nI (s + bes (br d W) k q))), mw σ m A R I) := by
  have hK : 2 ^ d ≤ 256 := Nat.pow_le_pow_right (by omega) hd
  intro k
  induction k with
  | zero =>
    intro q s h1 h2
    have h3 : q ≤ 1 := by rw [Nat.pow_zero] at h2; omega
    rw [bes, Nat.add_zero]
    rw [e207_9]
    simp (disch := first | omega | exact tl_l | exact tT_len | (simp only [List.length_cons, List.length_nil])) only [e207_0, e207_1, e207_2, e207_3, e207_6, e207_7, e207_8, e207_10, e207_11, e207_14, e207_15, e207_16, e207_19, e207_20, e207_23, e207_24, e207_27, e207_28, e207_31, e207_32, e207_33, e207_34, e207_35, e207_36, e207_37, e207_38, e207_41, e207_42, kv_s, kh_s, kr_s, kr_v, kn_s, z0, z1, z2, nI_ltI, nI_leI, nI_eq, nI_add, oN, bz0, bz1, bw0, bw1, ltT, ltF, leT, leF, eqT, eqF, if_true, if_false, kI_n, wI_n, and_true, true_and, and_false, false_and, not_true, not_false_eq_true, mwo, mwr_0, mwr_1, mwr_2, mwg_3, mwp_3, mwr_4, mwg_5, mwp_5, mwg_6, mwp_6, mwr_7, mwr_8, mwg_9, mwp_9, mwg_10, mwp_10, mwg_11, mwp_11, mwr_12, mwg_13, mwp_13, mwr_14, mwr_15, mwr_16, mwr_17, mwr_18, mwr_19, mwg_20, mwp_20, mwr_21, mwr_22, mwr_23, mwa_1, mwu_1, mwa_2, mwu_2, mwa_3, mwu_3, mwa_4, mwu_4, mwa_5, mwu_5, mwa_6, mwu_6, mwa_7, mwu_7, mwa_8, mwu_8, mwa_9, mwu_9, mwa_10, mwu_10, mwa_11, mwu_11, mwa_12, mwu_12, mwa_13, mwu_13, mwa_14, mwu_14, mwa_15, mwu_15, mwa_16, mwu_16, vu_at, vu_ne, pk_us, pk_un, kB_n, wB_n, kL_n, wL_n]
  | succ k ih =>
    intro q s h1 h2
    rw [bes]
    by_cases h5 : q ≤ 1
    · rw [if_pos h5, Nat.add_zero]
      rw [e207_9]
      simp (disch := first | omega | exact tl_l | exact tT_len | (simp only [List.length_cons, List.length_nil])) only [e207_0, e207_1, e207_2, e207_3, e207_6, e207_7, e207_8, e207_10, e207_11, e207_14, e207_15, e207_16, e207_19, e207_20, e207_23, e207_24, e207_27, e207_28, e207_31, e207_32, e207_33, e207_34, e207_35, e207_36, e207_37, e207_38, e207_41, e207_42, kv_s, kh_s, kr_s, kr_v, kn_s, z0, z1, z2, nI_ltI, nI_leI, nI_eq, nI_add, oN, bz0, bz1, bw0, bw1, ltT, ltF, leT, leF, eqT, eqF, if_true, if_false, kI_n, wI_n, and_true, true_and, and_false, false_and, not_true, not_false_eq_true, mwo, mwr_0, mwr_1, mwr_2, mwg_3, mwp_3, mwr_4, mwg_5, mwp_5, mwg_6, mwp_6, mwr_7, mwr_8, mwg_9, mwp_9, mwg_10, mwp_10, mwg_11, mwp_11, mwr_12, mwg_13, mwp_13, mwr_14, mwr_15, mwr_16, mwr_17, mwr_18, mwr_19, mwg_20, mwp_20, mwr_21, mwr_22, mwr_23, mwa_1, mwu_1, mwa_2, mwu_2, mwa_3, mwu_3, mwa_4, mwu_4, mwa_5, mwu_5, mwa_6, mwu_6, mwa_7, mwu_7, mwa_8, mwu_8, mwa_9, mwu_9, mwa_10, mwu_10, mwa_11, mwu_11, mwa_12, mwu_12, mwa_13, mwu_13, mwa_14, mwu_14, mwa_15, mwu_15, mwa_16, mwu_16, vu_at, vu_ne, pk_us, pk_un, kB_n, wB_n, kL_n, wL_n]
    · rw [if_neg h5]
      have es := sib_bd (d := d) (p := q) (by omega) h1
      have g := hB _ es.1 es.2
      have hn : q / 2 < 2 ^ k := by rw [Nat.pow_succ] at h2; omega
      cases hb : br d W (sib q) with
      | true =>
        rw [hb] at g
        have := ih (q / 2) s (by omega) hn
        simp only [if_true, Nat.zero_add]
        rw [← this]
        rw [e207_9]
        simp (disch := first | omega | exact tl_l | exact tT_len | (simp only [List.length_cons, List.length_nil])) only [e207_0, e207_1, e207_2, e207_3, e207_6, e207_7, e207_8, e207_10, e207_11, e207_14, e207_15, e207_16, e207_19, e207_20, e207_23, e207_24, e207_27, e207_28, e207_31, e207_32, e207_33, e207_34, e207_35, e207_36, e207_37, e207_38, e207_41, e207_42, kv_s, kh_s, kr_s, kr_v, kn_s, z0, z1, z2, nI_ltI, nI_leI, nI_eq, nI_add, oN, bz0, bz1, bw0, bw1, ltT, ltF, leT, leF, eqT, eqF, if_true, if_false, kI_n, wI_n, and_true, true_and, and_false, false_and, not_true, not_false_eq_true, mwo, mwr_0, mwr_1, mwr_2, mwg_3, mwp_3, mwr_4, mwg_5, mwp_5, mwg_6, mwp_6, mwr_7, mwr_8, mwg_9, mwp_9, mwg_10, mwp_10, mwg_11, mwp_11, mwr_12, mwg_13, mwp_13, mwr_14, mwr_15, mwr_16, mwr_17, mwr_18, mwr_19, mwg_20, mwp_20, mwr_21, mwr_22, mwr_23, mwa_1, mwu_1, mwa_2, mwu_2, mwa_3, mwu_3, mwa_4, mwu_4, mwa_5, mwu_5, mwa_6, mwu_6, mwa_7, mwu_7, mwa_8, mwu_8, mwa_9, mwu_9, mwa_10, mwu_10, mwa_11, mwu_11, mwa_12, mwu_12, mwa_13, mwu_13, mwa_14, mwu_14, mwa_15, mwu_15, mwa_16, mwu_16, vu_at, vu_ne, pk_us, pk_un, kB_n, wB_n, kL_n, wL_n, M_sibling, g, bI, n01, div2, Nat.add_zero, eq_false (show ¬ (nI 2 = nI 0) by decide)]
      | false =>
        rw [hb] at g
        have := ih (q / 2) (s + 1) (by omega) hn
        simp only [Bool.false_eq_true, if_false]
        rw [← Nat.add_assoc, ← this]
        rw [e207_9]
        simp (disch := first | omega | exact tl_l | exact tT_len | (simp only [List.length_cons, List.length_nil])) only [e207_0, e207_1, e207_2, e207_3, e207_6, e207_7, e207_8, e207_10, e207_11, e207_14, e207_15, e207_16, e207_19, e207_20, e207_23, e207_24, e207_27, e207_28, e207_31, e207_32, e207_33, e207_34, e207_35, e207_36, e207_37, e207_38, e207_41, e207_42, kv_s, kh_s, kr_s, kr_v, kn_s, z0, z1, z2, nI_ltI, nI_leI, nI_eq, nI_add, oN, bz0, bz1, bw0, bw1, ltT, ltF, leT, leF, eqT, eqF, if_true, if_false, kI_n, wI_n, and_true, true_and, and_false, false_and, not_true, not_false_eq_true, mwo, mwr_0, mwr_1, mwr_2, mwg_3, mwp_3, mwr_4, mwg_5, mwp_5, mwg_6, mwp_6, mwr_7, mwr_8, mwg_9, mwp_9, mwg_10, mwp_10, mwg_11, mwp_11, mwr_12, mwg_13, mwp_13, mwr_14, mwr_15, mwr_16, mwr_17, mwr_18, mwr_19, mwg_20, mwp_20, mwr_21, mwr_22, mwr_23, mwa_1, mwu_1, mwa_2, mwu_2, mwa_3, mwu_3, mwa_4, mwu_4, mwa_5, mwu_5, mwa_6, mwu_6, mwa_7, mwu_7, mwa_8, mwu_8, mwa_9, mwu_9, mwa_10, mwu_10, mwa_11, mwu_11, mwa_12, mwu_12, mwa_13, mwu_13, mwa_14, mwu_14, mwa_15, mwu_15, mwa_16, mwu_16, vu_at, vu_ne, pk_us, pk_un, kB_n, wB_n, kL_n, wL_n, M_sibling, g, bI, Bool.false_eq_true, div2, eq_false (show ¬ (nI 2 = nI 0) by decide)]
theorem M_proofMany (h : nowM (A 1) d f l V) (hB : ∀ p, 1 ≤ p → p < 2 * 2 ^ d → A 6 p = bI (br d W p)) {k : Nat} (hk : k < 2 ^ d) : dcall 207 [.ref m, .int (nI k)] (mw σ m A R I) = some (some (.int (nI (bes (br d W) 9 (2 ^ d + k)))), mw σ m A R I) := by
  have hK := h.K
  have e := M_proofMany_loop (σ := σ) (m := m) (R := R) (I := I) hK.2.2.1 hB (l1 := .int (nI k)) 9 (2 ^ d + k) 0 (by omega) (by omega)
  rw [Nat.zero_add] at e
  rw [← e]
  rw [q207]
  simp (disch := first | omega | exact tl_l | exact tT_len | (simp only [List.length_cons, List.length_nil])) only [e207_0, e207_1, e207_2, e207_3, e207_6, e207_7, e207_8, e207_10, e207_11, e207_14, e207_15, e207_16, e207_19, e207_20, e207_23, e207_24, e207_27, e207_28, e207_31, e207_32, e207_33, e207_34, e207_35, e207_36, e207_37, e207_38, e207_41, e207_42, kv_s, kh_s, kr_s, kr_v, kn_s, z0, z1, z2, nI_ltI, nI_leI, nI_eq, nI_add, oN, bz0, bz1, bw0, bw1, ltT, ltF, leT, leF, eqT, eqF, if_true, if_false, kI_n, wI_n, and_true, true_and, and_false, false_and, not_true, not_false_eq_true, mwo, mwr_0, mwr_1, mwr_2, mwg_3, mwp_3, mwr_4, mwg_5, mwp_5, mwg_6, mwp_6, mwr_7, mwr_8, mwg_9, mwp_9, mwg_10, mwp_10, mwg_11, mwp_11, mwr_12, mwg_13, mwp_13, mwr_14, mwr_15, mwr_16, mwr_17, mwr_18, mwr_19, mwg_20, mwp_20, mwr_21, mwr_22, mwr_23, mwa_1, mwu_1, mwa_2, mwu_2, mwa_3, mwu_3, mwa_4, mwu_4, mwa_5, mwu_5, mwa_6, mwu_6, mwa_7, mwu_7, mwa_8, mwu_8, mwa_9, mwu_9, mwa_10, mwu_10, mwa_11, mwu_11, mwa_12, mwu_12, mwa_13, mwu_13, mwa_14, mwu_14, mwa_15, mwu_15, mwa_16, mwu_16, vu_at, vu_ne, pk_us, pk_un, kB_n, wB_n, kL_n, wL_n, mwo, M_keys h]
theorem C_tog_loop (h : RB c σ T d f l V) {t : Nat} (t2 : isT (cw σ c A R I) t d W) (hc : CH A I d (sL L)) {l1 l3 : Value} : ∀ (n k : Nat), k + n = 2 ^ d → den 90 45 [.ref c, l1, .ref t, l3, .int (nI (smL (fun k => bes (br d W) 9 (2 ^ d + k)) L k)), .int (nI k)] [] (cw σ c A R I) = den 90 94 [.ref c, l1, .ref t, l3, .int (nI (smL (fun k => bes (br d W) 9 (2 ^ d + k)) L (2 ^ d))), .int (nI (2 ^ d))] [] (cw σ c A R I) := by
  have hK := h.K
  have hd := h.d8
  intro n
  induction n with
  | zero =>
    intro k hk
    have : k = 2 ^ d := by omega
    subst this
    rw [e90_45]
    simp (disch := first | omega | exact tl_l | exact tT_len | (simp only [List.length_cons, List.length_nil])) only [e90_47, e90_48, e90_51, e90_54, e90_57, e90_58, e90_61, e90_63, e90_66, e90_69, e90_71, e90_71n, e90_72, e90_73, e90_76, e90_79, e90_81, e90_82, e90_85, e90_86, e90_88, e90_91, kv_s, kh_s, kr_s, kr_v, kn_s, z0, z1, z2, nI_ltI, nI_leI, nI_eq, nI_add, oN, bz0, bz1, bw0, bw1, ltT, ltF, leT, leF, eqT, eqF, if_true, if_false, kI_n, wI_n, and_true, true_and, and_false, false_and, not_true, not_false_eq_true, h.x.f0, h.x.f1, h.x.f2, h.x.f3, h.x.f4, h.x.f5, h.x.f6, h.x.f7, h.x.o, h.hi.o, h.hi.gd, h.hi.gf, h.hi.gl, Hi_keys h.hi h.d8, Hi_hasKey h.hi h.d8, Rw_empty, Rw_add, List.nil_append, List.cons_append, upd_upd, cwo_1, cwo_3, cwo_5, cwo_7, cwo_17, Bool.false_eq_true, n01]
  | succ n ih =>
    intro k hk
    have hh := Ch_has (σ := σ) (c := c) (R := R) hc hd (show k < 2 ^ d by omega)
    have es : smL (fun k => bes (br d W) 9 (2 ^ d + k)) L (k + 1) = smL (fun k => bes (br d W) 9 (2 ^ d + k)) L k + if k ∈ L then bes (br d W) 9 (2 ^ d + k) else 0 := by
      show sm _ 0 k + (if 0 + k ∈ L then bes (br d W) 9 (2 ^ d + (0 + k)) else 0) = _
      rw [Nat.zero_add]
      rfl
    rw [← ih (k + 1) (by omega), es]
    rw [e90_45]
    by_cases hl : k ∈ L
    · rw [if_pos (sL_pos.mpr hl)] at hh
      rw [if_pos hl]
      simp (disch := first | omega | exact tl_l | exact tT_len | (simp only [List.length_cons, List.length_nil])) only [e90_47, e90_48, e90_51, e90_54, e90_57, e90_58, e90_61, e90_63, e90_66, e90_69, e90_71, e90_71n, e90_72, e90_73, e90_76, e90_79, e90_81, e90_82, e90_85, e90_86, e90_88, e90_91, kv_s, kh_s, kr_s, kr_v, kn_s, z0, z1, z2, nI_ltI, nI_leI, nI_eq, nI_add, oN, bz0, bz1, bw0, bw1, ltT, ltF, leT, leF, eqT, eqF, if_true, if_false, kI_n, wI_n, and_true, true_and, and_false, false_and, not_true, not_false_eq_true, cwo_1, cwr_1, cwg_0, cwg_1, cwg_2, cwa_0, cwl_0, cwo_3, cwr_3, cwg_3, cwa_R, cwl_R, cwo_5, cwr_5, cwg_4, cwg_5, cwg_6, cwg_7, cwg_8, cwa_1, cwl_1, cwo_7, cwr_7, cwg_9, cwg_10, cwg_11, cwg_12, cwg_13, cwa_2, cwl_2, cwo_17, cwr_17, cwg_14, cwa_3, cwl_3, cwp_0, cwp_1, cwp_2, cwp_3, cwp_4, cwp_5, cwp_6, cwp_7, cwp_8, cwp_9, cwp_10, cwp_11, cwp_12, cwp_13, cwp_14, cwu_0, cwu_R, cwu_1, cwu_2, cwu_3, vu_at, vu_ne, pk_us, pk_un, h.x.f0, h.x.f1, h.x.f2, h.x.f3, h.x.f4, h.x.f5, h.x.f6, h.x.f7, h.x.o, h.hi.o, h.hi.gd, h.hi.gf, h.hi.gl, Hi_keys h.hi h.d8, Hi_hasKey h.hi h.d8, Rw_empty, Rw_add, List.nil_append, List.cons_append, upd_upd, cwo_1, cwo_3, cwo_5, cwo_7, cwo_17, Bool.false_eq_true, n01, hh, t2.o, T_beside t2 (show 2 ^ d + k < 2 * 2 ^ d by omega)]
    · rw [if_neg (fun z => hl (sL_pos.mp z))] at hh
      rw [if_neg hl]
      simp (disch := first | omega | exact tl_l | exact tT_len | (simp only [List.length_cons, List.length_nil])) only [e90_47, e90_48, e90_51, e90_54, e90_57, e90_58, e90_61, e90_63, e90_66, e90_69, e90_71, e90_71n, e90_72, e90_73, e90_76, e90_79, e90_81, e90_82, e90_85, e90_86, e90_88, e90_91, kv_s, kh_s, kr_s, kr_v, kn_s, z0, z1, z2, nI_ltI, nI_leI, nI_eq, nI_add, oN, bz0, bz1, bw0, bw1, ltT, ltF, leT, leF, eqT, eqF, if_true, if_false, kI_n, wI_n, and_true, true_and, and_false, false_and, not_true, not_false_eq_true, cwo_1, cwr_1, cwg_0, cwg_1, cwg_2, cwa_0, cwl_0, cwo_3, cwr_3, cwg_3, cwa_R, cwl_R, cwo_5, cwr_5, cwg_4, cwg_5, cwg_6, cwg_7, cwg_8, cwa_1, cwl_1, cwo_7, cwr_7, cwg_9, cwg_10, cwg_11, cwg_12, cwg_13, cwa_2, cwl_2, cwo_17, cwr_17, cwg_14, cwa_3, cwl_3, cwp_0, cwp_1, cwp_2, cwp_3, cwp_4, cwp_5, cwp_6, cwp_7, cwp_8, cwp_9, cwp_10, cwp_11, cwp_12, cwp_13, cwp_14, cwu_0, cwu_R, cwu_1, cwu_2, cwu_3, vu_at, vu_ne, pk_us, pk_un, h.x.f0, h.x.f1, h.x.f2, h.x.f3, h.x.f4, h.x.f5, h.x.f6, h.x.f7, h.x.o, h.hi.o, h.hi.gd, h.hi.gf, h.hi.gl, Hi_keys h.hi h.d8, Hi_hasKey h.hi h.d8, Rw_empty, Rw_add, List.nil_append, List.cons_append, upd_upd, cwo_1, cwo_3, cwo_5, cwo_7, cwo_17, Bool.false_eq_true, n01, hh, Nat.add_zero]
theorem M_tog_loop {x l2 : Value} (hm : ∀ y, y ∈ L → y < 2 ^ d) (hl : L.length ≤ 80) (hI : I 13 = nI L.length) : ∀ (S P : List Nat) (A : Nat → Nat → Int32), L = P ++ S → nd2 P S → nowM (A 1) d f l V → RD (A 7) L → (∀ p, 1 ≤ p → p < 2 * 2 ^ d → A 6 p = bI (br d W p)) → OV d (sL P) (A 9) → ∃ O, den 206 99 [.ref m, x, l2, .int (nI (smL (fun k => bes (br d W) 9 (2 ^ d + k)) P (2 ^ d))), .int (nI P.length)] [] (mw σ m A R I) = den 206 143 [.ref m, x, l2, .int (nI (smL (fun k => bes (br d W) 9 (2 ^ d + k)) L (2 ^ d))), .int (nI L.length)] [] (mw σ m (va_up A 9 O) R I) ∧ OV d (sL L) O := by
  intro S
  induction S with
  | nil =>
    intro P A hL hn h hR hB hO
    have : P = L := by rw [hL, List.append_nil]
    subst this
    refine ⟨A 9, ?_, hO⟩
    rw [vu_id]
    rw [e206_99]
    simp (disch := first | omega | exact tl_l | exact tT_len | (simp only [List.length_cons, List.length_nil])) only [e206_101, e206_102, e206_105, e206_108, e206_109, e206_110, e206_113, e206_114, e206_116, e206_117, e206_118, e206_121, e206_122, e206_123, e206_124, e206_127, e206_128, e206_130, e206_131, e206_132, e206_135, e206_136, e206_137, e206_140, kv_s, kh_s, kr_s, kr_v, kn_s, z0, z1, z2, nI_ltI, nI_leI, nI_eq, nI_add, oN, bz0, bz1, bw0, bw1, ltT, ltF, leT, leF, eqT, eqF, if_true, if_false, kI_n, wI_n, and_true, true_and, and_false, false_and, not_true, not_false_eq_true, mwo, mwr_0, mwr_1, mwr_2, mwg_3, mwp_3, mwr_4, mwg_5, mwp_5, mwg_6, mwp_6, mwr_7, mwr_8, mwg_9, mwp_9, mwg_10, mwp_10, mwg_11, mwp_11, mwr_12, mwg_13, mwp_13, mwr_14, mwr_15, mwr_16, mwr_17, mwr_18, mwr_19, mwg_20, mwp_20, mwr_21, mwr_22, mwr_23, mwa_1, mwu_1, mwa_2, mwu_2, mwa_3, mwu_3, mwa_4, mwu_4, mwa_5, mwu_5, mwa_6, mwu_6, mwa_7, mwu_7, mwa_8, mwu_8, mwa_9, mwu_9, mwa_10, mwu_10, mwa_11, mwu_11, mwa_12, mwu_12, mwa_13, mwu_13, mwa_14, mwu_14, mwa_15, mwu_15, mwa_16, mwu_16, vu_at, vu_ne, pk_us, pk_un, kB_n, wB_n, kL_n, wL_n, hI]
  | cons v S ih =>
    intro P A hL hn h hR hB hO
    have hK := h.K
    have hv : v ∈ L := by rw [hL]; simp
    have hvK := hm v hv
    have hlt : P.length < L.length := by rw [hL, List.length_append, List.length_cons]; omega
    have hr := hR P.length hlt
    have hLv : L[P.length]? = some v := by rw [hL, List.getElem?_append_right (Nat.le_refl _), Nat.sub_self]; rfl
    rw [hLv] at hr
    have hr : A 7 (2 * P.length) = nI v := by simpa using hr
    have e9 : nowM (va_up A 9 (fun q => if onb 9 (2 ^ d + v) q = true then nI 1 else A 9 q) 1) d f l V := by rw [vu_ne (by omega)]; exact h
    have hmo := M_markOver (σ := σ) (m := m) (R := R) (I := I) h hvK
    have hpm := M_proofMany (σ := σ) (m := m) (A := va_up A 9 (fun q => if onb 9 (2 ^ d + v) q = true then nI 1 else A 9 q)) (R := R) (I := I) (W := W) e9 (fun p q1 q2 => by rw [vu_ne (by omega)]; exact hB p q1 q2) hvK
    have hO2 := OV_add hK.2.2.1 hO hvK
    rw [sL_add] at hO2
    obtain ⟨O, e1, e2⟩ := ih (P ++ [v]) (va_up A 9 (fun q => if onb 9 (2 ^ d + v) q = true then nI 1 else A 9 q)) (by rw [hL, List.append_assoc]; rfl) hn.2 e9 (by rw [vu_ne (by omega)]; exact hR) (fun p q1 q2 => by rw [vu_ne (by omega)]; exact hB p q1 q2) (by rw [vu_at]; exact hO2)
    rw [vu_vu] at e1
    have hll : (P ++ [v]).length = P.length + 1 := by rw [List.length_append]; rfl
    rw [smL_add hvK hn.1, hll] at e1
    refine ⟨O, ?_, e2⟩
    rw [← e1]
    have h97 : ∀ {X : Nat → Int32}, va_up A 9 X 7 = A 7 := fun {X} => vu_ne (by omega)
    rw [e206_99]
    simp (disch := first | omega | exact tl_l | exact tT_len | (simp only [List.length_cons, List.length_nil])) only [e206_101, e206_102, e206_105, e206_108, e206_109, e206_110, e206_113, e206_114, e206_116, e206_117, e206_118, e206_121, e206_122, e206_123, e206_124, e206_127, e206_128, e206_130, e206_131, e206_132, e206_135, e206_136, e206_137, e206_140, kv_s, kh_s, kr_s, kr_v, kn_s, z0, z1, z2, nI_ltI, nI_leI, nI_eq, nI_add, oN, bz0, bz1, bw0, bw1, ltT, ltF, leT, leF, eqT, eqF, if_true, if_false, kI_n, wI_n, and_true, true_and, and_false, false_and, not_true, not_false_eq_true, mwo, mwr_0, mwr_1, mwr_2, mwg_3, mwp_3, mwr_4, mwg_5, mwp_5, mwg_6, mwp_6, mwr_7, mwr_8, mwg_9, mwp_9, mwg_10, mwp_10, mwg_11, mwp_11, mwr_12, mwg_13, mwp_13, mwr_14, mwr_15, mwr_16, mwr_17, mwr_18, mwr_19, mwg_20, mwp_20, mwr_21, mwr_22, mwr_23, mwa_1, mwu_1, mwa_2, mwu_2, mwa_3, mwu_3, mwa_4, mwu_4, mwa_5, mwu_5, mwa_6, mwu_6, mwa_7, mwu_7, mwa_8, mwu_8, mwa_9, mwu_9, mwa_10, mwu_10, mwa_11, mwu_11, mwa_12, mwu_12, mwa_13, mwu_13, mwa_14, mwu_14, mwa_15, mwu_15, mwa_16, mwu_16, vu_at, vu_ne, pk_us, pk_un, kB_n, wB_n, kL_n, wL_n, hI, nI_two, hr, hmo, h97, hpm]
end TH
theorem RC.rd {A : Nat → Nat → Int32} {R : Nat → Int64} {I : Nat → Int32} {n : Nat} {B : Nat → Nat} {L : List Int64} {q : Option Hn} (h : RC A R I n B L q) {F : Nat → Int32} {d p : Nat} {e : Option Nat} (hd : d ≤ 8) : RC (va_up A 3 F) R (upd (ti (upd I 14 (nI d)) p e) 0 (nI 0)) 0 B L q := by
  refine (h.cho (F := F) hd).text (B' := B) ⟨Nat.zero_le _, pk_us, fun i hi => absurd hi (Nat.not_lt_zero i)⟩ rfl fun j hj => ?_
  rw [pk_un (by omega), ti_o (by omega) (by omega)]
theorem RM.rd {A2 A2' : Nat → Nat → Int32} {R2 : Nat → Int64} {I2 I2' : Nat → Int32} {z : Hs} {n : Nat} {B : Nat → Nat} {L : List Int64} {q : Option Hn} {K : Nat → Option Hs} (h : RM A2 R2 I2 z n B L q K) (hA : ∀ k, k = 1 ∨ k = 2 ∨ k = 15 ∨ k = 16 → A2' k = A2 k) (h3 : I2' 3 = nI 0) (h5 : I2' 5 = I2 5) : RM A2' R2 I2' z 0 B L q K := by
  obtain ⟨g1, g2, g3, g4, g5, g6, g7⟩ := h
  exact ⟨by rw [hA 1 (by omega)]; exact g1, by rw [hA 2 (by omega)]; exact g2, h3, fun i hi => absurd hi (Nat.not_lt_zero i), h5.trans g5, g6, fun j hj => RMk_stay' (fun k hk => hA k (by omega)) (g7 j hj)⟩
theorem okZ.rd {i : Nat} {z : Hs} {n : Nat} {q : Option Hn} {K : Nat → Option Hs} (h : okZ i z n q K) (hi : i < 600) : okZ (i + 1) z 0 q K := by
  obtain ⟨o1, o2, o3, o4, o5⟩ := h.up hi
  exact ⟨o1, fun j y q1 q2 => ⟨(o2 j y q1 q2).1, by have := (o2 j y q1 q2).2; omega⟩, by omega, o4, o5⟩
theorem J_together (x : Int32) : Jn 90 206 [.int x] := by
  rintro c i σ hi ⟨z, n, B, L, q, K, A, R, I, A2, R2, I2, h⟩
  obtain ⟨T, hb⟩ := h.rb
  have hN := h.nm
  have hd := hb.d8
  have hK := hb.K
  obtain ⟨dc, dc1, hI⟩ := h.2.2.2.1.2.2.2.2
  have hB := h.2.2.2.1.1
  have hn := hB.1
  have hMB : MB A2 n B := ⟨hn, fun j hj => ⟨h.2.2.2.2.1.2.2.2.1 j hj, (hB.2.2 j hj).2⟩⟩
  have hM3 := h.2.2.2.2.1.2.2.1
  obtain ⟨r1, r2⟩ := C_readKeys (R := R) hb hB hI
  have hmI : upd I2 6 (nI 0) 3 = nI n := (pk_un (by omega)).trans hM3
  obtain ⟨k1, k2⟩ := M_keys_loop (σ := σ) (m := c + 24) (R := R2) (f := z.2.1) (l := z.2.2.1) (V := z.2.2.2) (d := z.1) (n := n) (B := B) (x := .int x) (l3 := junk) (l4 := junk) (n + 1) [] 0 A2 (upd (upd I2 6 (nI 0)) 13 (nI 0)) hMB hN (fun i hi => absurd hi (Nat.not_lt_zero i)) pk_us (fun y hy => by cases hy) (Nat.le_refl _) (Nat.zero_le _) (by omega)
  have k1 := fun τ => (M_keys_loop (σ := τ) (m := c + 24) (R := R2) (f := z.2.1) (l := z.2.2.1) (V := z.2.2.2) (d := z.1) (n := n) (B := B) (x := .int x) (l3 := junk) (l4 := junk) (n + 1) [] 0 A2 (upd (upd I2 6 (nI 0)) 13 (nI 0)) hMB hN (fun i hi => absurd hi (Nat.not_lt_zero i)) pk_us (fun y hy => by cases hy) (Nat.le_refl _) (Nat.zero_le _) (by omega)).1
  have k2 := fun τ => (M_keys_loop (σ := τ) (m := c + 24) (R := R2) (f := z.2.1) (l := z.2.2.1) (V := z.2.2.2) (d := z.1) (n := n) (B := B) (x := .int x) (l3 := junk) (l4 := junk) (n + 1) [] 0 A2 (upd (upd I2 6 (nI 0)) 13 (nI 0)) hMB hN (fun i hi => absurd hi (Nat.not_lt_zero i)) pk_us (fun y hy => by cases hy) (Nat.le_refl _) (Nat.zero_le _) (by omega)).2
  have hmu : upd (mt (upd I2 6 (nI 0)) n 0 none) 13 (nI 0) = mt (upd (upd I2 6 (nI 0)) 13 (nI 0)) n 0 none := mt_u (by omega)
  rcases C_find hb x with ⟨ho, e1⟩ | ⟨v, t, a1, a2, rfl, t1, t2, e1⟩
  · -- no such version
    have hcl : ∃ F p e b, dcall 91 [.ref c] (cw σ c A R I) = some (some (.int b), cw σ c (va_up A 3 F) R (ti (upd I 14 (nI z.1)) p e)) := by
      cases hk : kr1 n B (2 ^ z.1) (n + 1) [] 0 with
      | inl q0 =>
        obtain ⟨F, p', w1, _⟩ := r1 q0 hk
        exact ⟨F, p', some q0, _, w1⟩
      | inr L' =>
        obtain ⟨F, w1, _⟩ := r2 L' hk
        exact ⟨F, n, none, _, w1⟩
    obtain ⟨F, p, e, b, w1⟩ := hcl
    refine Inv_regs h (b := .int (-nI 200)) (A' := va_up A 3 F) (R' := R) (I' := upd (ti (upd I 14 (nI z.1)) p e) 0 (nI 0)) (A2' := A2) (R2' := R2) (I2' := mt (upd I2 6 (nI 0)) n 0 none) ?_ ?_ (h.2.2.2.1.rd hd) (h.2.2.2.2.1.rd (fun k _ => rfl) mt_3 ((mt_o (by omega)).trans (pk_un (by omega)))) (h.2.2.2.2.2.rd hi)
    · have h := hb
      rw [q90]
      simp (disch := first | omega | exact tl_l | exact tT_len | (simp only [List.length_cons, List.length_nil])) only [e90_0, e90_1, e90_4, e90_5, e90_8, e90_8n, e90_9, e90_10, e90_13, e90_14, e90_15, e90_18, e90_19, e90_22, e90_22n, e90_23, e90_23n, e90_26, e90_29, e90_30, e90_31, e90_32, e90_35, e90_36, e90_37, e90_38, e90_39, e90_40, e90_42, e90_43, e90_47, e90_48, e90_51, e90_54, e90_57, e90_58, e90_61, e90_63, e90_66, e90_69, e90_71, e90_71n, e90_72, e90_73, e90_76, e90_79, e90_81, e90_82, e90_85, e90_86, e90_88, e90_91, e90_94, e90_95, e90_98, e90_101, e90_102, e90_105, e90_107, e90_108, e90_111, e90_112, e90_115, e90_116, e90_119, e90_122, e90_123, e90_126, e90_127, e90_127n, e90_128, e90_131, kv_s, kh_s, kr_s, kr_v, kn_s, z0, z1, z2, nI_ltI, nI_leI, nI_eq, nI_add, oN, bz0, bz1, bw0, bw1, ltT, ltF, leT, leF, eqT, eqF, if_true, if_false, kI_n, wI_n, and_true, true_and, and_false, false_and, not_true, not_false_eq_true, cwo_1, cwr_1, cwg_0, cwg_1, cwg_2, cwa_0, cwl_0, cwo_3, cwr_3, cwg_3, cwa_R, cwl_R, cwo_5, cwr_5, cwg_4, cwg_5, cwg_6, cwg_7, cwg_8, cwa_1, cwl_1, cwo_7, cwr_7, cwg_9, cwg_10, cwg_11, cwg_12, cwg_13, cwa_2, cwl_2, cwo_17, cwr_17, cwg_14, cwa_3, cwl_3, cwp_0, cwp_1, cwp_2, cwp_3, cwp_4, cwp_5, cwp_6, cwp_7, cwp_8, cwp_9, cwp_10, cwp_11, cwp_12, cwp_13, cwp_14, cwu_0, cwu_R, cwu_1, cwu_2, cwu_3, vu_at, vu_ne, pk_us, pk_un, h.x.f0, h.x.f1, h.x.f2, h.x.f3, h.x.f4, h.x.f5, h.x.f6, h.x.f7, h.x.o, h.hi.o, h.hi.gd, h.hi.gf, h.hi.gl, Hi_keys h.hi h.d8, Hi_hasKey h.hi h.d8, Rw_empty, Rw_add, List.nil_append, List.cons_append, upd_upd, cwo_1, cwo_3, cwo_5, cwo_7, cwo_17, Bool.false_eq_true, n01, e1, w1, show (200 : Int32) = nI 200 from rfl]
    · rw [q206]
      simp (disch := first | omega | exact tl_l | exact tT_len | (simp only [List.length_cons, List.length_nil])) only [e206_0, e206_1, e206_2, e206_5, e206_6, e206_9, e206_10, e206_11, e206_14, e206_17, e206_20, e206_21, e206_22, e206_23, e206_26, e206_27, e206_29, e206_32, e206_33, e206_36, e206_37, e206_38, e206_41, e206_42, e206_43, e206_44, e206_47, e206_50, e206_51, e206_52, e206_53, e206_56, e206_57, e206_58, e206_61, e206_62, e206_64, e206_67, e206_68, e206_71, e206_72, e206_75, e206_78, e206_79, e206_80, e206_83, e206_84, e206_85, e206_86, e206_87, e206_90, e206_91, e206_94, e206_95, e206_96, e206_97, e206_101, e206_102, e206_105, e206_108, e206_109, e206_110, e206_113, e206_114, e206_116, e206_117, e206_118, e206_121, e206_122, e206_123, e206_124, e206_127, e206_128, e206_130, e206_131, e206_132, e206_135, e206_136, e206_137, e206_140, e206_143, e206_144, e206_147, e206_149, e206_150, e206_151, e206_154, e206_155, e206_156, e206_157, e206_160, e206_161, e206_162, e206_165, e206_166, e206_169, e206_171, kv_s, kh_s, kr_s, kr_v, kn_s, z0, z1, z2, nI_ltI, nI_leI, nI_eq, nI_add, oN, bz0, bz1, bw0, bw1, ltT, ltF, leT, leF, eqT, eqF, if_true, if_false, kI_n, wI_n, and_true, true_and, and_false, false_and, not_true, not_false_eq_true, mwo, mwr_0, mwr_1, mwr_2, mwg_3, mwp_3, mwr_4, mwg_5, mwp_5, mwg_6, mwp_6, mwr_7, mwr_8, mwg_9, mwp_9, mwg_10, mwp_10, mwg_11, mwp_11, mwr_12, mwg_13, mwp_13, mwr_14, mwr_15, mwr_16, mwr_17, mwr_18, mwr_19, mwg_20, mwp_20, mwr_21, mwr_22, mwr_23, mwa_1, mwu_1, mwa_2, mwu_2, mwa_3, mwu_3, mwa_4, mwu_4, mwa_5, mwu_5, mwa_6, mwu_6, mwa_7, mwu_7, mwa_8, mwu_8, mwa_9, mwu_9, mwa_10, mwu_10, mwa_11, mwu_11, mwa_12, mwu_12, mwa_13, mwu_13, mwa_14, mwu_14, mwa_15, mwu_15, mwa_16, mwu_16, vu_at, vu_ne, pk_us, pk_un, kB_n, wB_n, kL_n, wL_n, M_begin hmI, M_ver0 hN ho, show (200 : Int32) = nI 200 from rfl]
  · have far := (hb.far (Nat.mod_lt _ (by omega)) t1).1
    cases hk : kr1 n B (2 ^ z.1) (n + 1) [] 0 with
    | inl q0 =>
      obtain ⟨F, p', w1, w2⟩ := r1 q0 hk
      obtain ⟨A2', I2', p2, v1, v2, v3⟩ := k1 (cw σ c (va_up A 3 F) R (upd (ti (upd I 14 (nI z.1)) p' (some q0)) 0 (nI 0))) q0 hk
      refine Inv_regs h (b := .int (-nI 1 - nI q0)) (A' := va_up A 3 F) (R' := R) (I' := upd (ti (upd I 14 (nI z.1)) p' (some q0)) 0 (nI 0)) (A2' := A2') (R2' := R2) (I2' := mt I2' n p2 (some q0)) ?_ ?_ (h.2.2.2.1.rd hd) (h.2.2.2.2.1.rd (fun k hk => v2 k (by omega)) mt_3 ((mt_o (by omega)).trans ((v3 5 (by omega)).trans ((pk_un (by omega)).trans (pk_un (by omega)))))) (h.2.2.2.2.2.rd hi)
      · have h := hb
        rw [q90]
        simp (disch := first | omega | exact tl_l | exact tT_len | (simp only [List.length_cons, List.length_nil])) only [e90_0, e90_1, e90_4, e90_5, e90_8, e90_8n, e90_9, e90_10, e90_13, e90_14, e90_15, e90_18, e90_19, e90_22, e90_22n, e90_23, e90_23n, e90_26, e90_29, e90_30, e90_31, e90_32, e90_35, e90_36, e90_37, e90_38, e90_39, e90_40, e90_42, e90_43, e90_47, e90_48, e90_51, e90_54, e90_57, e90_58, e90_61, e90_63, e90_66, e90_69, e90_71, e90_71n, e90_72, e90_73, e90_76, e90_79, e90_81, e90_82, e90_85, e90_86, e90_88, e90_91, e90_94, e90_95, e90_98, e90_101, e90_102, e90_105, e90_107, e90_108, e90_111, e90_112, e90_115, e90_116, e90_119, e90_122, e90_123, e90_126, e90_127, e90_127n, e90_128, e90_131, kv_s, kh_s, kr_s, kr_v, kn_s, z0, z1, z2, nI_ltI, nI_leI, nI_eq, nI_add, oN, bz0, bz1, bw0, bw1, ltT, ltF, leT, leF, eqT, eqF, if_true, if_false, kI_n, wI_n, and_true, true_and, and_false, false_and, not_true, not_false_eq_true, cwo_1, cwr_1, cwg_0, cwg_1, cwg_2, cwa_0, cwl_0, cwo_3, cwr_3, cwg_3, cwa_R, cwl_R, cwo_5, cwr_5, cwg_4, cwg_5, cwg_6, cwg_7, cwg_8, cwa_1, cwl_1, cwo_7, cwr_7, cwg_9, cwg_10, cwg_11, cwg_12, cwg_13, cwa_2, cwl_2, cwo_17, cwr_17, cwg_14, cwa_3, cwl_3, cwp_0, cwp_1, cwp_2, cwp_3, cwp_4, cwp_5, cwp_6, cwp_7, cwp_8, cwp_9, cwp_10, cwp_11, cwp_12, cwp_13, cwp_14, cwu_0, cwu_R, cwu_1, cwu_2, cwu_3, vu_at, vu_ne, pk_us, pk_un, h.x.f0, h.x.f1, h.x.f2, h.x.f3, h.x.f4, h.x.f5, h.x.f6, h.x.f7, h.x.o, h.hi.o, h.hi.gd, h.hi.gf, h.hi.gl, Hi_keys h.hi h.d8, Hi_hasKey h.hi h.d8, Rw_empty, Rw_add, List.nil_append, List.cons_append, upd_upd, cwo_1, cwo_3, cwo_5, cwo_7, cwo_17, Bool.false_eq_true, n01, e1, w1, nI_n1]
      · rw [← v1]
        rw [q206]
        simp (disch := first | omega | exact tl_l | exact tT_len | (simp only [List.length_cons, List.length_nil])) only [e206_0, e206_1, e206_2, e206_5, e206_6, e206_9, e206_10, e206_11, e206_14, e206_17, e206_20, e206_21, e206_22, e206_23, e206_26, e206_27, e206_29, e206_32, e206_33, e206_36, e206_37, e206_38, e206_41, e206_42, e206_43, e206_44, e206_47, e206_50, e206_51, e206_52, e206_53, e206_56, e206_57, e206_58, e206_61, e206_62, e206_64, e206_67, e206_68, e206_71, e206_72, e206_75, e206_78, e206_79, e206_80, e206_83, e206_84, e206_85, e206_86, e206_87, e206_90, e206_91, e206_94, e206_95, e206_96, e206_97, e206_101, e206_102, e206_105, e206_108, e206_109, e206_110, e206_113, e206_114, e206_116, e206_117, e206_118, e206_121, e206_122, e206_123, e206_124, e206_127, e206_128, e206_130, e206_131, e206_132, e206_135, e206_136, e206_137, e206_140, e206_143, e206_144, e206_147, e206_149, e206_150, e206_151, e206_154, e206_155, e206_156, e206_157, e206_160, e206_161, e206_162, e206_165, e206_166, e206_169, e206_171, kv_s, kh_s, kr_s, kr_v, kn_s, z0, z1, z2, nI_ltI, nI_leI, nI_eq, nI_add, oN, bz0, bz1, bw0, bw1, ltT, ltF, leT, leF, eqT, eqF, if_true, if_false, kI_n, wI_n, and_true, true_and, and_false, false_and, not_true, not_false_eq_true, mwo, mwr_0, mwr_1, mwr_2, mwg_3, mwp_3, mwr_4, mwg_5, mwp_5, mwg_6, mwp_6, mwr_7, mwr_8, mwg_9, mwp_9, mwg_10, mwp_10, mwg_11, mwp_11, mwr_12, mwg_13, mwp_13, mwr_14, mwr_15, mwr_16, mwr_17, mwr_18, mwr_19, mwg_20, mwp_20, mwr_21, mwr_22, mwr_23, mwa_1, mwu_1, mwa_2, mwu_2, mwa_3, mwu_3, mwa_4, mwu_4, mwa_5, mwu_5, mwa_6, mwu_6, mwa_7, mwu_7, mwa_8, mwu_8, mwa_9, mwu_9, mwa_10, mwu_10, mwa_11, mwu_11, mwa_12, mwu_12, mwa_13, mwu_13, mwa_14, mwu_14, mwa_15, mwu_15, mwa_16, mwu_16, vu_at, vu_ne, pk_us, pk_un, kB_n, wB_n, kL_n, wL_n, M_begin hmI, M_ver hN a1 a2, n01, hmu]
    | inr L' =>
      obtain ⟨F, w1, w2⟩ := r2 L' hk
      obtain ⟨nd, hmem⟩ := kr_nd hk
      have hW := (h.ok v a1 a2).1
      have hch : ∀ {I' : Nat → Int32} {x : Int32}, I' 14 = nI z.1 → CH (va_up A 3 F) (upd I' 3 x) z.1 (sL L') := fun {I' x} e => ⟨(pk_un (by omega)).trans e, by rw [vu_at]; exact w2⟩
      have h14 : upd (ti (upd I 14 (nI z.1)) n none) 0 (nI 0) 14 = nI z.1 := by rw [pk_un (by omega), ti_o (by omega) (by omega), pk_us]
      have hc0 : CH (va_up A 3 F) (upd (ti (upd I 14 (nI z.1)) n none) 0 (nI 0)) z.1 (sL L') := ⟨h14, by rw [vu_at]; exact w2⟩
      have cl := C_tog_loop (R := R) hb (t2 (A := va_up A 3 F) (R := R) (I := upd (ti (upd I 14 (nI z.1)) n none) 0 (nI 0))) hc0 (l1 := .int (nI v)) (l3 := .int (-nI 1)) (2 ^ z.1) 0 (Nat.zero_add _)
      have e0 : smL (fun k => bes (br z.1 (z.2.2.2 v)) 9 (2 ^ z.1 + k)) L' 0 = 0 := rfl
      rw [e0] at cl
      let a := nI (smL (fun k => bes (br z.1 (z.2.2.2 v)) 9 (2 ^ z.1 + k)) L' (2 ^ z.1))
      let w := nI (cnt (nz z.1 (sL L')) 1 (2 * 2 ^ z.1 - 1))
      have kw := fun R x => Ch_work (σ := σ) (c := c) (A := va_up A 3 F) (R := R) (I := upd (upd (ti (upd I 14 (nI z.1)) n none) 0 (nI 0)) 3 x) (S := sL L') (hch h14) hd
      have kn := fun R x => A_needed (σ := σ) (A := va_up A 3 F) (R := R) (I := upd (upd (ti (upd I 14 (nI z.1)) n none) 0 (nI 0)) 3 x) (S := sL L') hb t2 (hch h14)
      have eC : dcall 90 [.ref c, .int (nI v)] (cw σ c A R I) = some (some (.int (nI (cnt (nP z.1 (sL L') (z.2.2.2 v)) 2 (2 * 2 ^ z.1 - 2)))), cw σ c (va_up A 3 F) (rl R [a.toInt64, w.toInt64]) (upd (upd (ti (upd I 14 (nI z.1)) n none) 0 (nI 0)) 3 (nI 2))) := by
        have h := hb
        rw [q90]
        simp (disch := first | omega | exact tl_l | exact tT_len | (simp only [List.length_cons, List.length_nil])) only [e90_0, e90_1, e90_4, e90_5, e90_8, e90_8n, e90_9, e90_10, e90_13, e90_14, e90_15, e90_18, e90_19, e90_22, e90_22n, e90_23, e90_23n, e90_26, e90_29, e90_30, e90_31, e90_32, e90_35, e90_36, e90_37, e90_38, e90_39, e90_40, e90_42, e90_43, e90_47, e90_48, e90_51, e90_54, e90_57, e90_58, e90_61, e90_63, e90_66, e90_69, e90_71, e90_71n, e90_72, e90_73, e90_76, e90_79, e90_81, e90_82, e90_85, e90_86, e90_88, e90_91, e90_94, e90_95, e90_98, e90_101, e90_102, e90_105, e90_107, e90_108, e90_111, e90_112, e90_115, e90_116, e90_119, e90_122, e90_123, e90_126, e90_127, e90_127n, e90_128, e90_131, kv_s, kh_s, kr_s, kr_v, kn_s, z0, z1, z2, nI_ltI, nI_leI, nI_eq, nI_add, oN, bz0, bz1, bw0, bw1, ltT, ltF, leT, leF, eqT, eqF, if_true, if_false, kI_n, wI_n, and_true, true_and, and_false, false_and, not_true, not_false_eq_true, cwo_1, cwr_1, cwg_0, cwg_1, cwg_2, cwa_0, cwl_0, cwo_3, cwr_3, cwg_3, cwa_R, cwl_R, cwo_5, cwr_5, cwg_4, cwg_5, cwg_6, cwg_7, cwg_8, cwa_1, cwl_1, cwo_7, cwr_7, cwg_9, cwg_10, cwg_11, cwg_12, cwg_13, cwa_2, cwl_2, cwo_17, cwr_17, cwg_14, cwa_3, cwl_3, cwp_0, cwp_1, cwp_2, cwp_3, cwp_4, cwp_5, cwp_6, cwp_7, cwp_8, cwp_9, cwp_10, cwp_11, cwp_12, cwp_13, cwp_14, cwu_0, cwu_R, cwu_1, cwu_2, cwu_3, vu_at, vu_ne, pk_us, pk_un, h.x.f0, h.x.f1, h.x.f2, h.x.f3, h.x.f4, h.x.f5, h.x.f6, h.x.f7, h.x.o, h.hi.o, h.hi.gd, h.hi.gf, h.hi.gl, Hi_keys h.hi h.d8, Hi_hasKey h.hi h.d8, Rw_empty, Rw_add, List.nil_append, List.cons_append, upd_upd, cwo_1, cwo_3, cwo_5, cwo_7, cwo_17, Bool.false_eq_true, n01, e1, w1, n1_n1]
        rw [cl]
        simp (disch := first | omega | exact tl_l | exact tT_len | (simp only [List.length_cons, List.length_nil])) only [e90_0, e90_1, e90_4, e90_5, e90_8, e90_8n, e90_9, e90_10, e90_13, e90_14, e90_15, e90_18, e90_19, e90_22, e90_22n, e90_23, e90_23n, e90_26, e90_29, e90_30, e90_31, e90_32, e90_35, e90_36, e90_37, e90_38, e90_39, e90_40, e90_42, e90_43, e90_47, e90_48, e90_51, e90_54, e90_57, e90_58, e90_61, e90_63, e90_66, e90_69, e90_71, e90_71n, e90_72, e90_73, e90_76, e90_79, e90_81, e90_82, e90_85, e90_86, e90_88, e90_91, e90_94, e90_95, e90_98, e90_101, e90_102, e90_105, e90_107, e90_108, e90_111, e90_112, e90_115, e90_116, e90_119, e90_122, e90_123, e90_126, e90_127, e90_127n, e90_128, e90_131, kv_s, kh_s, kr_s, kr_v, kn_s, z0, z1, z2, nI_ltI, nI_leI, nI_eq, nI_add, oN, bz0, bz1, bw0, bw1, ltT, ltF, leT, leF, eqT, eqF, if_true, if_false, kI_n, wI_n, and_true, true_and, and_false, false_and, not_true, not_false_eq_true, cwo_1, cwr_1, cwg_0, cwg_1, cwg_2, cwa_0, cwl_0, cwo_3, cwr_3, cwg_3, cwa_R, cwl_R, cwo_5, cwr_5, cwg_4, cwg_5, cwg_6, cwg_7, cwg_8, cwa_1, cwl_1, cwo_7, cwr_7, cwg_9, cwg_10, cwg_11, cwg_12, cwg_13, cwa_2, cwl_2, cwo_17, cwr_17, cwg_14, cwa_3, cwl_3, cwp_0, cwp_1, cwp_2, cwp_3, cwp_4, cwp_5, cwp_6, cwp_7, cwp_8, cwp_9, cwp_10, cwp_11, cwp_12, cwp_13, cwp_14, cwu_0, cwu_R, cwu_1, cwu_2, cwu_3, vu_at, vu_ne, pk_us, pk_un, h.x.f0, h.x.f1, h.x.f2, h.x.f3, h.x.f4, h.x.f5, h.x.f6, h.x.f7, h.x.o, h.hi.o, h.hi.gd, h.hi.gf, h.hi.gl, Hi_keys h.hi h.d8, Hi_hasKey h.hi h.d8, Rw_empty, Rw_add, List.nil_append, List.cons_append, upd_upd, cwo_1, cwo_3, cwo_5, cwo_7, cwo_17, Bool.false_eq_true, n01, kw, kn]
        rfl
      have eM : ∀ τ, ∃ A2' I2', dcall 206 [.ref (c + 24), .int (nI v)] (mw τ (c + 24) A2 R2 I2) = some (some (.int (nI (cnt (nP z.1 (sL L') (z.2.2.2 v)) 2 (2 * 2 ^ z.1 - 2)))), mw τ (c + 24) A2' (rl R2 [a.toInt64, w.toInt64]) I2') ∧ (∀ k, k = 1 ∨ k = 2 ∨ k = 15 ∨ k = 16 → A2' k = A2 k) ∧ I2' 3 = nI 0 ∧ I2' 5 = nI 2 := fun τ => by
        obtain ⟨A3, I3, v1, v2, v3, v4, v5, v6, v7⟩ := k2 τ L' hk
        have hN3 : nowM (A3 1) z.1 z.2.1 z.2.2.1 z.2.2.2 := by rw [v6 1 (by omega)]; exact hN
        obtain ⟨M1, B1, m1, m2⟩ := M_lay (σ := τ) (m := c + 24) (R := R2) (I := mt I3 n n none) hN3 a1 a2 hW
        have hN4 : nowM (lA A3 M1 B1 1) z.1 z.2.1 z.2.2.1 z.2.2.2 := hN3
        obtain ⟨O, o1, o2⟩ := M_clearOver (σ := τ) (m := c + 24) (A := lA A3 M1 B1) (R := R2) (I := mt I3 n n none)
        have hN5 : ∀ {X}, nowM (va_up (lA A3 M1 B1) 9 X 1) z.1 z.2.1 z.2.2.1 z.2.2.2 := fun {X} => by rw [vu_ne (by omega)]; exact hN4
        have h13 : mt I3 n n none 13 = nI L'.length := (mt_o (by omega)).trans v3
        obtain ⟨O', q1, q2⟩ := M_tog_loop (σ := τ) (m := c + 24) (R := R2) (I := mt I3 n n none) (W := z.2.2.2 v) (L := L') (x := .int (nI v)) (l2 := .int (nI 0)) hmem (by omega) h13 L' [] (va_up (lA A3 M1 B1) 9 O) rfl nd hN5 (by rw [vu_ne (by omega)]; exact v2) (fun p q1 q2 => by rw [vu_ne (by omega)]; exact (m2 p q1 q2).2) (by rw [vu_at, sL_nil]; exact OV_0 hd o2)
        rw [vu_vu] at q1
        have e0' : smL (fun k => bes (br z.1 (z.2.2.2 v)) 9 (2 ^ z.1 + k)) [] (2 ^ z.1) = 0 := by
          unfold smL
          have : ∀ N, sm (fun k => if k ∈ ([] : List Nat) then bes (br z.1 (z.2.2.2 v)) 9 (2 ^ z.1 + k) else 0) 0 N = 0 := fun N => by
            induction N with
            | zero => rfl
            | succ N ih => show sm _ 0 N + _ = 0; rw [ih]; simp
          exact this _
        rw [e0'] at q1
        obtain ⟨N', n1, n2⟩ := M_layNeed (σ := τ) (m := c + 24) (A := va_up (lA A3 M1 B1) 9 O') (R := R2) (I := mt I3 n n none) (S := sL L') (W := z.2.2.2 v) (by rw [vu_at]; exact q2) (fun p q1 q2 => by rw [vu_ne (by omega)]; exact (m2 p q1 q2).2) hN5
        have hN6 : nowM (va_up (va_up (lA A3 M1 B1) 9 O') 10 N' 1) z.1 z.2.1 z.2.2.1 z.2.2.2 := by rw [vu_ne (by omega)]; exact hN5
        have hw := fun R I => M_work (σ := τ) (m := c + 24) (A := va_up (va_up (lA A3 M1 B1) 9 O') 10 N') (R := R) (I := I) (S := sL L') (by rw [vu_ne (by omega), vu_at]; exact q2) hN6
        refine ⟨va_up (va_up (lA A3 M1 B1) 9 O') 10 N', upd (mt I3 n n none) 5 (nI 2), ?_, fun k hk => ?_, by rw [pk_un (by omega), mt_3], pk_us⟩
        · rw [q206]
          simp (disch := first | omega | exact tl_l | exact tT_len | (simp only [List.length_cons, List.length_nil])) only [e206_0, e206_1, e206_2, e206_5, e206_6, e206_9, e206_10, e206_11, e206_14, e206_17, e206_20, e206_21, e206_22, e206_23, e206_26, e206_27, e206_29, e206_32, e206_33, e206_36, e206_37, e206_38, e206_41, e206_42, e206_43, e206_44, e206_47, e206_50, e206_51, e206_52, e206_53, e206_56, e206_57, e206_58, e206_61, e206_62, e206_64, e206_67, e206_68, e206_71, e206_72, e206_75, e206_78, e206_79, e206_80, e206_83, e206_84, e206_85, e206_86, e206_87, e206_90, e206_91, e206_94, e206_95, e206_96, e206_97, e206_101, e206_102, e206_105, e206_108, e206_109, e206_110, e206_113, e206_114, e206_116, e206_117, e206_118, e206_121, e206_122, e206_123, e206_124, e206_127, e206_128, e206_130, e206_131, e206_132, e206_135, e206_136, e206_137, e206_140, e206_143, e206_144, e206_147, e206_149, e206_150, e206_151, e206_154, e206_155, e206_156, e206_157, e206_160, e206_161, e206_162, e206_165, e206_166, e206_169, e206_171, kv_s, kh_s, kr_s, kr_v, kn_s, z0, z1, z2, nI_ltI, nI_leI, nI_eq, nI_add, oN, bz0, bz1, bw0, bw1, ltT, ltF, leT, leF, eqT, eqF, if_true, if_false, kI_n, wI_n, and_true, true_and, and_false, false_and, not_true, not_false_eq_true, mwo, mwr_0, mwr_1, mwr_2, mwg_3, mwp_3, mwr_4, mwg_5, mwp_5, mwg_6, mwp_6, mwr_7, mwr_8, mwg_9, mwp_9, mwg_10, mwp_10, mwg_11, mwp_11, mwr_12, mwg_13, mwp_13, mwr_14, mwr_15, mwr_16, mwr_17, mwr_18, mwr_19, mwg_20, mwp_20, mwr_21, mwr_22, mwr_23, mwa_1, mwu_1, mwa_2, mwu_2, mwa_3, mwu_3, mwa_4, mwu_4, mwa_5, mwu_5, mwa_6, mwu_6, mwa_7, mwu_7, mwa_8, mwu_8, mwa_9, mwu_9, mwa_10, mwu_10, mwa_11, mwu_11, mwa_12, mwu_12, mwa_13, mwu_13, mwa_14, mwu_14, mwa_15, mwu_15, mwa_16, mwu_16, vu_at, vu_ne, pk_us, pk_un, kB_n, wB_n, kL_n, wL_n, M_begin hmI, M_ver hN a1 a2, n01, hmu]
          rw [v1]
          simp (disch := first | omega | exact tl_l | exact tT_len | (simp only [List.length_cons, List.length_nil])) only [e206_0, e206_1, e206_2, e206_5, e206_6, e206_9, e206_10, e206_11, e206_14, e206_17, e206_20, e206_21, e206_22, e206_23, e206_26, e206_27, e206_29, e206_32, e206_33, e206_36, e206_37, e206_38, e206_41, e206_42, e206_43, e206_44, e206_47, e206_50, e206_51, e206_52, e206_53, e206_56, e206_57, e206_58, e206_61, e206_62, e206_64, e206_67, e206_68, e206_71, e206_72, e206_75, e206_78, e206_79, e206_80, e206_83, e206_84, e206_85, e206_86, e206_87, e206_90, e206_91, e206_94, e206_95, e206_96, e206_97, e206_101, e206_102, e206_105, e206_108, e206_109, e206_110, e206_113, e206_114, e206_116, e206_117, e206_118, e206_121, e206_122, e206_123, e206_124, e206_127, e206_128, e206_130, e206_131, e206_132, e206_135, e206_136, e206_137, e206_140, e206_143, e206_144, e206_147, e206_149, e206_150, e206_151, e206_154, e206_155, e206_156, e206_157, e206_160, e206_161, e206_162, e206_165, e206_166, e206_169, e206_171, kv_s, kh_s, kr_s, kr_v, kn_s, z0, z1, z2, nI_ltI, nI_leI, nI_eq, nI_add, oN, bz0, bz1, bw0, bw1, ltT, ltF, leT, leF, eqT, eqF, if_true, if_false, kI_n, wI_n, and_true, true_and, and_false, false_and, not_true, not_false_eq_true, mwo, mwr_0, mwr_1, mwr_2, mwg_3, mwp_3, mwr_4, mwg_5, mwp_5, mwg_6, mwp_6, mwr_7, mwr_8, mwg_9, mwp_9, mwg_10, mwp_10, mwg_11, mwp_11, mwr_12, mwg_13, mwp_13, mwr_14, mwr_15, mwr_16, mwr_17, mwr_18, mwr_19, mwg_20, mwp_20, mwr_21, mwr_22, mwr_23, mwa_1, mwu_1, mwa_2, mwu_2, mwa_3, mwu_3, mwa_4, mwu_4, mwa_5, mwu_5, mwa_6, mwu_6, mwa_7, mwu_7, mwa_8, mwu_8, mwa_9, mwu_9, mwa_10, mwu_10, mwa_11, mwu_11, mwa_12, mwu_12, mwa_13, mwu_13, mwa_14, mwu_14, mwa_15, mwu_15, mwa_16, mwu_16, vu_at, vu_ne, pk_us, pk_un, kB_n, wB_n, kL_n, wL_n, m1, o1]
          rw [show ([] : List Nat).length = 0 from rfl] at q1
          rw [q1]
          simp (disch := first | omega | exact tl_l | exact tT_len | (simp only [List.length_cons, List.length_nil])) only [e206_0, e206_1, e206_2, e206_5, e206_6, e206_9, e206_10, e206_11, e206_14, e206_17, e206_20, e206_21, e206_22, e206_23, e206_26, e206_27, e206_29, e206_32, e206_33, e206_36, e206_37, e206_38, e206_41, e206_42, e206_43, e206_44, e206_47, e206_50, e206_51, e206_52, e206_53, e206_56, e206_57, e206_58, e206_61, e206_62, e206_64, e206_67, e206_68, e206_71, e206_72, e206_75, e206_78, e206_79, e206_80, e206_83, e206_84, e206_85, e206_86, e206_87, e206_90, e206_91, e206_94, e206_95, e206_96, e206_97, e206_101, e206_102, e206_105, e206_108, e206_109, e206_110, e206_113, e206_114, e206_116, e206_117, e206_118, e206_121, e206_122, e206_123, e206_124, e206_127, e206_128, e206_130, e206_131, e206_132, e206_135, e206_136, e206_137, e206_140, e206_143, e206_144, e206_147, e206_149, e206_150, e206_151, e206_154, e206_155, e206_156, e206_157, e206_160, e206_161, e206_162, e206_165, e206_166, e206_169, e206_171, kv_s, kh_s, kr_s, kr_v, kn_s, z0, z1, z2, nI_ltI, nI_leI, nI_eq, nI_add, oN, bz0, bz1, bw0, bw1, ltT, ltF, leT, leF, eqT, eqF, if_true, if_false, kI_n, wI_n, and_true, true_and, and_false, false_and, not_true, not_false_eq_true, mwo, mwr_0, mwr_1, mwr_2, mwg_3, mwp_3, mwr_4, mwg_5, mwp_5, mwg_6, mwp_6, mwr_7, mwr_8, mwg_9, mwp_9, mwg_10, mwp_10, mwg_11, mwp_11, mwr_12, mwg_13, mwp_13, mwr_14, mwr_15, mwr_16, mwr_17, mwr_18, mwr_19, mwg_20, mwp_20, mwr_21, mwr_22, mwr_23, mwa_1, mwu_1, mwa_2, mwu_2, mwa_3, mwu_3, mwa_4, mwu_4, mwa_5, mwu_5, mwa_6, mwu_6, mwa_7, mwu_7, mwa_8, mwu_8, mwa_9, mwu_9, mwa_10, mwu_10, mwa_11, mwu_11, mwa_12, mwu_12, mwa_13, mwu_13, mwa_14, mwu_14, mwa_15, mwu_15, mwa_16, mwu_16, vu_at, vu_ne, pk_us, pk_un, kB_n, wB_n, kL_n, wL_n, n1, M_tell0, hw, M_tell, List.nil_append, List.cons_append]
          rfl
        · rw [vu_ne (by omega), vu_ne (by omega), lA_o (by omega) (by omega), v6 k (by omega)]
      obtain ⟨A2', I2', f1, f2, f3, f4⟩ := eM (cw σ c (va_up A 3 F) (rl R [a.toInt64, w.toInt64]) (upd (upd (ti (upd I 14 (nI z.1)) n none) 0 (nI 0)) 3 (nI 2)))
      have hrm := h.2.2.2.2.1.rd (A2' := A2') (I2' := upd I2' 5 (I2 5)) f2 (by rw [pk_un (by omega)]; exact f3) pk_us
      refine Inv_regs h eC f1 ((h.2.2.2.1.rd (F := F) (p := n) (e := none) hd).row (k := 2) rfl (by omega)) ?_ (h.2.2.2.2.2.rd hi)
      exact hrm.row (k := 2) stay.rf rfl (by omega) (by rw [pk_un (by omega)]) f4
