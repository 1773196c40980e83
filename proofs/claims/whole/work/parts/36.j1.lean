/-! calls, one by one: versions, root, level, node, count -/
def Jn (X M : Nat) (as : List Value) : Prop := ∀ (c i : Nat) (σ : Hp), i < 600 → Inv c i σ → ∃ b τ τ', dcall X (.ref c :: as) σ = some (some b, τ) ∧ dcall M (.ref (c + 24) :: as) τ = some (some b, τ') ∧ Inv c (i + 1) τ'
theorem rl_RR {R : Nat → Int64} {L : List Int64} (h : L.length ≤ 128) : RR (rl R L) L := ⟨h, fun _ hi => rl_get hi⟩
section JJ
variable {c i : Nat} {σ : Hp} {z : Hs} {n : Nat} {B : Nat → Nat} {L L' : List Int64} {q : Option Hn} {K : Nat → Option Hs} {A : Nat → Nat → Int32} {R R' : Nat → Int64} {I I' : Nat → Int32} {A2 A2' : Nat → Nat → Int32} {R2 R2' : Nat → Int64} {I2 I2' : Nat → Int32}
theorem RCh_3 {I : Nat → Int32} {x : Int32} (h : RCh A I q) : RCh A (upd I 3 x) q := by
  cases q with
  | none => exact (pk_un (by omega)).trans h
  | some q => exact ⟨(pk_un (by omega)).trans h.1, (pk_un (by omega)).trans h.2.1, (pk_un (by omega)).trans h.2.2.1, (pk_un (by omega)).trans h.2.2.2.1, (pk_un (by omega)).trans h.2.2.2.2.1, h.2.2.2.2.2⟩
theorem RC.row (h : RC A R I n B L q) {k : Nat} (hL : L'.length = k) (hk : k ≤ 128) : RC A (rl R L') (upd I 3 (nI k)) n B L' q := by
  subst hL
  obtain ⟨⟨h1, h2, h3⟩, _, _, h4, dc, h5, h6⟩ := h
  exact ⟨⟨h1, (pk_un (by omega)).trans h2, h3⟩, pk_us, rl_RR hk, RCh_3 h4, dc, h5, (pk_un (by omega)).trans h6⟩
/-- the reference's kept things stay -/
def stay (A A' : Nat → Nat → Int32) : Prop := A' 1 = A 1 ∧ A' 2 = A 2 ∧ A' 3 = A 3 ∧ A' 15 = A 15 ∧ A' 16 = A 16
theorem stay.rf : stay A A := ⟨rfl, rfl, rfl, rfl, rfl⟩
theorem stay.tr {A A' A'' : Nat → Nat → Int32} (h1 : stay A A') (h2 : stay A' A'') : stay A A'' := ⟨h2.1.trans h1.1, h2.2.1.trans h1.2.1, h2.2.2.1.trans h1.2.2.1, h2.2.2.2.1.trans h1.2.2.2.1, h2.2.2.2.2.trans h1.2.2.2.2⟩
theorem stay_up {k : Nat} {F : Nat → Int32} (h : k ≠ 1 ∧ k ≠ 2 ∧ k ≠ 3 ∧ k ≠ 15 ∧ k ≠ 16) : stay A (va_up A k F) := ⟨vu_ne (by omega), vu_ne (by omega), vu_ne (by omega), vu_ne (by omega), vu_ne (by omega)⟩
theorem stay_lA {M F : Nat → Int32} : stay A (lA A M F) := ⟨rfl, rfl, rfl, rfl, rfl⟩
theorem RMk_stay {j : Nat} {y : Option Hs} (s : stay A2 A2') (h : RMk A2 j y) : RMk A2' j y := by
  cases y with
  | none => exact (by rw [s.2.2.2.2]; exact h : A2' 16 j = nI 0)
  | some y => exact ⟨by rw [s.2.2.2.2]; exact h.1, by rw [s.2.2.2.1]; exact h.2⟩
theorem RM.row (h : RM A2 R2 I2 z n B L q K) (s : stay A2 A2') {k : Nat} (hL : L'.length = k) (hk : k ≤ 128) (h3 : I2' 3 = I2 3) (h5 : I2' 5 = nI k) : RM A2' (rl R2 L') I2' z n B L' q K := by
  subst hL
  obtain ⟨g1, g2, g3, g4, _, _, g7⟩ := h
  exact ⟨by rw [s.1]; exact g1, by rw [s.2.1]; exact g2, h3.trans g3, by rw [s.2.2.1]; exact g4, h5, rl_RR hk, fun j hj => RMk_stay s (g7 j hj)⟩
theorem RM.same (h : RM A2 R2 I2 z n B L q K) (s : stay A2 A2') (h3 : I2' 3 = I2 3) (h5 : I2' 5 = I2 5) : RM A2' R2 I2' z n B L q K := by
  obtain ⟨g1, g2, g3, g4, g5, g6, g7⟩ := h
  exact ⟨by rw [s.1]; exact g1, by rw [s.2.1]; exact g2, h3.trans g3, by rw [s.2.2.1]; exact g4, h5.trans g5, g6, fun j hj => RMk_stay s (g7 j hj)⟩
/-- the reference tells a row -/
def Mt (M : Nat) (bs : List Value) (τ : Hp) (m : Nat) (A : Nat → Nat → Int32) (R : Nat → Int64) (I : Nat → Int32) (b : Value) (L' : List Int64) (k : Nat) : Prop := ∃ A' I', dcall M bs (mw τ m A R I) = some (some b, mw τ m A' (rl R L') I') ∧ stay A A' ∧ I' 3 = I 3 ∧ I' 5 = nI k
/-- the reference tells nothing -/
def Ms (M : Nat) (bs : List Value) (τ : Hp) (m : Nat) (A : Nat → Nat → Int32) (R : Nat → Int64) (I : Nat → Int32) (b : Value) : Prop := ∃ A' I', dcall M bs (mw τ m A R I) = some (some b, mw τ m A' R I') ∧ stay A A' ∧ I' 3 = I 3 ∧ I' 5 = I 5
/-- both tell a row -/
theorem Inv_tell (h : St c i σ z n B L q K A R I A2 R2 I2) (hi : i < 600) {X M k : Nat} {as bs : List Value} {b : Value} (e1 : dcall X as (cw σ c A R I) = some (some b, cw σ c A (rl R L') (upd I 3 (nI k)))) (e2 : ∀ {τ}, Mt M bs τ (c + 24) A2 R2 I2 b L' k) (hL : L'.length = k) (hk : k ≤ 128) : ∃ b τ τ', dcall X as σ = some (some b, τ) ∧ dcall M bs τ = some (some b, τ') ∧ Inv c (i + 1) τ' := by
  obtain ⟨A2', I2', g1, g2, g3, g4⟩ := e2 (τ := cw σ c A (rl R L') (upd I 3 (nI k)))
  exact Inv_regs h e1 g1 (h.2.2.2.1.row hL hk) (h.2.2.2.2.1.row g2 hL hk g3 g4) (h.2.2.2.2.2.up hi)
/-- nothing is told -/
theorem Inv_same (h : St c i σ z n B L q K A R I A2 R2 I2) (hi : i < 600) {X M : Nat} {as bs : List Value} {b : Value} (e1 : dcall X as (cw σ c A R I) = some (some b, cw σ c A R I)) (e2 : ∀ {τ}, Ms M bs τ (c + 24) A2 R2 I2 b) : ∃ b τ τ', dcall X as σ = some (some b, τ) ∧ dcall M bs τ = some (some b, τ') ∧ Inv c (i + 1) τ' := by
  obtain ⟨A2', I2', g1, g2, g3, g4⟩ := e2 (τ := cw σ c A R I)
  exact Inv_regs h e1 g1 h.2.2.2.1 (h.2.2.2.2.1.same g2 g3 g4) (h.2.2.2.2.2.up hi)
theorem St.rb (h : St c i σ z n B L q K A R I A2 R2 I2) : ∃ T, RB c σ T z.1 z.2.1 z.2.2.1 z.2.2.2 := by
  obtain ⟨T, S, Ts, b, _⟩ := h.2.2.1
  exact ⟨T, b⟩
theorem St.nm (h : St c i σ z n B L q K A R I A2 R2 I2) : nowM (A2 1) z.1 z.2.1 z.2.2.1 z.2.2.2 := h.2.2.2.2.1.1
theorem St.ok (h : St c i σ z n B L q K A R I A2 R2 I2) : okH z := h.2.2.2.2.2.1
theorem Mt_root {m d f l : Nat} {V : Nat → Nat → Int32} (h : nowM (A 1) d f l V) {v : Nat} (h1 : f ≤ v) (h2 : v ≤ l) (hW : plW d (V v)) : Mt 177 [.ref m, .int (nI v)] σ m A R I (.int (nI (un d (V v) 1))) [(mk d (V v) 1).toInt64] 1 := by
  obtain ⟨M', B', e1, e2⟩ := M_root (σ := σ) (m := m) (R := R) (I := I) h h1 h2 hW
  exact ⟨_, _, e1, stay_lA, by rw [pk_un (by omega), pk_un (by omega)], pk_us⟩
theorem Ms_root {m d f l : Nat} {V : Nat → Nat → Int32} (h : nowM (A 1) d f l V) {x : Int32} (hx : x < nI f ∨ nI l < x) : Ms 177 [.ref m, .int x] σ m A R I (.int (-nI 1)) := by
  refine ⟨A, upd I 6 (nI 0), ?_, stay.rf, pk_un (by omega), pk_un (by omega)⟩
  rw [q177]
  simp (disch := first | omega | (simp only [List.length_cons, List.length_nil])) only [e177_0, e177_1, e177_2, e177_5, e177_6, e177_7, e177_10, e177_13, e177_14, e177_15, e177_16, e177_17, e177_20, e177_21, e177_22, e177_25, e177_26, e177_27, e177_30, e177_31, e177_32, e177_33, e177_36, e177_37, e177_38, e177_41, kv_s, kh_s, kr_s, kr_v, kn_s, z0, z1, z2, nI_ltI, nI_leI, nI_eq, nI_add, oN, bz0, bz1, bw0, bw1, ltT, ltF, leT, leF, eqT, eqF, if_true, if_false, kI_n, wI_n, and_true, true_and, and_false, false_and, not_true, not_false_eq_true, mwo, mwr_0, mwr_1, mwr_2, mwg_3, mwp_3, mwr_4, mwg_5, mwp_5, mwg_6, mwp_6, mwr_7, mwr_8, mwg_9, mwp_9, mwg_10, mwp_10, mwg_11, mwp_11, mwr_12, mwg_13, mwp_13, mwr_14, mwr_15, mwr_16, mwr_17, mwr_18, mwr_19, mwg_20, mwp_20, mwr_21, mwr_22, mwr_23, mwa_1, mwu_1, mwa_2, mwu_2, mwa_3, mwu_3, mwa_4, mwu_4, mwa_5, mwu_5, mwa_6, mwu_6, mwa_7, mwu_7, mwa_8, mwu_8, mwa_9, mwu_9, mwa_10, mwu_10, mwa_11, mwu_11, mwa_12, mwu_12, mwa_13, mwu_13, mwa_14, mwu_14, mwa_15, mwu_15, mwa_16, mwu_16, vu_at, vu_ne, pk_us, pk_un, kB_n, wB_n, kL_n, wL_n, M_ver0 h hx]
/-- a call on a version: those that are kept, and all others -/
theorem J_ver {X M : Nat} {x : Int32} {as : List Value} (hi : i < 600) (h : St c i σ z n B L q K A R I A2 R2 I2) (hin : ∀ v T, z.2.1 ≤ v → v ≤ z.2.2.1 → RB c σ T z.1 z.2.1 z.2.2.1 z.2.2.2 → ∃ b τ τ', dcall X (.ref c :: .int (nI v) :: as) σ = some (some b, τ) ∧ dcall M (.ref (c + 24) :: .int (nI v) :: as) τ = some (some b, τ') ∧ Inv c (i + 1) τ') (hout : ∀ T, RB c σ T z.1 z.2.1 z.2.2.1 z.2.2.2 → x < nI z.2.1 ∨ nI z.2.2.1 < x → ∃ b τ τ', dcall X (.ref c :: .int x :: as) σ = some (some b, τ) ∧ dcall M (.ref (c + 24) :: .int x :: as) τ = some (some b, τ') ∧ Inv c (i + 1) τ') : ∃ b τ τ', dcall X (.ref c :: .int x :: as) σ = some (some b, τ) ∧ dcall M (.ref (c + 24) :: .int x :: as) τ = some (some b, τ') ∧ Inv c (i + 1) τ' := by
  obtain ⟨T, hb⟩ := h.rb
  have hl := hb.fl
  rcases ver_in (x := x) (show z.2.2.1 < 2 ^ 31 by omega) hl.1 with ⟨v, h1, h2, rfl⟩ | hx
  · exact hin v T h1 h2 hb
  · exact hout T hb hx
theorem J_root (x : Int32) : Jn 64 177 [.int x] := by
  rintro c i σ hi ⟨z, n, B, L, q, K, A, R, I, A2, R2, I2, h⟩
  refine J_ver hi h (fun v T h1 h2 hb => ?_) fun T hb hx => ?_
  · exact Inv_tell h hi (C_root hb h1 h2) (Mt_root h.nm h1 h2 (h.ok v h1 h2).1) rfl (by omega)
  · exact Inv_same h hi (C_root0 hb hx) (Ms_root h.nm hx)
end JJ
