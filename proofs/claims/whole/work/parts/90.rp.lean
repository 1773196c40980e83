/-! calls: told: the class reads a proof -/
/-- marks behind the head -/
def mkt (n : Nat) (B : Nat → Nat) : Nat → List Int32 → Nat → Nat ⊕ List Int32
  | 0, _, p => .inl p
  | m + 1, L, p => if p = n then .inr L else if L.length = 8 then .inl p else if B p = 58 then (match mk1 n B (p + 1) with
    | .inl q => .inl q
    | .inr r => mkt n B m (L ++ [(mkv (sgn n B (p + 1)) r.1).toInt32]) r.2) else .inl p
/-- a proof told -/
def tp3 (n : Nat) (B : Nat → Nat) (a b p : Nat) : Nat ⊕ Hn := match by1 n B p with
  | .inl q => .inl q
  | .inr e => match mkt n B (n + 1) [] e.2 with
    | .inl q => .inl q
    | .inr L => .inr (a, b, e.1, L)
def tp2 (n : Nat) (B : Nat → Nat) (a p : Nat) : Nat ⊕ Hn := match nm n B 3 p with
  | .inl q => .inl q
  | .inr b => if b.2 < n ∧ B b.2 = 58 then tp3 n B a b.1 (b.2 + 1) else .inl b.2
def tp (n : Nat) (B : Nat → Nat) : Nat ⊕ Hn := match by1 n B 0 with
  | .inl q => .inl q
  | .inr a => if a.2 < n ∧ B a.2 = 61 then tp2 n B a.1 (a.2 + 1) else .inl a.2
def hd (I : Nat → Int32) (x y z w : Int32) : Nat → Int32 := upd (upd (upd (upd (upd I 9 (nI 1)) 10 x) 11 y) 12 z) 13 w
theorem hd_o {I : Nat → Int32} {x y z w : Int32} {k : Nat} (hk : k < 9 ∨ 13 < k) : hd I x y z w k = I k := by
  rw [hd, pk_un (by omega), pk_un (by omega), pk_un (by omega), pk_un (by omega), pk_un (by omega)]
theorem hd_13 {I : Nat → Int32} {x y z w : Int32} : hd I x y z w 13 = w := pk_us
theorem hd_12 {I : Nat → Int32} {x y z w : Int32} : hd I x y z w 12 = z := (pk_un (by omega)).trans pk_us
theorem hd_11 {I : Nat → Int32} {x y z w : Int32} : hd I x y z w 11 = y := (pk_un (by omega)).trans ((pk_un (by omega)).trans pk_us)
theorem hd_10 {I : Nat → Int32} {x y z w : Int32} : hd I x y z w 10 = x := (pk_un (by omega)).trans ((pk_un (by omega)).trans ((pk_un (by omega)).trans pk_us))
theorem ti_hd {I : Nat → Int32} {p : Nat} {e : Option Nat} {x y z w : Int32} : upd (upd (upd (upd (upd (ti I p e) 9 (nI 1)) 10 x) 11 y) 12 z) 13 w = ti (hd I x y z w) p e := by
  rw [ti_u (by omega) (by omega), ti_u (by omega) (by omega), ti_u (by omega) (by omega), ti_u (by omega) (by omega), ti_u (by omega) (by omega)]
  rfl
theorem ti_13 {I : Nat → Int32} {p : Nat} {e : Option Nat} {x : Int32} : upd (ti I p e) 13 x = ti (upd I 13 x) p e := ti_u (by omega) (by omega)
section RPF
variable {c : Nat} {σ : Hp} {d f l : Nat} {V : Nat → Nat → Int32} {T : Nat → Option Nat} {R : Nat → Int64} {n : Nat} {B : Nat → Nat} {p q : Nat}
theorem Tx_must_no {A : Nat → Nat → Int32} {I : Nat → Int32} (hB : isB A I n B) (hp : p ≤ n) (hq : q ≤ n) {s : Nat} (hs : s < 256) : ∃ p', p' ≤ n ∧ dcall 30 [.ref (c + 1), .int (nI s)] (cw σ c A R (ti I p (some q))) = some (none, cw σ c A R (ti I p' (some q))) := by
  have hn := hB.1
  have := Tx_must (σ := σ) (c := c) (R := R) (e := some q) hB hp (fun r z => by cases z; omega) hs
  by_cases h : p < n ∧ B p = s
  · rw [if_pos h] at this; exact ⟨p + 1, by omega, this⟩
  · rw [if_neg h] at this; exact ⟨p, hp, this⟩
theorem isB.hd {A : Nat → Nat → Int32} {I : Nat → Int32} (hB : isB A I n B) {x y z w : Int32} : isB A (hd I x y z w) n B := ⟨hB.1, (hd_o (by omega)).trans hB.2.1, hB.2.2⟩
theorem C_rp_out (h : RB c σ T d f l V) {A : Nat → Nat → Int32} {I : Nat → Int32} (hB : isB A I n B) (hp : p ≤ n) (hq : q ≤ n) {i : Nat} (hi : i ≤ 80) {x y : Value} : den 79 55 [.ref c, x, y, .int (nI i)] [] (cw σ c A R (ti I p (some q))) = some (some (.int (nI q)), cw σ c A R (ti I p (some q))) := by
  have hn := hB.1
  have hm := Tx_more (σ := σ) (c := c) (R := R) (e := some q) hB hp (fun r z => by cases z; omega)
  rw [if_neg (fun z => by cases z.1)] at hm
  by_cases h80 : i < 80
  · rw [e79_55]
    simp (disch := first | omega | exact tl_l | exact tT_len | (simp only [List.length_cons, List.length_nil])) only [e79_0, e79_1, e79_4, e79_7, e79_8, e79_11, e79_12, e79_13, e79_16, e79_18, e79_21, e79_22, e79_25, e79_26, e79_29, e79_30, e79_31, e79_32, e79_35, e79_37, e79_40, e79_41, e79_44, e79_45, e79_46, e79_47, e79_50, e79_53, e79_54, e79_56, e79_58, e79_61, e79_62, e79_65, e79_68, e79_71, e79_72, e79_75, e79_78, e79_80, e79_83, e79_84, e79_87, e79_88, e79_91, e79_94, e79_97, e79_98, e79_101, e79_103, e79_106, e79_107, e79_110, e79_111, e79_114, e79_117, e79_120, e79_123, e79_124, e79_127, e79_130, kv_s, kh_s, kr_s, kr_v, kn_s, z0, z1, z2, nI_ltI, nI_leI, nI_eq, nI_add, oN, bz0, bz1, bw0, bw1, ltT, ltF, leT, leF, eqT, eqF, if_true, if_false, kI_n, wI_n, and_true, true_and, and_false, false_and, not_true, not_false_eq_true, cwo_1, cwr_1, cwg_0, cwg_1, cwg_2, cwa_0, cwl_0, cwo_3, cwr_3, cwg_3, cwa_R, cwl_R, cwo_5, cwr_5, cwg_4, cwg_5, cwg_6, cwg_7, cwg_8, cwa_1, cwl_1, cwo_7, cwr_7, cwg_9, cwg_10, cwg_11, cwg_12, cwg_13, cwa_2, cwl_2, cwo_17, cwr_17, cwg_14, cwa_3, cwl_3, cwp_0, cwp_1, cwp_2, cwp_3, cwp_4, cwp_5, cwp_6, cwp_7, cwp_8, cwp_9, cwp_10, cwp_11, cwp_12, cwp_13, cwp_14, cwu_0, cwu_R, cwu_1, cwu_2, cwu_3, vu_at, vu_ne, pk_us, pk_un, h.x.f0, h.x.f1, h.x.f2, h.x.f3, h.x.f4, h.x.f5, h.x.f6, h.x.f7, h.x.o, h.hi.o, h.hi.gd, h.hi.gf, h.hi.gl, Hi_keys h.hi h.d8, Hi_hasKey h.hi h.d8, Rw_empty, Rw_add, List.nil_append, List.cons_append, upd_upd, cwo_1, cwo_3, cwo_5, cwo_7, cwo_17, Bool.false_eq_true, n01, z80, hm, ti_2, fl]
  · have : i = 80 := by omega
    subst this
    rw [e79_55]
    simp (disch := first | omega | exact tl_l | exact tT_len | (simp only [List.length_cons, List.length_nil])) only [e79_0, e79_1, e79_4, e79_7, e79_8, e79_11, e79_12, e79_13, e79_16, e79_18, e79_21, e79_22, e79_25, e79_26, e79_29, e79_30, e79_31, e79_32, e79_35, e79_37, e79_40, e79_41, e79_44, e79_45, e79_46, e79_47, e79_50, e79_53, e79_54, e79_56, e79_58, e79_61, e79_62, e79_65, e79_68, e79_71, e79_72, e79_75, e79_78, e79_80, e79_83, e79_84, e79_87, e79_88, e79_91, e79_94, e79_97, e79_98, e79_101, e79_103, e79_106, e79_107, e79_110, e79_111, e79_114, e79_117, e79_120, e79_123, e79_124, e79_127, e79_130, kv_s, kh_s, kr_s, kr_v, kn_s, z0, z1, z2, nI_ltI, nI_leI, nI_eq, nI_add, oN, bz0, bz1, bw0, bw1, ltT, ltF, leT, leF, eqT, eqF, if_true, if_false, kI_n, wI_n, and_true, true_and, and_false, false_and, not_true, not_false_eq_true, cwo_1, cwr_1, cwg_0, cwg_1, cwg_2, cwa_0, cwl_0, cwo_3, cwr_3, cwg_3, cwa_R, cwl_R, cwo_5, cwr_5, cwg_4, cwg_5, cwg_6, cwg_7, cwg_8, cwa_1, cwl_1, cwo_7, cwr_7, cwg_9, cwg_10, cwg_11, cwg_12, cwg_13, cwa_2, cwl_2, cwo_17, cwr_17, cwg_14, cwa_3, cwl_3, cwp_0, cwp_1, cwp_2, cwp_3, cwp_4, cwp_5, cwp_6, cwp_7, cwp_8, cwp_9, cwp_10, cwp_11, cwp_12, cwp_13, cwp_14, cwu_0, cwu_R, cwu_1, cwu_2, cwu_3, vu_at, vu_ne, pk_us, pk_un, h.x.f0, h.x.f1, h.x.f2, h.x.f3, h.x.f4, h.x.f5, h.x.f6, h.x.f7, h.x.o, h.hi.o, h.hi.gd, h.hi.gf, h.hi.gl, Hi_keys h.hi h.d8, Hi_hasKey h.hi h.d8, Rw_empty, Rw_add, List.nil_append, List.cons_append, upd_upd, cwo_1, cwo_3, cwo_5, cwo_7, cwo_17, Bool.false_eq_true, n01, z80, ti_2, fl]
theorem rp40 (h : RB c σ T d f l V) {A : Nat → Nat → Int32} {I : Nat → Int32} (hB : isB A I n B) (hp : p ≤ n) (hq : q ≤ n) {x y : Int32} {w : Value} : ∃ z p', den 79 40 [.ref c, .int x, .int y, w] [] (cw σ c A R (ti I p (some q))) = some (some (.int (nI q)), cw σ c A R (ti (hd I x y z (nI 0)) p' (some q))) := by
  obtain ⟨z, p', b1, b2⟩ := (A_byte (R := R) h hB hp).2.2 q hq
  refine ⟨z, p', ?_⟩
  rw [← C_rp_out (R := R) h (hB.hd (x := x) (y := y) (z := z) (w := nI 0)) b1 hq (i := 0) (by omega) (x := .int x) (y := .int y)]
  simp (disch := first | omega | exact tl_l | exact tT_len | (simp only [List.length_cons, List.length_nil])) only [e79_40, e79_41, e79_44, e79_45, e79_46, e79_47, e79_50, e79_53, e79_54, kv_s, kh_s, kr_s, kr_v, kn_s, z0, z1, z2, nI_ltI, nI_leI, nI_eq, nI_add, oN, bz0, bz1, bw0, bw1, ltT, ltF, leT, leF, eqT, eqF, if_true, if_false, kI_n, wI_n, and_true, true_and, and_false, false_and, not_true, not_false_eq_true, cwo_1, cwr_1, cwg_0, cwg_1, cwg_2, cwa_0, cwl_0, cwo_3, cwr_3, cwg_3, cwa_R, cwl_R, cwo_5, cwr_5, cwg_4, cwg_5, cwg_6, cwg_7, cwg_8, cwa_1, cwl_1, cwo_7, cwr_7, cwg_9, cwg_10, cwg_11, cwg_12, cwg_13, cwa_2, cwl_2, cwo_17, cwr_17, cwg_14, cwa_3, cwl_3, cwp_0, cwp_1, cwp_2, cwp_3, cwp_4, cwp_5, cwp_6, cwp_7, cwp_8, cwp_9, cwp_10, cwp_11, cwp_12, cwp_13, cwp_14, cwu_0, cwu_R, cwu_1, cwu_2, cwu_3, vu_at, vu_ne, pk_us, pk_un, h.x.f0, h.x.f1, h.x.f2, h.x.f3, h.x.f4, h.x.f5, h.x.f6, h.x.f7, h.x.o, h.hi.o, h.hi.gd, h.hi.gf, h.hi.gl, Hi_keys h.hi h.d8, Hi_hasKey h.hi h.d8, Rw_empty, Rw_add, List.nil_append, List.cons_append, upd_upd, cwo_1, cwo_3, cwo_5, cwo_7, cwo_17, Bool.false_eq_true, n01, b2, Pr_begin2, ti_hd]
theorem rp31 (h : RB c σ T d f l V) {A : Nat → Nat → Int32} {I : Nat → Int32} (hB : isB A I n B) (hp : p ≤ n) (hq : q ≤ n) {x y : Int32} {w : Value} : ∃ z p', den 79 31 [.ref c, .int x, .int y, w] [] (cw σ c A R (ti I p (some q))) = some (some (.int (nI q)), cw σ c A R (ti (hd I x y z (nI 0)) p' (some q))) := by
  obtain ⟨p1, a1, a2⟩ := Tx_must_no (σ := σ) (c := c) (R := R) hB hp hq (s := 58) (by omega)
  obtain ⟨z, p', b2⟩ := rp40 (R := R) h hB a1 hq (x := x) (y := y) (w := w)
  refine ⟨z, p', ?_⟩
  rw [← b2]
  simp (disch := first | omega | exact tl_l | exact tT_len | (simp only [List.length_cons, List.length_nil])) only [e79_31, e79_32, e79_35, e79_37, kv_s, kh_s, kr_s, kr_v, kn_s, z0, z1, z2, nI_ltI, nI_leI, nI_eq, nI_add, oN, bz0, bz1, bw0, bw1, ltT, ltF, leT, leF, eqT, eqF, if_true, if_false, kI_n, wI_n, and_true, true_and, and_false, false_and, not_true, not_false_eq_true, cwo_1, cwr_1, cwg_0, cwg_1, cwg_2, cwa_0, cwl_0, cwo_3, cwr_3, cwg_3, cwa_R, cwl_R, cwo_5, cwr_5, cwg_4, cwg_5, cwg_6, cwg_7, cwg_8, cwa_1, cwl_1, cwo_7, cwr_7, cwg_9, cwg_10, cwg_11, cwg_12, cwg_13, cwa_2, cwl_2, cwo_17, cwr_17, cwg_14, cwa_3, cwl_3, cwp_0, cwp_1, cwp_2, cwp_3, cwp_4, cwp_5, cwp_6, cwp_7, cwp_8, cwp_9, cwp_10, cwp_11, cwp_12, cwp_13, cwp_14, cwu_0, cwu_R, cwu_1, cwu_2, cwu_3, vu_at, vu_ne, pk_us, pk_un, h.x.f0, h.x.f1, h.x.f2, h.x.f3, h.x.f4, h.x.f5, h.x.f6, h.x.f7, h.x.o, h.hi.o, h.hi.gd, h.hi.gf, h.hi.gl, Hi_keys h.hi h.d8, Hi_hasKey h.hi h.d8, Rw_empty, Rw_add, List.nil_append, List.cons_append, upd_upd, cwo_1, cwo_3, cwo_5, cwo_7, cwo_17, Bool.false_eq_true, n01, z58, a2]
theorem rp21 (h : RB c σ T d f l V) {A : Nat → Nat → Int32} {I : Nat → Int32} (hB : isB A I n B) (hp : p ≤ n) (hq : q ≤ n) {x : Int32} {v w : Value} : ∃ y z p', den 79 21 [.ref c, .int x, v, w] [] (cw σ c A R (ti I p (some q))) = some (some (.int (nI q)), cw σ c A R (ti (hd I x y z (nI 0)) p' (some q))) := by
  obtain ⟨y, p1, y1, a1, a2⟩ := (nm_dig (σ := σ) (c := c) (R := R) (m := 3) hB hp (by omega)).2.2 q hq
  obtain ⟨z, p', b2⟩ := rp31 (R := R) h hB a1 hq (x := x) (y := nI y) (w := w)
  refine ⟨nI y, z, p', ?_⟩
  rw [← b2]
  simp (disch := first | omega | exact tl_l | exact tT_len | (simp only [List.length_cons, List.length_nil])) only [e79_21, e79_22, e79_25, e79_26, e79_29, e79_30, kv_s, kh_s, kr_s, kr_v, kn_s, z0, z1, z2, nI_ltI, nI_leI, nI_eq, nI_add, oN, bz0, bz1, bw0, bw1, ltT, ltF, leT, leF, eqT, eqF, if_true, if_false, kI_n, wI_n, and_true, true_and, and_false, false_and, not_true, not_false_eq_true, cwo_1, cwr_1, cwg_0, cwg_1, cwg_2, cwa_0, cwl_0, cwo_3, cwr_3, cwg_3, cwa_R, cwl_R, cwo_5, cwr_5, cwg_4, cwg_5, cwg_6, cwg_7, cwg_8, cwa_1, cwl_1, cwo_7, cwr_7, cwg_9, cwg_10, cwg_11, cwg_12, cwg_13, cwa_2, cwl_2, cwo_17, cwr_17, cwg_14, cwa_3, cwl_3, cwp_0, cwp_1, cwp_2, cwp_3, cwp_4, cwp_5, cwp_6, cwp_7, cwp_8, cwp_9, cwp_10, cwp_11, cwp_12, cwp_13, cwp_14, cwu_0, cwu_R, cwu_1, cwu_2, cwu_3, vu_at, vu_ne, pk_us, pk_un, h.x.f0, h.x.f1, h.x.f2, h.x.f3, h.x.f4, h.x.f5, h.x.f6, h.x.f7, h.x.o, h.hi.o, h.hi.gd, h.hi.gf, h.hi.gl, Hi_keys h.hi h.d8, Hi_hasKey h.hi h.d8, Rw_empty, Rw_add, List.nil_append, List.cons_append, upd_upd, cwo_1, cwo_3, cwo_5, cwo_7, cwo_17, Bool.false_eq_true, n01, z3, a2, lN_i]
theorem rp12 (h : RB c σ T d f l V) {A : Nat → Nat → Int32} {I : Nat → Int32} (hB : isB A I n B) (hp : p ≤ n) (hq : q ≤ n) {x : Int32} {v w : Value} : ∃ y z p', den 79 12 [.ref c, .int x, v, w] [] (cw σ c A R (ti I p (some q))) = some (some (.int (nI q)), cw σ c A R (ti (hd I x y z (nI 0)) p' (some q))) := by
  obtain ⟨p1, a1, a2⟩ := Tx_must_no (σ := σ) (c := c) (R := R) hB hp hq (s := 61) (by omega)
  obtain ⟨y, z, p', b2⟩ := rp21 (R := R) h hB a1 hq (x := x) (v := v) (w := w)
  refine ⟨y, z, p', ?_⟩
  rw [← b2]
  simp (disch := first | omega | exact tl_l | exact tT_len | (simp only [List.length_cons, List.length_nil])) only [e79_12, e79_13, e79_16, e79_18, kv_s, kh_s, kr_s, kr_v, kn_s, z0, z1, z2, nI_ltI, nI_leI, nI_eq, nI_add, oN, bz0, bz1, bw0, bw1, ltT, ltF, leT, leF, eqT, eqF, if_true, if_false, kI_n, wI_n, and_true, true_and, and_false, false_and, not_true, not_false_eq_true, cwo_1, cwr_1, cwg_0, cwg_1, cwg_2, cwa_0, cwl_0, cwo_3, cwr_3, cwg_3, cwa_R, cwl_R, cwo_5, cwr_5, cwg_4, cwg_5, cwg_6, cwg_7, cwg_8, cwa_1, cwl_1, cwo_7, cwr_7, cwg_9, cwg_10, cwg_11, cwg_12, cwg_13, cwa_2, cwl_2, cwo_17, cwr_17, cwg_14, cwa_3, cwl_3, cwp_0, cwp_1, cwp_2, cwp_3, cwp_4, cwp_5, cwp_6, cwp_7, cwp_8, cwp_9, cwp_10, cwp_11, cwp_12, cwp_13, cwp_14, cwu_0, cwu_R, cwu_1, cwu_2, cwu_3, vu_at, vu_ne, pk_us, pk_un, h.x.f0, h.x.f1, h.x.f2, h.x.f3, h.x.f4, h.x.f5, h.x.f6, h.x.f7, h.x.o, h.hi.o, h.hi.gd, h.hi.gf, h.hi.gl, Hi_keys h.hi h.d8, Hi_hasKey h.hi h.d8, Rw_empty, Rw_add, List.nil_append, List.cons_append, upd_upd, cwo_1, cwo_3, cwo_5, cwo_7, cwo_17, Bool.false_eq_true, n01, z61, a2]
theorem C_marks_loop (h : RB c σ T d f l V) {x y : Value} : ∀ (k : Nat) (L : List Int32) (p i : Nat) (A : Nat → Nat → Int32) (I : Nat → Int32), isB A I n B → I 13 = nI L.length → L.length ≤ 8 → (∀ j, j < L.length → some (A 2 j) = L[j]?) → p ≤ n → i ≤ p → n < p + k → (∀ q, mkt n B k L p = .inl q → ∃ A' I' p', den 79 55 [.ref c, x, y, .int (nI i)] [] (cw σ c A R (ti I p none)) = some (some (.int (nI q)), cw σ c A' R (ti I' p' (some q))) ∧ q ≤ n ∧ (∀ j, j ≠ 2 → A' j = A j) ∧ ∀ j, j ≠ 13 → I' j = I j) ∧ ∀ L', mkt n B k L p = .inr L' → ∃ A' I', den 79 55 [.ref c, x, y, .int (nI i)] [] (cw σ c A R (ti I p none)) = some (some (.int (-nI 1)), cw σ c A' R (ti I' n none)) ∧ I' 13 = nI L'.length ∧ L'.length ≤ 8 ∧ (∀ j, j < L'.length → some (A' 2 j) = L'[j]?) ∧ (∀ j, j ≠ 2 → A' j = A j) ∧ ∀ j, j ≠ 13 → I' j = I j := by
  intro k
  induction k with
  | zero => intro L p i A I hB hI hl hL hp hi hk; omega
  | succ k ih =>
    intro L p i A I hB hI hl hL hp hi hk
    have hn := hB.1
    have hm := Tx_more (σ := σ) (c := c) (R := R) (e := none) hB hp (fun r z => by cases z)
    have hmu := Tx_must (σ := σ) (c := c) (R := R) (e := none) hB hp (fun r z => by cases z) (s := 58) (by omega)
    have h13 : ∀ p e, ti I p e 13 = nI L.length := fun p e => (ti_o (by omega) (by omega)).trans hI
    rw [mkt]
    by_cases h1 : p = n
    · rw [if_pos h1]
      rw [if_neg (fun z => by omega)] at hm
      refine ⟨fun q z => (by cases z), fun L' z => ?_⟩
      cases z
      refine ⟨A, I, ?_, hI, hl, hL, fun j _ => rfl, fun j _ => rfl⟩
      rw [← h1]
      by_cases h80 : i < 80
      · rw [e79_55]
        simp (disch := first | omega | exact tl_l | exact tT_len | (simp only [List.length_cons, List.length_nil])) only [e79_0, e79_1, e79_4, e79_7, e79_8, e79_11, e79_12, e79_13, e79_16, e79_18, e79_21, e79_22, e79_25, e79_26, e79_29, e79_30, e79_31, e79_32, e79_35, e79_37, e79_40, e79_41, e79_44, e79_45, e79_46, e79_47, e79_50, e79_53, e79_54, e79_56, e79_58, e79_61, e79_62, e79_65, e79_68, e79_71, e79_72, e79_75, e79_78, e79_80, e79_83, e79_84, e79_87, e79_88, e79_91, e79_94, e79_97, e79_98, e79_101, e79_103, e79_106, e79_107, e79_110, e79_111, e79_114, e79_117, e79_120, e79_123, e79_124, e79_127, e79_130, kv_s, kh_s, kr_s, kr_v, kn_s, z0, z1, z2, nI_ltI, nI_leI, nI_eq, nI_add, oN, bz0, bz1, bw0, bw1, ltT, ltF, leT, leF, eqT, eqF, if_true, if_false, kI_n, wI_n, and_true, true_and, and_false, false_and, not_true, not_false_eq_true, cwo_1, cwr_1, cwg_0, cwg_1, cwg_2, cwa_0, cwl_0, cwo_3, cwr_3, cwg_3, cwa_R, cwl_R, cwo_5, cwr_5, cwg_4, cwg_5, cwg_6, cwg_7, cwg_8, cwa_1, cwl_1, cwo_7, cwr_7, cwg_9, cwg_10, cwg_11, cwg_12, cwg_13, cwa_2, cwl_2, cwo_17, cwr_17, cwg_14, cwa_3, cwl_3, cwp_0, cwp_1, cwp_2, cwp_3, cwp_4, cwp_5, cwp_6, cwp_7, cwp_8, cwp_9, cwp_10, cwp_11, cwp_12, cwp_13, cwp_14, cwu_0, cwu_R, cwu_1, cwu_2, cwu_3, vu_at, vu_ne, pk_us, pk_un, h.x.f0, h.x.f1, h.x.f2, h.x.f3, h.x.f4, h.x.f5, h.x.f6, h.x.f7, h.x.o, h.hi.o, h.hi.gd, h.hi.gf, h.hi.gl, Hi_keys h.hi h.d8, Hi_hasKey h.hi h.d8, Rw_empty, Rw_add, List.nil_append, List.cons_append, upd_upd, cwo_1, cwo_3, cwo_5, cwo_7, cwo_17, Bool.false_eq_true, n01, z80, hm, ti_2, fl]
      · have : i = 80 := by omega
        subst this
        rw [e79_55]
        simp (disch := first | omega | exact tl_l | exact tT_len | (simp only [List.length_cons, List.length_nil])) only [e79_0, e79_1, e79_4, e79_7, e79_8, e79_11, e79_12, e79_13, e79_16, e79_18, e79_21, e79_22, e79_25, e79_26, e79_29, e79_30, e79_31, e79_32, e79_35, e79_37, e79_40, e79_41, e79_44, e79_45, e79_46, e79_47, e79_50, e79_53, e79_54, e79_56, e79_58, e79_61, e79_62, e79_65, e79_68, e79_71, e79_72, e79_75, e79_78, e79_80, e79_83, e79_84, e79_87, e79_88, e79_91, e79_94, e79_97, e79_98, e79_101, e79_103, e79_106, e79_107, e79_110, e79_111, e79_114, e79_117, e79_120, e79_123, e79_124, e79_127, e79_130, kv_s, kh_s, kr_s, kr_v, kn_s, z0, z1, z2, nI_ltI, nI_leI, nI_eq, nI_add, oN, bz0, bz1, bw0, bw1, ltT, ltF, leT, leF, eqT, eqF, if_true, if_false, kI_n, wI_n, and_true, true_and, and_false, false_and, not_true, not_false_eq_true, cwo_1, cwr_1, cwg_0, cwg_1, cwg_2, cwa_0, cwl_0, cwo_3, cwr_3, cwg_3, cwa_R, cwl_R, cwo_5, cwr_5, cwg_4, cwg_5, cwg_6, cwg_7, cwg_8, cwa_1, cwl_1, cwo_7, cwr_7, cwg_9, cwg_10, cwg_11, cwg_12, cwg_13, cwa_2, cwl_2, cwo_17, cwr_17, cwg_14, cwa_3, cwl_3, cwp_0, cwp_1, cwp_2, cwp_3, cwp_4, cwp_5, cwp_6, cwp_7, cwp_8, cwp_9, cwp_10, cwp_11, cwp_12, cwp_13, cwp_14, cwu_0, cwu_R, cwu_1, cwu_2, cwu_3, vu_at, vu_ne, pk_us, pk_un, h.x.f0, h.x.f1, h.x.f2, h.x.f3, h.x.f4, h.x.f5, h.x.f6, h.x.f7, h.x.o, h.hi.o, h.hi.gd, h.hi.gf, h.hi.gl, Hi_keys h.hi h.d8, Hi_hasKey h.hi h.d8, Rw_empty, Rw_add, List.nil_append, List.cons_append, upd_upd, cwo_1, cwo_3, cwo_5, cwo_7, cwo_17, Bool.false_eq_true, n01, z80, ti_2, fl]
    · rw [if_neg h1]
      have hlt : p < n := by omega
      have h80 : i < 80 := by omega
      rw [if_pos ⟨rfl, hlt⟩] at hm
      by_cases h8 : L.length = 8
      · rw [if_pos h8]
        refine ⟨fun q z => ?_, fun L' z => (by cases z)⟩
        cases z
        obtain ⟨p1, a1, a2⟩ := Tx_must_no (σ := σ) (c := c) (R := R) hB hp hp (s := 58) (by omega)
        obtain ⟨z, p', b1, b2⟩ := (A_mark (R := R) h hB a1).2.2 p hp
        refine ⟨A, I, p', ?_, hp, fun j _ => rfl, fun j _ => rfl⟩
        have h13' : ∀ p e, ti I p e 13 = nI 8 := fun p e => (h13 p e).trans (by rw [h8])
        have ha := Pr_add8 (σ := σ) (c := c) (A := A) (R := R) (I := ti I p' (some p)) (h13' _ _) (x := z)
        rw [← C_rp_out (R := R) h hB b1 hp (i := i + 1) (by omega) (x := x) (y := y)]
        rw [e79_55]
        simp (disch := first | omega | exact tl_l | exact tT_len | (simp only [List.length_cons, List.length_nil])) only [e79_0, e79_1, e79_4, e79_7, e79_8, e79_11, e79_12, e79_13, e79_16, e79_18, e79_21, e79_22, e79_25, e79_26, e79_29, e79_30, e79_31, e79_32, e79_35, e79_37, e79_40, e79_41, e79_44, e79_45, e79_46, e79_47, e79_50, e79_53, e79_54, e79_56, e79_58, e79_61, e79_62, e79_65, e79_68, e79_71, e79_72, e79_75, e79_78, e79_80, e79_83, e79_84, e79_87, e79_88, e79_91, e79_94, e79_97, e79_98, e79_101, e79_103, e79_106, e79_107, e79_110, e79_111, e79_114, e79_117, e79_120, e79_123, e79_124, e79_127, e79_130, kv_s, kh_s, kr_s, kr_v, kn_s, z0, z1, z2, nI_ltI, nI_leI, nI_eq, nI_add, oN, bz0, bz1, bw0, bw1, ltT, ltF, leT, leF, eqT, eqF, if_true, if_false, kI_n, wI_n, and_true, true_and, and_false, false_and, not_true, not_false_eq_true, cwo_1, cwr_1, cwg_0, cwg_1, cwg_2, cwa_0, cwl_0, cwo_3, cwr_3, cwg_3, cwa_R, cwl_R, cwo_5, cwr_5, cwg_4, cwg_5, cwg_6, cwg_7, cwg_8, cwa_1, cwl_1, cwo_7, cwr_7, cwg_9, cwg_10, cwg_11, cwg_12, cwg_13, cwa_2, cwl_2, cwo_17, cwr_17, cwg_14, cwa_3, cwl_3, cwp_0, cwp_1, cwp_2, cwp_3, cwp_4, cwp_5, cwp_6, cwp_7, cwp_8, cwp_9, cwp_10, cwp_11, cwp_12, cwp_13, cwp_14, cwu_0, cwu_R, cwu_1, cwu_2, cwu_3, vu_at, vu_ne, pk_us, pk_un, h.x.f0, h.x.f1, h.x.f2, h.x.f3, h.x.f4, h.x.f5, h.x.f6, h.x.f7, h.x.o, h.hi.o, h.hi.gd, h.hi.gf, h.hi.gl, Hi_keys h.hi h.d8, Hi_hasKey h.hi h.d8, Rw_empty, Rw_add, List.nil_append, List.cons_append, upd_upd, cwo_1, cwo_3, cwo_5, cwo_7, cwo_17, Bool.false_eq_true, n01, z80, z8, z58, hm, h13', ti_1, Tx_fail0, a2, b2, ha]
      · rw [if_neg h8]
        have ha : ∀ p e x, dcall 74 [.ref (c + 7), .int x] (cw σ c A R (ti I p e)) = some (none, cw σ c (va_up A 2 (upd (A 2) L.length x)) R (ti (upd I 13 (nI (L.length + 1))) p e)) := fun p e x => by
          rw [Pr_add2 (h13 p e) (by omega), ti_13]
        have hB' : ∀ x, isB (va_up A 2 (upd (A 2) L.length x)) (upd I 13 (nI (L.length + 1))) n B := fun x => ⟨hB.1, (pk_un (by omega)).trans hB.2.1, by rw [vu_ne (by omega)]; exact hB.2.2⟩
        by_cases h2 : B p = 58
        · rw [if_pos h2]
          rw [if_pos ⟨hlt, h2⟩] at hmu
          obtain ⟨m1, m2, m3⟩ := A_mark (R := R) h hB (show p + 1 ≤ n by omega)
          obtain ⟨d1, d2⟩ := mk1_bd (n := n) (B := B) (show p + 1 ≤ n by omega)
          cases hr : mk1 n B (p + 1) with
          | inl q0 =>
            obtain ⟨z, p', b1, b2⟩ := m1 q0 hr
            have hq := d1 q0 hr
            refine ⟨fun q z => ?_, fun L' z => (by cases z)⟩
            cases z
            refine ⟨va_up A 2 (upd (A 2) L.length z), upd I 13 (nI (L.length + 1)), p', ?_, hq, fun j hj => vu_ne hj, fun j hj => pk_un hj⟩
            rw [← C_rp_out (R := R) h (hB' z) b1 hq (i := i + 1) (by omega) (x := x) (y := y)]
            rw [e79_55]
            simp (disch := first | omega | exact tl_l | exact tT_len | (simp only [List.length_cons, List.length_nil])) only [e79_0, e79_1, e79_4, e79_7, e79_8, e79_11, e79_12, e79_13, e79_16, e79_18, e79_21, e79_22, e79_25, e79_26, e79_29, e79_30, e79_31, e79_32, e79_35, e79_37, e79_40, e79_41, e79_44, e79_45, e79_46, e79_47, e79_50, e79_53, e79_54, e79_56, e79_58, e79_61, e79_62, e79_65, e79_68, e79_71, e79_72, e79_75, e79_78, e79_80, e79_83, e79_84, e79_87, e79_88, e79_91, e79_94, e79_97, e79_98, e79_101, e79_103, e79_106, e79_107, e79_110, e79_111, e79_114, e79_117, e79_120, e79_123, e79_124, e79_127, e79_130, kv_s, kh_s, kr_s, kr_v, kn_s, z0, z1, z2, nI_ltI, nI_leI, nI_eq, nI_add, oN, bz0, bz1, bw0, bw1, ltT, ltF, leT, leF, eqT, eqF, if_true, if_false, kI_n, wI_n, and_true, true_and, and_false, false_and, not_true, not_false_eq_true, cwo_1, cwr_1, cwg_0, cwg_1, cwg_2, cwa_0, cwl_0, cwo_3, cwr_3, cwg_3, cwa_R, cwl_R, cwo_5, cwr_5, cwg_4, cwg_5, cwg_6, cwg_7, cwg_8, cwa_1, cwl_1, cwo_7, cwr_7, cwg_9, cwg_10, cwg_11, cwg_12, cwg_13, cwa_2, cwl_2, cwo_17, cwr_17, cwg_14, cwa_3, cwl_3, cwp_0, cwp_1, cwp_2, cwp_3, cwp_4, cwp_5, cwp_6, cwp_7, cwp_8, cwp_9, cwp_10, cwp_11, cwp_12, cwp_13, cwp_14, cwu_0, cwu_R, cwu_1, cwu_2, cwu_3, vu_at, vu_ne, pk_us, pk_un, h.x.f0, h.x.f1, h.x.f2, h.x.f3, h.x.f4, h.x.f5, h.x.f6, h.x.f7, h.x.o, h.hi.o, h.hi.gd, h.hi.gf, h.hi.gl, Hi_keys h.hi h.d8, Hi_hasKey h.hi h.d8, Rw_empty, Rw_add, List.nil_append, List.cons_append, upd_upd, cwo_1, cwo_3, cwo_5, cwo_7, cwo_17, Bool.false_eq_true, n01, z80, z8, z58, hm, h13, h8, hmu, b2, ha]
          | inr r0 =>
            have b2 := m2 r0 hr
            obtain ⟨c1, c2⟩ := d2 r0 hr
            have hll : (L ++ [(mkv (sgn n B (p + 1)) r0.1).toInt32]).length = L.length + 1 := by rw [List.length_append]; rfl
            have e : den 79 55 [.ref c, x, y, .int (nI i)] [] (cw σ c A R (ti I p none)) = den 79 55 [.ref c, x, y, .int (nI (i + 1))] [] (cw σ c (va_up A 2 (upd (A 2) L.length (mkv (sgn n B (p + 1)) r0.1).toInt32)) R (ti (upd I 13 (nI (L.length + 1))) r0.2 none)) := by
              rw [e79_55]
              simp (disch := first | omega | exact tl_l | exact tT_len | (simp only [List.length_cons, List.length_nil])) only [e79_0, e79_1, e79_4, e79_7, e79_8, e79_11, e79_12, e79_13, e79_16, e79_18, e79_21, e79_22, e79_25, e79_26, e79_29, e79_30, e79_31, e79_32, e79_35, e79_37, e79_40, e79_41, e79_44, e79_45, e79_46, e79_47, e79_50, e79_53, e79_54, e79_56, e79_58, e79_61, e79_62, e79_65, e79_68, e79_71, e79_72, e79_75, e79_78, e79_80, e79_83, e79_84, e79_87, e79_88, e79_91, e79_94, e79_97, e79_98, e79_101, e79_103, e79_106, e79_107, e79_110, e79_111, e79_114, e79_117, e79_120, e79_123, e79_124, e79_127, e79_130, kv_s, kh_s, kr_s, kr_v, kn_s, z0, z1, z2, nI_ltI, nI_leI, nI_eq, nI_add, oN, bz0, bz1, bw0, bw1, ltT, ltF, leT, leF, eqT, eqF, if_true, if_false, kI_n, wI_n, and_true, true_and, and_false, false_and, not_true, not_false_eq_true, cwo_1, cwr_1, cwg_0, cwg_1, cwg_2, cwa_0, cwl_0, cwo_3, cwr_3, cwg_3, cwa_R, cwl_R, cwo_5, cwr_5, cwg_4, cwg_5, cwg_6, cwg_7, cwg_8, cwa_1, cwl_1, cwo_7, cwr_7, cwg_9, cwg_10, cwg_11, cwg_12, cwg_13, cwa_2, cwl_2, cwo_17, cwr_17, cwg_14, cwa_3, cwl_3, cwp_0, cwp_1, cwp_2, cwp_3, cwp_4, cwp_5, cwp_6, cwp_7, cwp_8, cwp_9, cwp_10, cwp_11, cwp_12, cwp_13, cwp_14, cwu_0, cwu_R, cwu_1, cwu_2, cwu_3, vu_at, vu_ne, pk_us, pk_un, h.x.f0, h.x.f1, h.x.f2, h.x.f3, h.x.f4, h.x.f5, h.x.f6, h.x.f7, h.x.o, h.hi.o, h.hi.gd, h.hi.gf, h.hi.gl, Hi_keys h.hi h.d8, Hi_hasKey h.hi h.d8, Rw_empty, Rw_add, List.nil_append, List.cons_append, upd_upd, cwo_1, cwo_3, cwo_5, cwo_7, cwo_17, Bool.false_eq_true, n01, z80, z8, z58, hm, h13, h8, hmu, b2, ha]
            obtain ⟨i1, i2⟩ := ih (L ++ [(mkv (sgn n B (p + 1)) r0.1).toInt32]) r0.2 (i + 1) (va_up A 2 (upd (A 2) L.length (mkv (sgn n B (p + 1)) r0.1).toInt32)) (upd I 13 (nI (L.length + 1))) (hB' _) (by rw [pk_us, hll]) (by omega) (fun j hj => by
              rw [vu_at]
              by_cases hj2 : j = L.length
              · subst hj2
                rw [pk_us, List.getElem?_append_right (Nat.le_refl _), Nat.sub_self]
                rfl
              · rw [pk_un hj2, List.getElem?_append_left (by omega)]
                exact hL j (by omega)) c2 (by omega) (by omega)
            rw [e]
            refine ⟨fun q z => ?_, fun L' z => ?_⟩
            · obtain ⟨A', I', p', w1, w2, w3, w4⟩ := i1 q z
              exact ⟨A', I', p', w1, w2, fun j hj => (w3 j hj).trans (vu_ne hj), fun j hj => (w4 j hj).trans (pk_un hj)⟩
            · obtain ⟨A', I', w1, w2, w3, w4, w5, w6⟩ := i2 L' z
              exact ⟨A', I', w1, w2, w3, w4, fun j hj => (w5 j hj).trans (vu_ne hj), fun j hj => (w6 j hj).trans (pk_un hj)⟩
        · rw [if_neg h2]
          rw [if_neg (fun z => h2 z.2)] at hmu
          have hmu : dcall 30 [.ref (c + 1), .int (nI 58)] (cw σ c A R (ti I p none)) = some (none, cw σ c A R (ti I p (some p))) := hmu
          refine ⟨fun q z => ?_, fun L' z => (by cases z)⟩
          cases z
          obtain ⟨z, p', b1, b2⟩ := (A_mark (R := R) h hB hp).2.2 p hp
          refine ⟨va_up A 2 (upd (A 2) L.length z), upd I 13 (nI (L.length + 1)), p', ?_, hp, fun j hj => vu_ne hj, fun j hj => pk_un hj⟩
          rw [← C_rp_out (R := R) h (hB' z) b1 hp (i := i + 1) (by omega) (x := x) (y := y)]
          rw [e79_55]
          simp (disch := first | omega | exact tl_l | exact tT_len | (simp only [List.length_cons, List.length_nil])) only [e79_0, e79_1, e79_4, e79_7, e79_8, e79_11, e79_12, e79_13, e79_16, e79_18, e79_21, e79_22, e79_25, e79_26, e79_29, e79_30, e79_31, e79_32, e79_35, e79_37, e79_40, e79_41, e79_44, e79_45, e79_46, e79_47, e79_50, e79_53, e79_54, e79_56, e79_58, e79_61, e79_62, e79_65, e79_68, e79_71, e79_72, e79_75, e79_78, e79_80, e79_83, e79_84, e79_87, e79_88, e79_91, e79_94, e79_97, e79_98, e79_101, e79_103, e79_106, e79_107, e79_110, e79_111, e79_114, e79_117, e79_120, e79_123, e79_124, e79_127, e79_130, kv_s, kh_s, kr_s, kr_v, kn_s, z0, z1, z2, nI_ltI, nI_leI, nI_eq, nI_add, oN, bz0, bz1, bw0, bw1, ltT, ltF, leT, leF, eqT, eqF, if_true, if_false, kI_n, wI_n, and_true, true_and, and_false, false_and, not_true, not_false_eq_true, cwo_1, cwr_1, cwg_0, cwg_1, cwg_2, cwa_0, cwl_0, cwo_3, cwr_3, cwg_3, cwa_R, cwl_R, cwo_5, cwr_5, cwg_4, cwg_5, cwg_6, cwg_7, cwg_8, cwa_1, cwl_1, cwo_7, cwr_7, cwg_9, cwg_10, cwg_11, cwg_12, cwg_13, cwa_2, cwl_2, cwo_17, cwr_17, cwg_14, cwa_3, cwl_3, cwp_0, cwp_1, cwp_2, cwp_3, cwp_4, cwp_5, cwp_6, cwp_7, cwp_8, cwp_9, cwp_10, cwp_11, cwp_12, cwp_13, cwp_14, cwu_0, cwu_R, cwu_1, cwu_2, cwu_3, vu_at, vu_ne, pk_us, pk_un, h.x.f0, h.x.f1, h.x.f2, h.x.f3, h.x.f4, h.x.f5, h.x.f6, h.x.f7, h.x.o, h.hi.o, h.hi.gd, h.hi.gf, h.hi.gl, Hi_keys h.hi h.d8, Hi_hasKey h.hi h.d8, Rw_empty, Rw_add, List.nil_append, List.cons_append, upd_upd, cwo_1, cwo_3, cwo_5, cwo_7, cwo_17, Bool.false_eq_true, n01, z80, z8, z58, hm, h13, h8, hmu, b2, ha]
/-- a proof read -/
theorem C_readProof (h : RB c σ T d f l V) {A : Nat → Nat → Int32} {I : Nat → Int32} (hB : isB A I n B) : (∀ q, tp n B = .inl q → ∃ A' I' p', dcall 79 [.ref c] (cw σ c A R I) = some (some (.int (nI q)), cw σ c A' R (ti I' p' (some q))) ∧ q ≤ n ∧ (∀ j, j ≠ 2 → A' j = A j) ∧ ∀ j, j < 9 ∨ 13 < j → I' j = I j) ∧ ∀ w, tp n B = .inr w → ∃ A' I', dcall 79 [.ref c] (cw σ c A R I) = some (some (.int (-nI 1)), cw σ c A' R (ti I' n none)) ∧ okN w ∧ I' 10 = nI w.1 ∧ I' 11 = nI w.2.1 ∧ I' 12 = nI w.2.2.1 ∧ I' 13 = nI w.2.2.2.length ∧ (∀ j, j < w.2.2.2.length → some (A' 2 j) = w.2.2.2[j]?) ∧ (∀ j, j ≠ 2 → A' j = A j) ∧ ∀ j, j < 9 ∨ 13 < j → I' j = I j := by
  have hn := hB.1
  obtain ⟨a1, a2, a3⟩ := A_byte (R := R) h hB (Nat.zero_le n)
  obtain ⟨d1, d2⟩ := by1_bd (n := n) (B := B) (Nat.zero_le n)
  have e0 : ∀ x e p', dcall 80 [.ref c] (cw σ c A R (ti I 0 none)) = some (some (.int x), cw σ c A R (ti I p' e)) → dcall 79 [.ref c] (cw σ c A R I) = den 79 12 [.ref c, .int x, junk, junk] [] (cw σ c A R (ti I p' e)) := fun x e p' hx => by
    rw [q79]
    simp (disch := first | omega | exact tl_l | exact tT_len | (simp only [List.length_cons, List.length_nil])) only [e79_0, e79_1, e79_4, e79_7, e79_8, e79_11, kv_s, kh_s, kr_s, kr_v, kn_s, z0, z1, z2, nI_ltI, nI_leI, nI_eq, nI_add, oN, bz0, bz1, bw0, bw1, ltT, ltF, leT, leF, eqT, eqF, if_true, if_false, kI_n, wI_n, and_true, true_and, and_false, false_and, not_true, not_false_eq_true, cwo_1, cwr_1, cwg_0, cwg_1, cwg_2, cwa_0, cwl_0, cwo_3, cwr_3, cwg_3, cwa_R, cwl_R, cwo_5, cwr_5, cwg_4, cwg_5, cwg_6, cwg_7, cwg_8, cwa_1, cwl_1, cwo_7, cwr_7, cwg_9, cwg_10, cwg_11, cwg_12, cwg_13, cwa_2, cwl_2, cwo_17, cwr_17, cwg_14, cwa_3, cwl_3, cwp_0, cwp_1, cwp_2, cwp_3, cwp_4, cwp_5, cwp_6, cwp_7, cwp_8, cwp_9, cwp_10, cwp_11, cwp_12, cwp_13, cwp_14, cwu_0, cwu_R, cwu_1, cwu_2, cwu_3, vu_at, vu_ne, pk_us, pk_un, h.x.f0, h.x.f1, h.x.f2, h.x.f3, h.x.f4, h.x.f5, h.x.f6, h.x.f7, h.x.o, h.hi.o, h.hi.gd, h.hi.gf, h.hi.gl, Hi_keys h.hi h.d8, Hi_hasKey h.hi h.d8, Rw_empty, Rw_add, List.nil_append, List.cons_append, upd_upd, cwo_1, cwo_3, cwo_5, cwo_7, cwo_17, Bool.false_eq_true, n01, Tx_rewind, hx]
  unfold tp
  cases hb : by1 n B 0 with
  | inl q0 =>
    obtain ⟨x, p', b1, b2⟩ := a1 q0 hb
    have hq := d1 q0 hb
    refine ⟨fun q z => ?_, fun w z => (by cases z)⟩
    cases z
    obtain ⟨y, z, p2, k⟩ := rp12 (R := R) h hB b1 hq (x := x) (v := junk) (w := junk)
    exact ⟨A, _, p2, (e0 _ _ _ b2).trans k, hq, fun j _ => rfl, fun j hj => hd_o hj⟩
  | inr r0 =>
    have b2 := a2 r0 hb
    obtain ⟨c1, c2, c3⟩ := d2 r0 hb
    have hmu := Tx_must (σ := σ) (c := c) (R := R) (e := none) hB c2 (fun r z => by cases z) (s := 61) (by omega)
    rw [e0 _ _ _ b2]
    by_cases h2 : r0.2 < n ∧ B r0.2 = 61
    · show (∀ q, (if r0.2 < n ∧ B r0.2 = 61 then tp2 n B r0.1 (r0.2 + 1) else .inl r0.2) = .inl q → _) ∧ ∀ w, (if r0.2 < n ∧ B r0.2 = 61 then tp2 n B r0.1 (r0.2 + 1) else .inl r0.2) = .inr w → _
      rw [if_pos h2]
      rw [if_pos h2] at hmu
      obtain ⟨n1, n2, n3⟩ := nm_dig (σ := σ) (c := c) (R := R) (m := 3) hB (show r0.2 + 1 ≤ n by omega) (by omega)
      obtain ⟨g1, g2⟩ := nm_bd (n := n) (B := B) (m := 3) (show r0.2 + 1 ≤ n by omega)
      have e1 : ∀ x e p', dcall 34 [.ref (c + 1), .int (nI 3)] (cw σ c A R (ti I (r0.2 + 1) none)) = some (some (.long (lN x)), cw σ c A R (ti I p' e)) → den 79 12 [.ref c, .int (nI r0.1), junk, junk] [] (cw σ c A R (ti I r0.2 none)) = den 79 31 [.ref c, .int (nI r0.1), .int (nI x), junk] [] (cw σ c A R (ti I p' e)) := fun x e p' hx => by
        simp (disch := first | omega | exact tl_l | exact tT_len | (simp only [List.length_cons, List.length_nil])) only [e79_12, e79_13, e79_16, e79_18, e79_21, e79_22, e79_25, e79_26, e79_29, e79_30, kv_s, kh_s, kr_s, kr_v, kn_s, z0, z1, z2, nI_ltI, nI_leI, nI_eq, nI_add, oN, bz0, bz1, bw0, bw1, ltT, ltF, leT, leF, eqT, eqF, if_true, if_false, kI_n, wI_n, and_true, true_and, and_false, false_and, not_true, not_false_eq_true, cwo_1, cwr_1, cwg_0, cwg_1, cwg_2, cwa_0, cwl_0, cwo_3, cwr_3, cwg_3, cwa_R, cwl_R, cwo_5, cwr_5, cwg_4, cwg_5, cwg_6, cwg_7, cwg_8, cwa_1, cwl_1, cwo_7, cwr_7, cwg_9, cwg_10, cwg_11, cwg_12, cwg_13, cwa_2, cwl_2, cwo_17, cwr_17, cwg_14, cwa_3, cwl_3, cwp_0, cwp_1, cwp_2, cwp_3, cwp_4, cwp_5, cwp_6, cwp_7, cwp_8, cwp_9, cwp_10, cwp_11, cwp_12, cwp_13, cwp_14, cwu_0, cwu_R, cwu_1, cwu_2, cwu_3, vu_at, vu_ne, pk_us, pk_un, h.x.f0, h.x.f1, h.x.f2, h.x.f3, h.x.f4, h.x.f5, h.x.f6, h.x.f7, h.x.o, h.hi.o, h.hi.gd, h.hi.gf, h.hi.gl, Hi_keys h.hi h.d8, Hi_hasKey h.hi h.d8, Rw_empty, Rw_add, List.nil_append, List.cons_append, upd_upd, cwo_1, cwo_3, cwo_5, cwo_7, cwo_17, Bool.false_eq_true, n01, z61, z3, hmu, hx, lN_i]
      unfold tp2
      cases hnm : nm n B 3 (r0.2 + 1) with
      | inl q0 =>
        obtain ⟨v, v1, v2⟩ := n1 q0 hnm
        have hq := g1 q0 hnm
        refine ⟨fun q z => ?_, fun w z => (by cases z)⟩
        cases z
        obtain ⟨z, p2, k⟩ := rp31 (R := R) h hB hq hq (x := nI r0.1) (y := nI v) (w := junk)
        exact ⟨A, _, p2, (e1 _ _ _ v2).trans k, hq, fun j _ => rfl, fun j hj => hd_o hj⟩
      | inr r1 =>
        have v2 := n2 r1 hnm
        obtain ⟨k1, k2, k3⟩ := g2 r1 hnm
        have hmu2 := Tx_must (σ := σ) (c := c) (R := R) (e := none) hB k2 (fun r z => by cases z) (s := 58) (by omega)
        rw [e1 _ _ _ v2]
        by_cases h3 : r1.2 < n ∧ B r1.2 = 58
        · show (∀ q, (if r1.2 < n ∧ B r1.2 = 58 then tp3 n B r0.1 r1.1 (r1.2 + 1) else .inl r1.2) = .inl q → _) ∧ ∀ w, (if r1.2 < n ∧ B r1.2 = 58 then tp3 n B r0.1 r1.1 (r1.2 + 1) else .inl r1.2) = .inr w → _
          rw [if_pos h3]
          rw [if_pos h3] at hmu2
          obtain ⟨o1, o2, o3⟩ := A_byte (R := R) h hB (show r1.2 + 1 ≤ n by omega)
          obtain ⟨f1, f2⟩ := by1_bd (n := n) (B := B) (show r1.2 + 1 ≤ n by omega)
          have e2 : ∀ x e p', dcall 80 [.ref c] (cw σ c A R (ti I (r1.2 + 1) none)) = some (some (.int x), cw σ c A R (ti I p' e)) → den 79 31 [.ref c, .int (nI r0.1), .int (nI r1.1), junk] [] (cw σ c A R (ti I r1.2 none)) = den 79 55 [.ref c, .int (nI r0.1), .int (nI r1.1), .int (nI 0)] [] (cw σ c A R (ti (hd I (nI r0.1) (nI r1.1) x (nI 0)) p' e)) := fun x e p' hx => by
            simp (disch := first | omega | exact tl_l | exact tT_len | (simp only [List.length_cons, List.length_nil])) only [e79_31, e79_32, e79_35, e79_37, e79_40, e79_41, e79_44, e79_45, e79_46, e79_47, e79_50, e79_53, e79_54, kv_s, kh_s, kr_s, kr_v, kn_s, z0, z1, z2, nI_ltI, nI_leI, nI_eq, nI_add, oN, bz0, bz1, bw0, bw1, ltT, ltF, leT, leF, eqT, eqF, if_true, if_false, kI_n, wI_n, and_true, true_and, and_false, false_and, not_true, not_false_eq_true, cwo_1, cwr_1, cwg_0, cwg_1, cwg_2, cwa_0, cwl_0, cwo_3, cwr_3, cwg_3, cwa_R, cwl_R, cwo_5, cwr_5, cwg_4, cwg_5, cwg_6, cwg_7, cwg_8, cwa_1, cwl_1, cwo_7, cwr_7, cwg_9, cwg_10, cwg_11, cwg_12, cwg_13, cwa_2, cwl_2, cwo_17, cwr_17, cwg_14, cwa_3, cwl_3, cwp_0, cwp_1, cwp_2, cwp_3, cwp_4, cwp_5, cwp_6, cwp_7, cwp_8, cwp_9, cwp_10, cwp_11, cwp_12, cwp_13, cwp_14, cwu_0, cwu_R, cwu_1, cwu_2, cwu_3, vu_at, vu_ne, pk_us, pk_un, h.x.f0, h.x.f1, h.x.f2, h.x.f3, h.x.f4, h.x.f5, h.x.f6, h.x.f7, h.x.o, h.hi.o, h.hi.gd, h.hi.gf, h.hi.gl, Hi_keys h.hi h.d8, Hi_hasKey h.hi h.d8, Rw_empty, Rw_add, List.nil_append, List.cons_append, upd_upd, cwo_1, cwo_3, cwo_5, cwo_7, cwo_17, Bool.false_eq_true, n01, z58, hmu2, hx, Pr_begin2, ti_hd]
          unfold tp3
          cases hb3 : by1 n B (r1.2 + 1) with
          | inl q0 =>
            obtain ⟨x, p', b1, b2⟩ := o1 q0 hb3
            have hq := f1 q0 hb3
            refine ⟨fun q z => ?_, fun w z => (by cases z)⟩
            cases z
            have k := C_rp_out (R := R) h (hB.hd (x := nI r0.1) (y := nI r1.1) (z := x) (w := nI 0)) b1 hq (i := 0) (by omega) (x := .int (nI r0.1)) (y := .int (nI r1.1))
            exact ⟨A, _, p', (e2 _ _ _ b2).trans k, hq, fun j _ => rfl, fun j hj => hd_o hj⟩
          | inr r2 =>
            have b3 := o2 r2 hb3
            obtain ⟨l1, l2, l3⟩ := f2 r2 hb3
            rw [e2 _ _ _ b3]
            obtain ⟨i1, i2⟩ := C_marks_loop (R := R) h (x := .int (nI r0.1)) (y := .int (nI r1.1)) (n + 1) [] r2.2 0 A (hd I (nI r0.1) (nI r1.1) (nI r2.1) (nI 0)) hB.hd hd_13 (by show 0 ≤ 8; omega) (fun j hj => absurd hj (Nat.not_lt_zero j)) l2 (by omega) (by omega)
            cases hk : mkt n B (n + 1) [] r2.2 with
            | inl q0 =>
              simp only [hk]
              obtain ⟨A', I', p', w1, w2, w3, w4⟩ := i1 q0 hk
              refine ⟨fun q z => ?_, fun w z => (by cases z)⟩
              cases z
              exact ⟨A', I', p', w1, w2, w3, fun j hj => (w4 j (by omega)).trans (hd_o hj)⟩
            | inr L' =>
              simp only [hk]
              obtain ⟨A', I', w1, w2, w3, w4, w5, w6⟩ := i2 L' hk
              refine ⟨fun q z => (by cases z), fun w z => ?_⟩
              cases z
              refine ⟨A', I', w1, ⟨?_, ?_, ?_, w3⟩, (w6 10 (by omega)).trans hd_10, (w6 11 (by omega)).trans hd_11, (w6 12 (by omega)).trans hd_12, w2, w4, w5, fun j hj => (w6 j (by omega)).trans (hd_o hj)⟩
              · show r0.1 < 256; omega
              · show r1.1 ≤ 999; omega
              · show r2.1 < 256; omega
        · show (∀ q, (if r1.2 < n ∧ B r1.2 = 58 then tp3 n B r0.1 r1.1 (r1.2 + 1) else .inl r1.2) = .inl q → _) ∧ ∀ w, (if r1.2 < n ∧ B r1.2 = 58 then tp3 n B r0.1 r1.1 (r1.2 + 1) else .inl r1.2) = .inr w → _
          rw [if_neg h3]
          rw [if_neg h3] at hmu2
          have hmu2 : dcall 30 [.ref (c + 1), .int (nI 58)] (cw σ c A R (ti I r1.2 none)) = some (none, cw σ c A R (ti I r1.2 (some r1.2))) := hmu2
          refine ⟨fun q z => ?_, fun w z => (by cases z)⟩
          cases z
          obtain ⟨z, p2, k⟩ := rp40 (R := R) h hB k2 k2 (x := nI r0.1) (y := nI r1.1) (w := junk)
          refine ⟨A, _, p2, ?_, k2, fun j _ => rfl, fun j hj => hd_o (x := nI r0.1) (y := nI r1.1) (z := z) (w := nI 0) hj⟩
          rw [← k]
          simp (disch := first | omega | exact tl_l | exact tT_len | (simp only [List.length_cons, List.length_nil])) only [e79_31, e79_32, e79_35, e79_37, kv_s, kh_s, kr_s, kr_v, kn_s, z0, z1, z2, nI_ltI, nI_leI, nI_eq, nI_add, oN, bz0, bz1, bw0, bw1, ltT, ltF, leT, leF, eqT, eqF, if_true, if_false, kI_n, wI_n, and_true, true_and, and_false, false_and, not_true, not_false_eq_true, cwo_1, cwr_1, cwg_0, cwg_1, cwg_2, cwa_0, cwl_0, cwo_3, cwr_3, cwg_3, cwa_R, cwl_R, cwo_5, cwr_5, cwg_4, cwg_5, cwg_6, cwg_7, cwg_8, cwa_1, cwl_1, cwo_7, cwr_7, cwg_9, cwg_10, cwg_11, cwg_12, cwg_13, cwa_2, cwl_2, cwo_17, cwr_17, cwg_14, cwa_3, cwl_3, cwp_0, cwp_1, cwp_2, cwp_3, cwp_4, cwp_5, cwp_6, cwp_7, cwp_8, cwp_9, cwp_10, cwp_11, cwp_12, cwp_13, cwp_14, cwu_0, cwu_R, cwu_1, cwu_2, cwu_3, vu_at, vu_ne, pk_us, pk_un, h.x.f0, h.x.f1, h.x.f2, h.x.f3, h.x.f4, h.x.f5, h.x.f6, h.x.f7, h.x.o, h.hi.o, h.hi.gd, h.hi.gf, h.hi.gl, Hi_keys h.hi h.d8, Hi_hasKey h.hi h.d8, Rw_empty, Rw_add, List.nil_append, List.cons_append, upd_upd, cwo_1, cwo_3, cwo_5, cwo_7, cwo_17, Bool.false_eq_true, n01, z58, hmu2]
    · show (∀ q, (if r0.2 < n ∧ B r0.2 = 61 then tp2 n B r0.1 (r0.2 + 1) else .inl r0.2) = .inl q → _) ∧ ∀ w, (if r0.2 < n ∧ B r0.2 = 61 then tp2 n B r0.1 (r0.2 + 1) else .inl r0.2) = .inr w → _
      rw [if_neg h2]
      rw [if_neg h2] at hmu
      have hmu : dcall 30 [.ref (c + 1), .int (nI 61)] (cw σ c A R (ti I r0.2 none)) = some (none, cw σ c A R (ti I r0.2 (some r0.2))) := hmu
      refine ⟨fun q z => ?_, fun w z => (by cases z)⟩
      cases z
      obtain ⟨y, z, p2, k⟩ := rp21 (R := R) h hB c2 c2 (x := nI r0.1) (v := junk) (w := junk)
      refine ⟨A, _, p2, ?_, c2, fun j _ => rfl, fun j hj => hd_o (x := nI r0.1) (y := y) (z := z) (w := nI 0) hj⟩
      rw [← k]
      simp (disch := first | omega | exact tl_l | exact tT_len | (simp only [List.length_cons, List.length_nil])) only [e79_12, e79_13, e79_16, e79_18, kv_s, kh_s, kr_s, kr_v, kn_s, z0, z1, z2, nI_ltI, nI_leI, nI_eq, nI_add, oN, bz0, bz1, bw0, bw1, ltT, ltF, leT, leF, eqT, eqF, if_true, if_false, kI_n, wI_n, and_true, true_and, and_false, false_and, not_true, not_false_eq_true, cwo_1, cwr_1, cwg_0, cwg_1, cwg_2, cwa_0, cwl_0, cwo_3, cwr_3, cwg_3, cwa_R, cwl_R, cwo_5, cwr_5, cwg_4, cwg_5, cwg_6, cwg_7, cwg_8, cwa_1, cwl_1, cwo_7, cwr_7, cwg_9, cwg_10, cwg_11, cwg_12, cwg_13, cwa_2, cwl_2, cwo_17, cwr_17, cwg_14, cwa_3, cwl_3, cwp_0, cwp_1, cwp_2, cwp_3, cwp_4, cwp_5, cwp_6, cwp_7, cwp_8, cwp_9, cwp_10, cwp_11, cwp_12, cwp_13, cwp_14, cwu_0, cwu_R, cwu_1, cwu_2, cwu_3, vu_at, vu_ne, pk_us, pk_un, h.x.f0, h.x.f1, h.x.f2, h.x.f3, h.x.f4, h.x.f5, h.x.f6, h.x.f7, h.x.o, h.hi.o, h.hi.gd, h.hi.gf, h.hi.gl, Hi_keys h.hi h.d8, Hi_hasKey h.hi h.d8, Rw_empty, Rw_add, List.nil_append, List.cons_append, upd_upd, cwo_1, cwo_3, cwo_5, cwo_7, cwo_17, Bool.false_eq_true, n01, z61, hmu]
end RPF
