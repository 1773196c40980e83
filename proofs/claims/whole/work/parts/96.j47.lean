/-! calls: years -/
/-- the next number drawn, and what is used of it -/
def dr (x : Int32) : Int32 := x * 1103515245 + 12345
def sh (x : Int32) : Nat := x.toBitVec.toNat / 2 ^ 16
def vy (x : Int32) : Nat := if sh (dr (dr x)) % 4 = 0 then 0 else sh (dr (dr (dr x))) % 999 + 1
def xy (x : Int32) : Int32 := if sh (dr (dr x)) % 4 = 0 then dr (dr x) else dr (dr (dr x))
def itz (G : Hs → Int32 → Int32 × Hs) (y : Int32 → Int32) : Nat → Hs → Int32 → Hs
  | 0, z, _ => z
  | n + 1, z, x => itz G y n (G z x).2 (y x)
theorem itz_s {G : Hs → Int32 → Int32 × Hs} {y : Int32 → Int32} {n : Nat} {z : Hs} {x : Int32} : itz G y (n + 1) z x = itz G y n (G z x).2 (y x) := rfl
def yG (z : Hs) (x : Int32) : Int32 × Hs := putF z (sh (dr x) % 2 ^ z.1) (vy x)
theorem yG_is {z : Hs} {x : Int32} : yG z x = putF z (sh (dr x) % 2 ^ z.1) (vy x) := rfl
def yz (n : Nat) (z : Hs) (x : Int32) : Hs := itz yG xy n z x
theorem yz_s {n : Nat} {z : Hs} {x : Int32} : yz (n + 1) z x = yz n (yG z x).2 (xy x) := itz_s
theorem yz_0 {z : Hs} {x : Int32} : yz 0 z x = z := rfl
theorem nI_self (x : Int32) : nI x.toBitVec.toNat = x := by
  apply Int32.toBitVec_inj.mp
  apply BitVec.eq_of_toNat_eq
  exact pk_tn x.toBitVec.isLt
theorem sh_lt {x : Int32} : sh x < 65536 := by
  have := x.toBitVec.isLt
  unfold sh
  omega
theorem sh_n (x : Int32) : (x.toUInt32 >>> ((16 : Int32).toUInt32 &&& Int32.toUInt32 31)).toInt32 = nI (sh x) := by
  have := pk_ushrN (n := x.toBitVec.toNat) x.toBitVec.isLt 16 16 (by decide)
  rw [nI_self] at this
  exact this
theorem vy_le {x : Int32} : vy x ≤ 999 := by
  unfold vy
  split
  · omega
  · have := Nat.mod_lt (sh (dr (dr (dr x)))) (show 0 < 999 by omega)
    omega
section YR
variable {c : Nat} {σ : Hp} {m : Nat} {A : Nat → Nat → Int32} {R : Nat → Int64} {I : Nat → Int32} {d f l : Nat} {V : Nat → Nat → Int32} {T : Nat → Option Nat} {W : Nat → Int32} {z : Hs}
theorem A_nextDraw {x : Int32} : dcall 129 [.int x] σ = some (some (.int (dr x)), σ) := by
  rw [q129]
  simp only [e129_0, e129_1, e129_4, e129_5, e129_8, e129_9]
  rfl
theorem A_part {x : Int32} {k : Nat} (h1 : 1 ≤ k) (h2 : k < 1000) : dcall 130 [.int x, .int (nI k)] σ = some (some (.int (nI (sh x % k))), σ) := by
  have hs := sh_lt (x := x)
  have e := pk_rem (a := sh x) (d := k) (by omega) (by omega) (by omega)
  rw [q130]
  simp (disch := first | omega | exact tl_l | exact tT_len | (simp only [List.length_cons, List.length_nil])) only [e130_0, e130_1, e130_4, e130_5, e130_7, e130_8, e130_9, e130_10, e130_13, e130_14, kv_s, kh_s, kr_s, kr_v, kn_s, z0, z1, z2, nI_ltI, nI_leI, nI_eq, nI_add, oN, bz0, bz1, bw0, bw1, ltT, ltF, leT, leF, eqT, eqF, if_true, if_false, kI_n, wI_n, and_true, true_and, and_false, false_and, not_true, not_false_eq_true, sh_n, e]
theorem M_draw {x : Int32} {k : Nat} (h1 : 1 ≤ k) (h2 : k < 1000) : dcall 246 [.ref m, .int (nI k)] (mw σ m A R (upd I 20 x)) = some (some (.int (nI (sh (dr x) % k))), mw σ m A R (upd I 20 (dr x))) := by
  have hs := sh_lt (x := dr x)
  have e := pk_rem (a := sh (dr x)) (d := k) (by omega) (by omega) (by omega)
  have ed : x * 1103515245 + 12345 = dr x := rfl
  rw [q246]
  simp (disch := first | omega | exact tl_l | exact tT_len | (simp only [List.length_cons, List.length_nil])) only [e246_0, e246_1, e246_2, e246_5, e246_8, e246_9, e246_12, e246_13, e246_16, e246_17, e246_20, e246_22, e246_23, e246_24, e246_25, kv_s, kh_s, kr_s, kr_v, kn_s, z0, z1, z2, nI_ltI, nI_leI, nI_eq, nI_add, oN, bz0, bz1, bw0, bw1, ltT, ltF, leT, leF, eqT, eqF, if_true, if_false, kI_n, wI_n, and_true, true_and, and_false, false_and, not_true, not_false_eq_true, mwo, mwr_0, mwr_1, mwr_2, mwg_3, mwp_3, mwr_4, mwg_5, mwp_5, mwg_6, mwp_6, mwr_7, mwr_8, mwg_9, mwp_9, mwg_10, mwp_10, mwg_11, mwp_11, mwr_12, mwg_13, mwp_13, mwr_14, mwr_15, mwr_16, mwr_17, mwr_18, mwr_19, mwg_20, mwp_20, mwr_21, mwr_22, mwr_23, mwa_1, mwu_1, mwa_2, mwu_2, mwa_3, mwu_3, mwa_4, mwu_4, mwa_5, mwu_5, mwa_6, mwu_6, mwa_7, mwu_7, mwa_8, mwu_8, mwa_9, mwu_9, mwa_10, mwu_10, mwa_11, mwu_11, mwa_12, mwu_12, mwa_13, mwu_13, mwa_14, mwu_14, mwa_15, mwu_15, mwa_16, mwu_16, vu_at, vu_ne, pk_us, pk_un, kB_n, wB_n, kL_n, wL_n, ed, upd_upd, sh_n, e]
theorem un_up_pos {a : Nat} {v : Int32} (h : nI 0 < W a) : un d (upd W a v) 1 ≤ un d W 1 := by
  rw [un_all, un_all]
  refine cnt_imp fun i _ hp => ?_
  have hp : decide (nI 0 < upd W a v (0 + i)) = true := hp
  show decide (nI 0 < W (0 + i)) = true
  by_cases hi : 0 + i = a
  · rw [hi]; exact decide_eq_true h
  · rw [pk_un hi] at hp; exact hp
theorem un_up_le {a : Nat} {v : Int32} (ha : a < 2 ^ d) : un d (upd W a v) 1 ≤ un d W 1 + 1 := by
  by_cases h : nI 0 < W a
  · have := un_up_pos (d := d) (v := v) h; omega
  · rw [un_all, un_all]
    have e := cnt_off (P := fun k => decide (nI 0 < W k) || decide (k = a)) (Q := fun k => decide (nI 0 < W k)) (k := a) (by rw [decide_eq_true (rfl : a = a)]; simp) (decide_eq_false h) (fun j hj => by rw [decide_eq_false hj]; simp) (2 ^ d) 0
    rw [if_pos ⟨by omega, by omega⟩] at e
    rw [← e]
    refine cnt_imp fun i _ hp => ?_
    have hp : decide (nI 0 < upd W a v (0 + i)) = true := hp
    show (decide (nI 0 < W (0 + i)) || decide (0 + i = a)) = true
    by_cases hi : 0 + i = a
    · rw [decide_eq_true hi]; simp
    · rw [pk_un hi] at hp; rw [hp]; rfl
theorem un_up_new {a : Nat} {v : Int32} (ha : a < 2 ^ d) (h : ¬ nI 0 < W a) (hv : nI 0 < v) : un d (upd W a v) 1 = un d W 1 + 1 := by
  rw [un_all, un_all]
  have e := cnt_off (P := fun k => decide (nI 0 < upd W a v k)) (Q := fun k => decide (nI 0 < W k)) (k := a) (by rw [pk_us]; exact decide_eq_true hv) (decide_eq_false h) (fun j hj => by rw [pk_un hj]) (2 ^ d) 0
  rw [if_pos ⟨by omega, by omega⟩] at e
  exact e
/-- the latest behind a put, as the draft goes -/
theorem putF_last (ok : okH z) (hf : z.2.1 ≤ z.2.2.1) {a b : Nat} (ha : a < 2 ^ z.1) (hb : b ≤ 999) : (putF z a b).2.1 = z.1 ∧ (putF z a b).2.2.2.2 (putF z a b).2.2.2.1 = if nI 0 < z.2.2.2 z.2.2.1 a ∨ un z.1 (z.2.2.2 z.2.2.1) 1 < 40 then upd (z.2.2.2 z.2.2.1) a (nI b) else z.2.2.2 z.2.2.1 := by
  have okl := ok _ hf (Nat.le_refl _)
  unfold putF
  rw [if_pos ⟨ha, hb⟩]
  have same : un z.1 (dl (upd (z.2.2.2 z.2.2.1) a (nI b)) (z.2.2.2 z.2.2.1)) 1 = 0 → upd (z.2.2.2 z.2.2.1) a (nI b) = z.2.2.2 z.2.2.1 := fun h => by
    by_cases hv : z.2.2.2 z.2.2.1 a = nI b
    · rw [← hv, upd_id rfl]
    · exact absurd h (un_other (k := a) ha (by rw [pk_us]; exact fun e => hv e.symm))
  have nw : ∀ W, vup z.2.2.2 (z.2.2.1 + 1) W (z.2.2.1 + 1) = W := fun W => if_pos rfl
  by_cases hc : nI 0 < z.2.2.2 z.2.2.1 a ∨ un z.1 (z.2.2.2 z.2.2.1) 1 < 40
  · rw [if_pos hc]
    have h40 : un z.1 (upd (z.2.2.2 z.2.2.1) a (nI b)) 1 ≤ 40 := by
      rcases hc with hc | hc
      · have := un_up_pos (d := z.1) (v := nI b) hc; omega
      · have := un_up_le (d := z.1) (W := z.2.2.2 z.2.2.1) (v := nI b) ha; omega
    unfold mkF
    rw [if_neg (by omega)]
    by_cases h0 : un z.1 (dl (upd (z.2.2.2 z.2.2.1) a (nI b)) (z.2.2.2 z.2.2.1)) 1 = 0
    · rw [if_pos h0]; exact ⟨rfl, (same h0).symm⟩
    · rw [if_neg h0]; exact ⟨rfl, nw _⟩
  · rw [if_neg hc]
    have hn : ¬ nI 0 < z.2.2.2 z.2.2.1 a := fun e => hc (Or.inl e)
    have h40 : ¬ un z.1 (z.2.2.2 z.2.2.1) 1 < 40 := fun e => hc (Or.inr e)
    obtain ⟨v, hv1, hv2⟩ := okl.1 a ha
    have hv0 : z.2.2.2 z.2.2.1 a = nI 0 := by
      rw [hv2, nI_ltI (by omega) (by omega)] at hn
      rw [hv2]
      congr 1
      omega
    by_cases hb0 : b = 0
    · subst hb0
      have e : upd (z.2.2.2 z.2.2.1) a (nI 0) = z.2.2.2 z.2.2.1 := upd_id hv0
      rw [e]
      unfold mkF
      rw [if_neg (by omega), if_pos (un_same fun _ _ => rfl)]
      exact ⟨rfl, rfl⟩
    · have hu := un_up_new (d := z.1) (W := z.2.2.2 z.2.2.1) (v := nI b) ha hn ((nI_ltI (by omega) (by omega)).mpr (by omega))
      unfold mkF
      rw [if_pos (by omega)]
      exact ⟨rfl, rfl⟩
theorem C_years_loop {l1 : Value} {N : Nat} (hN : N ≤ 60) : ∀ (n i : Nat) (x : Int32) (σ : Hp) (z : Hs) {l4' l5 l6 : Value}, RB c σ T d f l V → z.1 = d → okH z → z.2.1 ≤ z.2.2.1 → z.2.2.1 < z.2.1 + 12 → isT σ (c + 12) d (z.2.2.2 z.2.2.1) → i + n = N → ∃ τ x' l5' l6', den 128 32 [.ref c, l1, .int (nI N), .int x, .int (nI i), l5, l6] [] (cw σ c A R I) = den 128 132 [.ref c, l1, .int (nI N), .int x', .int (nI N), l5', l6'] [] (cw τ c A R I) ∧ dft c σ τ d ((yz n z x).2.2.2 (yz n z x).2.2.1) := by
  intro n
  induction n with
  | zero =>
    intro i x σ z l4' l5 l6 h hz ok hf h12 hT hi
    have : i = N := by omega
    subst this
    refine ⟨σ, x, l5, l6, ?_, fun _ _ => rfl, rfl, hT⟩
    rw [e128_32]
    simp (disch := first | omega | exact tl_l | exact tT_len | (simp only [List.length_cons, List.length_nil])) only [e128_34, e128_35, kv_s, kh_s, kr_s, kr_v, kn_s, z0, z1, z2, nI_ltI, nI_leI, nI_eq, nI_add, oN, bz0, bz1, bw0, bw1, ltT, ltF, leT, leF, eqT, eqF, if_true, if_false, kI_n, wI_n, and_true, true_and, and_false, false_and, not_true, not_false_eq_true]
  | succ n ih =>
    intro i x σ z l4' l5 l6 h hz ok hf h12 hT hi
    subst hz
    have hK := h.K
    have hu := un_le h.d8 (z.2.2.2 z.2.2.1) 1
    have hT' := hT.dcw (A := A) (R := R) (I := I)
    have ex : ∃ (a v : Nat) (y : Int32), a < 2 ^ z.1 ∧ v ≤ 999 ∧ yz (n + 1) z x = yz n (putF z a v).2 y ∧ den 128 32 [.ref c, l1, .int (nI N), .int x, .int (nI i), l5, l6] [] (cw σ c A R I) = den 128 88 [.ref c, l1, .int (nI N), .int y, .int (nI i), .int (nI a), .int (nI v)] [] (cw σ c A R I) := by
      refine ⟨sh (dr x) % 2 ^ z.1, vy x, xy x, Nat.mod_lt _ (by omega), vy_le, by rw [yz_s, yG_is], ?_⟩
      have hlt : i < N := by omega
      have hm4 := Nat.mod_lt (sh (dr (dr x))) (show 0 < 4 by omega)
      have hm9 := Nat.mod_lt (sh (dr (dr (dr x)))) (show 0 < 999 by omega)
      unfold vy xy
      by_cases h4 : sh (dr (dr x)) % 4 = 0
      · rw [if_pos h4, if_pos h4]
        rw [e128_32]
        simp (disch := first | omega | exact tl_l | exact tT_len | (simp only [List.length_cons, List.length_nil])) only [e128_34, e128_35, e128_38, e128_39, e128_42, e128_43, e128_44, e128_45, e128_48, e128_51, e128_54, e128_56, e128_57, e128_60, e128_61, e128_62, e128_64, e128_65, e128_66, e128_69, e128_72, e128_73, e128_76, e128_77, e128_78, e128_81, e128_84, e128_85, e128_86, kv_s, kh_s, kr_s, kr_v, kn_s, z0, z1, z2, nI_ltI, nI_leI, nI_eq, nI_add, oN, bz0, bz1, bw0, bw1, ltT, ltF, leT, leF, eqT, eqF, if_true, if_false, kI_n, wI_n, and_true, true_and, and_false, false_and, not_true, not_false_eq_true, cwo_1, cwr_1, cwg_0, cwg_1, cwg_2, cwa_0, cwl_0, cwo_3, cwr_3, cwg_3, cwa_R, cwl_R, cwo_5, cwr_5, cwg_4, cwg_5, cwg_6, cwg_7, cwg_8, cwa_1, cwl_1, cwo_7, cwr_7, cwg_9, cwg_10, cwg_11, cwg_12, cwg_13, cwa_2, cwl_2, cwo_17, cwr_17, cwg_14, cwa_3, cwl_3, cwp_0, cwp_1, cwp_2, cwp_3, cwp_4, cwp_5, cwp_6, cwp_7, cwp_8, cwp_9, cwp_10, cwp_11, cwp_12, cwp_13, cwp_14, cwu_0, cwu_R, cwu_1, cwu_2, cwu_3, vu_at, vu_ne, pk_us, pk_un, h.x.f0, h.x.f1, h.x.f2, h.x.f3, h.x.f4, h.x.f5, h.x.f6, h.x.f7, h.x.o, h.hi.o, h.hi.gd, h.hi.gf, h.hi.gl, Hi_keys h.hi h.d8, Hi_hasKey h.hi h.d8, Rw_empty, Rw_add, List.nil_append, List.cons_append, upd_upd, cwo_1, cwo_3, cwo_5, cwo_7, cwo_17, Bool.false_eq_true, n01, A_nextDraw, A_part, z4, h4]
      · rw [if_neg h4, if_neg h4]
        rw [e128_32]
        simp (disch := first | omega | exact tl_l | exact tT_len | (simp only [List.length_cons, List.length_nil])) only [e128_34, e128_35, e128_38, e128_39, e128_42, e128_43, e128_44, e128_45, e128_48, e128_51, e128_54, e128_56, e128_57, e128_60, e128_61, e128_62, e128_64, e128_65, e128_66, e128_69, e128_72, e128_73, e128_76, e128_77, e128_78, e128_81, e128_84, e128_85, e128_86, kv_s, kh_s, kr_s, kr_v, kn_s, z0, z1, z2, nI_ltI, nI_leI, nI_eq, nI_add, oN, bz0, bz1, bw0, bw1, ltT, ltF, leT, leF, eqT, eqF, if_true, if_false, kI_n, wI_n, and_true, true_and, and_false, false_and, not_true, not_false_eq_true, cwo_1, cwr_1, cwg_0, cwg_1, cwg_2, cwa_0, cwl_0, cwo_3, cwr_3, cwg_3, cwa_R, cwl_R, cwo_5, cwr_5, cwg_4, cwg_5, cwg_6, cwg_7, cwg_8, cwa_1, cwl_1, cwo_7, cwr_7, cwg_9, cwg_10, cwg_11, cwg_12, cwg_13, cwa_2, cwl_2, cwo_17, cwr_17, cwg_14, cwa_3, cwl_3, cwp_0, cwp_1, cwp_2, cwp_3, cwp_4, cwp_5, cwp_6, cwp_7, cwp_8, cwp_9, cwp_10, cwp_11, cwp_12, cwp_13, cwp_14, cwu_0, cwu_R, cwu_1, cwu_2, cwu_3, vu_at, vu_ne, pk_us, pk_un, h.x.f0, h.x.f1, h.x.f2, h.x.f3, h.x.f4, h.x.f5, h.x.f6, h.x.f7, h.x.o, h.hi.o, h.hi.gd, h.hi.gf, h.hi.gl, Hi_keys h.hi h.d8, Hi_hasKey h.hi h.d8, Rw_empty, Rw_add, List.nil_append, List.cons_append, upd_upd, cwo_1, cwo_3, cwo_5, cwo_7, cwo_17, Bool.false_eq_true, n01, A_nextDraw, A_part, z4, z999, h4]
    obtain ⟨a, v, y, hk, hv, ey, e1⟩ := ex
    rw [ey]
    obtain ⟨p1, p2⟩ := putF_last ok hf hk hv
    obtain ⟨o1, o2, o3⟩ := putF_ok (a := a) (b := v) ok hf h12
    have hpy : (putF z a v).2.2.1 ≤ (putF z a v).2.2.2.1 ∧ (putF z a v).2.2.2.1 < (putF z a v).2.2.1 + 12 := by
      unfold putF
      rw [if_pos ⟨hk, hv⟩]
      unfold mkF
      split
      · exact ⟨hf, h12⟩
      · split
        · exact ⟨hf, h12⟩
        · have := fst1_bd hf h12
          exact ⟨this.2.1, this.2.2⟩
    by_cases hc : nI 0 < z.2.2.2 z.2.2.1 a ∨ un z.1 (z.2.2.2 z.2.2.1) 1 < 40
    · rw [if_pos hc] at p2
      obtain ⟨τ, d1, D⟩ := D_place (A := A) (R := R) (I := I) hT hk (nI v)
      obtain ⟨ρ, x', l5', l6', i1, i2⟩ := ih (i + 1) y τ (putF z a v).2 (l4' := l4') (l5 := .int (nI a)) (l6 := .int (nI v)) (h.dft D) p1 o1 hpy.1 hpy.2 (by rw [p2]; exact D.2.2) (by omega)
      refine ⟨ρ, x', l5', l6', ?_, D.tr i2⟩
      rw [e1, ← i1]
      by_cases h1 : nI 0 < z.2.2.2 z.2.2.1 a
      · simp (disch := first | omega | exact tl_l | exact tT_len | (simp only [List.length_cons, List.length_nil])) only [e128_88, e128_89, e128_92, e128_94, e128_97, e128_100, e128_101, e128_104, e128_107, e128_110, e128_112, e128_115, e128_116, e128_119, e128_121, e128_123, e128_126, e128_129, kv_s, kh_s, kr_s, kr_v, kn_s, z0, z1, z2, nI_ltI, nI_leI, nI_eq, nI_add, oN, bz0, bz1, bw0, bw1, ltT, ltF, leT, leF, eqT, eqF, if_true, if_false, kI_n, wI_n, and_true, true_and, and_false, false_and, not_true, not_false_eq_true, cwo_1, cwr_1, cwg_0, cwg_1, cwg_2, cwa_0, cwl_0, cwo_3, cwr_3, cwg_3, cwa_R, cwl_R, cwo_5, cwr_5, cwg_4, cwg_5, cwg_6, cwg_7, cwg_8, cwa_1, cwl_1, cwo_7, cwr_7, cwg_9, cwg_10, cwg_11, cwg_12, cwg_13, cwa_2, cwl_2, cwo_17, cwr_17, cwg_14, cwa_3, cwl_3, cwp_0, cwp_1, cwp_2, cwp_3, cwp_4, cwp_5, cwp_6, cwp_7, cwp_8, cwp_9, cwp_10, cwp_11, cwp_12, cwp_13, cwp_14, cwu_0, cwu_R, cwu_1, cwu_2, cwu_3, vu_at, vu_ne, pk_us, pk_un, h.x.f0, h.x.f1, h.x.f2, h.x.f3, h.x.f4, h.x.f5, h.x.f6, h.x.f7, h.x.o, h.hi.o, h.hi.gd, h.hi.gf, h.hi.gl, Hi_keys h.hi h.d8, Hi_hasKey h.hi h.d8, Rw_empty, Rw_add, List.nil_append, List.cons_append, upd_upd, cwo_1, cwo_3, cwo_5, cwo_7, cwo_17, Bool.false_eq_true, n01, hT'.o, T_val hT', h1, d1]
      · have h2 := hc.resolve_left h1
        simp (disch := first | omega | exact tl_l | exact tT_len | (simp only [List.length_cons, List.length_nil])) only [e128_88, e128_89, e128_92, e128_94, e128_97, e128_100, e128_101, e128_104, e128_107, e128_110, e128_112, e128_115, e128_116, e128_119, e128_121, e128_123, e128_126, e128_129, kv_s, kh_s, kr_s, kr_v, kn_s, z0, z1, z2, nI_ltI, nI_leI, nI_eq, nI_add, oN, bz0, bz1, bw0, bw1, ltT, ltF, leT, leF, eqT, eqF, if_true, if_false, kI_n, wI_n, and_true, true_and, and_false, false_and, not_true, not_false_eq_true, cwo_1, cwr_1, cwg_0, cwg_1, cwg_2, cwa_0, cwl_0, cwo_3, cwr_3, cwg_3, cwa_R, cwl_R, cwo_5, cwr_5, cwg_4, cwg_5, cwg_6, cwg_7, cwg_8, cwa_1, cwl_1, cwo_7, cwr_7, cwg_9, cwg_10, cwg_11, cwg_12, cwg_13, cwa_2, cwl_2, cwo_17, cwr_17, cwg_14, cwa_3, cwl_3, cwp_0, cwp_1, cwp_2, cwp_3, cwp_4, cwp_5, cwp_6, cwp_7, cwp_8, cwp_9, cwp_10, cwp_11, cwp_12, cwp_13, cwp_14, cwu_0, cwu_R, cwu_1, cwu_2, cwu_3, vu_at, vu_ne, pk_us, pk_un, h.x.f0, h.x.f1, h.x.f2, h.x.f3, h.x.f4, h.x.f5, h.x.f6, h.x.f7, h.x.o, h.hi.o, h.hi.gd, h.hi.gf, h.hi.gl, Hi_keys h.hi h.d8, Hi_hasKey h.hi h.d8, Rw_empty, Rw_add, List.nil_append, List.cons_append, upd_upd, cwo_1, cwo_3, cwo_5, cwo_7, cwo_17, Bool.false_eq_true, n01, hT'.o, hT'.f, hT'.fo, T_val hT', T_size hT', h1, z40, h2, d1]
    · rw [if_neg hc] at p2
      have h1 : ¬ nI 0 < z.2.2.2 z.2.2.1 a := fun e => hc (Or.inl e)
      have h2 : ¬ un z.1 (z.2.2.2 z.2.2.1) 1 < 40 := fun e => hc (Or.inr e)
      have h2' : 40 ≤ un z.1 (z.2.2.2 z.2.2.1) 1 := by omega
      obtain ⟨ρ, x', l5', l6', i1, i2⟩ := ih (i + 1) y σ (putF z a v).2 (l4' := l4') (l5 := .int (nI a)) (l6 := .int (nI v)) h p1 o1 hpy.1 hpy.2 (by rw [p2]; exact hT) (by omega)
      refine ⟨ρ, x', l5', l6', ?_, i2⟩
      rw [e1, ← i1]
      simp (disch := first | omega | exact tl_l | exact tT_len | (simp only [List.length_cons, List.length_nil])) only [e128_88, e128_89, e128_92, e128_94, e128_97, e128_100, e128_101, e128_104, e128_107, e128_110, e128_112, e128_115, e128_116, e128_119, e128_121, e128_123, e128_126, e128_129, kv_s, kh_s, kr_s, kr_v, kn_s, z0, z1, z2, nI_ltI, nI_leI, nI_eq, nI_add, oN, bz0, bz1, bw0, bw1, ltT, ltF, leT, leF, eqT, eqF, if_true, if_false, kI_n, wI_n, and_true, true_and, and_false, false_and, not_true, not_false_eq_true, cwo_1, cwr_1, cwg_0, cwg_1, cwg_2, cwa_0, cwl_0, cwo_3, cwr_3, cwg_3, cwa_R, cwl_R, cwo_5, cwr_5, cwg_4, cwg_5, cwg_6, cwg_7, cwg_8, cwa_1, cwl_1, cwo_7, cwr_7, cwg_9, cwg_10, cwg_11, cwg_12, cwg_13, cwa_2, cwl_2, cwo_17, cwr_17, cwg_14, cwa_3, cwl_3, cwp_0, cwp_1, cwp_2, cwp_3, cwp_4, cwp_5, cwp_6, cwp_7, cwp_8, cwp_9, cwp_10, cwp_11, cwp_12, cwp_13, cwp_14, cwu_0, cwu_R, cwu_1, cwu_2, cwu_3, vu_at, vu_ne, pk_us, pk_un, h.x.f0, h.x.f1, h.x.f2, h.x.f3, h.x.f4, h.x.f5, h.x.f6, h.x.f7, h.x.o, h.hi.o, h.hi.gd, h.hi.gf, h.hi.gl, Hi_keys h.hi h.d8, Hi_hasKey h.hi h.d8, Rw_empty, Rw_add, List.nil_append, List.cons_append, upd_upd, cwo_1, cwo_3, cwo_5, cwo_7, cwo_17, Bool.false_eq_true, n01, hT'.o, hT'.f, hT'.fo, T_val hT', T_size hT', h1, z40, h2']
theorem M_years_loop {l1 : Value} {N : Nat} (hN : N ≤ 60) : ∀ (n i t : Nat) (x : Int32) (z : Hs) (A : Nat → Nat → Int32) {l5 l6 : Value}, nowM (A 1) z.1 z.2.1 z.2.2.1 z.2.2.2 → okH z → z.2.2.1 + n + 1 < 2 ^ 30 → i + n = N → t ≤ i → ∃ A' t' x' l5' l6', den 245 54 [.ref m, l1, .int (nI N), .int (nI t), .int (nI i), l5, l6] [] (mw σ m A R (upd I 20 x)) = den 245 118 [.ref m, l1, .int (nI N), .int (nI t'), .int (nI N), l5', l6'] [] (mw σ m A' R (upd I 20 x')) ∧ t' ≤ N ∧ nowM (A' 1) (yz n z x).1 (yz n z x).2.1 (yz n z x).2.2.1 (yz n z x).2.2.2 ∧ okH (yz n z x) ∧ (∀ k, k ≠ 1 → k ≠ 8 → A' k = A k) ∧ (yz n z x).1 = z.1 := by
  intro n
  induction n with
  | zero =>
    intro i t x z A l5 l6 h ok hl hi ht
    have : i = N := by omega
    subst this
    refine ⟨A, t, x, l5, l6, ?_, ht, h, ok, fun _ _ _ => rfl, rfl⟩
    rw [e245_54]
    simp (disch := first | omega | exact tl_l | exact tT_len | (simp only [List.length_cons, List.length_nil])) only [e245_56, e245_57, kv_s, kh_s, kr_s, kr_v, kn_s, z0, z1, z2, nI_ltI, nI_leI, nI_eq, nI_add, oN, bz0, bz1, bw0, bw1, ltT, ltF, leT, leF, eqT, eqF, if_true, if_false, kI_n, wI_n, and_true, true_and, and_false, false_and, not_true, not_false_eq_true]
  | succ n ih =>
    intro i t x z A l5 l6 h ok hl hi ht
    have hK := h.K
    have hf := h.2.2.2.2.1
    have h12 := h.2.2.2.2.2.1
    have hlt : i < N := by omega
    have ex : ∃ (a v : Nat) (y : Int32), a < 2 ^ z.1 ∧ v ≤ 999 ∧ yz (n + 1) z x = yz n (putF z a v).2 y ∧ den 245 54 [.ref m, l1, .int (nI N), .int (nI t), .int (nI i), l5, l6] [] (mw σ m A R (upd I 20 x)) = den 245 93 [.ref m, l1, .int (nI N), .int (nI t), .int (nI i), .int (nI a), .int (nI v)] [] (mw σ m A R (upd I 20 y)) := by
      refine ⟨sh (dr x) % 2 ^ z.1, vy x, xy x, Nat.mod_lt _ (by omega), vy_le, by rw [yz_s, yG_is], ?_⟩
      have hm4 := Nat.mod_lt (sh (dr (dr x))) (show 0 < 4 by omega)
      have hm9 := Nat.mod_lt (sh (dr (dr (dr x)))) (show 0 < 999 by omega)
      unfold vy xy
      by_cases h4 : sh (dr (dr x)) % 4 = 0
      · rw [if_pos h4, if_pos h4]
        rw [e245_54]
        simp (disch := first | omega | exact tl_l | exact tT_len | (simp only [List.length_cons, List.length_nil])) only [e245_56, e245_57, e245_60, e245_61, e245_62, e245_65, e245_68, e245_70, e245_71, e245_72, e245_75, e245_78, e245_79, e245_82, e245_83, e245_86, e245_89, e245_90, e245_91, kv_s, kh_s, kr_s, kr_v, kn_s, z0, z1, z2, nI_ltI, nI_leI, nI_eq, nI_add, oN, bz0, bz1, bw0, bw1, ltT, ltF, leT, leF, eqT, eqF, if_true, if_false, kI_n, wI_n, and_true, true_and, and_false, false_and, not_true, not_false_eq_true, mwo, M_keys h, M_draw, z4, h4]
      · rw [if_neg h4, if_neg h4]
        rw [e245_54]
        simp (disch := first | omega | exact tl_l | exact tT_len | (simp only [List.length_cons, List.length_nil])) only [e245_56, e245_57, e245_60, e245_61, e245_62, e245_65, e245_68, e245_70, e245_71, e245_72, e245_75, e245_78, e245_79, e245_82, e245_83, e245_86, e245_89, e245_90, e245_91, kv_s, kh_s, kr_s, kr_v, kn_s, z0, z1, z2, nI_ltI, nI_leI, nI_eq, nI_add, oN, bz0, bz1, bw0, bw1, ltT, ltF, leT, leF, eqT, eqF, if_true, if_false, kI_n, wI_n, and_true, true_and, and_false, false_and, not_true, not_false_eq_true, mwo, M_keys h, M_draw, z4, z999, h4]
    obtain ⟨a, v, y, hk, hv, ey, e1⟩ := ex
    rw [ey]
    obtain ⟨p1, _⟩ := putF_last ok hf hk hv
    obtain ⟨o1, o2, o3⟩ := putF_ok (a := a) (b := v) ok hf h12
    obtain ⟨A1, g1, g2, g3⟩ := M_goPut (σ := σ) (m := m) (R := R) (I := upd I 20 y) h ok (by omega) (a := a) (b := v) (by omega) (by omega)
    by_cases hge : nI 0 ≤ (putF z a v).1
    · have hnl : ¬ (putF z a v).1 < nI 0 := Int32.not_lt.mpr hge
      obtain ⟨A', t', x', l5', l6', i1, i2, i3, i4, i5, i6⟩ := ih (i + 1) (t + 1) y (putF z a v).2 A1 (l5 := .int (nI a)) (l6 := .int (nI v)) g2 o1 (by omega) (by omega) (by omega)
      refine ⟨A', t', x', l5', l6', ?_, i2, i3, i4, fun k q1 q2 => (i5 k q1 q2).trans (g3 k q1 q2), i6.trans p1⟩
      rw [e1, ← i1]
      simp (disch := first | omega | exact tl_l | exact tT_len | (simp only [List.length_cons, List.length_nil])) only [e245_93, e245_94, e245_95, e245_97, e245_99, e245_102, e245_105, e245_106, e245_109, e245_110, e245_111, e245_112, e245_115, kv_s, kh_s, kr_s, kr_v, kn_s, z0, z1, z2, nI_ltI, nI_leI, nI_eq, nI_add, oN, bz0, bz1, bw0, bw1, ltT, ltF, leT, leF, eqT, eqF, if_true, if_false, kI_n, wI_n, and_true, true_and, and_false, false_and, not_true, not_false_eq_true, mwo, g1, hnl]
    · have hlt0 : (putF z a v).1 < nI 0 := Int32.not_le.mp hge
      obtain ⟨A', t', x', l5', l6', i1, i2, i3, i4, i5, i6⟩ := ih (i + 1) t y (putF z a v).2 A1 (l5 := .int (nI a)) (l6 := .int (nI v)) g2 o1 (by omega) (by omega) (by omega)
      refine ⟨A', t', x', l5', l6', ?_, i2, i3, i4, fun k q1 q2 => (i5 k q1 q2).trans (g3 k q1 q2), i6.trans p1⟩
      rw [e1, ← i1]
      simp (disch := first | omega | exact tl_l | exact tT_len | (simp only [List.length_cons, List.length_nil])) only [e245_93, e245_94, e245_95, e245_97, e245_99, e245_102, e245_105, e245_106, e245_109, e245_110, e245_111, e245_112, e245_115, kv_s, kh_s, kr_s, kr_v, kn_s, z0, z1, z2, nI_ltI, nI_leI, nI_eq, nI_add, oN, bz0, bz1, bw0, bw1, ltT, ltF, leT, leF, eqT, eqF, if_true, if_false, kI_n, wI_n, and_true, true_and, and_false, false_and, not_true, not_false_eq_true, mwo, g1, hlt0, Nat.add_zero]
theorem M_aside_loop {l1 l2 l4 l5 l6 : Value} : ∀ (n k : Nat) (N : Nat → Int32), k + n = 3075 → (∀ j, j < k → N j = A 1 j) → ∃ N', den 245 24 [.ref m, l1, l2, .int (nI k), l4, l5, l6] [] (mw σ m (va_up A 14 N) R I) = den 245 49 [.ref m, l1, l2, .int (nI 3075), l4, l5, l6] [] (mw σ m (va_up A 14 N') R I) ∧ ∀ j, j < 3075 → N' j = A 1 j := by
  intro n
  induction n with
  | zero =>
    intro k N hk h1
    have : k = 3075 := by omega
    subst this
    refine ⟨N, ?_, h1⟩
    rw [e245_24]
    simp (disch := first | omega | exact tl_l | exact tT_len | (simp only [List.length_cons, List.length_nil])) only [e245_25, e245_28, kv_s, kh_s, kr_s, kr_v, kn_s, z0, z1, z2, nI_ltI, nI_leI, nI_eq, nI_add, oN, bz0, bz1, bw0, bw1, ltT, ltF, leT, leF, eqT, eqF, if_true, if_false, kI_n, wI_n, and_true, true_and, and_false, false_and, not_true, not_false_eq_true, z3075]
  | succ n ih =>
    intro k N hk h1
    obtain ⟨N', e1, e2⟩ := ih (k + 1) (upd N k (A 1 k)) (by omega) (fun j hj => by
      by_cases hjk : j = k
      · subst hjk; rw [pk_us]
      · rw [pk_un hjk]; exact h1 j (by omega))
    refine ⟨N', ?_, e2⟩
    rw [← e1]
    have h14 : ∀ {X}, va_up A 14 X 1 = A 1 := fun {X} => vu_ne (by omega)
    rw [e245_24]
    simp (disch := first | omega | exact tl_l | exact tT_len | (simp only [List.length_cons, List.length_nil])) only [e245_25, e245_28, e245_31, e245_32, e245_35, e245_36, e245_37, e245_40, e245_41, e245_42, e245_43, e245_46, kv_s, kh_s, kr_s, kr_v, kn_s, z0, z1, z2, nI_ltI, nI_leI, nI_eq, nI_add, oN, bz0, bz1, bw0, bw1, ltT, ltF, leT, leF, eqT, eqF, if_true, if_false, kI_n, wI_n, and_true, true_and, and_false, false_and, not_true, not_false_eq_true, mwo, mwr_0, mwr_1, mwr_2, mwg_3, mwp_3, mwr_4, mwg_5, mwp_5, mwg_6, mwp_6, mwr_7, mwr_8, mwg_9, mwp_9, mwg_10, mwp_10, mwg_11, mwp_11, mwr_12, mwg_13, mwp_13, mwr_14, mwr_15, mwr_16, mwr_17, mwr_18, mwr_19, mwg_20, mwp_20, mwr_21, mwr_22, mwr_23, mwa_1, mwu_1, mwa_2, mwu_2, mwa_3, mwu_3, mwa_4, mwu_4, mwa_5, mwu_5, mwa_6, mwu_6, mwa_7, mwu_7, mwa_8, mwu_8, mwa_9, mwu_9, mwa_10, mwu_10, mwa_11, mwu_11, mwa_12, mwu_12, mwa_13, mwu_13, mwa_14, mwu_14, mwa_15, mwu_15, mwa_16, mwu_16, vu_at, vu_ne, pk_us, pk_un, kB_n, wB_n, kL_n, wL_n, z3075, h14, vu_vu]
theorem M_back_loop {l1 l2 l3 l4 : Value} {x : Int32} : ∀ (n k : Nat) (N : Nat → Int32), k + n = 3075 → (∀ j, j < k → N j = A 14 j) → ∃ N', den 245 172 [.ref m, l1, l2, l3, l4, .int x, .int (nI k)] [] (mw σ m (va_up A 1 N) R I) = some (some (.int x), mw σ m (va_up A 1 N') R I) ∧ ∀ j, j < 3075 → N' j = A 14 j := by
  intro n
  induction n with
  | zero =>
    intro k N hk h1
    have : k = 3075 := by omega
    subst this
    refine ⟨N, ?_, h1⟩
    rw [e245_172]
    simp (disch := first | omega | exact tl_l | exact tT_len | (simp only [List.length_cons, List.length_nil])) only [e245_0, e245_1, e245_2, e245_5, e245_6, e245_7, e245_9, e245_12, e245_15, e245_16, e245_17, e245_18, e245_19, e245_22, e245_23, e245_25, e245_28, e245_31, e245_32, e245_35, e245_36, e245_37, e245_40, e245_41, e245_42, e245_43, e245_46, e245_49, e245_50, e245_51, e245_52, e245_56, e245_57, e245_60, e245_61, e245_62, e245_65, e245_68, e245_70, e245_71, e245_72, e245_75, e245_78, e245_79, e245_82, e245_83, e245_86, e245_89, e245_90, e245_91, e245_93, e245_94, e245_95, e245_97, e245_99, e245_102, e245_105, e245_106, e245_109, e245_110, e245_111, e245_112, e245_115, e245_118, e245_119, e245_120, e245_123, e245_126, e245_128, e245_129, e245_130, e245_133, e245_136, e245_138, e245_139, e245_140, e245_143, e245_144, e245_145, e245_148, e245_149, e245_150, e245_151, e245_154, e245_155, e245_156, e245_159, e245_160, e245_163, e245_165, e245_166, e245_169, e245_170, e245_174, e245_177, e245_180, e245_181, e245_184, e245_186, e245_187, e245_190, e245_192, e245_193, e245_194, e245_197, e245_200, e245_202, kv_s, kh_s, kr_s, kr_v, kn_s, z0, z1, z2, nI_ltI, nI_leI, nI_eq, nI_add, oN, bz0, bz1, bw0, bw1, ltT, ltF, leT, leF, eqT, eqF, if_true, if_false, kI_n, wI_n, and_true, true_and, and_false, false_and, not_true, not_false_eq_true, mwo, mwr_0, mwr_1, mwr_2, mwg_3, mwp_3, mwr_4, mwg_5, mwp_5, mwg_6, mwp_6, mwr_7, mwr_8, mwg_9, mwp_9, mwg_10, mwp_10, mwg_11, mwp_11, mwr_12, mwg_13, mwp_13, mwr_14, mwr_15, mwr_16, mwr_17, mwr_18, mwr_19, mwg_20, mwp_20, mwr_21, mwr_22, mwr_23, mwa_1, mwu_1, mwa_2, mwu_2, mwa_3, mwu_3, mwa_4, mwu_4, mwa_5, mwu_5, mwa_6, mwu_6, mwa_7, mwu_7, mwa_8, mwu_8, mwa_9, mwu_9, mwa_10, mwu_10, mwa_11, mwu_11, mwa_12, mwu_12, mwa_13, mwu_13, mwa_14, mwu_14, mwa_15, mwu_15, mwa_16, mwu_16, vu_at, vu_ne, pk_us, pk_un, kB_n, wB_n, kL_n, wL_n, z3075]
  | succ n ih =>
    intro k N hk h1
    obtain ⟨N', e1, e2⟩ := ih (k + 1) (upd N k (A 14 k)) (by omega) (fun j hj => by
      by_cases hjk : j = k
      · subst hjk; rw [pk_us]
      · rw [pk_un hjk]; exact h1 j (by omega))
    refine ⟨N', ?_, e2⟩
    rw [← e1]
    have h14 : ∀ {X}, va_up A 1 X 14 = A 14 := fun {X} => vu_ne (by omega)
    rw [e245_172]
    simp (disch := first | omega | exact tl_l | exact tT_len | (simp only [List.length_cons, List.length_nil])) only [e245_0, e245_1, e245_2, e245_5, e245_6, e245_7, e245_9, e245_12, e245_15, e245_16, e245_17, e245_18, e245_19, e245_22, e245_23, e245_25, e245_28, e245_31, e245_32, e245_35, e245_36, e245_37, e245_40, e245_41, e245_42, e245_43, e245_46, e245_49, e245_50, e245_51, e245_52, e245_56, e245_57, e245_60, e245_61, e245_62, e245_65, e245_68, e245_70, e245_71, e245_72, e245_75, e245_78, e245_79, e245_82, e245_83, e245_86, e245_89, e245_90, e245_91, e245_93, e245_94, e245_95, e245_97, e245_99, e245_102, e245_105, e245_106, e245_109, e245_110, e245_111, e245_112, e245_115, e245_118, e245_119, e245_120, e245_123, e245_126, e245_128, e245_129, e245_130, e245_133, e245_136, e245_138, e245_139, e245_140, e245_143, e245_144, e245_145, e245_148, e245_149, e245_150, e245_151, e245_154, e245_155, e245_156, e245_159, e245_160, e245_163, e245_165, e245_166, e245_169, e245_170, e245_174, e245_177, e245_180, e245_181, e245_184, e245_186, e245_187, e245_190, e245_192, e245_193, e245_194, e245_197, e245_200, e245_202, kv_s, kh_s, kr_s, kr_v, kn_s, z0, z1, z2, nI_ltI, nI_leI, nI_eq, nI_add, oN, bz0, bz1, bw0, bw1, ltT, ltF, leT, leF, eqT, eqF, if_true, if_false, kI_n, wI_n, and_true, true_and, and_false, false_and, not_true, not_false_eq_true, mwo, mwr_0, mwr_1, mwr_2, mwg_3, mwp_3, mwr_4, mwg_5, mwp_5, mwg_6, mwp_6, mwr_7, mwr_8, mwg_9, mwp_9, mwg_10, mwp_10, mwg_11, mwp_11, mwr_12, mwg_13, mwp_13, mwr_14, mwr_15, mwr_16, mwr_17, mwr_18, mwr_19, mwg_20, mwp_20, mwr_21, mwr_22, mwr_23, mwa_1, mwu_1, mwa_2, mwu_2, mwa_3, mwu_3, mwa_4, mwu_4, mwa_5, mwu_5, mwa_6, mwu_6, mwa_7, mwu_7, mwa_8, mwu_8, mwa_9, mwu_9, mwa_10, mwu_10, mwa_11, mwu_11, mwa_12, mwu_12, mwa_13, mwu_13, mwa_14, mwu_14, mwa_15, mwu_15, mwa_16, mwu_16, vu_at, vu_ne, pk_us, pk_un, kB_n, wB_n, kL_n, wL_n, z3075, h14, vu_vu]
end YR
theorem J_years (x y : Int32) : Jn 128 245 [.int x, .int y] := by
  rintro c i σ hi ⟨z, n, B, L, q, K, A, R, I, A2, R2, I2, h⟩
  obtain ⟨T, hb⟩ := h.rb
  have hN := h.nm
  have hd := hb.d8
  have hK := hb.K
  have hfl := hb.fl
  rcases rg_in (x := y) (N := 60) (by omega) with ⟨j, hj, rfl⟩ | hy
  · by_cases hj0 : j = 0
    · subst hj0
      refine Inv_same h hi (b := .int (-nI 1)) ?_ ?_
      · have h := hb
        rw [q128]
        simp (disch := first | omega | exact tl_l | exact tT_len | (simp only [List.length_cons, List.length_nil])) only [e128_0, e128_1, e128_2, e128_5, e128_6, e128_8, e128_11, e128_12, e128_13, e128_14, e128_17, e128_18, e128_21, e128_24, e128_27, e128_28, e128_29, e128_30, e128_34, e128_35, e128_38, e128_39, e128_42, e128_43, e128_44, e128_45, e128_48, e128_51, e128_54, e128_56, e128_57, e128_60, e128_61, e128_62, e128_64, e128_65, e128_66, e128_69, e128_72, e128_73, e128_76, e128_77, e128_78, e128_81, e128_84, e128_85, e128_86, e128_88, e128_89, e128_92, e128_94, e128_97, e128_100, e128_101, e128_104, e128_107, e128_110, e128_112, e128_115, e128_116, e128_119, e128_121, e128_123, e128_126, e128_129, e128_132, e128_133, e128_136, e128_139, e128_140, e128_143, e128_144, e128_147, e128_148, e128_151, e128_152, e128_155, e128_156, e128_159, e128_160, e128_163, e128_166, e128_167, e128_168, e128_169, e128_172, e128_175, e128_176, e128_179, e128_180, e128_183, e128_184, e128_187, e128_190, e128_193, kv_s, kh_s, kr_s, kr_v, kn_s, z0, z1, z2, nI_ltI, nI_leI, nI_eq, nI_add, oN, bz0, bz1, bw0, bw1, ltT, ltF, leT, leF, eqT, eqF, if_true, if_false, kI_n, wI_n, and_true, true_and, and_false, false_and, not_true, not_false_eq_true, cwo_1, cwr_1, cwg_0, cwg_1, cwg_2, cwa_0, cwl_0, cwo_3, cwr_3, cwg_3, cwa_R, cwl_R, cwo_5, cwr_5, cwg_4, cwg_5, cwg_6, cwg_7, cwg_8, cwa_1, cwl_1, cwo_7, cwr_7, cwg_9, cwg_10, cwg_11, cwg_12, cwg_13, cwa_2, cwl_2, cwo_17, cwr_17, cwg_14, cwa_3, cwl_3, cwp_0, cwp_1, cwp_2, cwp_3, cwp_4, cwp_5, cwp_6, cwp_7, cwp_8, cwp_9, cwp_10, cwp_11, cwp_12, cwp_13, cwp_14, cwu_0, cwu_R, cwu_1, cwu_2, cwu_3, vu_at, vu_ne, pk_us, pk_un, h.x.f0, h.x.f1, h.x.f2, h.x.f3, h.x.f4, h.x.f5, h.x.f6, h.x.f7, h.x.o, h.hi.o, h.hi.gd, h.hi.gf, h.hi.gl, Hi_keys h.hi h.d8, Hi_hasKey h.hi h.d8, Rw_empty, Rw_add, List.nil_append, List.cons_append, upd_upd, cwo_1, cwo_3, cwo_5, cwo_7, cwo_17, Bool.false_eq_true, n01]
      · intro τ
        refine ⟨A2, upd I2 6 (nI 0), ?_, stay.rf, pk_un (by omega), pk_un (by omega)⟩
        rw [q245]
        simp (disch := first | omega | exact tl_l | exact tT_len | (simp only [List.length_cons, List.length_nil])) only [e245_0, e245_1, e245_2, e245_5, e245_6, e245_7, e245_9, e245_12, e245_15, e245_16, e245_17, e245_18, e245_19, e245_22, e245_23, e245_25, e245_28, e245_31, e245_32, e245_35, e245_36, e245_37, e245_40, e245_41, e245_42, e245_43, e245_46, e245_49, e245_50, e245_51, e245_52, e245_56, e245_57, e245_60, e245_61, e245_62, e245_65, e245_68, e245_70, e245_71, e245_72, e245_75, e245_78, e245_79, e245_82, e245_83, e245_86, e245_89, e245_90, e245_91, e245_93, e245_94, e245_95, e245_97, e245_99, e245_102, e245_105, e245_106, e245_109, e245_110, e245_111, e245_112, e245_115, e245_118, e245_119, e245_120, e245_123, e245_126, e245_128, e245_129, e245_130, e245_133, e245_136, e245_138, e245_139, e245_140, e245_143, e245_144, e245_145, e245_148, e245_149, e245_150, e245_151, e245_154, e245_155, e245_156, e245_159, e245_160, e245_163, e245_165, e245_166, e245_169, e245_170, e245_174, e245_177, e245_180, e245_181, e245_184, e245_186, e245_187, e245_190, e245_192, e245_193, e245_194, e245_197, e245_200, e245_202, kv_s, kh_s, kr_s, kr_v, kn_s, z0, z1, z2, nI_ltI, nI_leI, nI_eq, nI_add, oN, bz0, bz1, bw0, bw1, ltT, ltF, leT, leF, eqT, eqF, if_true, if_false, kI_n, wI_n, and_true, true_and, and_false, false_and, not_true, not_false_eq_true, mwo, mwr_0, mwr_1, mwr_2, mwg_3, mwp_3, mwr_4, mwg_5, mwp_5, mwg_6, mwp_6, mwr_7, mwr_8, mwg_9, mwp_9, mwg_10, mwp_10, mwg_11, mwp_11, mwr_12, mwg_13, mwp_13, mwr_14, mwr_15, mwr_16, mwr_17, mwr_18, mwr_19, mwg_20, mwp_20, mwr_21, mwr_22, mwr_23, mwa_1, mwu_1, mwa_2, mwu_2, mwa_3, mwu_3, mwa_4, mwu_4, mwa_5, mwu_5, mwa_6, mwu_6, mwa_7, mwu_7, mwa_8, mwu_8, mwa_9, mwu_9, mwa_10, mwu_10, mwa_11, mwu_11, mwa_12, mwu_12, mwa_13, mwu_13, mwa_14, mwu_14, mwa_15, mwu_15, mwa_16, mwu_16, vu_at, vu_ne, pk_us, pk_un, kB_n, wB_n, kL_n, wL_n, z60, M_in0 (x := nI 0) (y := nI 1) (z := nI 60) (Or.inl (by decide))]
    · obtain ⟨T0, t, τ, hb0, n1, t2, far, k1, D1, hb1, hc1, t3⟩ := C_new (A := A) (R := R) (I := I) h.2.2.1
      obtain ⟨ρ, x', l5', l6', y1, y2⟩ := C_years_loop (A := A) (R := R) (I := I) (l1 := .int x) hj j 0 x τ z (l4' := junk) (l5 := junk) (l6 := junk) hb1 rfl h.ok hfl.1 hfl.2.1 D1.2.2 (Nat.zero_add _)
      have D := D1.tr y2
      have hM : ∀ τ, ∃ A2' I2', dcall 245 [.ref (c + 24), .int x, .int (nI j)] (mw τ (c + 24) A2 R2 I2) = some (some (.int (nI (un z.1 ((yz j z x).2.2.2 (yz j z x).2.2.1) 1))), mw τ (c + 24) A2' (rl R2 [(mk z.1 ((yz j z x).2.2.2 (yz j z x).2.2.1) 1).toInt64, lN (cnt (nz z.1 ((yz j z x).2.2.2 (yz j z x).2.2.1)) 1 (2 * 2 ^ z.1 - 1))]) I2') ∧ nowM (A2' 1) z.1 z.2.1 z.2.2.1 z.2.2.2 ∧ (∀ k, k = 2 ∨ k = 3 ∨ k = 15 ∨ k = 16 → A2' k = A2 k) ∧ I2' 3 = I2 3 ∧ I2' 5 = nI 2 := fun τ => by
        obtain ⟨N1, a1, a2⟩ := M_aside_loop (σ := τ) (m := c + 24) (A := A2) (R := R2) (I := upd (upd I2 6 (nI 0)) 20 x) (l1 := .int x) (l2 := .int (nI j)) (l4 := junk) (l5 := junk) (l6 := junk) 3075 0 (A2 14) (Nat.zero_add _) (fun i hi => absurd hi (Nat.not_lt_zero i))
        rw [vu_id] at a1
        have hN1 : nowM (va_up A2 14 N1 1) z.1 z.2.1 z.2.2.1 z.2.2.2 := by rw [vu_ne (by omega)]; exact hN
        have h30 := h.2.2.2.2.2.2.2.1
        have h31 := h.2.2.2.2.2.2.2.2.2
        obtain ⟨A3, t', x3, l5, l6, b1, b2, b3, b4, b5, b6⟩ := M_years_loop (σ := τ) (m := c + 24) (R := R2) (I := upd I2 6 (nI 0)) (l1 := .int x) hj j 0 0 x z (va_up A2 14 N1) (l5 := junk) (l6 := junk) hN1 h.ok (by omega) (Nat.zero_add _) (Nat.le_refl 0)
        have hlz := b3.2.2.2.2.1
        obtain ⟨M', B', c1, c2⟩ := M_filledAll (σ := τ) (m := c + 24) (R := R2) (I := upd (upd I2 6 (nI 0)) 20 x3) b3 hlz (Nat.le_refl _) (b4 _ hlz (Nat.le_refl _)).1
        have g5 : nowM (lA A3 M' B' 1) (yz j z x).1 (yz j z x).2.1 (yz j z x).2.2.1 (yz j z x).2.2.2 := b3
        have hval := M_valued (σ := τ) (m := c + 24) (R := R2) (I := upd (upd I2 6 (nI 0)) 20 x3) g5 hlz (Nat.le_refl _)
        have hmk := (c2 1 (Nat.le_refl 1) (by have := Nat.one_le_two_pow (n := (yz j z x).1); omega)).1
        rw [b6] at c1 hval hmk
        have hcl := cnt_le (nz z.1 ((yz j z x).2.2.2 (yz j z x).2.2.1)) 1 (2 * 2 ^ z.1 - 1)
        obtain ⟨N2, e1, e2⟩ := M_back_loop (σ := τ) (m := c + 24) (A := lA A3 M' B') (R := rl R2 [(mk z.1 ((yz j z x).2.2.2 (yz j z x).2.2.1) 1).toInt64, lN (cnt (nz z.1 ((yz j z x).2.2.2 (yz j z x).2.2.1)) 1 (2 * 2 ^ z.1 - 1))]) (I := upd (upd (upd I2 6 (nI 0)) 20 x3) 5 (nI 2)) (l1 := .int x) (l2 := .int (nI j)) (l3 := .int (nI t')) (l4 := .int (nI (cnt (nz z.1 ((yz j z x).2.2.2 (yz j z x).2.2.1)) 1 (2 * 2 ^ z.1 - 1)))) (x := nI (un z.1 ((yz j z x).2.2.2 (yz j z x).2.2.1) 1)) 3075 0 (lA A3 M' B' 1) (Nat.zero_add _) (fun i hi => absurd hi (Nat.not_lt_zero i))
        rw [vu_id] at e1
        refine ⟨va_up (lA A3 M' B') 1 N2, upd (upd (upd I2 6 (nI 0)) 20 x3) 5 (nI 2), ?_, ?_, fun k hk => ?_, by rw [pk_un (by omega), pk_un (by omega), pk_un (by omega)], pk_us⟩
        · rw [← e1]
          rw [q245]
          simp (disch := first | omega | exact tl_l | exact tT_len | (simp only [List.length_cons, List.length_nil])) only [e245_0, e245_1, e245_2, e245_5, e245_6, e245_7, e245_9, e245_12, e245_15, e245_16, e245_17, e245_18, e245_19, e245_22, e245_23, e245_25, e245_28, e245_31, e245_32, e245_35, e245_36, e245_37, e245_40, e245_41, e245_42, e245_43, e245_46, e245_49, e245_50, e245_51, e245_52, e245_56, e245_57, e245_60, e245_61, e245_62, e245_65, e245_68, e245_70, e245_71, e245_72, e245_75, e245_78, e245_79, e245_82, e245_83, e245_86, e245_89, e245_90, e245_91, e245_93, e245_94, e245_95, e245_97, e245_99, e245_102, e245_105, e245_106, e245_109, e245_110, e245_111, e245_112, e245_115, e245_118, e245_119, e245_120, e245_123, e245_126, e245_128, e245_129, e245_130, e245_133, e245_136, e245_138, e245_139, e245_140, e245_143, e245_144, e245_145, e245_148, e245_149, e245_150, e245_151, e245_154, e245_155, e245_156, e245_159, e245_160, e245_163, e245_165, e245_166, e245_169, e245_170, e245_174, e245_177, e245_180, e245_181, e245_184, e245_186, e245_187, e245_190, e245_192, e245_193, e245_194, e245_197, e245_200, e245_202, kv_s, kh_s, kr_s, kr_v, kn_s, z0, z1, z2, nI_ltI, nI_leI, nI_eq, nI_add, oN, bz0, bz1, bw0, bw1, ltT, ltF, leT, leF, eqT, eqF, if_true, if_false, kI_n, wI_n, and_true, true_and, and_false, false_and, not_true, not_false_eq_true, mwo, mwr_0, mwr_1, mwr_2, mwg_3, mwp_3, mwr_4, mwg_5, mwp_5, mwg_6, mwp_6, mwr_7, mwr_8, mwg_9, mwp_9, mwg_10, mwp_10, mwg_11, mwp_11, mwr_12, mwg_13, mwp_13, mwr_14, mwr_15, mwr_16, mwr_17, mwr_18, mwr_19, mwg_20, mwp_20, mwr_21, mwr_22, mwr_23, mwa_1, mwu_1, mwa_2, mwu_2, mwa_3, mwu_3, mwa_4, mwu_4, mwa_5, mwu_5, mwa_6, mwu_6, mwa_7, mwu_7, mwa_8, mwu_8, mwa_9, mwu_9, mwa_10, mwu_10, mwa_11, mwu_11, mwa_12, mwu_12, mwa_13, mwu_13, mwa_14, mwu_14, mwa_15, mwu_15, mwa_16, mwu_16, vu_at, vu_ne, pk_us, pk_un, kB_n, wB_n, kL_n, wL_n, z60, M_in1, n01]
          rw [a1]
          simp (disch := first | omega | exact tl_l | exact tT_len | (simp only [List.length_cons, List.length_nil])) only [e245_49, e245_50, e245_51, e245_52, kv_s, kh_s, kr_s, kr_v, kn_s, z0, z1, z2, nI_ltI, nI_leI, nI_eq, nI_add, oN, bz0, bz1, bw0, bw1, ltT, ltF, leT, leF, eqT, eqF, if_true, if_false, kI_n, wI_n, and_true, true_and, and_false, false_and, not_true, not_false_eq_true]
          rw [b1]
          simp (disch := first | omega | exact tl_l | exact tT_len | (simp only [List.length_cons, List.length_nil])) only [e245_118, e245_119, e245_120, e245_123, e245_126, e245_128, e245_129, e245_130, e245_133, e245_136, e245_138, e245_139, e245_140, e245_143, e245_144, e245_145, e245_148, e245_149, e245_150, e245_151, e245_154, e245_155, e245_156, e245_159, e245_160, e245_163, e245_165, e245_166, e245_169, e245_170, kv_s, kh_s, kr_s, kr_v, kn_s, z0, z1, z2, nI_ltI, nI_leI, nI_eq, nI_add, oN, bz0, bz1, bw0, bw1, ltT, ltF, leT, leF, eqT, eqF, if_true, if_false, kI_n, wI_n, and_true, true_and, and_false, false_and, not_true, not_false_eq_true, mwo, mwr_0, mwr_1, mwr_2, mwg_3, mwp_3, mwr_4, mwg_5, mwp_5, mwg_6, mwp_6, mwr_7, mwr_8, mwg_9, mwp_9, mwg_10, mwp_10, mwg_11, mwp_11, mwr_12, mwg_13, mwp_13, mwr_14, mwr_15, mwr_16, mwr_17, mwr_18, mwr_19, mwg_20, mwp_20, mwr_21, mwr_22, mwr_23, mwa_1, mwu_1, mwa_2, mwu_2, mwa_3, mwu_3, mwa_4, mwu_4, mwa_5, mwu_5, mwa_6, mwu_6, mwa_7, mwu_7, mwa_8, mwu_8, mwa_9, mwu_9, mwa_10, mwu_10, mwa_11, mwu_11, mwa_12, mwu_12, mwa_13, mwu_13, mwa_14, mwu_14, mwa_15, mwu_15, mwa_16, mwu_16, vu_at, vu_ne, pk_us, pk_un, kB_n, wB_n, kL_n, wL_n, M_latest b3, M_latest g5, c1, hval, lA_5, hmk, nI_l, M_tell0, M_tell, List.nil_append, List.cons_append]
        · rw [vu_at]
          refine hN.cg fun k hk => ?_
          rw [e2 k hk, lA_o (by omega) (by omega), b5 14 (by omega) (by omega), vu_at, a2 k hk]
        · rw [vu_ne (by omega), lA_o (by omega) (by omega), b5 k (by omega) (by omega), vu_ne (by omega)]
      have hT := y2.2.2.dcw (A := A) (R := R) (I := I)
      have hTs : ∀ {A R I}, isT (cw ρ c A R I) (c + 12) z.1 ((yz j z x).2.2.2 (yz j z x).2.2.1) := fun {A R I} => y2.2.2.dcw
      have hb2 := hb0.dft D
      have o0 := BC_dobj h.2.2.1 (A := A) (R := R) (I := I)
      have hcl := cnt_le (nz z.1 ((yz j z x).2.2.2 (yz j z x).2.2.1)) 1 (2 * 2 ^ z.1 - 1)
      have hmul : nI 2 * nI (2 ^ z.1) = nI (2 * 2 ^ z.1) := pk_mul 2 _
      have hnod : ∀ {A R I}, dcall 51 [.ref (c + 12 + 3), .int (nI 1), .int (nI (2 * 2 ^ z.1))] (cw ρ c A R I) = some (some (.int (nI (cnt (nz z.1 ((yz j z x).2.2.2 (yz j z x).2.2.1)) 1 (2 * 2 ^ z.1 - 1)))), cw ρ c A R I) := fun {A R I} => T_nodesIn (hTs (A := A) (R := R) (I := I)) (Nat.le_refl 1) (Nat.le_refl _) (by omega)
      have hC : dcall 128 [.ref c, .int x, .int (nI j)] (cw σ c A R I) = some (some (.int (nI (un z.1 ((yz j z x).2.2.2 (yz j z x).2.2.1) 1))), cw ρ c A (rl R [(mk z.1 ((yz j z x).2.2.2 (yz j z x).2.2.1) 1).toInt64, lN (cnt (nz z.1 ((yz j z x).2.2.2 (yz j z x).2.2.1)) 1 (2 * 2 ^ z.1 - 1))]) (upd I 3 (nI 2))) := by
        have h := hb0
        rw [q128]
        simp (disch := first | omega | exact tl_l | exact tT_len | (simp only [List.length_cons, List.length_nil])) only [e128_0, e128_1, e128_2, e128_5, e128_6, e128_8, e128_11, e128_12, e128_13, e128_14, e128_17, e128_18, e128_21, e128_24, e128_27, e128_28, e128_29, e128_30, kv_s, kh_s, kr_s, kr_v, kn_s, z0, z1, z2, nI_ltI, nI_leI, nI_eq, nI_add, oN, bz0, bz1, bw0, bw1, ltT, ltF, leT, leF, eqT, eqF, if_true, if_false, kI_n, wI_n, and_true, true_and, and_false, false_and, not_true, not_false_eq_true, cwo_1, cwr_1, cwg_0, cwg_1, cwg_2, cwa_0, cwl_0, cwo_3, cwr_3, cwg_3, cwa_R, cwl_R, cwo_5, cwr_5, cwg_4, cwg_5, cwg_6, cwg_7, cwg_8, cwa_1, cwl_1, cwo_7, cwr_7, cwg_9, cwg_10, cwg_11, cwg_12, cwg_13, cwa_2, cwl_2, cwo_17, cwr_17, cwg_14, cwa_3, cwl_3, cwp_0, cwp_1, cwp_2, cwp_3, cwp_4, cwp_5, cwp_6, cwp_7, cwp_8, cwp_9, cwp_10, cwp_11, cwp_12, cwp_13, cwp_14, cwu_0, cwu_R, cwu_1, cwu_2, cwu_3, vu_at, vu_ne, pk_us, pk_un, h.x.f0, h.x.f1, h.x.f2, h.x.f3, h.x.f4, h.x.f5, h.x.f6, h.x.f7, h.x.o, h.hi.o, h.hi.gd, h.hi.gf, h.hi.gl, Hi_keys h.hi h.d8, Hi_hasKey h.hi h.d8, Rw_empty, Rw_add, List.nil_append, List.cons_append, upd_upd, cwo_1, cwo_3, cwo_5, cwo_7, cwo_17, Bool.false_eq_true, n01, z60, n1, o0, k1]
        rw [y1]
        simp (disch := first | omega | exact tl_l | exact tT_len | (simp only [List.length_cons, List.length_nil])) only [e128_132, e128_133, e128_136, e128_139, e128_140, e128_143, e128_144, e128_147, e128_148, e128_151, e128_152, e128_155, e128_156, e128_159, e128_160, e128_163, e128_166, e128_167, e128_168, e128_169, e128_172, e128_175, e128_176, e128_179, e128_180, e128_183, e128_184, e128_187, e128_190, e128_193, kv_s, kh_s, kr_s, kr_v, kn_s, z0, z1, z2, nI_ltI, nI_leI, nI_eq, nI_add, oN, bz0, bz1, bw0, bw1, ltT, ltF, leT, leF, eqT, eqF, if_true, if_false, kI_n, wI_n, and_true, true_and, and_false, false_and, not_true, not_false_eq_true, cwo_1, cwr_1, cwg_0, cwg_1, cwg_2, cwa_0, cwl_0, cwo_3, cwr_3, cwg_3, cwa_R, cwl_R, cwo_5, cwr_5, cwg_4, cwg_5, cwg_6, cwg_7, cwg_8, cwa_1, cwl_1, cwo_7, cwr_7, cwg_9, cwg_10, cwg_11, cwg_12, cwg_13, cwa_2, cwl_2, cwo_17, cwr_17, cwg_14, cwa_3, cwl_3, cwp_0, cwp_1, cwp_2, cwp_3, cwp_4, cwp_5, cwp_6, cwp_7, cwp_8, cwp_9, cwp_10, cwp_11, cwp_12, cwp_13, cwp_14, cwu_0, cwu_R, cwu_1, cwu_2, cwu_3, vu_at, vu_ne, pk_us, pk_un, hb2.x.f0, hb2.x.f1, hb2.x.f2, hb2.x.f3, hb2.x.f4, hb2.x.f5, hb2.x.f6, hb2.x.f7, hb2.x.o, hb2.hi.o, hb2.hi.gd, hb2.hi.gf, hb2.hi.gl, Hi_keys hb2.hi hb2.d8, Hi_hasKey hb2.hi hb2.d8, Rw_empty, Rw_add, List.nil_append, List.cons_append, hTs.o, hTs.f, hTs.fo, T_mark hTs, T_size hTs, hmul, hnod, nI_l]
      obtain ⟨A2', I2', m1, m2, m3, m4, m5⟩ := hM (cw ρ c A (rl R [(mk z.1 ((yz j z x).2.2.2 (yz j z x).2.2.1) 1).toInt64, lN (cnt (nz z.1 ((yz j z x).2.2.2 (yz j z x).2.2.1)) 1 (2 * 2 ^ z.1 - 1))]) (upd I 3 (nI 2)))
      refine Inv_mk h hC (h.2.2.1.dft D) D.afar m1 (h.2.2.2.1.row (k := 2) rfl (by omega)) ?_ (h.2.2.2.2.2.up hi)
      obtain ⟨g1, g2, g3, g4, g5, g6, g7⟩ := h.2.2.2.2.1
      have base : RM A2' R2 I2 z n B L q K := ⟨m2, by rw [m3 2 (by omega)]; exact g2, g3, by rw [m3 3 (by omega)]; exact g4, g5, g6, fun j hj => RMk_stay' (fun k hk => m3 k (by omega)) (g7 j hj)⟩
      exact base.row (k := 2) stay.rf rfl (by omega) m4 m5
  · refine Inv_same h hi (b := .int (-nI 1)) ?_ ?_
    · have h := hb
      by_cases h1 : y < nI 1
      · rw [q128]
        simp (disch := first | omega | exact tl_l | exact tT_len | (simp only [List.length_cons, List.length_nil])) only [e128_0, e128_1, e128_2, e128_5, e128_6, e128_8, e128_11, e128_12, e128_13, e128_14, e128_17, e128_18, e128_21, e128_24, e128_27, e128_28, e128_29, e128_30, e128_34, e128_35, e128_38, e128_39, e128_42, e128_43, e128_44, e128_45, e128_48, e128_51, e128_54, e128_56, e128_57, e128_60, e128_61, e128_62, e128_64, e128_65, e128_66, e128_69, e128_72, e128_73, e128_76, e128_77, e128_78, e128_81, e128_84, e128_85, e128_86, e128_88, e128_89, e128_92, e128_94, e128_97, e128_100, e128_101, e128_104, e128_107, e128_110, e128_112, e128_115, e128_116, e128_119, e128_121, e128_123, e128_126, e128_129, e128_132, e128_133, e128_136, e128_139, e128_140, e128_143, e128_144, e128_147, e128_148, e128_151, e128_152, e128_155, e128_156, e128_159, e128_160, e128_163, e128_166, e128_167, e128_168, e128_169, e128_172, e128_175, e128_176, e128_179, e128_180, e128_183, e128_184, e128_187, e128_190, e128_193, kv_s, kh_s, kr_s, kr_v, kn_s, z0, z1, z2, nI_ltI, nI_leI, nI_eq, nI_add, oN, bz0, bz1, bw0, bw1, ltT, ltF, leT, leF, eqT, eqF, if_true, if_false, kI_n, wI_n, and_true, true_and, and_false, false_and, not_true, not_false_eq_true, cwo_1, cwr_1, cwg_0, cwg_1, cwg_2, cwa_0, cwl_0, cwo_3, cwr_3, cwg_3, cwa_R, cwl_R, cwo_5, cwr_5, cwg_4, cwg_5, cwg_6, cwg_7, cwg_8, cwa_1, cwl_1, cwo_7, cwr_7, cwg_9, cwg_10, cwg_11, cwg_12, cwg_13, cwa_2, cwl_2, cwo_17, cwr_17, cwg_14, cwa_3, cwl_3, cwp_0, cwp_1, cwp_2, cwp_3, cwp_4, cwp_5, cwp_6, cwp_7, cwp_8, cwp_9, cwp_10, cwp_11, cwp_12, cwp_13, cwp_14, cwu_0, cwu_R, cwu_1, cwu_2, cwu_3, vu_at, vu_ne, pk_us, pk_un, h.x.f0, h.x.f1, h.x.f2, h.x.f3, h.x.f4, h.x.f5, h.x.f6, h.x.f7, h.x.o, h.hi.o, h.hi.gd, h.hi.gf, h.hi.gl, Hi_keys h.hi h.d8, Hi_hasKey h.hi h.d8, Rw_empty, Rw_add, List.nil_append, List.cons_append, upd_upd, cwo_1, cwo_3, cwo_5, cwo_7, cwo_17, Bool.false_eq_true, n01, h1]
      · have h2 : ¬ y ≤ nI 60 := by
          rcases hy with hy | hy
          · exact absurd (Int32.lt_trans hy (by decide)) h1
          · exact Int32.not_le.mpr hy
        rw [q128]
        simp (disch := first | omega | exact tl_l | exact tT_len | (simp only [List.length_cons, List.length_nil])) only [e128_0, e128_1, e128_2, e128_5, e128_6, e128_8, e128_11, e128_12, e128_13, e128_14, e128_17, e128_18, e128_21, e128_24, e128_27, e128_28, e128_29, e128_30, e128_34, e128_35, e128_38, e128_39, e128_42, e128_43, e128_44, e128_45, e128_48, e128_51, e128_54, e128_56, e128_57, e128_60, e128_61, e128_62, e128_64, e128_65, e128_66, e128_69, e128_72, e128_73, e128_76, e128_77, e128_78, e128_81, e128_84, e128_85, e128_86, e128_88, e128_89, e128_92, e128_94, e128_97, e128_100, e128_101, e128_104, e128_107, e128_110, e128_112, e128_115, e128_116, e128_119, e128_121, e128_123, e128_126, e128_129, e128_132, e128_133, e128_136, e128_139, e128_140, e128_143, e128_144, e128_147, e128_148, e128_151, e128_152, e128_155, e128_156, e128_159, e128_160, e128_163, e128_166, e128_167, e128_168, e128_169, e128_172, e128_175, e128_176, e128_179, e128_180, e128_183, e128_184, e128_187, e128_190, e128_193, kv_s, kh_s, kr_s, kr_v, kn_s, z0, z1, z2, nI_ltI, nI_leI, nI_eq, nI_add, oN, bz0, bz1, bw0, bw1, ltT, ltF, leT, leF, eqT, eqF, if_true, if_false, kI_n, wI_n, and_true, true_and, and_false, false_and, not_true, not_false_eq_true, cwo_1, cwr_1, cwg_0, cwg_1, cwg_2, cwa_0, cwl_0, cwo_3, cwr_3, cwg_3, cwa_R, cwl_R, cwo_5, cwr_5, cwg_4, cwg_5, cwg_6, cwg_7, cwg_8, cwa_1, cwl_1, cwo_7, cwr_7, cwg_9, cwg_10, cwg_11, cwg_12, cwg_13, cwa_2, cwl_2, cwo_17, cwr_17, cwg_14, cwa_3, cwl_3, cwp_0, cwp_1, cwp_2, cwp_3, cwp_4, cwp_5, cwp_6, cwp_7, cwp_8, cwp_9, cwp_10, cwp_11, cwp_12, cwp_13, cwp_14, cwu_0, cwu_R, cwu_1, cwu_2, cwu_3, vu_at, vu_ne, pk_us, pk_un, h.x.f0, h.x.f1, h.x.f2, h.x.f3, h.x.f4, h.x.f5, h.x.f6, h.x.f7, h.x.o, h.hi.o, h.hi.gd, h.hi.gf, h.hi.gl, Hi_keys h.hi h.d8, Hi_hasKey h.hi h.d8, Rw_empty, Rw_add, List.nil_append, List.cons_append, upd_upd, cwo_1, cwo_3, cwo_5, cwo_7, cwo_17, Bool.false_eq_true, n01, h1, z60, h2]
    · intro τ
      have hy' : y < nI 1 ∨ nI 60 < y := by
        rcases hy with hy | hy
        · exact Or.inl (Int32.lt_trans hy (by decide))
        · exact Or.inr hy
      refine ⟨A2, upd I2 6 (nI 0), ?_, stay.rf, pk_un (by omega), pk_un (by omega)⟩
      rw [q245]
      simp (disch := first | omega | exact tl_l | exact tT_len | (simp only [List.length_cons, List.length_nil])) only [e245_0, e245_1, e245_2, e245_5, e245_6, e245_7, e245_9, e245_12, e245_15, e245_16, e245_17, e245_18, e245_19, e245_22, e245_23, e245_25, e245_28, e245_31, e245_32, e245_35, e245_36, e245_37, e245_40, e245_41, e245_42, e245_43, e245_46, e245_49, e245_50, e245_51, e245_52, e245_56, e245_57, e245_60, e245_61, e245_62, e245_65, e245_68, e245_70, e245_71, e245_72, e245_75, e245_78, e245_79, e245_82, e245_83, e245_86, e245_89, e245_90, e245_91, e245_93, e245_94, e245_95, e245_97, e245_99, e245_102, e245_105, e245_106, e245_109, e245_110, e245_111, e245_112, e245_115, e245_118, e245_119, e245_120, e245_123, e245_126, e245_128, e245_129, e245_130, e245_133, e245_136, e245_138, e245_139, e245_140, e245_143, e245_144, e245_145, e245_148, e245_149, e245_150, e245_151, e245_154, e245_155, e245_156, e245_159, e245_160, e245_163, e245_165, e245_166, e245_169, e245_170, e245_174, e245_177, e245_180, e245_181, e245_184, e245_186, e245_187, e245_190, e245_192, e245_193, e245_194, e245_197, e245_200, e245_202, kv_s, kh_s, kr_s, kr_v, kn_s, z0, z1, z2, nI_ltI, nI_leI, nI_eq, nI_add, oN, bz0, bz1, bw0, bw1, ltT, ltF, leT, leF, eqT, eqF, if_true, if_false, kI_n, wI_n, and_true, true_and, and_false, false_and, not_true, not_false_eq_true, mwo, mwr_0, mwr_1, mwr_2, mwg_3, mwp_3, mwr_4, mwg_5, mwp_5, mwg_6, mwp_6, mwr_7, mwr_8, mwg_9, mwp_9, mwg_10, mwp_10, mwg_11, mwp_11, mwr_12, mwg_13, mwp_13, mwr_14, mwr_15, mwr_16, mwr_17, mwr_18, mwr_19, mwg_20, mwp_20, mwr_21, mwr_22, mwr_23, mwa_1, mwu_1, mwa_2, mwu_2, mwa_3, mwu_3, mwa_4, mwu_4, mwa_5, mwu_5, mwa_6, mwu_6, mwa_7, mwu_7, mwa_8, mwu_8, mwa_9, mwu_9, mwa_10, mwu_10, mwa_11, mwu_11, mwa_12, mwu_12, mwa_13, mwu_13, mwa_14, mwu_14, mwa_15, mwu_15, mwa_16, mwu_16, vu_at, vu_ne, pk_us, pk_un, kB_n, wB_n, kL_n, wL_n, z60, M_in0 hy']
