/-! calls: day: the class -/
/-- an act as it is told -/
abbrev Ac : Type := Nat × Nat × Nat
def fx1 (n : Nat) (B : Nat → Nat) (m p : Nat) : Nat ⊕ Nat := match (fx n B m p 0).2.2 with
  | some q => .inl q
  | none => .inr (fx n B m p 0).1
def isA (s : Nat) : Prop := s = 112 ∨ s = 109 ∨ s = 115 ∨ s = 99
def ax2 (n : Nat) (B : Nat → Nat) (p : Nat) : Nat ⊕ (Ac × Nat) := match fx1 n B 3 (p + 1) with
  | .inl q => .inl q
  | .inr a => match fx1 n B 3 (p + 4) with
    | .inl q => .inl q
    | .inr b => .inr ((B p, a, b), p + 7)
def ax1 (n : Nat) (B : Nat → Nat) (p : Nat) : Nat ⊕ (Ac × Nat) := match fx1 n B 2 (p + 1) with
  | .inl q => .inl q
  | .inr a => .inr ((98, a, 0), p + 3)
def ax (n : Nat) (B : Nat → Nat) (p : Nat) : Nat ⊕ (Ac × Nat) := if B p = 98 then ax1 n B p else if B p = 112 ∨ B p = 109 ∨ B p = 115 ∨ B p = 99 then ax2 n B p else .inl p
/-- a day's acts -/
def dy (n : Nat) (B : Nat → Nat) : Nat → Nat → Nat ⊕ List Ac
  | 0, p => .inl p
  | m + 1, p => if p = n then .inr [] else match ax n B p with
    | .inl q => .inl q
    | .inr r => match dy n B m r.2 with
      | .inl q => .inl q
      | .inr L => .inr (r.1 :: L)
/-- what an act makes -/
def acF (z : Hs) (a : Ac) : Int32 × Hs := if a.1 = 98 then bckF z a.2.1 else if a.1 = 112 then putF z a.2.1 a.2.2 else if a.1 = 109 then movF z a.2.1 a.2.2 else if a.1 = 115 then swpF z a.2.1 a.2.2 else clrF z a.2.1 a.2.2
/-- acts done one after another: was one refused, how many were done, what they made -/
def rn : List Ac → Hs → Nat → Bool × Nat × Hs
  | [], z, k => (false, k, z)
  | a :: L, z, k => if nI 0 ≤ (acF z a).1 then rn L (acF z a).2 (k + 1) else (true, k, (acF z a).2)
theorem acF_ok {z : Hs} {a : Ac} (h : okH z) (hf : z.2.1 ≤ z.2.2.1) (h12 : z.2.2.1 < z.2.1 + 12) : okH (acF z a).2 ∧ z.2.2.1 ≤ (acF z a).2.2.2.1 ∧ (acF z a).2.2.2.1 ≤ z.2.2.1 + 1 := by
  unfold acF
  split
  · exact bckF_ok h hf h12
  · split
    · exact putF_ok h hf h12
    · split
      · exact movF_ok h hf h12
      · split
        · exact swpF_ok h hf h12
        · exact clrF_ok h hf h12
section AX
variable {n : Nat} {B : Nat → Nat} {p : Nat}
theorem fx1_bd {m : Nat} (hp : p ≤ n) : (∀ q, fx1 n B m p = .inl q → q ≤ n) ∧ ∀ a, fx1 n B m p = .inr a → a < 10 ^ m ∧ p + m ≤ n := by
  obtain ⟨g1, g2, g3, g4, g5⟩ := fx_bd (n := n) (B := B) m p 0 hp
  unfold fx1
  cases h : (fx n B m p 0).2.2 with
  | some q => exact ⟨fun q' z => by cases z; exact g3 q h, fun a z => (by cases z)⟩
  | none => exact ⟨fun q' z => (by cases z), fun a z => by cases z; exact ⟨by omega, by have := g4 h; omega⟩⟩
theorem ax_bd (hp : p < n) : (∀ q, ax n B p = .inl q → q ≤ n) ∧ ∀ r, ax n B p = .inr r → p + 3 ≤ r.2 ∧ r.2 ≤ n ∧ r.1.2.1 < 1000 ∧ r.1.2.2 < 1000 ∧ (r.1.1 = 98 ∨ isA r.1.1) := by
  unfold ax
  by_cases h1 : B p = 98
  · rw [if_pos h1]
    obtain ⟨a1, a2⟩ := fx1_bd (n := n) (B := B) (m := 2) (show p + 1 ≤ n by omega)
    unfold ax1
    cases h : fx1 n B 2 (p + 1) with
    | inl q => exact ⟨fun q' z => by cases z; exact a1 q h, fun r z => (by cases z)⟩
    | inr a =>
      have := a2 a h
      refine ⟨fun q' z => (by cases z), fun r z => ?_⟩
      cases z
      exact ⟨Nat.le_refl _, by show p + 3 ≤ n; omega, by show a < 1000; omega, by show 0 < 1000; omega, Or.inl rfl⟩
  · rw [if_neg h1]
    by_cases h2 : B p = 112 ∨ B p = 109 ∨ B p = 115 ∨ B p = 99
    · rw [if_pos h2]
      obtain ⟨a1, a2⟩ := fx1_bd (n := n) (B := B) (m := 3) (show p + 1 ≤ n by omega)
      unfold ax2
      cases h : fx1 n B 3 (p + 1) with
      | inl q => exact ⟨fun q' z => by cases z; exact a1 q h, fun r z => (by cases z)⟩
      | inr a =>
        have a3 := a2 a h
        obtain ⟨b1, b2⟩ := fx1_bd (n := n) (B := B) (m := 3) (show p + 4 ≤ n by omega)
        cases h' : fx1 n B 3 (p + 4) with
        | inl q => simp only [h']; exact ⟨fun q' z => by cases z; exact b1 q h', fun r z => (by cases z)⟩
        | inr b =>
          have b3 := b2 b h'
          simp only [h']
          refine ⟨fun q' z => (by cases z), fun r z => ?_⟩
          cases z
          exact ⟨by show p + 3 ≤ p + 7; omega, by show p + 7 ≤ n; omega, by show a < 1000; omega, by show b < 1000; omega, Or.inr h2⟩
    · rw [if_neg h2]
      exact ⟨fun q' z => by cases z; omega, fun r z => (by cases z)⟩
theorem dy_bd : ∀ (m p : Nat), p ≤ n → (∀ q, dy n B m p = .inl q → q ≤ n) ∧ ∀ L, dy n B m p = .inr L → 3 * L.length + p ≤ n := by
  intro m
  induction m with
  | zero => intro p hp; exact ⟨fun q z => by cases z; exact hp, fun L z => (by cases z)⟩
  | succ m ih =>
    intro p hp
    rw [dy]
    by_cases h1 : p = n
    · rw [if_pos h1]
      exact ⟨fun q z => (by cases z), fun L z => by cases z; show 3 * 0 + p ≤ n; omega⟩
    · rw [if_neg h1]
      obtain ⟨a1, a2⟩ := ax_bd (n := n) (B := B) (p := p) (by omega)
      cases h : ax n B p with
      | inl q => exact ⟨fun q' z => by cases z; exact a1 q h, fun L z => (by cases z)⟩
      | inr r =>
        obtain ⟨b1, b2, _⟩ := a2 r h
        obtain ⟨c1, c2⟩ := ih r.2 b2
        cases h' : dy n B m r.2 with
        | inl q => simp only [h']; exact ⟨fun q' z => by cases z; exact c1 q h', fun L z => (by cases z)⟩
        | inr L =>
          simp only [h']
          refine ⟨fun q' z => (by cases z), fun L' z => ?_⟩
          cases z
          have := c2 L h'
          have hl : (r.1 :: L).length = L.length + 1 := rfl
          omega
end AX
section DYC
variable {c : Nat} {σ : Hp} {d f l : Nat} {V : Nat → Nat → Int32} {T : Nat → Option Nat} {A : Nat → Nat → Int32} {R : Nat → Int64} {I : Nat → Int32} {n : Nat} {B : Nat → Nat} {p q : Nat} {z : Hs} {K : Nat → Option Hs}
theorem Tx_fx1 {m : Nat} (hB : isB A I n B) (hp : p ≤ n) (hm : m ≤ 3) : (∀ q, fx1 n B m p = .inl q → ∃ v p', p' ≤ n ∧ dcall 125 [.ref (c + 1), .int (nI m)] (cw σ c A R (ti I p none)) = some (some (.int (nI v)), cw σ c A R (ti I p' (some q)))) ∧ ∀ a, fx1 n B m p = .inr a → dcall 125 [.ref (c + 1), .int (nI m)] (cw σ c A R (ti I p none)) = some (some (.int (nI a)), cw σ c A R (ti I (p + m) none)) := by
  obtain ⟨g1, g2, g3, g4, g5⟩ := fx_bd (n := n) (B := B) m p 0 hp
  have h1 := Tx_fixed (σ := σ) (c := c) (R := R) hB hp hm
  unfold fx1
  cases h : (fx n B m p 0).2.2 with
  | some q =>
    rw [h] at h1
    exact ⟨fun q' z => by cases z; exact ⟨_, _, g2, h1⟩, fun a z => (by cases z)⟩
  | none =>
    rw [h, g4 h] at h1
    exact ⟨fun q' z => (by cases z), fun a z => by cases z; exact h1⟩
theorem C_cd_out (h : RB c σ T d f l V) (hB : isB A I n B) (hp : p ≤ n) (hq : q ≤ n) {i : Nat} (hi : i ≤ 80) {x : Value} : den 124 9 [.ref c, .int (nI i), x] [] (cw σ c A R (ti I p (some q))) = some (some (.int (nI q)), cw σ c A R (ti I p (some q))) := by
  have hn := hB.1
  have hm := Tx_more (σ := σ) (c := c) (R := R) (e := some q) hB hp (fun r z => by cases z; omega)
  rw [if_neg (fun z => by cases z.1)] at hm
  by_cases h80 : i < 80
  · rw [e124_9]
    simp (disch := first | omega | exact tl_l | exact tT_len | (simp only [List.length_cons, List.length_nil])) only [e124_0, e124_1, e124_4, e124_7, e124_8, e124_10, e124_12, e124_15, e124_16, e124_19, e124_22, e124_25, e124_26, e124_29, e124_32, e124_33, e124_34, e124_36, e124_39, e124_40, e124_43, e124_44, e124_47, e124_48, e124_49, e124_52, e124_53, e124_56, e124_57, e124_60, e124_61, e124_64, e124_65, e124_67, e124_70, e124_71, e124_73, e124_76, e124_77, e124_79, e124_82, e124_83, e124_85, e124_88, e124_89, e124_92, e124_93, e124_96, e124_97, e124_98, e124_101, e124_102, e124_105, e124_106, e124_109, e124_110, e124_111, e124_114, e124_115, e124_118, e124_119, e124_122, e124_123, e124_126, e124_127, e124_130, e124_133, e124_136, e124_139, e124_142, e124_143, e124_146, e124_149, kv_s, kh_s, kr_s, kr_v, kn_s, z0, z1, z2, nI_ltI, nI_leI, nI_eq, nI_add, oN, bz0, bz1, bw0, bw1, ltT, ltF, leT, leF, eqT, eqF, if_true, if_false, kI_n, wI_n, and_true, true_and, and_false, false_and, not_true, not_false_eq_true, cwo_1, cwr_1, cwg_0, cwg_1, cwg_2, cwa_0, cwl_0, cwo_3, cwr_3, cwg_3, cwa_R, cwl_R, cwo_5, cwr_5, cwg_4, cwg_5, cwg_6, cwg_7, cwg_8, cwa_1, cwl_1, cwo_7, cwr_7, cwg_9, cwg_10, cwg_11, cwg_12, cwg_13, cwa_2, cwl_2, cwo_17, cwr_17, cwg_14, cwa_3, cwl_3, cwp_0, cwp_1, cwp_2, cwp_3, cwp_4, cwp_5, cwp_6, cwp_7, cwp_8, cwp_9, cwp_10, cwp_11, cwp_12, cwp_13, cwp_14, cwu_0, cwu_R, cwu_1, cwu_2, cwu_3, vu_at, vu_ne, pk_us, pk_un, h.x.f0, h.x.f1, h.x.f2, h.x.f3, h.x.f4, h.x.f5, h.x.f6, h.x.f7, h.x.o, h.hi.o, h.hi.gd, h.hi.gf, h.hi.gl, Hi_keys h.hi h.d8, Hi_hasKey h.hi h.d8, Rw_empty, Rw_add, List.nil_append, List.cons_append, upd_upd, cwo_1, cwo_3, cwo_5, cwo_7, cwo_17, Bool.false_eq_true, n01, z80, hm, ti_2, fl]
  · have : i = 80 := by omega
    subst this
    rw [e124_9]
    simp (disch := first | omega | exact tl_l | exact tT_len | (simp only [List.length_cons, List.length_nil])) only [e124_0, e124_1, e124_4, e124_7, e124_8, e124_10, e124_12, e124_15, e124_16, e124_19, e124_22, e124_25, e124_26, e124_29, e124_32, e124_33, e124_34, e124_36, e124_39, e124_40, e124_43, e124_44, e124_47, e124_48, e124_49, e124_52, e124_53, e124_56, e124_57, e124_60, e124_61, e124_64, e124_65, e124_67, e124_70, e124_71, e124_73, e124_76, e124_77, e124_79, e124_82, e124_83, e124_85, e124_88, e124_89, e124_92, e124_93, e124_96, e124_97, e124_98, e124_101, e124_102, e124_105, e124_106, e124_109, e124_110, e124_111, e124_114, e124_115, e124_118, e124_119, e124_122, e124_123, e124_126, e124_127, e124_130, e124_133, e124_136, e124_139, e124_142, e124_143, e124_146, e124_149, kv_s, kh_s, kr_s, kr_v, kn_s, z0, z1, z2, nI_ltI, nI_leI, nI_eq, nI_add, oN, bz0, bz1, bw0, bw1, ltT, ltF, leT, leF, eqT, eqF, if_true, if_false, kI_n, wI_n, and_true, true_and, and_false, false_and, not_true, not_false_eq_true, cwo_1, cwr_1, cwg_0, cwg_1, cwg_2, cwa_0, cwl_0, cwo_3, cwr_3, cwg_3, cwa_R, cwl_R, cwo_5, cwr_5, cwg_4, cwg_5, cwg_6, cwg_7, cwg_8, cwa_1, cwl_1, cwo_7, cwr_7, cwg_9, cwg_10, cwg_11, cwg_12, cwg_13, cwa_2, cwl_2, cwo_17, cwr_17, cwg_14, cwa_3, cwl_3, cwp_0, cwp_1, cwp_2, cwp_3, cwp_4, cwp_5, cwp_6, cwp_7, cwp_8, cwp_9, cwp_10, cwp_11, cwp_12, cwp_13, cwp_14, cwu_0, cwu_R, cwu_1, cwu_2, cwu_3, vu_at, vu_ne, pk_us, pk_un, h.x.f0, h.x.f1, h.x.f2, h.x.f3, h.x.f4, h.x.f5, h.x.f6, h.x.f7, h.x.o, h.hi.o, h.hi.gd, h.hi.gf, h.hi.gl, Hi_keys h.hi h.d8, Hi_hasKey h.hi h.d8, Rw_empty, Rw_add, List.nil_append, List.cons_append, upd_upd, cwo_1, cwo_3, cwo_5, cwo_7, cwo_17, Bool.false_eq_true, n01, z80, ti_2, fl]
theorem cd88 (h : RB c σ T d f l V) (hB : isB A I n B) (hp : p < n) {i : Nat} (hi : i < 80) {x : Value} (h98 : ¬ B p = 98) (hs : B p = 112 ∨ B p = 109 ∨ B p = 115 ∨ B p = 99) : den 124 9 [.ref c, .int (nI i), x] [] (cw σ c A R (ti I p none)) = den 124 88 [.ref c, .int (nI i), .int (nI (B p))] [] (cw σ c A R (ti I p none)) := by
  have hn := hB.1
  have hm := Tx_more (σ := σ) (c := c) (R := R) (e := none) hB (show p ≤ n by omega) (fun r z => by cases z)
  rw [if_pos ⟨rfl, hp⟩] at hm
  have hpk := Tx_peek (σ := σ) (c := c) (R := R) (e := none) hB (show p ≤ n by omega)
  rw [if_pos hp] at hpk
  rcases hs with e | e | e | e <;> rw [e] at hpk ⊢
  · rw [e124_9]; simp (disch := first | omega | exact tl_l | exact tT_len | (simp only [List.length_cons, List.length_nil])) only [e124_10, e124_12, e124_15, e124_16, e124_19, e124_22, e124_25, e124_26, e124_29, e124_32, e124_33, e124_34, e124_36, e124_39, e124_40, e124_43, e124_44, e124_47, e124_48, e124_49, e124_52, e124_53, e124_56, e124_57, e124_60, e124_61, e124_64, e124_65, e124_67, e124_70, e124_71, e124_73, e124_76, e124_77, e124_79, e124_82, e124_83, e124_85, kv_s, kh_s, kr_s, kr_v, kn_s, z0, z1, z2, nI_ltI, nI_leI, nI_eq, nI_add, oN, bz0, bz1, bw0, bw1, ltT, ltF, leT, leF, eqT, eqF, if_true, if_false, kI_n, wI_n, and_true, true_and, and_false, false_and, not_true, not_false_eq_true, cwo_1, cwr_1, cwg_0, cwg_1, cwg_2, cwa_0, cwl_0, cwo_3, cwr_3, cwg_3, cwa_R, cwl_R, cwo_5, cwr_5, cwg_4, cwg_5, cwg_6, cwg_7, cwg_8, cwa_1, cwl_1, cwo_7, cwr_7, cwg_9, cwg_10, cwg_11, cwg_12, cwg_13, cwa_2, cwl_2, cwo_17, cwr_17, cwg_14, cwa_3, cwl_3, cwp_0, cwp_1, cwp_2, cwp_3, cwp_4, cwp_5, cwp_6, cwp_7, cwp_8, cwp_9, cwp_10, cwp_11, cwp_12, cwp_13, cwp_14, cwu_0, cwu_R, cwu_1, cwu_2, cwu_3, vu_at, vu_ne, pk_us, pk_un, h.x.f0, h.x.f1, h.x.f2, h.x.f3, h.x.f4, h.x.f5, h.x.f6, h.x.f7, h.x.o, h.hi.o, h.hi.gd, h.hi.gf, h.hi.gl, Hi_keys h.hi h.d8, Hi_hasKey h.hi h.d8, Rw_empty, Rw_add, List.nil_append, List.cons_append, upd_upd, cwo_1, cwo_3, cwo_5, cwo_7, cwo_17, Bool.false_eq_true, n01, z80, z98, z112, z109, z115, z99, hm, hpk]
  · rw [e124_9]; simp (disch := first | omega | exact tl_l | exact tT_len | (simp only [List.length_cons, List.length_nil])) only [e124_10, e124_12, e124_15, e124_16, e124_19, e124_22, e124_25, e124_26, e124_29, e124_32, e124_33, e124_34, e124_36, e124_39, e124_40, e124_43, e124_44, e124_47, e124_48, e124_49, e124_52, e124_53, e124_56, e124_57, e124_60, e124_61, e124_64, e124_65, e124_67, e124_70, e124_71, e124_73, e124_76, e124_77, e124_79, e124_82, e124_83, e124_85, kv_s, kh_s, kr_s, kr_v, kn_s, z0, z1, z2, nI_ltI, nI_leI, nI_eq, nI_add, oN, bz0, bz1, bw0, bw1, ltT, ltF, leT, leF, eqT, eqF, if_true, if_false, kI_n, wI_n, and_true, true_and, and_false, false_and, not_true, not_false_eq_true, cwo_1, cwr_1, cwg_0, cwg_1, cwg_2, cwa_0, cwl_0, cwo_3, cwr_3, cwg_3, cwa_R, cwl_R, cwo_5, cwr_5, cwg_4, cwg_5, cwg_6, cwg_7, cwg_8, cwa_1, cwl_1, cwo_7, cwr_7, cwg_9, cwg_10, cwg_11, cwg_12, cwg_13, cwa_2, cwl_2, cwo_17, cwr_17, cwg_14, cwa_3, cwl_3, cwp_0, cwp_1, cwp_2, cwp_3, cwp_4, cwp_5, cwp_6, cwp_7, cwp_8, cwp_9, cwp_10, cwp_11, cwp_12, cwp_13, cwp_14, cwu_0, cwu_R, cwu_1, cwu_2, cwu_3, vu_at, vu_ne, pk_us, pk_un, h.x.f0, h.x.f1, h.x.f2, h.x.f3, h.x.f4, h.x.f5, h.x.f6, h.x.f7, h.x.o, h.hi.o, h.hi.gd, h.hi.gf, h.hi.gl, Hi_keys h.hi h.d8, Hi_hasKey h.hi h.d8, Rw_empty, Rw_add, List.nil_append, List.cons_append, upd_upd, cwo_1, cwo_3, cwo_5, cwo_7, cwo_17, Bool.false_eq_true, n01, z80, z98, z112, z109, z115, z99, hm, hpk]
  · rw [e124_9]; simp (disch := first | omega | exact tl_l | exact tT_len | (simp only [List.length_cons, List.length_nil])) only [e124_10, e124_12, e124_15, e124_16, e124_19, e124_22, e124_25, e124_26, e124_29, e124_32, e124_33, e124_34, e124_36, e124_39, e124_40, e124_43, e124_44, e124_47, e124_48, e124_49, e124_52, e124_53, e124_56, e124_57, e124_60, e124_61, e124_64, e124_65, e124_67, e124_70, e124_71, e124_73, e124_76, e124_77, e124_79, e124_82, e124_83, e124_85, kv_s, kh_s, kr_s, kr_v, kn_s, z0, z1, z2, nI_ltI, nI_leI, nI_eq, nI_add, oN, bz0, bz1, bw0, bw1, ltT, ltF, leT, leF, eqT, eqF, if_true, if_false, kI_n, wI_n, and_true, true_and, and_false, false_and, not_true, not_false_eq_true, cwo_1, cwr_1, cwg_0, cwg_1, cwg_2, cwa_0, cwl_0, cwo_3, cwr_3, cwg_3, cwa_R, cwl_R, cwo_5, cwr_5, cwg_4, cwg_5, cwg_6, cwg_7, cwg_8, cwa_1, cwl_1, cwo_7, cwr_7, cwg_9, cwg_10, cwg_11, cwg_12, cwg_13, cwa_2, cwl_2, cwo_17, cwr_17, cwg_14, cwa_3, cwl_3, cwp_0, cwp_1, cwp_2, cwp_3, cwp_4, cwp_5, cwp_6, cwp_7, cwp_8, cwp_9, cwp_10, cwp_11, cwp_12, cwp_13, cwp_14, cwu_0, cwu_R, cwu_1, cwu_2, cwu_3, vu_at, vu_ne, pk_us, pk_un, h.x.f0, h.x.f1, h.x.f2, h.x.f3, h.x.f4, h.x.f5, h.x.f6, h.x.f7, h.x.o, h.hi.o, h.hi.gd, h.hi.gf, h.hi.gl, Hi_keys h.hi h.d8, Hi_hasKey h.hi h.d8, Rw_empty, Rw_add, List.nil_append, List.cons_append, upd_upd, cwo_1, cwo_3, cwo_5, cwo_7, cwo_17, Bool.false_eq_true, n01, z80, z98, z112, z109, z115, z99, hm, hpk]
  · rw [e124_9]; simp (disch := first | omega | exact tl_l | exact tT_len | (simp only [List.length_cons, List.length_nil])) only [e124_10, e124_12, e124_15, e124_16, e124_19, e124_22, e124_25, e124_26, e124_29, e124_32, e124_33, e124_34, e124_36, e124_39, e124_40, e124_43, e124_44, e124_47, e124_48, e124_49, e124_52, e124_53, e124_56, e124_57, e124_60, e124_61, e124_64, e124_65, e124_67, e124_70, e124_71, e124_73, e124_76, e124_77, e124_79, e124_82, e124_83, e124_85, kv_s, kh_s, kr_s, kr_v, kn_s, z0, z1, z2, nI_ltI, nI_leI, nI_eq, nI_add, oN, bz0, bz1, bw0, bw1, ltT, ltF, leT, leF, eqT, eqF, if_true, if_false, kI_n, wI_n, and_true, true_and, and_false, false_and, not_true, not_false_eq_true, cwo_1, cwr_1, cwg_0, cwg_1, cwg_2, cwa_0, cwl_0, cwo_3, cwr_3, cwg_3, cwa_R, cwl_R, cwo_5, cwr_5, cwg_4, cwg_5, cwg_6, cwg_7, cwg_8, cwa_1, cwl_1, cwo_7, cwr_7, cwg_9, cwg_10, cwg_11, cwg_12, cwg_13, cwa_2, cwl_2, cwo_17, cwr_17, cwg_14, cwa_3, cwl_3, cwp_0, cwp_1, cwp_2, cwp_3, cwp_4, cwp_5, cwp_6, cwp_7, cwp_8, cwp_9, cwp_10, cwp_11, cwp_12, cwp_13, cwp_14, cwu_0, cwu_R, cwu_1, cwu_2, cwu_3, vu_at, vu_ne, pk_us, pk_un, h.x.f0, h.x.f1, h.x.f2, h.x.f3, h.x.f4, h.x.f5, h.x.f6, h.x.f7, h.x.o, h.hi.o, h.hi.gd, h.hi.gf, h.hi.gl, Hi_keys h.hi h.d8, Hi_hasKey h.hi h.d8, Rw_empty, Rw_add, List.nil_append, List.cons_append, upd_upd, cwo_1, cwo_3, cwo_5, cwo_7, cwo_17, Bool.false_eq_true, n01, z80, z98, z112, z109, z115, z99, hm, hpk]
theorem C_cd_loop (h : RB c σ T d f l V) (hB : isB A I n B) : ∀ (k p i : Nat) (x : Value), p ≤ n → i ≤ p → n < p + k → (∀ q, dy n B k p = .inl q → ∃ p', den 124 9 [.ref c, .int (nI i), x] [] (cw σ c A R (ti I p none)) = some (some (.int (nI q)), cw σ c A R (ti I p' (some q)))) ∧ ∀ L, dy n B k p = .inr L → den 124 9 [.ref c, .int (nI i), x] [] (cw σ c A R (ti I p none)) = some (some (.int (-nI 1)), cw σ c A R (ti I n none)) := by
  have hn := hB.1
  intro k
  induction k with
  | zero => intro p i x hp hi hk; omega
  | succ k ih =>
    intro p i x hp hi hk
    have hm := Tx_more (σ := σ) (c := c) (R := R) (e := none) hB hp (fun r z => by cases z)
    rw [dy]
    by_cases h1 : p = n
    · rw [if_pos h1]
      rw [if_neg (fun z => by omega)] at hm
      refine ⟨fun q z => (by cases z), fun L' z => ?_⟩
      rw [← h1]
      by_cases h80 : i < 80
      · rw [e124_9]
        simp (disch := first | omega | exact tl_l | exact tT_len | (simp only [List.length_cons, List.length_nil])) only [e124_0, e124_1, e124_4, e124_7, e124_8, e124_10, e124_12, e124_15, e124_16, e124_19, e124_22, e124_25, e124_26, e124_29, e124_32, e124_33, e124_34, e124_36, e124_39, e124_40, e124_43, e124_44, e124_47, e124_48, e124_49, e124_52, e124_53, e124_56, e124_57, e124_60, e124_61, e124_64, e124_65, e124_67, e124_70, e124_71, e124_73, e124_76, e124_77, e124_79, e124_82, e124_83, e124_85, e124_88, e124_89, e124_92, e124_93, e124_96, e124_97, e124_98, e124_101, e124_102, e124_105, e124_106, e124_109, e124_110, e124_111, e124_114, e124_115, e124_118, e124_119, e124_122, e124_123, e124_126, e124_127, e124_130, e124_133, e124_136, e124_139, e124_142, e124_143, e124_146, e124_149, kv_s, kh_s, kr_s, kr_v, kn_s, z0, z1, z2, nI_ltI, nI_leI, nI_eq, nI_add, oN, bz0, bz1, bw0, bw1, ltT, ltF, leT, leF, eqT, eqF, if_true, if_false, kI_n, wI_n, and_true, true_and, and_false, false_and, not_true, not_false_eq_true, cwo_1, cwr_1, cwg_0, cwg_1, cwg_2, cwa_0, cwl_0, cwo_3, cwr_3, cwg_3, cwa_R, cwl_R, cwo_5, cwr_5, cwg_4, cwg_5, cwg_6, cwg_7, cwg_8, cwa_1, cwl_1, cwo_7, cwr_7, cwg_9, cwg_10, cwg_11, cwg_12, cwg_13, cwa_2, cwl_2, cwo_17, cwr_17, cwg_14, cwa_3, cwl_3, cwp_0, cwp_1, cwp_2, cwp_3, cwp_4, cwp_5, cwp_6, cwp_7, cwp_8, cwp_9, cwp_10, cwp_11, cwp_12, cwp_13, cwp_14, cwu_0, cwu_R, cwu_1, cwu_2, cwu_3, vu_at, vu_ne, pk_us, pk_un, h.x.f0, h.x.f1, h.x.f2, h.x.f3, h.x.f4, h.x.f5, h.x.f6, h.x.f7, h.x.o, h.hi.o, h.hi.gd, h.hi.gf, h.hi.gl, Hi_keys h.hi h.d8, Hi_hasKey h.hi h.d8, Rw_empty, Rw_add, List.nil_append, List.cons_append, upd_upd, cwo_1, cwo_3, cwo_5, cwo_7, cwo_17, Bool.false_eq_true, n01, z80, hm, ti_2, fl]
      · have : i = 80 := by omega
        subst this
        rw [e124_9]
        simp (disch := first | omega | exact tl_l | exact tT_len | (simp only [List.length_cons, List.length_nil])) only [e124_0, e124_1, e124_4, e124_7, e124_8, e124_10, e124_12, e124_15, e124_16, e124_19, e124_22, e124_25, e124_26, e124_29, e124_32, e124_33, e124_34, e124_36, e124_39, e124_40, e124_43, e124_44, e124_47, e124_48, e124_49, e124_52, e124_53, e124_56, e124_57, e124_60, e124_61, e124_64, e124_65, e124_67, e124_70, e124_71, e124_73, e124_76, e124_77, e124_79, e124_82, e124_83, e124_85, e124_88, e124_89, e124_92, e124_93, e124_96, e124_97, e124_98, e124_101, e124_102, e124_105, e124_106, e124_109, e124_110, e124_111, e124_114, e124_115, e124_118, e124_119, e124_122, e124_123, e124_126, e124_127, e124_130, e124_133, e124_136, e124_139, e124_142, e124_143, e124_146, e124_149, kv_s, kh_s, kr_s, kr_v, kn_s, z0, z1, z2, nI_ltI, nI_leI, nI_eq, nI_add, oN, bz0, bz1, bw0, bw1, ltT, ltF, leT, leF, eqT, eqF, if_true, if_false, kI_n, wI_n, and_true, true_and, and_false, false_and, not_true, not_false_eq_true, cwo_1, cwr_1, cwg_0, cwg_1, cwg_2, cwa_0, cwl_0, cwo_3, cwr_3, cwg_3, cwa_R, cwl_R, cwo_5, cwr_5, cwg_4, cwg_5, cwg_6, cwg_7, cwg_8, cwa_1, cwl_1, cwo_7, cwr_7, cwg_9, cwg_10, cwg_11, cwg_12, cwg_13, cwa_2, cwl_2, cwo_17, cwr_17, cwg_14, cwa_3, cwl_3, cwp_0, cwp_1, cwp_2, cwp_3, cwp_4, cwp_5, cwp_6, cwp_7, cwp_8, cwp_9, cwp_10, cwp_11, cwp_12, cwp_13, cwp_14, cwu_0, cwu_R, cwu_1, cwu_2, cwu_3, vu_at, vu_ne, pk_us, pk_un, h.x.f0, h.x.f1, h.x.f2, h.x.f3, h.x.f4, h.x.f5, h.x.f6, h.x.f7, h.x.o, h.hi.o, h.hi.gd, h.hi.gf, h.hi.gl, Hi_keys h.hi h.d8, Hi_hasKey h.hi h.d8, Rw_empty, Rw_add, List.nil_append, List.cons_append, upd_upd, cwo_1, cwo_3, cwo_5, cwo_7, cwo_17, Bool.false_eq_true, n01, z80, ti_2, fl]
    · rw [if_neg h1]
      have hlt : p < n := by omega
      have h80 : i < 80 := by omega
      rw [if_pos ⟨rfl, hlt⟩] at hm
      obtain ⟨b1, b2⟩ := hB.2.2 p hlt
      have hpk := Tx_peek (σ := σ) (c := c) (R := R) (e := none) hB hp
      rw [if_pos hlt] at hpk
      have fin : ∀ r x, ax n B p = .inr r → den 124 9 [.ref c, .int (nI i), x] [] (cw σ c A R (ti I p none)) = den 124 9 [.ref c, .int (nI (i + 1)), .int (nI (B p))] [] (cw σ c A R (ti I r.2 none)) → (∀ q, (match dy n B k r.2 with | .inl q => .inl q | .inr L => .inr (r.1 :: L) : Nat ⊕ List Ac) = .inl q → ∃ p', den 124 9 [.ref c, .int (nI i), x] [] (cw σ c A R (ti I p none)) = some (some (.int (nI q)), cw σ c A R (ti I p' (some q)))) ∧ ∀ L, (match dy n B k r.2 with | .inl q => .inl q | .inr L => .inr (r.1 :: L) : Nat ⊕ List Ac) = .inr L → den 124 9 [.ref c, .int (nI i), x] [] (cw σ c A R (ti I p none)) = some (some (.int (-nI 1)), cw σ c A R (ti I n none)) := fun r x hr e => by
        obtain ⟨c1, c2, _⟩ := (ax_bd (n := n) (B := B) hlt).2 r hr
        obtain ⟨i1, i2⟩ := ih r.2 (i + 1) (.int (nI (B p))) c2 (by omega) (by omega)
        rw [e]
        cases hk : dy n B k r.2 with
        | inl q0 => exact ⟨fun q z => by cases z; exact i1 q0 hk, fun L z => (by cases z)⟩
        | inr L0 => exact ⟨fun q z => (by cases z), fun L z => by cases z; exact i2 L0 hk⟩
      by_cases h98 : B p = 98
      · rw [h98] at hpk
        have hax : ax n B p = ax1 n B p := if_pos h98
        rw [hax]
        obtain ⟨f1, f2⟩ := Tx_fx1 (σ := σ) (c := c) (R := R) (m := 2) hB (show p + 1 ≤ n by omega) (by omega)
        obtain ⟨g1, g2⟩ := fx1_bd (n := n) (B := B) (m := 2) (show p + 1 ≤ n by omega)
        unfold ax1
        cases hf : fx1 n B 2 (p + 1) with
        | inl q0 =>
          obtain ⟨v, p', v1, v2⟩ := f1 q0 hf
          have hq := g1 q0 hf
          refine ⟨fun q z => ?_, fun L z => (by cases z)⟩
          cases z
          refine ⟨p', ?_⟩
          rw [← C_cd_out (R := R) h hB v1 hq (i := i + 1) (by omega) (x := .int (nI 98))]
          rw [e124_9]
          simp (disch := first | omega | exact tl_l | exact tT_len | (simp only [List.length_cons, List.length_nil])) only [e124_0, e124_1, e124_4, e124_7, e124_8, e124_10, e124_12, e124_15, e124_16, e124_19, e124_22, e124_25, e124_26, e124_29, e124_32, e124_33, e124_34, e124_36, e124_39, e124_40, e124_43, e124_44, e124_47, e124_48, e124_49, e124_52, e124_53, e124_56, e124_57, e124_60, e124_61, e124_64, e124_65, e124_67, e124_70, e124_71, e124_73, e124_76, e124_77, e124_79, e124_82, e124_83, e124_85, e124_88, e124_89, e124_92, e124_93, e124_96, e124_97, e124_98, e124_101, e124_102, e124_105, e124_106, e124_109, e124_110, e124_111, e124_114, e124_115, e124_118, e124_119, e124_122, e124_123, e124_126, e124_127, e124_130, e124_133, e124_136, e124_139, e124_142, e124_143, e124_146, e124_149, kv_s, kh_s, kr_s, kr_v, kn_s, z0, z1, z2, nI_ltI, nI_leI, nI_eq, nI_add, oN, bz0, bz1, bw0, bw1, ltT, ltF, leT, leF, eqT, eqF, if_true, if_false, kI_n, wI_n, and_true, true_and, and_false, false_and, not_true, not_false_eq_true, cwo_1, cwr_1, cwg_0, cwg_1, cwg_2, cwa_0, cwl_0, cwo_3, cwr_3, cwg_3, cwa_R, cwl_R, cwo_5, cwr_5, cwg_4, cwg_5, cwg_6, cwg_7, cwg_8, cwa_1, cwl_1, cwo_7, cwr_7, cwg_9, cwg_10, cwg_11, cwg_12, cwg_13, cwa_2, cwl_2, cwo_17, cwr_17, cwg_14, cwa_3, cwl_3, cwp_0, cwp_1, cwp_2, cwp_3, cwp_4, cwp_5, cwp_6, cwp_7, cwp_8, cwp_9, cwp_10, cwp_11, cwp_12, cwp_13, cwp_14, cwu_0, cwu_R, cwu_1, cwu_2, cwu_3, vu_at, vu_ne, pk_us, pk_un, h.x.f0, h.x.f1, h.x.f2, h.x.f3, h.x.f4, h.x.f5, h.x.f6, h.x.f7, h.x.o, h.hi.o, h.hi.gd, h.hi.gf, h.hi.gl, Hi_keys h.hi h.d8, Hi_hasKey h.hi h.d8, Rw_empty, Rw_add, List.nil_append, List.cons_append, upd_upd, cwo_1, cwo_3, cwo_5, cwo_7, cwo_17, Bool.false_eq_true, n01, z80, z98, hm, hpk, ti_1, ti_p, v2]
        | inr a =>
          have v2 := f2 a hf
          have hr : ax n B p = .inr ((98, a, 0), p + 3) := by rw [hax, ax1, hf]
          refine fin ((98, a, 0), p + 3) x hr ?_
          rw [h98]
          have e3 : p + 1 + 2 = p + 3 := rfl
          rw [e3] at v2
          rw [e124_9]
          simp (disch := first | omega | exact tl_l | exact tT_len | (simp only [List.length_cons, List.length_nil])) only [e124_0, e124_1, e124_4, e124_7, e124_8, e124_10, e124_12, e124_15, e124_16, e124_19, e124_22, e124_25, e124_26, e124_29, e124_32, e124_33, e124_34, e124_36, e124_39, e124_40, e124_43, e124_44, e124_47, e124_48, e124_49, e124_52, e124_53, e124_56, e124_57, e124_60, e124_61, e124_64, e124_65, e124_67, e124_70, e124_71, e124_73, e124_76, e124_77, e124_79, e124_82, e124_83, e124_85, e124_88, e124_89, e124_92, e124_93, e124_96, e124_97, e124_98, e124_101, e124_102, e124_105, e124_106, e124_109, e124_110, e124_111, e124_114, e124_115, e124_118, e124_119, e124_122, e124_123, e124_126, e124_127, e124_130, e124_133, e124_136, e124_139, e124_142, e124_143, e124_146, e124_149, kv_s, kh_s, kr_s, kr_v, kn_s, z0, z1, z2, nI_ltI, nI_leI, nI_eq, nI_add, oN, bz0, bz1, bw0, bw1, ltT, ltF, leT, leF, eqT, eqF, if_true, if_false, kI_n, wI_n, and_true, true_and, and_false, false_and, not_true, not_false_eq_true, cwo_1, cwr_1, cwg_0, cwg_1, cwg_2, cwa_0, cwl_0, cwo_3, cwr_3, cwg_3, cwa_R, cwl_R, cwo_5, cwr_5, cwg_4, cwg_5, cwg_6, cwg_7, cwg_8, cwa_1, cwl_1, cwo_7, cwr_7, cwg_9, cwg_10, cwg_11, cwg_12, cwg_13, cwa_2, cwl_2, cwo_17, cwr_17, cwg_14, cwa_3, cwl_3, cwp_0, cwp_1, cwp_2, cwp_3, cwp_4, cwp_5, cwp_6, cwp_7, cwp_8, cwp_9, cwp_10, cwp_11, cwp_12, cwp_13, cwp_14, cwu_0, cwu_R, cwu_1, cwu_2, cwu_3, vu_at, vu_ne, pk_us, pk_un, h.x.f0, h.x.f1, h.x.f2, h.x.f3, h.x.f4, h.x.f5, h.x.f6, h.x.f7, h.x.o, h.hi.o, h.hi.gd, h.hi.gf, h.hi.gl, Hi_keys h.hi h.d8, Hi_hasKey h.hi h.d8, Rw_empty, Rw_add, List.nil_append, List.cons_append, upd_upd, cwo_1, cwo_3, cwo_5, cwo_7, cwo_17, Bool.false_eq_true, n01, z80, z98, hm, hpk, ti_1, ti_p, v2]
      · by_cases hs : B p = 112 ∨ B p = 109 ∨ B p = 115 ∨ B p = 99
        · have hax : ax n B p = ax2 n B p := (if_neg h98).trans (if_pos hs)
          have e88 := cd88 (A := A) (R := R) (I := I) h hB hlt h80 (x := x) h98 hs
          rw [hax]
          obtain ⟨f1, f2⟩ := Tx_fx1 (σ := σ) (c := c) (R := R) (m := 3) hB (show p + 1 ≤ n by omega) (by omega)
          obtain ⟨g1, g2⟩ := fx1_bd (n := n) (B := B) (m := 3) (show p + 1 ≤ n by omega)
          unfold ax2
          cases hf : fx1 n B 3 (p + 1) with
          | inl q0 =>
            obtain ⟨v, p', v1, v2⟩ := f1 q0 hf
            have hq := g1 q0 hf
            refine ⟨fun q z => ?_, fun L z => (by cases z)⟩
            cases z
            refine ⟨p', ?_⟩
            rw [e88, ← C_cd_out (R := R) h hB v1 hq (i := i + 1) (by omega) (x := .int (nI (B p)))]
            simp (disch := first | omega | exact tl_l | exact tT_len | (simp only [List.length_cons, List.length_nil])) only [e124_88, e124_89, e124_92, e124_93, e124_96, e124_97, e124_98, e124_101, e124_102, e124_105, e124_106, e124_109, e124_110, e124_111, e124_114, e124_115, e124_118, e124_119, e124_122, e124_123, e124_126, e124_127, e124_130, e124_133, e124_136, e124_139, kv_s, kh_s, kr_s, kr_v, kn_s, z0, z1, z2, nI_ltI, nI_leI, nI_eq, nI_add, oN, bz0, bz1, bw0, bw1, ltT, ltF, leT, leF, eqT, eqF, if_true, if_false, kI_n, wI_n, and_true, true_and, and_false, false_and, not_true, not_false_eq_true, cwo_1, cwr_1, cwg_0, cwg_1, cwg_2, cwa_0, cwl_0, cwo_3, cwr_3, cwg_3, cwa_R, cwl_R, cwo_5, cwr_5, cwg_4, cwg_5, cwg_6, cwg_7, cwg_8, cwa_1, cwl_1, cwo_7, cwr_7, cwg_9, cwg_10, cwg_11, cwg_12, cwg_13, cwa_2, cwl_2, cwo_17, cwr_17, cwg_14, cwa_3, cwl_3, cwp_0, cwp_1, cwp_2, cwp_3, cwp_4, cwp_5, cwp_6, cwp_7, cwp_8, cwp_9, cwp_10, cwp_11, cwp_12, cwp_13, cwp_14, cwu_0, cwu_R, cwu_1, cwu_2, cwu_3, vu_at, vu_ne, pk_us, pk_un, h.x.f0, h.x.f1, h.x.f2, h.x.f3, h.x.f4, h.x.f5, h.x.f6, h.x.f7, h.x.o, h.hi.o, h.hi.gd, h.hi.gf, h.hi.gl, Hi_keys h.hi h.d8, Hi_hasKey h.hi h.d8, Rw_empty, Rw_add, List.nil_append, List.cons_append, upd_upd, cwo_1, cwo_3, cwo_5, cwo_7, cwo_17, Bool.false_eq_true, n01, z3, ti_1, ti_p, v2, Tx_fixed_no (show q0 < 2 ^ 31 by omega) (m := 3) (by omega)]
          | inr a =>
            have v2 := f2 a hf
            have ga := (g2 a hf).2
            have e4 : p + 1 + 3 = p + 4 := rfl
            rw [e4] at v2 ga
            obtain ⟨f1', f2'⟩ := Tx_fx1 (σ := σ) (c := c) (R := R) (m := 3) hB ga (by omega)
            obtain ⟨g1', g2'⟩ := fx1_bd (n := n) (B := B) (m := 3) ga
            cases hf' : fx1 n B 3 (p + 4) with
            | inl q0 =>
              simp only [hf']
              obtain ⟨v, p', v1', v2'⟩ := f1' q0 hf'
              have hq := g1' q0 hf'
              refine ⟨fun q z => ?_, fun L z => (by cases z)⟩
              cases z
              refine ⟨p', ?_⟩
              rw [e88, ← C_cd_out (R := R) h hB v1' hq (i := i + 1) (by omega) (x := .int (nI (B p)))]
              simp (disch := first | omega | exact tl_l | exact tT_len | (simp only [List.length_cons, List.length_nil])) only [e124_88, e124_89, e124_92, e124_93, e124_96, e124_97, e124_98, e124_101, e124_102, e124_105, e124_106, e124_109, e124_110, e124_111, e124_114, e124_115, e124_118, e124_119, e124_122, e124_123, e124_126, e124_127, e124_130, e124_133, e124_136, e124_139, kv_s, kh_s, kr_s, kr_v, kn_s, z0, z1, z2, nI_ltI, nI_leI, nI_eq, nI_add, oN, bz0, bz1, bw0, bw1, ltT, ltF, leT, leF, eqT, eqF, if_true, if_false, kI_n, wI_n, and_true, true_and, and_false, false_and, not_true, not_false_eq_true, cwo_1, cwr_1, cwg_0, cwg_1, cwg_2, cwa_0, cwl_0, cwo_3, cwr_3, cwg_3, cwa_R, cwl_R, cwo_5, cwr_5, cwg_4, cwg_5, cwg_6, cwg_7, cwg_8, cwa_1, cwl_1, cwo_7, cwr_7, cwg_9, cwg_10, cwg_11, cwg_12, cwg_13, cwa_2, cwl_2, cwo_17, cwr_17, cwg_14, cwa_3, cwl_3, cwp_0, cwp_1, cwp_2, cwp_3, cwp_4, cwp_5, cwp_6, cwp_7, cwp_8, cwp_9, cwp_10, cwp_11, cwp_12, cwp_13, cwp_14, cwu_0, cwu_R, cwu_1, cwu_2, cwu_3, vu_at, vu_ne, pk_us, pk_un, h.x.f0, h.x.f1, h.x.f2, h.x.f3, h.x.f4, h.x.f5, h.x.f6, h.x.f7, h.x.o, h.hi.o, h.hi.gd, h.hi.gf, h.hi.gl, Hi_keys h.hi h.d8, Hi_hasKey h.hi h.d8, Rw_empty, Rw_add, List.nil_append, List.cons_append, upd_upd, cwo_1, cwo_3, cwo_5, cwo_7, cwo_17, Bool.false_eq_true, n01, z3, ti_1, ti_p, v2, v2']
            | inr b =>
              simp only [hf']
              have v2' := f2' b hf'
              have e7 : p + 4 + 3 = p + 7 := rfl
              rw [e7] at v2'
              have hr : ax n B p = .inr ((B p, a, b), p + 7) := by rw [hax, ax2, hf]; simp only [hf']
              refine fin ((B p, a, b), p + 7) x hr ?_
              rw [e88]
              simp (disch := first | omega | exact tl_l | exact tT_len | (simp only [List.length_cons, List.length_nil])) only [e124_88, e124_89, e124_92, e124_93, e124_96, e124_97, e124_98, e124_101, e124_102, e124_105, e124_106, e124_109, e124_110, e124_111, e124_114, e124_115, e124_118, e124_119, e124_122, e124_123, e124_126, e124_127, e124_130, e124_133, e124_136, e124_139, kv_s, kh_s, kr_s, kr_v, kn_s, z0, z1, z2, nI_ltI, nI_leI, nI_eq, nI_add, oN, bz0, bz1, bw0, bw1, ltT, ltF, leT, leF, eqT, eqF, if_true, if_false, kI_n, wI_n, and_true, true_and, and_false, false_and, not_true, not_false_eq_true, cwo_1, cwr_1, cwg_0, cwg_1, cwg_2, cwa_0, cwl_0, cwo_3, cwr_3, cwg_3, cwa_R, cwl_R, cwo_5, cwr_5, cwg_4, cwg_5, cwg_6, cwg_7, cwg_8, cwa_1, cwl_1, cwo_7, cwr_7, cwg_9, cwg_10, cwg_11, cwg_12, cwg_13, cwa_2, cwl_2, cwo_17, cwr_17, cwg_14, cwa_3, cwl_3, cwp_0, cwp_1, cwp_2, cwp_3, cwp_4, cwp_5, cwp_6, cwp_7, cwp_8, cwp_9, cwp_10, cwp_11, cwp_12, cwp_13, cwp_14, cwu_0, cwu_R, cwu_1, cwu_2, cwu_3, vu_at, vu_ne, pk_us, pk_un, h.x.f0, h.x.f1, h.x.f2, h.x.f3, h.x.f4, h.x.f5, h.x.f6, h.x.f7, h.x.o, h.hi.o, h.hi.gd, h.hi.gf, h.hi.gl, Hi_keys h.hi h.d8, Hi_hasKey h.hi h.d8, Rw_empty, Rw_add, List.nil_append, List.cons_append, upd_upd, cwo_1, cwo_3, cwo_5, cwo_7, cwo_17, Bool.false_eq_true, n01, z3, ti_1, ti_p, v2, v2']
        · have hax : ax n B p = .inl p := (if_neg h98).trans (if_neg hs)
          rw [hax]
          refine ⟨fun q z => ?_, fun L z => (by cases z)⟩
          cases z
          refine ⟨p, ?_⟩
          have s1 : ¬ B p = 112 := fun e => hs (Or.inl e)
          have s2 : ¬ B p = 109 := fun e => hs (Or.inr (Or.inl e))
          have s3 : ¬ B p = 115 := fun e => hs (Or.inr (Or.inr (Or.inl e)))
          have s4 : ¬ B p = 99 := fun e => hs (Or.inr (Or.inr (Or.inr e)))
          rw [← C_cd_out (R := R) h hB hp hp (i := i + 1) (by omega) (x := .int (nI (B p)))]
          rw [e124_9]
          simp (disch := first | omega | exact tl_l | exact tT_len | (simp only [List.length_cons, List.length_nil])) only [e124_0, e124_1, e124_4, e124_7, e124_8, e124_10, e124_12, e124_15, e124_16, e124_19, e124_22, e124_25, e124_26, e124_29, e124_32, e124_33, e124_34, e124_36, e124_39, e124_40, e124_43, e124_44, e124_47, e124_48, e124_49, e124_52, e124_53, e124_56, e124_57, e124_60, e124_61, e124_64, e124_65, e124_67, e124_70, e124_71, e124_73, e124_76, e124_77, e124_79, e124_82, e124_83, e124_85, e124_88, e124_89, e124_92, e124_93, e124_96, e124_97, e124_98, e124_101, e124_102, e124_105, e124_106, e124_109, e124_110, e124_111, e124_114, e124_115, e124_118, e124_119, e124_122, e124_123, e124_126, e124_127, e124_130, e124_133, e124_136, e124_139, e124_142, e124_143, e124_146, e124_149, kv_s, kh_s, kr_s, kr_v, kn_s, z0, z1, z2, nI_ltI, nI_leI, nI_eq, nI_add, oN, bz0, bz1, bw0, bw1, ltT, ltF, leT, leF, eqT, eqF, if_true, if_false, kI_n, wI_n, and_true, true_and, and_false, false_and, not_true, not_false_eq_true, cwo_1, cwr_1, cwg_0, cwg_1, cwg_2, cwa_0, cwl_0, cwo_3, cwr_3, cwg_3, cwa_R, cwl_R, cwo_5, cwr_5, cwg_4, cwg_5, cwg_6, cwg_7, cwg_8, cwa_1, cwl_1, cwo_7, cwr_7, cwg_9, cwg_10, cwg_11, cwg_12, cwg_13, cwa_2, cwl_2, cwo_17, cwr_17, cwg_14, cwa_3, cwl_3, cwp_0, cwp_1, cwp_2, cwp_3, cwp_4, cwp_5, cwp_6, cwp_7, cwp_8, cwp_9, cwp_10, cwp_11, cwp_12, cwp_13, cwp_14, cwu_0, cwu_R, cwu_1, cwu_2, cwu_3, vu_at, vu_ne, pk_us, pk_un, h.x.f0, h.x.f1, h.x.f2, h.x.f3, h.x.f4, h.x.f5, h.x.f6, h.x.f7, h.x.o, h.hi.o, h.hi.gd, h.hi.gf, h.hi.gl, Hi_keys h.hi h.d8, Hi_hasKey h.hi h.d8, Rw_empty, Rw_add, List.nil_append, List.cons_append, upd_upd, cwo_1, cwo_3, cwo_5, cwo_7, cwo_17, Bool.false_eq_true, n01, z80, z98, z112, z109, z115, z99, h98, s1, s2, s3, s4, hm, hpk, ti_1, Tx_fail0]
theorem C_checkDay (h : RB c σ T d f l V) (hB : isB A I n B) : (∀ q, dy n B (n + 1) 0 = .inl q → ∃ p', dcall 124 [.ref c] (cw σ c A R I) = some (some (.int (nI q)), cw σ c A R (ti I p' (some q)))) ∧ ∀ L, dy n B (n + 1) 0 = .inr L → dcall 124 [.ref c] (cw σ c A R I) = some (some (.int (-nI 1)), cw σ c A R (ti I n none)) := by
  have e : dcall 124 [.ref c] (cw σ c A R I) = den 124 9 [.ref c, .int (nI 0), junk] [] (cw σ c A R (ti I 0 none)) := by
    rw [q124]
    simp (disch := first | omega | exact tl_l | exact tT_len | (simp only [List.length_cons, List.length_nil])) only [e124_0, e124_1, e124_4, e124_7, e124_8, e124_10, e124_12, e124_15, e124_16, e124_19, e124_22, e124_25, e124_26, e124_29, e124_32, e124_33, e124_34, e124_36, e124_39, e124_40, e124_43, e124_44, e124_47, e124_48, e124_49, e124_52, e124_53, e124_56, e124_57, e124_60, e124_61, e124_64, e124_65, e124_67, e124_70, e124_71, e124_73, e124_76, e124_77, e124_79, e124_82, e124_83, e124_85, e124_88, e124_89, e124_92, e124_93, e124_96, e124_97, e124_98, e124_101, e124_102, e124_105, e124_106, e124_109, e124_110, e124_111, e124_114, e124_115, e124_118, e124_119, e124_122, e124_123, e124_126, e124_127, e124_130, e124_133, e124_136, e124_139, e124_142, e124_143, e124_146, e124_149, kv_s, kh_s, kr_s, kr_v, kn_s, z0, z1, z2, nI_ltI, nI_leI, nI_eq, nI_add, oN, bz0, bz1, bw0, bw1, ltT, ltF, leT, leF, eqT, eqF, if_true, if_false, kI_n, wI_n, and_true, true_and, and_false, false_and, not_true, not_false_eq_true, cwo_1, cwr_1, cwg_0, cwg_1, cwg_2, cwa_0, cwl_0, cwo_3, cwr_3, cwg_3, cwa_R, cwl_R, cwo_5, cwr_5, cwg_4, cwg_5, cwg_6, cwg_7, cwg_8, cwa_1, cwl_1, cwo_7, cwr_7, cwg_9, cwg_10, cwg_11, cwg_12, cwg_13, cwa_2, cwl_2, cwo_17, cwr_17, cwg_14, cwa_3, cwl_3, cwp_0, cwp_1, cwp_2, cwp_3, cwp_4, cwp_5, cwp_6, cwp_7, cwp_8, cwp_9, cwp_10, cwp_11, cwp_12, cwp_13, cwp_14, cwu_0, cwu_R, cwu_1, cwu_2, cwu_3, vu_at, vu_ne, pk_us, pk_un, h.x.f0, h.x.f1, h.x.f2, h.x.f3, h.x.f4, h.x.f5, h.x.f6, h.x.f7, h.x.o, h.hi.o, h.hi.gd, h.hi.gf, h.hi.gl, Hi_keys h.hi h.d8, Hi_hasKey h.hi h.d8, Rw_empty, Rw_add, List.nil_append, List.cons_append, upd_upd, cwo_1, cwo_3, cwo_5, cwo_7, cwo_17, Bool.false_eq_true, n01, Tx_rewind]
  rw [e]
  exact C_cd_loop h hB (n + 1) 0 0 junk (Nat.zero_le n) (Nat.le_refl 0) (by omega)
/-- an act done by the class -/
theorem C_doAct (h : BC c σ z K) (ok : okH z) (hl : z.2.2.1 + 1 < 2 ^ 30) (hB : isB A I n B) (hp : p < n) {r : Ac × Nat} (hr : ax n B p = .inr r) : ∃ ρ, dcall 126 [.ref c] (cw σ c A R (ti I p none)) = some (some (.int (acF z r.1).1), cw ρ c A R (ti I r.2 none)) ∧ BC c ρ (acF z r.1).2 K ∧ afar c σ ρ := by
  obtain ⟨T, hb⟩ := h.rb
  have hn := hB.1
  obtain ⟨b1, b2⟩ := hB.2.2 p hp
  have hpk := Tx_peek (σ := σ) (c := c) (R := R) (e := none) hB (show p ≤ n by omega)
  rw [if_pos hp] at hpk
  unfold ax at hr
  by_cases h98 : B p = 98
  · rw [if_pos h98] at hr
    rw [h98] at hpk
    unfold ax1 at hr
    obtain ⟨f1, f2⟩ := Tx_fx1 (σ := σ) (c := c) (R := R) (m := 2) hB (show p + 1 ≤ n by omega) (by omega)
    obtain ⟨g1, g2⟩ := fx1_bd (n := n) (B := B) (m := 2) (show p + 1 ≤ n by omega)
    cases hf : fx1 n B 2 (p + 1) with
    | inl q0 => rw [hf] at hr; cases hr
    | inr a =>
      rw [hf] at hr
      cases hr
      have v2 := f2 a hf
      have ga := g2 a hf
      have e3 : p + 1 + 2 = p + 3 := rfl
      rw [e3] at v2
      obtain ⟨ρ, c1, c2, c3⟩ := C_back (A := A) (R := R) (I := ti I (p + 3) none) h hl (v := a) (by omega)
      refine ⟨ρ, ?_, c2, c3⟩
      show _ = some (some (Value.int (bckF z a).1), _)
      have h := hb
      rw [q126]
      simp (disch := first | omega | exact tl_l | exact tT_len | (simp only [List.length_cons, List.length_nil])) only [e126_0, e126_1, e126_4, e126_7, e126_8, e126_9, e126_12, e126_13, e126_16, e126_17, e126_18, e126_21, e126_22, e126_24, e126_27, e126_28, e126_29, e126_32, e126_33, e126_36, e126_39, e126_40, e126_41, e126_44, e126_45, e126_48, e126_49, e126_50, e126_53, e126_54, e126_57, e126_58, e126_59, e126_61, e126_64, e126_65, e126_66, e126_67, e126_70, e126_71, e126_72, e126_74, e126_77, e126_78, e126_79, e126_80, e126_83, e126_84, e126_85, e126_87, e126_90, e126_91, e126_92, e126_93, e126_96, e126_97, e126_98, e126_99, e126_100, e126_103, kv_s, kh_s, kr_s, kr_v, kn_s, z0, z1, z2, nI_ltI, nI_leI, nI_eq, nI_add, oN, bz0, bz1, bw0, bw1, ltT, ltF, leT, leF, eqT, eqF, if_true, if_false, kI_n, wI_n, and_true, true_and, and_false, false_and, not_true, not_false_eq_true, cwo_1, cwr_1, cwg_0, cwg_1, cwg_2, cwa_0, cwl_0, cwo_3, cwr_3, cwg_3, cwa_R, cwl_R, cwo_5, cwr_5, cwg_4, cwg_5, cwg_6, cwg_7, cwg_8, cwa_1, cwl_1, cwo_7, cwr_7, cwg_9, cwg_10, cwg_11, cwg_12, cwg_13, cwa_2, cwl_2, cwo_17, cwr_17, cwg_14, cwa_3, cwl_3, cwp_0, cwp_1, cwp_2, cwp_3, cwp_4, cwp_5, cwp_6, cwp_7, cwp_8, cwp_9, cwp_10, cwp_11, cwp_12, cwp_13, cwp_14, cwu_0, cwu_R, cwu_1, cwu_2, cwu_3, vu_at, vu_ne, pk_us, pk_un, h.x.f0, h.x.f1, h.x.f2, h.x.f3, h.x.f4, h.x.f5, h.x.f6, h.x.f7, h.x.o, h.hi.o, h.hi.gd, h.hi.gf, h.hi.gl, Hi_keys h.hi h.d8, Hi_hasKey h.hi h.d8, Rw_empty, Rw_add, List.nil_append, List.cons_append, upd_upd, cwo_1, cwo_3, cwo_5, cwo_7, cwo_17, Bool.false_eq_true, n01, z98, hpk, ti_1, ti_p, v2, c1]
  · rw [if_neg h98] at hr
    by_cases hs : B p = 112 ∨ B p = 109 ∨ B p = 115 ∨ B p = 99
    · rw [if_pos hs] at hr
      unfold ax2 at hr
      obtain ⟨f1, f2⟩ := Tx_fx1 (σ := σ) (c := c) (R := R) (m := 3) hB (show p + 1 ≤ n by omega) (by omega)
      obtain ⟨g1, g2⟩ := fx1_bd (n := n) (B := B) (m := 3) (show p + 1 ≤ n by omega)
      cases hf : fx1 n B 3 (p + 1) with
      | inl q0 => rw [hf] at hr; cases hr
      | inr a =>
        simp only [hf] at hr
        have v2 := f2 a hf
        have ga := g2 a hf
        have e4 : p + 1 + 3 = p + 4 := rfl
        rw [e4] at v2 ga
        obtain ⟨f1', f2'⟩ := Tx_fx1 (σ := σ) (c := c) (R := R) (m := 3) hB ga.2 (by omega)
        obtain ⟨g1', g2'⟩ := fx1_bd (n := n) (B := B) (m := 3) ga.2
        cases hf' : fx1 n B 3 (p + 4) with
        | inl q0 => simp only [hf'] at hr; cases hr
        | inr b =>
          simp only [hf'] at hr
          cases hr
          have v2' := f2' b hf'
          have gb := g2' b hf'
          have e7 : p + 4 + 3 = p + 7 := rfl
          rw [e7] at v2'
          rcases hs with e | e | e | e <;> rw [e] at hpk ⊢
          · obtain ⟨ρ, c1, c2, c3⟩ := C_puts (A := A) (R := R) (I := ti I (p + 7) none) h hl (a := a) (b := b) (by omega) (by omega)
            refine ⟨ρ, ?_, c2, c3⟩
            show _ = some (some (Value.int (putF z a b).1), _)
            have h := hb
            rw [q126]
            simp (disch := first | omega | exact tl_l | exact tT_len | (simp only [List.length_cons, List.length_nil])) only [e126_0, e126_1, e126_4, e126_7, e126_8, e126_9, e126_12, e126_13, e126_16, e126_17, e126_18, e126_21, e126_22, e126_24, e126_27, e126_28, e126_29, e126_32, e126_33, e126_36, e126_39, e126_40, e126_41, e126_44, e126_45, e126_48, e126_49, e126_50, e126_53, e126_54, e126_57, e126_58, e126_59, e126_61, e126_64, e126_65, e126_66, e126_67, e126_70, e126_71, e126_72, e126_74, e126_77, e126_78, e126_79, e126_80, e126_83, e126_84, e126_85, e126_87, e126_90, e126_91, e126_92, e126_93, e126_96, e126_97, e126_98, e126_99, e126_100, e126_103, kv_s, kh_s, kr_s, kr_v, kn_s, z0, z1, z2, nI_ltI, nI_leI, nI_eq, nI_add, oN, bz0, bz1, bw0, bw1, ltT, ltF, leT, leF, eqT, eqF, if_true, if_false, kI_n, wI_n, and_true, true_and, and_false, false_and, not_true, not_false_eq_true, cwo_1, cwr_1, cwg_0, cwg_1, cwg_2, cwa_0, cwl_0, cwo_3, cwr_3, cwg_3, cwa_R, cwl_R, cwo_5, cwr_5, cwg_4, cwg_5, cwg_6, cwg_7, cwg_8, cwa_1, cwl_1, cwo_7, cwr_7, cwg_9, cwg_10, cwg_11, cwg_12, cwg_13, cwa_2, cwl_2, cwo_17, cwr_17, cwg_14, cwa_3, cwl_3, cwp_0, cwp_1, cwp_2, cwp_3, cwp_4, cwp_5, cwp_6, cwp_7, cwp_8, cwp_9, cwp_10, cwp_11, cwp_12, cwp_13, cwp_14, cwu_0, cwu_R, cwu_1, cwu_2, cwu_3, vu_at, vu_ne, pk_us, pk_un, h.x.f0, h.x.f1, h.x.f2, h.x.f3, h.x.f4, h.x.f5, h.x.f6, h.x.f7, h.x.o, h.hi.o, h.hi.gd, h.hi.gf, h.hi.gl, Hi_keys h.hi h.d8, Hi_hasKey h.hi h.d8, Rw_empty, Rw_add, List.nil_append, List.cons_append, upd_upd, cwo_1, cwo_3, cwo_5, cwo_7, cwo_17, Bool.false_eq_true, n01, z98, z112, z109, z115, z3, hpk, ti_1, ti_p, v2, v2', c1]
          · obtain ⟨ρ, c1, c2, c3⟩ := C_moves (A := A) (R := R) (I := ti I (p + 7) none) h ok hl (a := a) (b := b) (by omega) (by omega)
            refine ⟨ρ, ?_, c2, c3⟩
            show _ = some (some (Value.int (movF z a b).1), _)
            have h := hb
            rw [q126]
            simp (disch := first | omega | exact tl_l | exact tT_len | (simp only [List.length_cons, List.length_nil])) only [e126_0, e126_1, e126_4, e126_7, e126_8, e126_9, e126_12, e126_13, e126_16, e126_17, e126_18, e126_21, e126_22, e126_24, e126_27, e126_28, e126_29, e126_32, e126_33, e126_36, e126_39, e126_40, e126_41, e126_44, e126_45, e126_48, e126_49, e126_50, e126_53, e126_54, e126_57, e126_58, e126_59, e126_61, e126_64, e126_65, e126_66, e126_67, e126_70, e126_71, e126_72, e126_74, e126_77, e126_78, e126_79, e126_80, e126_83, e126_84, e126_85, e126_87, e126_90, e126_91, e126_92, e126_93, e126_96, e126_97, e126_98, e126_99, e126_100, e126_103, kv_s, kh_s, kr_s, kr_v, kn_s, z0, z1, z2, nI_ltI, nI_leI, nI_eq, nI_add, oN, bz0, bz1, bw0, bw1, ltT, ltF, leT, leF, eqT, eqF, if_true, if_false, kI_n, wI_n, and_true, true_and, and_false, false_and, not_true, not_false_eq_true, cwo_1, cwr_1, cwg_0, cwg_1, cwg_2, cwa_0, cwl_0, cwo_3, cwr_3, cwg_3, cwa_R, cwl_R, cwo_5, cwr_5, cwg_4, cwg_5, cwg_6, cwg_7, cwg_8, cwa_1, cwl_1, cwo_7, cwr_7, cwg_9, cwg_10, cwg_11, cwg_12, cwg_13, cwa_2, cwl_2, cwo_17, cwr_17, cwg_14, cwa_3, cwl_3, cwp_0, cwp_1, cwp_2, cwp_3, cwp_4, cwp_5, cwp_6, cwp_7, cwp_8, cwp_9, cwp_10, cwp_11, cwp_12, cwp_13, cwp_14, cwu_0, cwu_R, cwu_1, cwu_2, cwu_3, vu_at, vu_ne, pk_us, pk_un, h.x.f0, h.x.f1, h.x.f2, h.x.f3, h.x.f4, h.x.f5, h.x.f6, h.x.f7, h.x.o, h.hi.o, h.hi.gd, h.hi.gf, h.hi.gl, Hi_keys h.hi h.d8, Hi_hasKey h.hi h.d8, Rw_empty, Rw_add, List.nil_append, List.cons_append, upd_upd, cwo_1, cwo_3, cwo_5, cwo_7, cwo_17, Bool.false_eq_true, n01, z98, z112, z109, z115, z3, hpk, ti_1, ti_p, v2, v2', c1]
          · obtain ⟨ρ, c1, c2, c3⟩ := C_swaps (A := A) (R := R) (I := ti I (p + 7) none) h hl (a := a) (b := b) (by omega) (by omega)
            refine ⟨ρ, ?_, c2, c3⟩
            show _ = some (some (Value.int (swpF z a b).1), _)
            have h := hb
            rw [q126]
            simp (disch := first | omega | exact tl_l | exact tT_len | (simp only [List.length_cons, List.length_nil])) only [e126_0, e126_1, e126_4, e126_7, e126_8, e126_9, e126_12, e126_13, e126_16, e126_17, e126_18, e126_21, e126_22, e126_24, e126_27, e126_28, e126_29, e126_32, e126_33, e126_36, e126_39, e126_40, e126_41, e126_44, e126_45, e126_48, e126_49, e126_50, e126_53, e126_54, e126_57, e126_58, e126_59, e126_61, e126_64, e126_65, e126_66, e126_67, e126_70, e126_71, e126_72, e126_74, e126_77, e126_78, e126_79, e126_80, e126_83, e126_84, e126_85, e126_87, e126_90, e126_91, e126_92, e126_93, e126_96, e126_97, e126_98, e126_99, e126_100, e126_103, kv_s, kh_s, kr_s, kr_v, kn_s, z0, z1, z2, nI_ltI, nI_leI, nI_eq, nI_add, oN, bz0, bz1, bw0, bw1, ltT, ltF, leT, leF, eqT, eqF, if_true, if_false, kI_n, wI_n, and_true, true_and, and_false, false_and, not_true, not_false_eq_true, cwo_1, cwr_1, cwg_0, cwg_1, cwg_2, cwa_0, cwl_0, cwo_3, cwr_3, cwg_3, cwa_R, cwl_R, cwo_5, cwr_5, cwg_4, cwg_5, cwg_6, cwg_7, cwg_8, cwa_1, cwl_1, cwo_7, cwr_7, cwg_9, cwg_10, cwg_11, cwg_12, cwg_13, cwa_2, cwl_2, cwo_17, cwr_17, cwg_14, cwa_3, cwl_3, cwp_0, cwp_1, cwp_2, cwp_3, cwp_4, cwp_5, cwp_6, cwp_7, cwp_8, cwp_9, cwp_10, cwp_11, cwp_12, cwp_13, cwp_14, cwu_0, cwu_R, cwu_1, cwu_2, cwu_3, vu_at, vu_ne, pk_us, pk_un, h.x.f0, h.x.f1, h.x.f2, h.x.f3, h.x.f4, h.x.f5, h.x.f6, h.x.f7, h.x.o, h.hi.o, h.hi.gd, h.hi.gf, h.hi.gl, Hi_keys h.hi h.d8, Hi_hasKey h.hi h.d8, Rw_empty, Rw_add, List.nil_append, List.cons_append, upd_upd, cwo_1, cwo_3, cwo_5, cwo_7, cwo_17, Bool.false_eq_true, n01, z98, z112, z109, z115, z3, hpk, ti_1, ti_p, v2, v2', c1]
          · obtain ⟨ρ, c1, c2, c3⟩ := C_clears (A := A) (R := R) (I := ti I (p + 7) none) h hl (a := a) (b := b) (by omega) (by omega)
            refine ⟨ρ, ?_, c2, c3⟩
            show _ = some (some (Value.int (clrF z a b).1), _)
            have h := hb
            rw [q126]
            simp (disch := first | omega | exact tl_l | exact tT_len | (simp only [List.length_cons, List.length_nil])) only [e126_0, e126_1, e126_4, e126_7, e126_8, e126_9, e126_12, e126_13, e126_16, e126_17, e126_18, e126_21, e126_22, e126_24, e126_27, e126_28, e126_29, e126_32, e126_33, e126_36, e126_39, e126_40, e126_41, e126_44, e126_45, e126_48, e126_49, e126_50, e126_53, e126_54, e126_57, e126_58, e126_59, e126_61, e126_64, e126_65, e126_66, e126_67, e126_70, e126_71, e126_72, e126_74, e126_77, e126_78, e126_79, e126_80, e126_83, e126_84, e126_85, e126_87, e126_90, e126_91, e126_92, e126_93, e126_96, e126_97, e126_98, e126_99, e126_100, e126_103, kv_s, kh_s, kr_s, kr_v, kn_s, z0, z1, z2, nI_ltI, nI_leI, nI_eq, nI_add, oN, bz0, bz1, bw0, bw1, ltT, ltF, leT, leF, eqT, eqF, if_true, if_false, kI_n, wI_n, and_true, true_and, and_false, false_and, not_true, not_false_eq_true, cwo_1, cwr_1, cwg_0, cwg_1, cwg_2, cwa_0, cwl_0, cwo_3, cwr_3, cwg_3, cwa_R, cwl_R, cwo_5, cwr_5, cwg_4, cwg_5, cwg_6, cwg_7, cwg_8, cwa_1, cwl_1, cwo_7, cwr_7, cwg_9, cwg_10, cwg_11, cwg_12, cwg_13, cwa_2, cwl_2, cwo_17, cwr_17, cwg_14, cwa_3, cwl_3, cwp_0, cwp_1, cwp_2, cwp_3, cwp_4, cwp_5, cwp_6, cwp_7, cwp_8, cwp_9, cwp_10, cwp_11, cwp_12, cwp_13, cwp_14, cwu_0, cwu_R, cwu_1, cwu_2, cwu_3, vu_at, vu_ne, pk_us, pk_un, h.x.f0, h.x.f1, h.x.f2, h.x.f3, h.x.f4, h.x.f5, h.x.f6, h.x.f7, h.x.o, h.hi.o, h.hi.gd, h.hi.gf, h.hi.gl, Hi_keys h.hi h.d8, Hi_hasKey h.hi h.d8, Rw_empty, Rw_add, List.nil_append, List.cons_append, upd_upd, cwo_1, cwo_3, cwo_5, cwo_7, cwo_17, Bool.false_eq_true, n01, z98, z112, z109, z115, z3, hpk, ti_1, ti_p, v2, v2', c1]
    · rw [if_neg hs] at hr; cases hr
theorem C_day_stop (h : RB c σ T d f l V) {y : Value} {k i : Nat} (hi : i ≤ 80) : den 123 36 [.ref c, y, .int (nI k), .int (nI 1), .int (nI i)] [] (cw σ c A R I) = den 123 78 [.ref c, y, .int (nI k), .int (nI 1), .int (nI i)] [] (cw σ c A R I) := by
  rw [e123_36]
  by_cases h80 : i < 80
  · simp (disch := first | omega | exact tl_l | exact tT_len | (simp only [List.length_cons, List.length_nil])) only [e123_38, e123_40, e123_43, e123_44, kv_s, kh_s, kr_s, kr_v, kn_s, z0, z1, z2, nI_ltI, nI_leI, nI_eq, nI_add, oN, bz0, bz1, bw0, bw1, ltT, ltF, leT, leF, eqT, eqF, if_true, if_false, kI_n, wI_n, and_true, true_and, and_false, false_and, not_true, not_false_eq_true, z80, h80]
  · simp (disch := first | omega | exact tl_l | exact tT_len | (simp only [List.length_cons, List.length_nil])) only [e123_38, e123_40, e123_43, e123_44, kv_s, kh_s, kr_s, kr_v, kn_s, z0, z1, z2, nI_ltI, nI_leI, nI_eq, nI_add, oN, bz0, bz1, bw0, bw1, ltT, ltF, leT, leF, eqT, eqF, if_true, if_false, kI_n, wI_n, and_true, true_and, and_false, false_and, not_true, not_false_eq_true, z80, h80]
theorem C_day_loop {y : Value} (hB : isB A I n B) : ∀ (m p i k : Nat) (σ : Hp) (z : Hs) (L : List Ac), BC c σ z K → okH z → z.2.2.1 + L.length + 1 < 2 ^ 30 → dy n B m p = .inr L → p ≤ n → i ≤ p → n < p + m → k ≤ i → ∃ ρ i' p', den 123 36 [.ref c, y, .int (nI k), .int (nI 0), .int (nI i)] [] (cw σ c A R (ti I p none)) = den 123 78 [.ref c, y, .int (nI (rn L z k).2.1), .int (bI (rn L z k).1), .int (nI i')] [] (cw ρ c A R (ti I p' none)) ∧ BC c ρ (rn L z k).2.2 K ∧ afar c σ ρ := by
  have hn := hB.1
  intro m
  induction m with
  | zero => intro p i k σ z L hbc ok hl hd hp hi hm hk; omega
  | succ m ih =>
    intro p i k σ z L hbc ok hl hd hp hi hm hk
    obtain ⟨T, hb⟩ := hbc.rb
    have hfl := hb.fl
    have hmo := Tx_more (σ := σ) (c := c) (R := R) (e := none) hB hp (fun r z => by cases z)
    rw [dy] at hd
    by_cases h1 : p = n
    · rw [if_pos h1] at hd
      cases hd
      rw [if_neg (fun z => by omega)] at hmo
      refine ⟨σ, i, p, ?_, hbc, afar.rf⟩
      show _ = den 123 78 [.ref c, y, .int (nI k), .int (nI 0), .int (nI i)] [] (cw σ c A R (ti I p none))
      have h := hb
      rw [e123_36]
      by_cases h80 : i < 80
      · simp (disch := first | omega | exact tl_l | exact tT_len | (simp only [List.length_cons, List.length_nil])) only [e123_38, e123_40, e123_43, e123_44, e123_47, e123_48, e123_51, e123_54, kv_s, kh_s, kr_s, kr_v, kn_s, z0, z1, z2, nI_ltI, nI_leI, nI_eq, nI_add, oN, bz0, bz1, bw0, bw1, ltT, ltF, leT, leF, eqT, eqF, if_true, if_false, kI_n, wI_n, and_true, true_and, and_false, false_and, not_true, not_false_eq_true, cwo_1, cwr_1, cwg_0, cwg_1, cwg_2, cwa_0, cwl_0, cwo_3, cwr_3, cwg_3, cwa_R, cwl_R, cwo_5, cwr_5, cwg_4, cwg_5, cwg_6, cwg_7, cwg_8, cwa_1, cwl_1, cwo_7, cwr_7, cwg_9, cwg_10, cwg_11, cwg_12, cwg_13, cwa_2, cwl_2, cwo_17, cwr_17, cwg_14, cwa_3, cwl_3, cwp_0, cwp_1, cwp_2, cwp_3, cwp_4, cwp_5, cwp_6, cwp_7, cwp_8, cwp_9, cwp_10, cwp_11, cwp_12, cwp_13, cwp_14, cwu_0, cwu_R, cwu_1, cwu_2, cwu_3, vu_at, vu_ne, pk_us, pk_un, h.x.f0, h.x.f1, h.x.f2, h.x.f3, h.x.f4, h.x.f5, h.x.f6, h.x.f7, h.x.o, h.hi.o, h.hi.gd, h.hi.gf, h.hi.gl, Hi_keys h.hi h.d8, Hi_hasKey h.hi h.d8, Rw_empty, Rw_add, List.nil_append, List.cons_append, upd_upd, cwo_1, cwo_3, cwo_5, cwo_7, cwo_17, Bool.false_eq_true, n01, z80, hmo, h80]
      · simp (disch := first | omega | exact tl_l | exact tT_len | (simp only [List.length_cons, List.length_nil])) only [e123_38, e123_40, e123_43, e123_44, e123_47, e123_48, e123_51, e123_54, kv_s, kh_s, kr_s, kr_v, kn_s, z0, z1, z2, nI_ltI, nI_leI, nI_eq, nI_add, oN, bz0, bz1, bw0, bw1, ltT, ltF, leT, leF, eqT, eqF, if_true, if_false, kI_n, wI_n, and_true, true_and, and_false, false_and, not_true, not_false_eq_true, z80, h80]
    · rw [if_neg h1] at hd
      have hlt : p < n := by omega
      rw [if_pos ⟨rfl, hlt⟩] at hmo
      cases hax : ax n B p with
      | inl q0 => rw [hax] at hd; cases hd
      | inr r =>
        simp only [hax] at hd
        obtain ⟨c1, c2, _⟩ := (ax_bd (n := n) (B := B) hlt).2 r hax
        cases hdy : dy n B m r.2 with
        | inl q0 => simp only [hdy] at hd; cases hd
        | inr L0 =>
          simp only [hdy] at hd
          cases hd
          have hll : (r.1 :: L0).length = L0.length + 1 := rfl
          obtain ⟨ρ, d1, d2, d3⟩ := C_doAct (A := A) (R := R) (I := I) hbc ok (by omega) hB hlt hax
          obtain ⟨o1, o2, o3⟩ := acF_ok (a := r.1) ok hfl.1 hfl.2.1
          rw [rn]
          by_cases hge : nI 0 ≤ (acF z r.1).1
          · rw [if_pos hge]
            obtain ⟨ρ2, i', p', e1, e2, e3⟩ := ih r.2 (i + 1) (k + 1) ρ (acF z r.1).2 L0 d2 o1 (by omega) hdy c2 (by omega) (by omega) (by omega)
            refine ⟨ρ2, i', p', ?_, e2, d3.tr e3⟩
            rw [← e1]
            have h := hb
            rw [e123_36]
            simp (disch := first | omega | exact tl_l | exact tT_len | (simp only [List.length_cons, List.length_nil])) only [e123_38, e123_40, e123_43, e123_44, e123_47, e123_48, e123_51, e123_54, e123_57, e123_58, e123_61, e123_64, e123_65, e123_66, e123_69, e123_72, e123_75, kv_s, kh_s, kr_s, kr_v, kn_s, z0, z1, z2, nI_ltI, nI_leI, nI_eq, nI_add, oN, bz0, bz1, bw0, bw1, ltT, ltF, leT, leF, eqT, eqF, if_true, if_false, kI_n, wI_n, and_true, true_and, and_false, false_and, not_true, not_false_eq_true, cwo_1, cwr_1, cwg_0, cwg_1, cwg_2, cwa_0, cwl_0, cwo_3, cwr_3, cwg_3, cwa_R, cwl_R, cwo_5, cwr_5, cwg_4, cwg_5, cwg_6, cwg_7, cwg_8, cwa_1, cwl_1, cwo_7, cwr_7, cwg_9, cwg_10, cwg_11, cwg_12, cwg_13, cwa_2, cwl_2, cwo_17, cwr_17, cwg_14, cwa_3, cwl_3, cwp_0, cwp_1, cwp_2, cwp_3, cwp_4, cwp_5, cwp_6, cwp_7, cwp_8, cwp_9, cwp_10, cwp_11, cwp_12, cwp_13, cwp_14, cwu_0, cwu_R, cwu_1, cwu_2, cwu_3, vu_at, vu_ne, pk_us, pk_un, h.x.f0, h.x.f1, h.x.f2, h.x.f3, h.x.f4, h.x.f5, h.x.f6, h.x.f7, h.x.o, h.hi.o, h.hi.gd, h.hi.gf, h.hi.gl, Hi_keys h.hi h.d8, Hi_hasKey h.hi h.d8, Rw_empty, Rw_add, List.nil_append, List.cons_append, upd_upd, cwo_1, cwo_3, cwo_5, cwo_7, cwo_17, Bool.false_eq_true, n01, z80, hmo, d1, hge]
          · rw [if_neg hge]
            obtain ⟨T', hb'⟩ := d2.rb
            refine ⟨ρ, i + 1, r.2, ?_, d2, d3⟩
            show _ = den 123 78 [.ref c, y, .int (nI k), .int (nI 1), .int (nI (i + 1))] [] (cw ρ c A R (ti I r.2 none))
            rw [← C_day_stop hb' (i := i + 1) (by omega)]
            have h := hb
            rw [e123_36]
            simp (disch := first | omega | exact tl_l | exact tT_len | (simp only [List.length_cons, List.length_nil])) only [e123_38, e123_40, e123_43, e123_44, e123_47, e123_48, e123_51, e123_54, e123_57, e123_58, e123_61, e123_64, e123_65, e123_66, e123_69, e123_72, e123_75, kv_s, kh_s, kr_s, kr_v, kn_s, z0, z1, z2, nI_ltI, nI_leI, nI_eq, nI_add, oN, bz0, bz1, bw0, bw1, ltT, ltF, leT, leF, eqT, eqF, if_true, if_false, kI_n, wI_n, and_true, true_and, and_false, false_and, not_true, not_false_eq_true, cwo_1, cwr_1, cwg_0, cwg_1, cwg_2, cwa_0, cwl_0, cwo_3, cwr_3, cwg_3, cwa_R, cwl_R, cwo_5, cwr_5, cwg_4, cwg_5, cwg_6, cwg_7, cwg_8, cwa_1, cwl_1, cwo_7, cwr_7, cwg_9, cwg_10, cwg_11, cwg_12, cwg_13, cwa_2, cwl_2, cwo_17, cwr_17, cwg_14, cwa_3, cwl_3, cwp_0, cwp_1, cwp_2, cwp_3, cwp_4, cwp_5, cwp_6, cwp_7, cwp_8, cwp_9, cwp_10, cwp_11, cwp_12, cwp_13, cwp_14, cwu_0, cwu_R, cwu_1, cwu_2, cwu_3, vu_at, vu_ne, pk_us, pk_un, h.x.f0, h.x.f1, h.x.f2, h.x.f3, h.x.f4, h.x.f5, h.x.f6, h.x.f7, h.x.o, h.hi.o, h.hi.gd, h.hi.gf, h.hi.gl, Hi_keys h.hi h.d8, Hi_hasKey h.hi h.d8, Rw_empty, Rw_add, List.nil_append, List.cons_append, upd_upd, cwo_1, cwo_3, cwo_5, cwo_7, cwo_17, Bool.false_eq_true, n01, z80, hmo, d1, hge]
end DYC
