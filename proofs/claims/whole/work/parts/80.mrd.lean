/-! the reference reads -/
/-- registers of its reading -/
def mt (I : Nat → Int32) (n p : Nat) (e : Option Nat) : Nat → Int32 := upd (upd (upd (upd I 9 (nI n)) 10 (nI p)) 11 (fl e)) 3 (nI 0)
section MT
variable {I : Nat → Int32} {n p q : Nat} {e : Option Nat}
theorem mt_3 : mt I n p e 3 = nI 0 := pk_us
theorem mt_9 : mt I n p e 9 = nI n := by rw [mt, pk_un (by omega), pk_un (by omega), pk_un (by omega), pk_us]
theorem mt_10 : mt I n p e 10 = nI p := by rw [mt, pk_un (by omega), pk_un (by omega), pk_us]
theorem mt_11 : mt I n p e 11 = fl e := by rw [mt, pk_un (by omega), pk_us]
theorem mt_o {k : Nat} (h : k ≠ 3 ∧ k ≠ 9 ∧ k ≠ 10 ∧ k ≠ 11) : mt I n p e k = I k := by rw [mt, pk_un (by omega), pk_un (by omega), pk_un (by omega), pk_un (by omega)]
theorem mt_eq {I' : Nat → Int32} (h3 : I' 3 = nI 0) (h9 : I' 9 = nI n) (h10 : I' 10 = nI p) (h11 : I' 11 = fl e) (ho : ∀ k, k ≠ 3 ∧ k ≠ 9 ∧ k ≠ 10 ∧ k ≠ 11 → I' k = I k) : I' = mt I n p e := by
  funext k
  by_cases k1 : k = 3
  · subst k1; rw [h3, mt_3]
  · by_cases k2 : k = 9
    · subst k2; rw [h9, mt_9]
    · by_cases k3 : k = 10
      · subst k3; rw [h10, mt_10]
      · by_cases k4 : k = 11
        · subst k4; rw [h11, mt_11]
        · rw [ho k ⟨k1, k2, k3, k4⟩, mt_o ⟨k1, k2, k3, k4⟩]
theorem mt_p : upd (mt I n p e) 10 (nI q) = mt I n q e := mt_eq (by rw [pk_un (by omega), mt_3]) (by rw [pk_un (by omega), mt_9]) pk_us (by rw [pk_un (by omega), mt_11]) fun k hk => by rw [pk_un (by omega), mt_o hk]
theorem mt_e : upd (mt I n p e) 11 (nI q) = mt I n p (some q) := mt_eq (by rw [pk_un (by omega), mt_3]) (by rw [pk_un (by omega), mt_9]) (by rw [pk_un (by omega), mt_10]) pk_us fun k hk => by rw [pk_un (by omega), mt_o hk]
theorem mt_u {k : Nat} {x : Int32} (hk : k ≠ 3 ∧ k ≠ 9 ∧ k ≠ 10 ∧ k ≠ 11) : upd (mt I n p e) k x = mt (upd I k x) n p e := mt_eq (by rw [pk_un (by omega), mt_3]) (by rw [pk_un (by omega), mt_9]) (by rw [pk_un (by omega), mt_10]) (by rw [pk_un (by omega), mt_11]) fun j hj => by
  by_cases h : j = k
  · subst h; rw [pk_us, pk_us]
  · rw [pk_un h, pk_un h, mt_o hj]
end MT
/-- the text as the reference has it -/
def MB (A : Nat → Nat → Int32) (n : Nat) (B : Nat → Nat) : Prop := n ≤ 80 ∧ ∀ i, i < n → A 3 i = sx (B i) ∧ B i < 256
theorem sx_and {b : Nat} (h : b < 256) : sx b &&& nI 255 = nI b := by
  have key : ∀ b, b < 256 → sx b &&& nI 255 = nI b := by decide +kernel
  exact key b h
theorem sx_lo {b : Nat} (h : b < 128) : sx b = nI b := by
  have key : ∀ b, b < 128 → sx b = nI b := by decide +kernel
  exact key b h
/-- keys as they were read -/
def RD (N : Nat → Int32) (L : List Nat) : Prop := ∀ i, i < L.length → some (N (2 * i)) = (L[i]?).map nI
section MR
variable {σ : Hp} {m : Nat} {A : Nat → Nat → Int32} {R : Nat → Int64} {I : Nat → Int32} {n : Nat} {B : Nat → Nat} {p q : Nat} {e : Option Nat}
theorem M_begin (h : I 3 = nI n) : dcall 143 [.ref m] (mw σ m A R I) = some (none, mw σ m A R (mt I n 0 none)) := by
  have e : upd (upd (upd (upd I 9 (nI n)) 10 (nI 0)) 11 (-nI 1)) 3 (nI 0) = mt I n 0 none := rfl
  rw [q143]
  simp (disch := first | omega | exact tl_l | exact tT_len | (simp only [List.length_cons, List.length_nil])) only [e143_0, e143_1, e143_2, e143_5, e143_8, e143_9, e143_10, e143_13, e143_14, e143_15, e143_18, e143_19, e143_20, e143_23, kv_s, kh_s, kr_s, kr_v, kn_s, z0, z1, z2, nI_ltI, nI_leI, nI_eq, nI_add, oN, bz0, bz1, bw0, bw1, ltT, ltF, leT, leF, eqT, eqF, if_true, if_false, kI_n, wI_n, and_true, true_and, and_false, false_and, not_true, not_false_eq_true, mwo, mwr_0, mwr_1, mwr_2, mwg_3, mwp_3, mwr_4, mwg_5, mwp_5, mwg_6, mwp_6, mwr_7, mwr_8, mwg_9, mwp_9, mwg_10, mwp_10, mwg_11, mwp_11, mwr_12, mwg_13, mwp_13, mwr_14, mwr_15, mwr_16, mwr_17, mwr_18, mwr_19, mwg_20, mwp_20, mwr_21, mwr_22, mwr_23, mwa_1, mwu_1, mwa_2, mwu_2, mwa_3, mwu_3, mwa_4, mwu_4, mwa_5, mwu_5, mwa_6, mwu_6, mwa_7, mwu_7, mwa_8, mwu_8, mwa_9, mwu_9, mwa_10, mwu_10, mwa_11, mwu_11, mwa_12, mwu_12, mwa_13, mwu_13, mwa_14, mwu_14, mwa_15, mwu_15, mwa_16, mwu_16, vu_at, vu_ne, pk_us, pk_un, kB_n, wB_n, kL_n, wL_n, h, e]
theorem M_here (hB : MB A n B) (hp : p ≤ n) : dcall 146 [.ref m] (mw σ m A R (mt I n p e)) = some (some (.int (if p < n then nI (B p) else -nI 1)), mw σ m A R (mt I n p e)) := by
  have hn := hB.1
  by_cases h : p < n
  · obtain ⟨b1, b2⟩ := hB.2 p h
    have b3 := sx_and b2
    rw [if_pos h]
    rw [q146]
    simp (disch := first | omega | exact tl_l | exact tT_len | (simp only [List.length_cons, List.length_nil])) only [e146_0, e146_1, e146_4, e146_5, e146_8, e146_11, e146_12, e146_15, e146_16, e146_19, e146_20, e146_23, e146_24, e146_27, e146_28, kv_s, kh_s, kr_s, kr_v, kn_s, z0, z1, z2, nI_ltI, nI_leI, nI_eq, nI_add, oN, bz0, bz1, bw0, bw1, ltT, ltF, leT, leF, eqT, eqF, if_true, if_false, kI_n, wI_n, and_true, true_and, and_false, false_and, not_true, not_false_eq_true, mwo, mwr_0, mwr_1, mwr_2, mwg_3, mwp_3, mwr_4, mwg_5, mwp_5, mwg_6, mwp_6, mwr_7, mwr_8, mwg_9, mwp_9, mwg_10, mwp_10, mwg_11, mwp_11, mwr_12, mwg_13, mwp_13, mwr_14, mwr_15, mwr_16, mwr_17, mwr_18, mwr_19, mwg_20, mwp_20, mwr_21, mwr_22, mwr_23, mwa_1, mwu_1, mwa_2, mwu_2, mwa_3, mwu_3, mwa_4, mwu_4, mwa_5, mwu_5, mwa_6, mwu_6, mwa_7, mwu_7, mwa_8, mwu_8, mwa_9, mwu_9, mwa_10, mwu_10, mwa_11, mwu_11, mwa_12, mwu_12, mwa_13, mwu_13, mwa_14, mwu_14, mwa_15, mwu_15, mwa_16, mwu_16, vu_at, vu_ne, pk_us, pk_un, kB_n, wB_n, kL_n, wL_n, mt_9, mt_10, h, b1, z255, b3]
  · have h1 : n ≤ p := by omega
    rw [if_neg h]
    rw [q146]
    simp (disch := first | omega | exact tl_l | exact tT_len | (simp only [List.length_cons, List.length_nil])) only [e146_0, e146_1, e146_4, e146_5, e146_8, e146_11, e146_12, e146_15, e146_16, e146_19, e146_20, e146_23, e146_24, e146_27, e146_28, kv_s, kh_s, kr_s, kr_v, kn_s, z0, z1, z2, nI_ltI, nI_leI, nI_eq, nI_add, oN, bz0, bz1, bw0, bw1, ltT, ltF, leT, leF, eqT, eqF, if_true, if_false, kI_n, wI_n, and_true, true_and, and_false, false_and, not_true, not_false_eq_true, mwo, mwr_0, mwr_1, mwr_2, mwg_3, mwp_3, mwr_4, mwg_5, mwp_5, mwg_6, mwp_6, mwr_7, mwr_8, mwg_9, mwp_9, mwg_10, mwp_10, mwg_11, mwp_11, mwr_12, mwg_13, mwp_13, mwr_14, mwr_15, mwr_16, mwr_17, mwr_18, mwr_19, mwg_20, mwp_20, mwr_21, mwr_22, mwr_23, mwa_1, mwu_1, mwa_2, mwu_2, mwa_3, mwu_3, mwa_4, mwu_4, mwa_5, mwu_5, mwa_6, mwu_6, mwa_7, mwu_7, mwa_8, mwu_8, mwa_9, mwu_9, mwa_10, mwu_10, mwa_11, mwu_11, mwa_12, mwu_12, mwa_13, mwu_13, mwa_14, mwu_14, mwa_15, mwu_15, mwa_16, mwu_16, vu_at, vu_ne, pk_us, pk_un, kB_n, wB_n, kL_n, wL_n, mt_9, mt_10, h, h1]
theorem M_fine (he : ∀ r, e = some r → r ≤ 80) : dcall 145 [.ref m] (mw σ m A R (mt I n p e)) = some (some (.int (if e = none then nI 1 else nI 0)), mw σ m A R (mt I n p e)) := by
  cases e with
  | none =>
    rw [q145]
    simp (disch := first | omega | exact tl_l | exact tT_len | (simp only [List.length_cons, List.length_nil])) only [e145_0, e145_1, e145_4, e145_5, e145_8, e145_9, e145_12, e145_13, kv_s, kh_s, kr_s, kr_v, kn_s, z0, z1, z2, nI_ltI, nI_leI, nI_eq, nI_add, oN, bz0, bz1, bw0, bw1, ltT, ltF, leT, leF, eqT, eqF, if_true, if_false, kI_n, wI_n, and_true, true_and, and_false, false_and, not_true, not_false_eq_true, mwo, mwr_0, mwr_1, mwr_2, mwg_3, mwp_3, mwr_4, mwg_5, mwp_5, mwg_6, mwp_6, mwr_7, mwr_8, mwg_9, mwp_9, mwg_10, mwp_10, mwg_11, mwp_11, mwr_12, mwg_13, mwp_13, mwr_14, mwr_15, mwr_16, mwr_17, mwr_18, mwr_19, mwg_20, mwp_20, mwr_21, mwr_22, mwr_23, mwa_1, mwu_1, mwa_2, mwu_2, mwa_3, mwu_3, mwa_4, mwu_4, mwa_5, mwu_5, mwa_6, mwu_6, mwa_7, mwu_7, mwa_8, mwu_8, mwa_9, mwu_9, mwa_10, mwu_10, mwa_11, mwu_11, mwa_12, mwu_12, mwa_13, mwu_13, mwa_14, mwu_14, mwa_15, mwu_15, mwa_16, mwu_16, vu_at, vu_ne, pk_us, pk_un, kB_n, wB_n, kL_n, wL_n, mt_11, fl, n1_n1]
  | some r =>
    have := he r rfl
    have h1 : (some r = none) = False := eq_false (by intro z; cases z)
    rw [q145]
    simp (disch := first | omega | exact tl_l | exact tT_len | (simp only [List.length_cons, List.length_nil])) only [e145_0, e145_1, e145_4, e145_5, e145_8, e145_9, e145_12, e145_13, kv_s, kh_s, kr_s, kr_v, kn_s, z0, z1, z2, nI_ltI, nI_leI, nI_eq, nI_add, oN, bz0, bz1, bw0, bw1, ltT, ltF, leT, leF, eqT, eqF, if_true, if_false, kI_n, wI_n, and_true, true_and, and_false, false_and, not_true, not_false_eq_true, mwo, mwr_0, mwr_1, mwr_2, mwg_3, mwp_3, mwr_4, mwg_5, mwp_5, mwg_6, mwp_6, mwr_7, mwr_8, mwg_9, mwp_9, mwg_10, mwp_10, mwg_11, mwp_11, mwr_12, mwg_13, mwp_13, mwr_14, mwr_15, mwr_16, mwr_17, mwr_18, mwr_19, mwg_20, mwp_20, mwr_21, mwr_22, mwr_23, mwa_1, mwu_1, mwa_2, mwu_2, mwa_3, mwu_3, mwa_4, mwu_4, mwa_5, mwu_5, mwa_6, mwu_6, mwa_7, mwu_7, mwa_8, mwu_8, mwa_9, mwu_9, mwa_10, mwu_10, mwa_11, mwu_11, mwa_12, mwu_12, mwa_13, mwu_13, mwa_14, mwu_14, mwa_15, mwu_15, mwa_16, mwu_16, vu_at, vu_ne, pk_us, pk_un, kB_n, wB_n, kL_n, wL_n, mt_11, fl, nI_n1, h1]
theorem M_fine0 : dcall 145 [.ref m] (mw σ m A R (mt I n p none)) = some (some (.int (nI 1)), mw σ m A R (mt I n p none)) := by
  rw [M_fine (fun r z => by cases z), if_pos rfl]
theorem M_fine1 (hq : q ≤ 80) : dcall 145 [.ref m] (mw σ m A R (mt I n p (some q))) = some (some (.int (nI 0)), mw σ m A R (mt I n p (some q))) := by
  rw [M_fine (fun r z => by cases z; exact hq), if_neg (fun z => by cases z)]
theorem M_fault0 : dcall 147 [.ref m, .int (nI q)] (mw σ m A R (mt I n p none)) = some (none, mw σ m A R (mt I n p (some q))) := by
  rw [q147]
  simp (disch := first | omega | exact tl_l | exact tT_len | (simp only [List.length_cons, List.length_nil])) only [e147_0, e147_1, e147_4, e147_7, e147_8, e147_9, e147_12, kv_s, kh_s, kr_s, kr_v, kn_s, z0, z1, z2, nI_ltI, nI_leI, nI_eq, nI_add, oN, bz0, bz1, bw0, bw1, ltT, ltF, leT, leF, eqT, eqF, if_true, if_false, kI_n, wI_n, and_true, true_and, and_false, false_and, not_true, not_false_eq_true, mwo, mwr_0, mwr_1, mwr_2, mwg_3, mwp_3, mwr_4, mwg_5, mwp_5, mwg_6, mwp_6, mwr_7, mwr_8, mwg_9, mwp_9, mwg_10, mwp_10, mwg_11, mwp_11, mwr_12, mwg_13, mwp_13, mwr_14, mwr_15, mwr_16, mwr_17, mwr_18, mwr_19, mwg_20, mwp_20, mwr_21, mwr_22, mwr_23, mwa_1, mwu_1, mwa_2, mwu_2, mwa_3, mwu_3, mwa_4, mwu_4, mwa_5, mwu_5, mwa_6, mwu_6, mwa_7, mwu_7, mwa_8, mwu_8, mwa_9, mwu_9, mwa_10, mwu_10, mwa_11, mwu_11, mwa_12, mwu_12, mwa_13, mwu_13, mwa_14, mwu_14, mwa_15, mwu_15, mwa_16, mwu_16, vu_at, vu_ne, pk_us, pk_un, kB_n, wB_n, kL_n, wL_n, mwo, M_fine0, n01, mt_e]
theorem M_fault1 {x : Int32} (hq : q ≤ 80) : dcall 147 [.ref m, .int x] (mw σ m A R (mt I n p (some q))) = some (none, mw σ m A R (mt I n p (some q))) := by
  rw [q147]
  simp (disch := first | omega | exact tl_l | exact tT_len | (simp only [List.length_cons, List.length_nil])) only [e147_0, e147_1, e147_4, e147_7, e147_8, e147_9, e147_12, kv_s, kh_s, kr_s, kr_v, kn_s, z0, z1, z2, nI_ltI, nI_leI, nI_eq, nI_add, oN, bz0, bz1, bw0, bw1, ltT, ltF, leT, leF, eqT, eqF, if_true, if_false, kI_n, wI_n, and_true, true_and, and_false, false_and, not_true, not_false_eq_true, mwo, mwr_0, mwr_1, mwr_2, mwg_3, mwp_3, mwr_4, mwg_5, mwp_5, mwg_6, mwp_6, mwr_7, mwr_8, mwg_9, mwp_9, mwg_10, mwp_10, mwg_11, mwp_11, mwr_12, mwg_13, mwp_13, mwr_14, mwr_15, mwr_16, mwr_17, mwr_18, mwr_19, mwg_20, mwp_20, mwr_21, mwr_22, mwr_23, mwa_1, mwu_1, mwa_2, mwu_2, mwa_3, mwu_3, mwa_4, mwu_4, mwa_5, mwu_5, mwa_6, mwu_6, mwa_7, mwu_7, mwa_8, mwu_8, mwa_9, mwu_9, mwa_10, mwu_10, mwa_11, mwu_11, mwa_12, mwu_12, mwa_13, mwu_13, mwa_14, mwu_14, mwa_15, mwu_15, mwa_16, mwu_16, vu_at, vu_ne, pk_us, pk_un, kB_n, wB_n, kL_n, wL_n, mwo, M_fine1 hq]
theorem M_oneOf1 (hq : q ≤ 80) {x y : Int32} : dcall 144 [.ref m, .int x, .int y] (mw σ m A R (mt I n p (some q))) = some (some (.int (nI 0)), mw σ m A R (mt I n p (some q))) := by
  rw [q144]
  simp (disch := first | omega | exact tl_l | exact tT_len | (simp only [List.length_cons, List.length_nil])) only [e144_0, e144_1, e144_4, e144_7, e144_8, e144_9, e144_10, e144_13, e144_14, e144_15, e144_16, e144_17, e144_18, e144_19, e144_22, e144_25, e144_26, e144_27, e144_30, e144_33, e144_34, e144_35, e144_36, e144_37, e144_40, e144_41, e144_42, e144_45, e144_46, e144_49, e144_50, e144_53, e144_54, e144_55, e144_56, e144_57, e144_58, kv_s, kh_s, kr_s, kr_v, kn_s, z0, z1, z2, nI_ltI, nI_leI, nI_eq, nI_add, oN, bz0, bz1, bw0, bw1, ltT, ltF, leT, leF, eqT, eqF, if_true, if_false, kI_n, wI_n, and_true, true_and, and_false, false_and, not_true, not_false_eq_true, mwo, mwr_0, mwr_1, mwr_2, mwg_3, mwp_3, mwr_4, mwg_5, mwp_5, mwg_6, mwp_6, mwr_7, mwr_8, mwg_9, mwp_9, mwg_10, mwp_10, mwg_11, mwp_11, mwr_12, mwg_13, mwp_13, mwr_14, mwr_15, mwr_16, mwr_17, mwr_18, mwr_19, mwg_20, mwp_20, mwr_21, mwr_22, mwr_23, mwa_1, mwu_1, mwa_2, mwu_2, mwa_3, mwu_3, mwa_4, mwu_4, mwa_5, mwu_5, mwa_6, mwu_6, mwa_7, mwu_7, mwa_8, mwu_8, mwa_9, mwu_9, mwa_10, mwu_10, mwa_11, mwu_11, mwa_12, mwu_12, mwa_13, mwu_13, mwa_14, mwu_14, mwa_15, mwu_15, mwa_16, mwu_16, vu_at, vu_ne, pk_us, pk_un, kB_n, wB_n, kL_n, wL_n, mwo, M_fine1 hq]
theorem M_oneOf0 (hB : MB A n B) (hp : p ≤ n) {s k : Nat} (hk : 1 ≤ k) (hs : s + k ≤ 128) : dcall 144 [.ref m, .int (nI s), .int (nI k)] (mw σ m A R (mt I n p none)) = if p < n ∧ s ≤ B p ∧ B p < s + k then some (some (.int (nI (B p - s))), mw σ m A R (mt I n (p + 1) none)) else some (some (.int (nI 0)), mw σ m A R (mt I n p (some p))) := by
  have hn := hB.1
  by_cases h : p < n
  · obtain ⟨b1, b2⟩ := hB.2 p h
    by_cases h2 : s ≤ B p ∧ B p < s + k
    · rw [if_pos ⟨h, h2⟩]
      have e1 : nI (s + k) - nI 1 = nI (s + k - 1) := pk_sub (by omega)
      have e2 : nI (p + 1) - nI 1 = nI p := pk_sub (by omega)
      have b3 := sx_lo (show B p < 128 by omega)
      have e3 : nI (B p) - nI s = nI (B p - s) := pk_sub (by omega)
      have hin := M_in1 (σ := mw σ m A R (mt I n p none)) (a := s) (b := B p) (c := s + k - 1) h2.1 (by omega) (by omega)
      rw [q144]
      simp (disch := first | omega | exact tl_l | exact tT_len | (simp only [List.length_cons, List.length_nil])) only [e144_0, e144_1, e144_4, e144_7, e144_8, e144_9, e144_10, e144_13, e144_14, e144_15, e144_16, e144_17, e144_18, e144_19, e144_22, e144_25, e144_26, e144_27, e144_30, e144_33, e144_34, e144_35, e144_36, e144_37, e144_40, e144_41, e144_42, e144_45, e144_46, e144_49, e144_50, e144_53, e144_54, e144_55, e144_56, e144_57, e144_58, kv_s, kh_s, kr_s, kr_v, kn_s, z0, z1, z2, nI_ltI, nI_leI, nI_eq, nI_add, oN, bz0, bz1, bw0, bw1, ltT, ltF, leT, leF, eqT, eqF, if_true, if_false, kI_n, wI_n, and_true, true_and, and_false, false_and, not_true, not_false_eq_true, mwo, mwr_0, mwr_1, mwr_2, mwg_3, mwp_3, mwr_4, mwg_5, mwp_5, mwg_6, mwp_6, mwr_7, mwr_8, mwg_9, mwp_9, mwg_10, mwp_10, mwg_11, mwp_11, mwr_12, mwg_13, mwp_13, mwr_14, mwr_15, mwr_16, mwr_17, mwr_18, mwr_19, mwg_20, mwp_20, mwr_21, mwr_22, mwr_23, mwa_1, mwu_1, mwa_2, mwu_2, mwa_3, mwu_3, mwa_4, mwu_4, mwa_5, mwu_5, mwa_6, mwu_6, mwa_7, mwu_7, mwa_8, mwu_8, mwa_9, mwu_9, mwa_10, mwu_10, mwa_11, mwu_11, mwa_12, mwu_12, mwa_13, mwu_13, mwa_14, mwu_14, mwa_15, mwu_15, mwa_16, mwu_16, vu_at, vu_ne, pk_us, pk_un, kB_n, wB_n, kL_n, wL_n, M_fine0, n01, M_here hB hp, h, e1, hin, mt_10, mt_p, e2, b1, b3, e3]
    · rw [if_neg (fun z => h2 z.2)]
      have e1 : nI (s + k) - nI 1 = nI (s + k - 1) := pk_sub (by omega)
      have hin := M_in0 (σ := mw σ m A R (mt I n p none)) (x := nI (B p)) (y := nI s) (z := nI (s + k - 1)) (by
        rcases Nat.lt_or_ge (B p) s with z | z
        · exact Or.inl ((nI_ltI (by omega) (by omega)).mpr z)
        · exact Or.inr ((nI_ltI (by omega) (by omega)).mpr (by omega)))
      rw [q144]
      simp (disch := first | omega | exact tl_l | exact tT_len | (simp only [List.length_cons, List.length_nil])) only [e144_0, e144_1, e144_4, e144_7, e144_8, e144_9, e144_10, e144_13, e144_14, e144_15, e144_16, e144_17, e144_18, e144_19, e144_22, e144_25, e144_26, e144_27, e144_30, e144_33, e144_34, e144_35, e144_36, e144_37, e144_40, e144_41, e144_42, e144_45, e144_46, e144_49, e144_50, e144_53, e144_54, e144_55, e144_56, e144_57, e144_58, kv_s, kh_s, kr_s, kr_v, kn_s, z0, z1, z2, nI_ltI, nI_leI, nI_eq, nI_add, oN, bz0, bz1, bw0, bw1, ltT, ltF, leT, leF, eqT, eqF, if_true, if_false, kI_n, wI_n, and_true, true_and, and_false, false_and, not_true, not_false_eq_true, mwo, mwr_0, mwr_1, mwr_2, mwg_3, mwp_3, mwr_4, mwg_5, mwp_5, mwg_6, mwp_6, mwr_7, mwr_8, mwg_9, mwp_9, mwg_10, mwp_10, mwg_11, mwp_11, mwr_12, mwg_13, mwp_13, mwr_14, mwr_15, mwr_16, mwr_17, mwr_18, mwr_19, mwg_20, mwp_20, mwr_21, mwr_22, mwr_23, mwa_1, mwu_1, mwa_2, mwu_2, mwa_3, mwu_3, mwa_4, mwu_4, mwa_5, mwu_5, mwa_6, mwu_6, mwa_7, mwu_7, mwa_8, mwu_8, mwa_9, mwu_9, mwa_10, mwu_10, mwa_11, mwu_11, mwa_12, mwu_12, mwa_13, mwu_13, mwa_14, mwu_14, mwa_15, mwu_15, mwa_16, mwu_16, vu_at, vu_ne, pk_us, pk_un, kB_n, wB_n, kL_n, wL_n, M_fine0, n01, M_here hB hp, h, e1, hin, mt_10, M_fault0]
  · rw [if_neg (fun z => h z.1)]
    have e1 : nI (s + k) - nI 1 = nI (s + k - 1) := pk_sub (by omega)
    have hin := M_in0 (σ := mw σ m A R (mt I n p none)) (x := -nI 1) (y := nI s) (z := nI (s + k - 1)) (Or.inl (by rw [n1_lt (by omega)]; trivial))
    rw [q144]
    simp (disch := first | omega | exact tl_l | exact tT_len | (simp only [List.length_cons, List.length_nil])) only [e144_0, e144_1, e144_4, e144_7, e144_8, e144_9, e144_10, e144_13, e144_14, e144_15, e144_16, e144_17, e144_18, e144_19, e144_22, e144_25, e144_26, e144_27, e144_30, e144_33, e144_34, e144_35, e144_36, e144_37, e144_40, e144_41, e144_42, e144_45, e144_46, e144_49, e144_50, e144_53, e144_54, e144_55, e144_56, e144_57, e144_58, kv_s, kh_s, kr_s, kr_v, kn_s, z0, z1, z2, nI_ltI, nI_leI, nI_eq, nI_add, oN, bz0, bz1, bw0, bw1, ltT, ltF, leT, leF, eqT, eqF, if_true, if_false, kI_n, wI_n, and_true, true_and, and_false, false_and, not_true, not_false_eq_true, mwo, mwr_0, mwr_1, mwr_2, mwg_3, mwp_3, mwr_4, mwg_5, mwp_5, mwg_6, mwp_6, mwr_7, mwr_8, mwg_9, mwp_9, mwg_10, mwp_10, mwg_11, mwp_11, mwr_12, mwg_13, mwp_13, mwr_14, mwr_15, mwr_16, mwr_17, mwr_18, mwr_19, mwg_20, mwp_20, mwr_21, mwr_22, mwr_23, mwa_1, mwu_1, mwa_2, mwu_2, mwa_3, mwu_3, mwa_4, mwu_4, mwa_5, mwu_5, mwa_6, mwu_6, mwa_7, mwu_7, mwa_8, mwu_8, mwa_9, mwu_9, mwa_10, mwu_10, mwa_11, mwu_11, mwa_12, mwu_12, mwa_13, mwu_13, mwa_14, mwu_14, mwa_15, mwu_15, mwa_16, mwu_16, vu_at, vu_ne, pk_us, pk_un, kB_n, wB_n, kL_n, wL_n, M_fine0, n01, M_here hB hp, h, e1, hin, mt_10, M_fault0]
theorem dg_c : (∃ x, dg n B p = some x ∧ p < n ∧ 48 ≤ B p ∧ B p < 58 ∧ x = B p - 48) ∨ (dg n B p = none ∧ ¬ (p < n ∧ 48 ≤ B p ∧ B p < 58)) := by
  unfold dg
  by_cases h : p < n ∧ 48 ≤ B p ∧ B p ≤ 57
  · rw [if_pos h]; exact Or.inl ⟨_, rfl, h.1, h.2.1, by omega, rfl⟩
  · rw [if_neg h]; exact Or.inr ⟨rfl, fun z => h ⟨z.1, z.2.1, by omega⟩⟩
/-- is a digit here? -/
theorem M_dig (hB : MB A n B) (hp : p ≤ n) : (∃ y, dcall 146 [.ref m] (mw σ m A R (mt I n p none)) = some (some (.int y), mw σ m A R (mt I n p none)) ∧ dcall 141 [.int y, .int (nI 48), .int (nI 57)] (mw σ m A R (mt I n p none)) = some (some (.int (if (dg n B p).isSome = true then nI 1 else nI 0)), mw σ m A R (mt I n p none))) := by
  have hn := hB.1
  refine ⟨_, M_here hB hp, ?_⟩
  rcases dg_c (n := n) (B := B) (p := p) with ⟨x, e1, e2, e3, e4, e5⟩ | ⟨e1, e2⟩
  · rw [if_pos e2, e1, if_pos (show (some x).isSome = true from rfl)]
    exact M_in1 e3 (by omega) (by omega)
  · rw [e1, if_neg (show ¬ (none : Option Nat).isSome = true from fun z => by cases z)]
    by_cases h : p < n
    · obtain ⟨b1, b2⟩ := hB.2 p h
      rw [if_pos h]
      refine M_in0 ?_
      rcases Nat.lt_or_ge (B p) 48 with z | z
      · exact Or.inl ((nI_ltI (by omega) (by omega)).mpr z)
      · exact Or.inr ((nI_ltI (by omega) (by omega)).mpr (by omega))
    · rw [if_neg h]
      exact M_in0 (Or.inl (by rw [n1_lt (by omega)]; trivial))
theorem M_number_loop (hB : MB A n B) : ∀ (k j p v : Nat), j + k = 3 → p ≤ n → (∃ x p', (dg n B (dgs n B k p v).2).isSome = true ∧ p' ≤ n ∧ den 150 11 [.ref m, .int (nI v), .int (nI j)] [] (mw σ m A R (mt I n p none)) = some (some (.int x), mw σ m A R (mt I n p' (some (dgs n B k p v).2)))) ∨ ((dg n B (dgs n B k p v).2).isSome = false ∧ den 150 11 [.ref m, .int (nI v), .int (nI j)] [] (mw σ m A R (mt I n p none)) = some (some (.int (nI (dgs n B k p v).1)), mw σ m A R (mt I n (dgs n B k p v).2 none))) := by
  have hn := hB.1
  intro k
  induction k with
  | zero =>
    intro j p v hj hp
    have : j = 3 := by omega
    subst this
    obtain ⟨y, y1, y2⟩ := M_dig (σ := σ) (m := m) (R := R) (I := I) hB hp
    rw [dgs]
    cases hd : dg n B p with
    | none =>
      rw [hd] at y2
      right
      refine ⟨rfl, ?_⟩
      have y2' : dcall 141 [.int y, .int (nI 48), .int (nI 57)] (mw σ m A R (mt I n p none)) = some (some (.int (nI 0)), mw σ m A R (mt I n p none)) := y2
      rw [e150_11]
      simp (disch := first | omega | exact tl_l | exact tT_len | (simp only [List.length_cons, List.length_nil])) only [e150_0, e150_1, e150_3, e150_5, e150_8, e150_9, e150_10, e150_12, e150_15, e150_18, e150_19, e150_22, e150_24, e150_26, e150_29, e150_32, e150_33, e150_34, e150_37, e150_38, e150_39, e150_42, e150_45, e150_47, e150_48, e150_49, e150_50, e150_52, e150_54, e150_57, e150_58, e150_59, e150_62, e150_65, e150_66, kv_s, kh_s, kr_s, kr_v, kn_s, z0, z1, z2, nI_ltI, nI_leI, nI_eq, nI_add, oN, bz0, bz1, bw0, bw1, ltT, ltF, leT, leF, eqT, eqF, if_true, if_false, kI_n, wI_n, and_true, true_and, and_false, false_and, not_true, not_false_eq_true, mwo, mwr_0, mwr_1, mwr_2, mwg_3, mwp_3, mwr_4, mwg_5, mwp_5, mwg_6, mwp_6, mwr_7, mwr_8, mwg_9, mwp_9, mwg_10, mwp_10, mwg_11, mwp_11, mwr_12, mwg_13, mwp_13, mwr_14, mwr_15, mwr_16, mwr_17, mwr_18, mwr_19, mwg_20, mwp_20, mwr_21, mwr_22, mwr_23, mwa_1, mwu_1, mwa_2, mwu_2, mwa_3, mwu_3, mwa_4, mwu_4, mwa_5, mwu_5, mwa_6, mwu_6, mwa_7, mwu_7, mwa_8, mwu_8, mwa_9, mwu_9, mwa_10, mwu_10, mwa_11, mwu_11, mwa_12, mwu_12, mwa_13, mwu_13, mwa_14, mwu_14, mwa_15, mwu_15, mwa_16, mwu_16, vu_at, vu_ne, pk_us, pk_un, kB_n, wB_n, kL_n, wL_n, mwo, M_fine0, n01, z48, z57, y1, y2']
    | some x =>
      rw [hd] at y2
      left
      have y2' : dcall 141 [.int y, .int (nI 48), .int (nI 57)] (mw σ m A R (mt I n p none)) = some (some (.int (nI 1)), mw σ m A R (mt I n p none)) := y2
      refine ⟨nI (10 * v + 0), p, rfl, hp, ?_⟩
      have f1 := M_fine1 (σ := σ) (m := m) (A := A) (R := R) (I := I) (n := n) (p := p) (q := p) (by omega)
      have f2 := M_oneOf1 (σ := σ) (m := m) (A := A) (R := R) (I := I) (n := n) (p := p) (q := p) (by omega) (x := nI 48) (y := nI 10)
      rw [e150_11]
      simp (disch := first | omega | exact tl_l | exact tT_len | (simp only [List.length_cons, List.length_nil])) only [e150_0, e150_1, e150_3, e150_5, e150_8, e150_9, e150_10, e150_12, e150_15, e150_18, e150_19, e150_22, e150_24, e150_26, e150_29, e150_32, e150_33, e150_34, e150_37, e150_38, e150_39, e150_42, e150_45, e150_47, e150_48, e150_49, e150_50, e150_52, e150_54, e150_57, e150_58, e150_59, e150_62, e150_65, e150_66, kv_s, kh_s, kr_s, kr_v, kn_s, z0, z1, z2, nI_ltI, nI_leI, nI_eq, nI_add, oN, bz0, bz1, bw0, bw1, ltT, ltF, leT, leF, eqT, eqF, if_true, if_false, kI_n, wI_n, and_true, true_and, and_false, false_and, not_true, not_false_eq_true, mwo, mwr_0, mwr_1, mwr_2, mwg_3, mwp_3, mwr_4, mwg_5, mwp_5, mwg_6, mwp_6, mwr_7, mwr_8, mwg_9, mwp_9, mwg_10, mwp_10, mwg_11, mwp_11, mwr_12, mwg_13, mwp_13, mwr_14, mwr_15, mwr_16, mwr_17, mwr_18, mwr_19, mwg_20, mwp_20, mwr_21, mwr_22, mwr_23, mwa_1, mwu_1, mwa_2, mwu_2, mwa_3, mwu_3, mwa_4, mwu_4, mwa_5, mwu_5, mwa_6, mwu_6, mwa_7, mwu_7, mwa_8, mwu_8, mwa_9, mwu_9, mwa_10, mwu_10, mwa_11, mwu_11, mwa_12, mwu_12, mwa_13, mwu_13, mwa_14, mwu_14, mwa_15, mwu_15, mwa_16, mwu_16, vu_at, vu_ne, pk_us, pk_un, kB_n, wB_n, kL_n, wL_n, mwo, M_fine0, n01, z48, z57, z3, z10, y1, y2', mt_10, M_fault0, pk_mul, f2]
      rw [e150_11]
      simp (disch := first | omega | exact tl_l | exact tT_len | (simp only [List.length_cons, List.length_nil])) only [e150_0, e150_1, e150_3, e150_5, e150_8, e150_9, e150_10, e150_12, e150_15, e150_18, e150_19, e150_22, e150_24, e150_26, e150_29, e150_32, e150_33, e150_34, e150_37, e150_38, e150_39, e150_42, e150_45, e150_47, e150_48, e150_49, e150_50, e150_52, e150_54, e150_57, e150_58, e150_59, e150_62, e150_65, e150_66, kv_s, kh_s, kr_s, kr_v, kn_s, z0, z1, z2, nI_ltI, nI_leI, nI_eq, nI_add, oN, bz0, bz1, bw0, bw1, ltT, ltF, leT, leF, eqT, eqF, if_true, if_false, kI_n, wI_n, and_true, true_and, and_false, false_and, not_true, not_false_eq_true, mwo, mwr_0, mwr_1, mwr_2, mwg_3, mwp_3, mwr_4, mwg_5, mwp_5, mwg_6, mwp_6, mwr_7, mwr_8, mwg_9, mwp_9, mwg_10, mwp_10, mwg_11, mwp_11, mwr_12, mwg_13, mwp_13, mwr_14, mwr_15, mwr_16, mwr_17, mwr_18, mwr_19, mwg_20, mwp_20, mwr_21, mwr_22, mwr_23, mwa_1, mwu_1, mwa_2, mwu_2, mwa_3, mwu_3, mwa_4, mwu_4, mwa_5, mwu_5, mwa_6, mwu_6, mwa_7, mwu_7, mwa_8, mwu_8, mwa_9, mwu_9, mwa_10, mwu_10, mwa_11, mwu_11, mwa_12, mwu_12, mwa_13, mwu_13, mwa_14, mwu_14, mwa_15, mwu_15, mwa_16, mwu_16, vu_at, vu_ne, pk_us, pk_un, kB_n, wB_n, kL_n, wL_n, mwo, f1]
  | succ k ih =>
    intro j p v hj hp
    obtain ⟨y, y1, y2⟩ := M_dig (σ := σ) (m := m) (R := R) (I := I) hB hp
    rw [dgs]
    rcases dg_c (n := n) (B := B) (p := p) with ⟨x, e1, e2, e3, e4, e5⟩ | ⟨e1, e2⟩
    · rw [e1] at y2 ⊢
      have y2' : dcall 141 [.int y, .int (nI 48), .int (nI 57)] (mw σ m A R (mt I n p none)) = some (some (.int (nI 1)), mw σ m A R (mt I n p none)) := y2
      have ho := M_oneOf0 (σ := σ) (m := m) (R := R) (I := I) hB hp (s := 48) (k := 10) (by omega) (by omega)
      rw [if_pos ⟨e2, e3, by omega⟩, ← e5] at ho
      have hj3 : ¬ j = 3 := by omega
      have e : den 150 11 [.ref m, .int (nI v), .int (nI j)] [] (mw σ m A R (mt I n p none)) = den 150 11 [.ref m, .int (nI (10 * v + x)), .int (nI (j + 1))] [] (mw σ m A R (mt I n (p + 1) none)) := by
        rw [e150_11]
        simp (disch := first | omega | exact tl_l | exact tT_len | (simp only [List.length_cons, List.length_nil])) only [e150_0, e150_1, e150_3, e150_5, e150_8, e150_9, e150_10, e150_12, e150_15, e150_18, e150_19, e150_22, e150_24, e150_26, e150_29, e150_32, e150_33, e150_34, e150_37, e150_38, e150_39, e150_42, e150_45, e150_47, e150_48, e150_49, e150_50, e150_52, e150_54, e150_57, e150_58, e150_59, e150_62, e150_65, e150_66, kv_s, kh_s, kr_s, kr_v, kn_s, z0, z1, z2, nI_ltI, nI_leI, nI_eq, nI_add, oN, bz0, bz1, bw0, bw1, ltT, ltF, leT, leF, eqT, eqF, if_true, if_false, kI_n, wI_n, and_true, true_and, and_false, false_and, not_true, not_false_eq_true, mwo, mwr_0, mwr_1, mwr_2, mwg_3, mwp_3, mwr_4, mwg_5, mwp_5, mwg_6, mwp_6, mwr_7, mwr_8, mwg_9, mwp_9, mwg_10, mwp_10, mwg_11, mwp_11, mwr_12, mwg_13, mwp_13, mwr_14, mwr_15, mwr_16, mwr_17, mwr_18, mwr_19, mwg_20, mwp_20, mwr_21, mwr_22, mwr_23, mwa_1, mwu_1, mwa_2, mwu_2, mwa_3, mwu_3, mwa_4, mwu_4, mwa_5, mwu_5, mwa_6, mwu_6, mwa_7, mwu_7, mwa_8, mwu_8, mwa_9, mwu_9, mwa_10, mwu_10, mwa_11, mwu_11, mwa_12, mwu_12, mwa_13, mwu_13, mwa_14, mwu_14, mwa_15, mwu_15, mwa_16, mwu_16, vu_at, vu_ne, pk_us, pk_un, kB_n, wB_n, kL_n, wL_n, mwo, M_fine0, n01, z48, z57, z3, z10, y1, y2', hj3, pk_mul, ho]
      rw [e]
      exact ih (j + 1) (p + 1) (10 * v + x) (by omega) (by omega)
    · rw [e1] at y2 ⊢
      right
      have y2' : dcall 141 [.int y, .int (nI 48), .int (nI 57)] (mw σ m A R (mt I n p none)) = some (some (.int (nI 0)), mw σ m A R (mt I n p none)) := y2
      refine ⟨by show (dg n B p).isSome = false; rw [e1]; rfl, ?_⟩
      rw [e150_11]
      simp (disch := first | omega | exact tl_l | exact tT_len | (simp only [List.length_cons, List.length_nil])) only [e150_0, e150_1, e150_3, e150_5, e150_8, e150_9, e150_10, e150_12, e150_15, e150_18, e150_19, e150_22, e150_24, e150_26, e150_29, e150_32, e150_33, e150_34, e150_37, e150_38, e150_39, e150_42, e150_45, e150_47, e150_48, e150_49, e150_50, e150_52, e150_54, e150_57, e150_58, e150_59, e150_62, e150_65, e150_66, kv_s, kh_s, kr_s, kr_v, kn_s, z0, z1, z2, nI_ltI, nI_leI, nI_eq, nI_add, oN, bz0, bz1, bw0, bw1, ltT, ltF, leT, leF, eqT, eqF, if_true, if_false, kI_n, wI_n, and_true, true_and, and_false, false_and, not_true, not_false_eq_true, mwo, mwr_0, mwr_1, mwr_2, mwg_3, mwp_3, mwr_4, mwg_5, mwp_5, mwg_6, mwp_6, mwr_7, mwr_8, mwg_9, mwp_9, mwg_10, mwp_10, mwg_11, mwp_11, mwr_12, mwg_13, mwp_13, mwr_14, mwr_15, mwr_16, mwr_17, mwr_18, mwr_19, mwg_20, mwp_20, mwr_21, mwr_22, mwr_23, mwa_1, mwu_1, mwa_2, mwu_2, mwa_3, mwu_3, mwa_4, mwu_4, mwa_5, mwu_5, mwa_6, mwu_6, mwa_7, mwu_7, mwa_8, mwu_8, mwa_9, mwu_9, mwa_10, mwu_10, mwa_11, mwu_11, mwa_12, mwu_12, mwa_13, mwu_13, mwa_14, mwu_14, mwa_15, mwu_15, mwa_16, mwu_16, vu_at, vu_ne, pk_us, pk_un, kB_n, wB_n, kL_n, wL_n, mwo, M_fine0, n01, z48, z57, y1, y2']
/-- a number read -/
theorem M_number (hB : MB A n B) (hp : p ≤ n) : (∀ q, nm n B 3 p = .inl q → ∃ x p', p' ≤ n ∧ dcall 150 [.ref m] (mw σ m A R (mt I n p none)) = some (some (.int x), mw σ m A R (mt I n p' (some q)))) ∧ ∀ r, nm n B 3 p = .inr r → dcall 150 [.ref m] (mw σ m A R (mt I n p none)) = some (some (.int (nI r.1)), mw σ m A R (mt I n r.2 none)) := by
  have hn := hB.1
  have ho := M_oneOf0 (σ := σ) (m := m) (R := R) (I := I) hB hp (s := 48) (k := 10) (by omega) (by omega)
  unfold nm bad
  rcases dg_c (n := n) (B := B) (p := p) with ⟨x, e1, e2, e3, e4, e5⟩ | ⟨e1, e2⟩
  · have ed : dgs n B 3 p 0 = dgs n B 2 (p + 1) x := by
      rw [dgs, e1]
      show dgs n B 2 (p + 1) (10 * 0 + x) = _
      rw [Nat.mul_zero, Nat.zero_add]
    rw [if_pos ⟨e2, e3, by omega⟩, ← e5] at ho
    obtain ⟨g1, g2, g3⟩ := dgs_bd (n := n) (B := B) 2 (p + 1) x (by omega)
    have hne : ¬ (dgs n B 2 (p + 1) x).2 = p := by omega
    have e : dcall 150 [.ref m] (mw σ m A R (mt I n p none)) = den 150 11 [.ref m, .int (nI x), .int (nI 1)] [] (mw σ m A R (mt I n (p + 1) none)) := by
      rw [q150]
      simp (disch := first | omega | exact tl_l | exact tT_len | (simp only [List.length_cons, List.length_nil])) only [e150_0, e150_1, e150_3, e150_5, e150_8, e150_9, e150_10, e150_12, e150_15, e150_18, e150_19, e150_22, e150_24, e150_26, e150_29, e150_32, e150_33, e150_34, e150_37, e150_38, e150_39, e150_42, e150_45, e150_47, e150_48, e150_49, e150_50, e150_52, e150_54, e150_57, e150_58, e150_59, e150_62, e150_65, e150_66, kv_s, kh_s, kr_s, kr_v, kn_s, z0, z1, z2, nI_ltI, nI_leI, nI_eq, nI_add, oN, bz0, bz1, bw0, bw1, ltT, ltF, leT, leF, eqT, eqF, if_true, if_false, kI_n, wI_n, and_true, true_and, and_false, false_and, not_true, not_false_eq_true, mwo, mwr_0, mwr_1, mwr_2, mwg_3, mwp_3, mwr_4, mwg_5, mwp_5, mwg_6, mwp_6, mwr_7, mwr_8, mwg_9, mwp_9, mwg_10, mwp_10, mwg_11, mwp_11, mwr_12, mwg_13, mwp_13, mwr_14, mwr_15, mwr_16, mwr_17, mwr_18, mwr_19, mwg_20, mwp_20, mwr_21, mwr_22, mwr_23, mwa_1, mwu_1, mwa_2, mwu_2, mwa_3, mwu_3, mwa_4, mwu_4, mwa_5, mwu_5, mwa_6, mwu_6, mwa_7, mwu_7, mwa_8, mwu_8, mwa_9, mwu_9, mwa_10, mwu_10, mwa_11, mwu_11, mwa_12, mwu_12, mwa_13, mwu_13, mwa_14, mwu_14, mwa_15, mwu_15, mwa_16, mwu_16, vu_at, vu_ne, pk_us, pk_un, kB_n, wB_n, kL_n, wL_n, mwo, z48, z10, ho]
    rw [e, ed, decide_eq_false hne, Bool.false_or]
    rcases M_number_loop (σ := σ) (m := m) (R := R) (I := I) hB 2 1 (p + 1) x (by omega) (by omega) with ⟨y, p', l1, l2, l3⟩ | ⟨l1, l2⟩
    · rw [l1, if_pos rfl]
      exact ⟨fun q hq => by cases hq; exact ⟨y, p', l2, l3⟩, fun r hr => (by cases hr)⟩
    · rw [l1, if_neg Bool.false_ne_true]
      exact ⟨fun q hq => (by cases hq), fun r hr => by cases hr; exact l2⟩
  · have ed : dgs n B 3 p 0 = (0, p) := by rw [dgs, e1]
    rw [if_neg (fun z => e2 ⟨z.1, z.2.1, by omega⟩)] at ho
    rw [ed, decide_eq_true (show (0, p).2 = p from rfl), Bool.true_or, if_pos rfl]
    refine ⟨fun q hq => ?_, fun r hr => (by cases hr)⟩
    cases hq
    refine ⟨nI 0, p, hp, ?_⟩
    have f1 := M_fine1 (σ := σ) (m := m) (A := A) (R := R) (I := I) (n := n) (p := p) (q := p) (by omega)
    rw [q150]
    simp (disch := first | omega | exact tl_l | exact tT_len | (simp only [List.length_cons, List.length_nil])) only [e150_0, e150_1, e150_3, e150_5, e150_8, e150_9, e150_10, e150_12, e150_15, e150_18, e150_19, e150_22, e150_24, e150_26, e150_29, e150_32, e150_33, e150_34, e150_37, e150_38, e150_39, e150_42, e150_45, e150_47, e150_48, e150_49, e150_50, e150_52, e150_54, e150_57, e150_58, e150_59, e150_62, e150_65, e150_66, kv_s, kh_s, kr_s, kr_v, kn_s, z0, z1, z2, nI_ltI, nI_leI, nI_eq, nI_add, oN, bz0, bz1, bw0, bw1, ltT, ltF, leT, leF, eqT, eqF, if_true, if_false, kI_n, wI_n, and_true, true_and, and_false, false_and, not_true, not_false_eq_true, mwo, mwr_0, mwr_1, mwr_2, mwg_3, mwp_3, mwr_4, mwg_5, mwp_5, mwg_6, mwp_6, mwr_7, mwr_8, mwg_9, mwp_9, mwg_10, mwp_10, mwg_11, mwp_11, mwr_12, mwg_13, mwp_13, mwr_14, mwr_15, mwr_16, mwr_17, mwr_18, mwr_19, mwg_20, mwp_20, mwr_21, mwr_22, mwr_23, mwa_1, mwu_1, mwa_2, mwu_2, mwa_3, mwu_3, mwa_4, mwu_4, mwa_5, mwu_5, mwa_6, mwu_6, mwa_7, mwu_7, mwa_8, mwu_8, mwa_9, mwu_9, mwa_10, mwu_10, mwa_11, mwu_11, mwa_12, mwu_12, mwa_13, mwu_13, mwa_14, mwu_14, mwa_15, mwu_15, mwa_16, mwu_16, vu_at, vu_ne, pk_us, pk_un, kB_n, wB_n, kL_n, wL_n, mwo, z48, z10, ho]
    rw [e150_11]
    simp (disch := first | omega | exact tl_l | exact tT_len | (simp only [List.length_cons, List.length_nil])) only [e150_0, e150_1, e150_3, e150_5, e150_8, e150_9, e150_10, e150_12, e150_15, e150_18, e150_19, e150_22, e150_24, e150_26, e150_29, e150_32, e150_33, e150_34, e150_37, e150_38, e150_39, e150_42, e150_45, e150_47, e150_48, e150_49, e150_50, e150_52, e150_54, e150_57, e150_58, e150_59, e150_62, e150_65, e150_66, kv_s, kh_s, kr_s, kr_v, kn_s, z0, z1, z2, nI_ltI, nI_leI, nI_eq, nI_add, oN, bz0, bz1, bw0, bw1, ltT, ltF, leT, leF, eqT, eqF, if_true, if_false, kI_n, wI_n, and_true, true_and, and_false, false_and, not_true, not_false_eq_true, mwo, mwr_0, mwr_1, mwr_2, mwg_3, mwp_3, mwr_4, mwg_5, mwp_5, mwg_6, mwp_6, mwr_7, mwr_8, mwg_9, mwp_9, mwg_10, mwp_10, mwg_11, mwp_11, mwr_12, mwg_13, mwp_13, mwr_14, mwr_15, mwr_16, mwr_17, mwr_18, mwr_19, mwg_20, mwp_20, mwr_21, mwr_22, mwr_23, mwa_1, mwu_1, mwa_2, mwu_2, mwa_3, mwu_3, mwa_4, mwu_4, mwa_5, mwu_5, mwa_6, mwu_6, mwa_7, mwu_7, mwa_8, mwu_8, mwa_9, mwu_9, mwa_10, mwu_10, mwa_11, mwu_11, mwa_12, mwu_12, mwa_13, mwu_13, mwa_14, mwu_14, mwa_15, mwu_15, mwa_16, mwu_16, vu_at, vu_ne, pk_us, pk_un, kB_n, wB_n, kL_n, wL_n, mwo, f1]
theorem M_number1 (hq : q ≤ 80) : dcall 150 [.ref m] (mw σ m A R (mt I n p (some q))) = some (some (.int (nI 0)), mw σ m A R (mt I n p (some q))) := by
  rw [q150]
  simp (disch := first | omega | exact tl_l | exact tT_len | (simp only [List.length_cons, List.length_nil])) only [e150_0, e150_1, e150_3, e150_5, e150_8, e150_9, e150_10, e150_12, e150_15, e150_18, e150_19, e150_22, e150_24, e150_26, e150_29, e150_32, e150_33, e150_34, e150_37, e150_38, e150_39, e150_42, e150_45, e150_47, e150_48, e150_49, e150_50, e150_52, e150_54, e150_57, e150_58, e150_59, e150_62, e150_65, e150_66, kv_s, kh_s, kr_s, kr_v, kn_s, z0, z1, z2, nI_ltI, nI_leI, nI_eq, nI_add, oN, bz0, bz1, bw0, bw1, ltT, ltF, leT, leF, eqT, eqF, if_true, if_false, kI_n, wI_n, and_true, true_and, and_false, false_and, not_true, not_false_eq_true, mwo, mwr_0, mwr_1, mwr_2, mwg_3, mwp_3, mwr_4, mwg_5, mwp_5, mwg_6, mwp_6, mwr_7, mwr_8, mwg_9, mwp_9, mwg_10, mwp_10, mwg_11, mwp_11, mwr_12, mwg_13, mwp_13, mwr_14, mwr_15, mwr_16, mwr_17, mwr_18, mwr_19, mwg_20, mwp_20, mwr_21, mwr_22, mwr_23, mwa_1, mwu_1, mwa_2, mwu_2, mwa_3, mwu_3, mwa_4, mwu_4, mwa_5, mwu_5, mwa_6, mwu_6, mwa_7, mwu_7, mwa_8, mwu_8, mwa_9, mwu_9, mwa_10, mwu_10, mwa_11, mwu_11, mwa_12, mwu_12, mwa_13, mwu_13, mwa_14, mwu_14, mwa_15, mwu_15, mwa_16, mwu_16, vu_at, vu_ne, pk_us, pk_un, kB_n, wB_n, kL_n, wL_n, mwo, M_oneOf1 hq]
  rw [e150_11]
  simp (disch := first | omega | exact tl_l | exact tT_len | (simp only [List.length_cons, List.length_nil])) only [e150_0, e150_1, e150_3, e150_5, e150_8, e150_9, e150_10, e150_12, e150_15, e150_18, e150_19, e150_22, e150_24, e150_26, e150_29, e150_32, e150_33, e150_34, e150_37, e150_38, e150_39, e150_42, e150_45, e150_47, e150_48, e150_49, e150_50, e150_52, e150_54, e150_57, e150_58, e150_59, e150_62, e150_65, e150_66, kv_s, kh_s, kr_s, kr_v, kn_s, z0, z1, z2, nI_ltI, nI_leI, nI_eq, nI_add, oN, bz0, bz1, bw0, bw1, ltT, ltF, leT, leF, eqT, eqF, if_true, if_false, kI_n, wI_n, and_true, true_and, and_false, false_and, not_true, not_false_eq_true, mwo, mwr_0, mwr_1, mwr_2, mwg_3, mwp_3, mwr_4, mwg_5, mwp_5, mwg_6, mwp_6, mwr_7, mwr_8, mwg_9, mwp_9, mwg_10, mwp_10, mwg_11, mwp_11, mwr_12, mwg_13, mwp_13, mwr_14, mwr_15, mwr_16, mwr_17, mwr_18, mwr_19, mwg_20, mwp_20, mwr_21, mwr_22, mwr_23, mwa_1, mwu_1, mwa_2, mwu_2, mwa_3, mwu_3, mwa_4, mwu_4, mwa_5, mwu_5, mwa_6, mwu_6, mwa_7, mwu_7, mwa_8, mwu_8, mwa_9, mwu_9, mwa_10, mwu_10, mwa_11, mwu_11, mwa_12, mwu_12, mwa_13, mwu_13, mwa_14, mwu_14, mwa_15, mwu_15, mwa_16, mwu_16, vu_at, vu_ne, pk_us, pk_un, kB_n, wB_n, kL_n, wL_n, mwo, M_fine1 hq]
theorem M_isRead_loop {L : List Nat} (hL : RD (A 7) L) (hl : L.length ≤ 150) (hI : I 13 = nI L.length) (hm : ∀ x, x ∈ L → x < 2 ^ 31) {v : Nat} (hv : v < 2 ^ 31) : ∀ (k i : Nat), i + k = L.length → (∀ j, j < i → L[j]? ≠ some v) → den 151 2 [.ref m, .int (nI v), .int (nI i)] [] (mw σ m A R I) = some (some (.int (if v ∈ L then nI 1 else nI 0)), mw σ m A R I) := by
  intro k
  induction k with
  | zero =>
    intro i hi hj
    have : i = L.length := by omega
    subst this
    have hno : ¬ v ∈ L := fun z => by
      obtain ⟨j, hj2, hj3⟩ := List.getElem_of_mem z
      exact hj j hj2 (by rw [List.getElem?_eq_getElem hj2, hj3])
    rw [if_neg hno]
    rw [e151_2]
    simp (disch := first | omega | exact tl_l | exact tT_len | (simp only [List.length_cons, List.length_nil])) only [e151_0, e151_1, e151_3, e151_4, e151_7, e151_10, e151_11, e151_14, e151_15, e151_16, e151_17, e151_18, e151_19, e151_22, e151_23, e151_24, e151_27, e151_30, e151_31, kv_s, kh_s, kr_s, kr_v, kn_s, z0, z1, z2, nI_ltI, nI_leI, nI_eq, nI_add, oN, bz0, bz1, bw0, bw1, ltT, ltF, leT, leF, eqT, eqF, if_true, if_false, kI_n, wI_n, and_true, true_and, and_false, false_and, not_true, not_false_eq_true, mwo, mwr_0, mwr_1, mwr_2, mwg_3, mwp_3, mwr_4, mwg_5, mwp_5, mwg_6, mwp_6, mwr_7, mwr_8, mwg_9, mwp_9, mwg_10, mwp_10, mwg_11, mwp_11, mwr_12, mwg_13, mwp_13, mwr_14, mwr_15, mwr_16, mwr_17, mwr_18, mwr_19, mwg_20, mwp_20, mwr_21, mwr_22, mwr_23, mwa_1, mwu_1, mwa_2, mwu_2, mwa_3, mwu_3, mwa_4, mwu_4, mwa_5, mwu_5, mwa_6, mwu_6, mwa_7, mwu_7, mwa_8, mwu_8, mwa_9, mwu_9, mwa_10, mwu_10, mwa_11, mwu_11, mwa_12, mwu_12, mwa_13, mwu_13, mwa_14, mwu_14, mwa_15, mwu_15, mwa_16, mwu_16, vu_at, vu_ne, pk_us, pk_un, kB_n, wB_n, kL_n, wL_n, hI]
  | succ k ih =>
    intro i hi hj
    have hlt : i < L.length := by omega
    have hr := hL i hlt
    rw [List.getElem?_eq_getElem hlt] at hr
    have hr : A 7 (2 * i) = nI L[i] := by simpa using hr
    have hb := hm L[i] (List.getElem_mem hlt)
    by_cases hv2 : L[i] = v
    · rw [if_pos (by rw [← hv2]; exact List.getElem_mem hlt)]
      rw [e151_2]
      simp (disch := first | omega | exact tl_l | exact tT_len | (simp only [List.length_cons, List.length_nil])) only [e151_0, e151_1, e151_3, e151_4, e151_7, e151_10, e151_11, e151_14, e151_15, e151_16, e151_17, e151_18, e151_19, e151_22, e151_23, e151_24, e151_27, e151_30, e151_31, kv_s, kh_s, kr_s, kr_v, kn_s, z0, z1, z2, nI_ltI, nI_leI, nI_eq, nI_add, oN, bz0, bz1, bw0, bw1, ltT, ltF, leT, leF, eqT, eqF, if_true, if_false, kI_n, wI_n, and_true, true_and, and_false, false_and, not_true, not_false_eq_true, mwo, mwr_0, mwr_1, mwr_2, mwg_3, mwp_3, mwr_4, mwg_5, mwp_5, mwg_6, mwp_6, mwr_7, mwr_8, mwg_9, mwp_9, mwg_10, mwp_10, mwg_11, mwp_11, mwr_12, mwg_13, mwp_13, mwr_14, mwr_15, mwr_16, mwr_17, mwr_18, mwr_19, mwg_20, mwp_20, mwr_21, mwr_22, mwr_23, mwa_1, mwu_1, mwa_2, mwu_2, mwa_3, mwu_3, mwa_4, mwu_4, mwa_5, mwu_5, mwa_6, mwu_6, mwa_7, mwu_7, mwa_8, mwu_8, mwa_9, mwu_9, mwa_10, mwu_10, mwa_11, mwu_11, mwa_12, mwu_12, mwa_13, mwu_13, mwa_14, mwu_14, mwa_15, mwu_15, mwa_16, mwu_16, vu_at, vu_ne, pk_us, pk_un, kB_n, wB_n, kL_n, wL_n, hI, nI_two, hr, hv2]
    · rw [← ih (i + 1) (by omega) (fun j hj2 => by
        by_cases hji : j = i
        · subst hji; rw [List.getElem?_eq_getElem hlt]; exact fun z => hv2 (Option.some.inj z)
        · exact hj j (by omega))]
      rw [e151_2]
      simp (disch := first | omega | exact tl_l | exact tT_len | (simp only [List.length_cons, List.length_nil])) only [e151_0, e151_1, e151_3, e151_4, e151_7, e151_10, e151_11, e151_14, e151_15, e151_16, e151_17, e151_18, e151_19, e151_22, e151_23, e151_24, e151_27, e151_30, e151_31, kv_s, kh_s, kr_s, kr_v, kn_s, z0, z1, z2, nI_ltI, nI_leI, nI_eq, nI_add, oN, bz0, bz1, bw0, bw1, ltT, ltF, leT, leF, eqT, eqF, if_true, if_false, kI_n, wI_n, and_true, true_and, and_false, false_and, not_true, not_false_eq_true, mwo, mwr_0, mwr_1, mwr_2, mwg_3, mwp_3, mwr_4, mwg_5, mwp_5, mwg_6, mwp_6, mwr_7, mwr_8, mwg_9, mwp_9, mwg_10, mwp_10, mwg_11, mwp_11, mwr_12, mwg_13, mwp_13, mwr_14, mwr_15, mwr_16, mwr_17, mwr_18, mwr_19, mwg_20, mwp_20, mwr_21, mwr_22, mwr_23, mwa_1, mwu_1, mwa_2, mwu_2, mwa_3, mwu_3, mwa_4, mwu_4, mwa_5, mwu_5, mwa_6, mwu_6, mwa_7, mwu_7, mwa_8, mwu_8, mwa_9, mwu_9, mwa_10, mwu_10, mwa_11, mwu_11, mwa_12, mwu_12, mwa_13, mwu_13, mwa_14, mwu_14, mwa_15, mwu_15, mwa_16, mwu_16, vu_at, vu_ne, pk_us, pk_un, kB_n, wB_n, kL_n, wL_n, hI, nI_two, hr, hv2]
theorem M_isRead {L : List Nat} (hL : RD (A 7) L) (hl : L.length ≤ 150) (hI : I 13 = nI L.length) (hm : ∀ x, x ∈ L → x < 2 ^ 31) {v : Nat} (hv : v < 2 ^ 31) : dcall 151 [.ref m, .int (nI v)] (mw σ m A R I) = some (some (.int (if v ∈ L then nI 1 else nI 0)), mw σ m A R I) := by
  rw [← M_isRead_loop (σ := σ) (m := m) (R := R) hL hl hI hm hv L.length 0 (Nat.zero_add _) (fun j hj => absurd hj (Nat.not_lt_zero j))]
  rw [q151]
  simp (disch := first | omega | exact tl_l | exact tT_len | (simp only [List.length_cons, List.length_nil])) only [e151_0, e151_1, e151_3, e151_4, e151_7, e151_10, e151_11, e151_14, e151_15, e151_16, e151_17, e151_18, e151_19, e151_22, e151_23, e151_24, e151_27, e151_30, e151_31, kv_s, kh_s, kr_s, kr_v, kn_s, z0, z1, z2, nI_ltI, nI_leI, nI_eq, nI_add, oN, bz0, bz1, bw0, bw1, ltT, ltF, leT, leF, eqT, eqF, if_true, if_false, kI_n, wI_n, and_true, true_and, and_false, false_and, not_true, not_false_eq_true, mwo, mwr_0, mwr_1, mwr_2, mwg_3, mwp_3, mwr_4, mwg_5, mwp_5, mwg_6, mwp_6, mwr_7, mwr_8, mwg_9, mwp_9, mwg_10, mwp_10, mwg_11, mwp_11, mwr_12, mwg_13, mwp_13, mwr_14, mwr_15, mwr_16, mwr_17, mwr_18, mwr_19, mwg_20, mwp_20, mwr_21, mwr_22, mwr_23, mwa_1, mwu_1, mwa_2, mwu_2, mwa_3, mwu_3, mwa_4, mwu_4, mwa_5, mwu_5, mwa_6, mwu_6, mwa_7, mwu_7, mwa_8, mwu_8, mwa_9, mwu_9, mwa_10, mwu_10, mwa_11, mwu_11, mwa_12, mwu_12, mwa_13, mwu_13, mwa_14, mwu_14, mwa_15, mwu_15, mwa_16, mwu_16, vu_at, vu_ne, pk_us, pk_un, kB_n, wB_n, kL_n, wL_n]
/-- a key read -/
theorem M_readKey (hB : MB A n B) (hp : p ≤ n) {L : List Nat} (hL : RD (A 7) L) (hl : L.length ≤ 150) (hI : I 13 = nI L.length) (hm : ∀ x, x ∈ L → x < 2 ^ 31) {K : Nat} (hK : K ≤ 256) : (∀ q, rk n B K L p = .inl q → ∃ x p', p' ≤ n ∧ dcall 149 [.ref m, .int (nI K)] (mw σ m A R (mt I n p none)) = some (some (.int x), mw σ m A R (mt I n p' (some q)))) ∧ ∀ r, rk n B K L p = .inr r → dcall 149 [.ref m, .int (nI K)] (mw σ m A R (mt I n p none)) = some (some (.int (nI r.1)), mw σ m A R (mt I n r.2 none)) := by
  have hn := hB.1
  obtain ⟨n1, n2⟩ := M_number (σ := σ) (m := m) (R := R) (I := I) hB hp
  obtain ⟨d1, d2⟩ := nm_bd (n := n) (B := B) (m := 3) hp
  unfold rk
  cases hnm : nm n B 3 p with
  | inl q0 =>
    obtain ⟨x, p', a1, a2⟩ := n1 q0 hnm
    have hq := d1 q0 hnm
    refine ⟨fun q hq2 => ?_, fun r hr => (by cases hr)⟩
    cases hq2
    refine ⟨x, p', a1, ?_⟩
    have f1 := M_fine1 (σ := σ) (m := m) (A := A) (R := R) (I := I) (n := n) (p := p') (q := q0) (by omega)
    rw [q149]
    simp (disch := first | omega | exact tl_l | exact tT_len | (simp only [List.length_cons, List.length_nil])) only [e149_0, e149_1, e149_4, e149_5, e149_6, e149_9, e149_12, e149_13, e149_14, e149_17, e149_18, e149_19, e149_22, e149_25, e149_26, e149_27, e149_30, e149_31, e149_32, e149_35, e149_36, kv_s, kh_s, kr_s, kr_v, kn_s, z0, z1, z2, nI_ltI, nI_leI, nI_eq, nI_add, oN, bz0, bz1, bw0, bw1, ltT, ltF, leT, leF, eqT, eqF, if_true, if_false, kI_n, wI_n, and_true, true_and, and_false, false_and, not_true, not_false_eq_true, mwo, mwr_0, mwr_1, mwr_2, mwg_3, mwp_3, mwr_4, mwg_5, mwp_5, mwg_6, mwp_6, mwr_7, mwr_8, mwg_9, mwp_9, mwg_10, mwp_10, mwg_11, mwp_11, mwr_12, mwg_13, mwp_13, mwr_14, mwr_15, mwr_16, mwr_17, mwr_18, mwr_19, mwg_20, mwp_20, mwr_21, mwr_22, mwr_23, mwa_1, mwu_1, mwa_2, mwu_2, mwa_3, mwu_3, mwa_4, mwu_4, mwa_5, mwu_5, mwa_6, mwu_6, mwa_7, mwu_7, mwa_8, mwu_8, mwa_9, mwu_9, mwa_10, mwu_10, mwa_11, mwu_11, mwa_12, mwu_12, mwa_13, mwu_13, mwa_14, mwu_14, mwa_15, mwu_15, mwa_16, mwu_16, vu_at, vu_ne, pk_us, pk_un, kB_n, wB_n, kL_n, wL_n, mwo, a2, f1]
  | inr r0 =>
    have a2 := n2 r0 hnm
    obtain ⟨b1, b2, b3⟩ := d2 r0 hnm
    have hi13 : mt I n r0.2 none 13 = nI L.length := (mt_o (by omega)).trans hI
    have hr := M_isRead (σ := σ) (m := m) (A := A) (R := R) (I := mt I n r0.2 none) hL hl hi13 hm (v := r0.1) (by omega)
    have e1 : nI r0.2 - nI 1 = nI (r0.2 - 1) := pk_sub (by omega)
    by_cases c1 : K ≤ r0.1
    · simp only [show (K ≤ r0.1 ∨ r0.1 ∈ L) = True from eq_true (Or.inl c1), if_true]
      refine ⟨fun q hq2 => ?_, fun r hr => (by cases hr)⟩
      cases hq2
      refine ⟨nI r0.1, r0.2, b2, ?_⟩
      rw [q149]
      simp (disch := first | omega | exact tl_l | exact tT_len | (simp only [List.length_cons, List.length_nil])) only [e149_0, e149_1, e149_4, e149_5, e149_6, e149_9, e149_12, e149_13, e149_14, e149_17, e149_18, e149_19, e149_22, e149_25, e149_26, e149_27, e149_30, e149_31, e149_32, e149_35, e149_36, kv_s, kh_s, kr_s, kr_v, kn_s, z0, z1, z2, nI_ltI, nI_leI, nI_eq, nI_add, oN, bz0, bz1, bw0, bw1, ltT, ltF, leT, leF, eqT, eqF, if_true, if_false, kI_n, wI_n, and_true, true_and, and_false, false_and, not_true, not_false_eq_true, mwo, mwr_0, mwr_1, mwr_2, mwg_3, mwp_3, mwr_4, mwg_5, mwp_5, mwg_6, mwp_6, mwr_7, mwr_8, mwg_9, mwp_9, mwg_10, mwp_10, mwg_11, mwp_11, mwr_12, mwg_13, mwp_13, mwr_14, mwr_15, mwr_16, mwr_17, mwr_18, mwr_19, mwg_20, mwp_20, mwr_21, mwr_22, mwr_23, mwa_1, mwu_1, mwa_2, mwu_2, mwa_3, mwu_3, mwa_4, mwu_4, mwa_5, mwu_5, mwa_6, mwu_6, mwa_7, mwu_7, mwa_8, mwu_8, mwa_9, mwu_9, mwa_10, mwu_10, mwa_11, mwu_11, mwa_12, mwu_12, mwa_13, mwu_13, mwa_14, mwu_14, mwa_15, mwu_15, mwa_16, mwu_16, vu_at, vu_ne, pk_us, pk_un, kB_n, wB_n, kL_n, wL_n, mwo, a2, M_fine0, n01, c1, mt_10, e1, M_fault0]
    · by_cases c2 : r0.1 ∈ L
      · simp only [show (K ≤ r0.1 ∨ r0.1 ∈ L) = True from eq_true (Or.inr c2), if_true]
        rw [if_pos c2] at hr
        refine ⟨fun q hq2 => ?_, fun r hr => (by cases hr)⟩
        cases hq2
        refine ⟨nI r0.1, r0.2, b2, ?_⟩
        rw [q149]
        simp (disch := first | omega | exact tl_l | exact tT_len | (simp only [List.length_cons, List.length_nil])) only [e149_0, e149_1, e149_4, e149_5, e149_6, e149_9, e149_12, e149_13, e149_14, e149_17, e149_18, e149_19, e149_22, e149_25, e149_26, e149_27, e149_30, e149_31, e149_32, e149_35, e149_36, kv_s, kh_s, kr_s, kr_v, kn_s, z0, z1, z2, nI_ltI, nI_leI, nI_eq, nI_add, oN, bz0, bz1, bw0, bw1, ltT, ltF, leT, leF, eqT, eqF, if_true, if_false, kI_n, wI_n, and_true, true_and, and_false, false_and, not_true, not_false_eq_true, mwo, mwr_0, mwr_1, mwr_2, mwg_3, mwp_3, mwr_4, mwg_5, mwp_5, mwg_6, mwp_6, mwr_7, mwr_8, mwg_9, mwp_9, mwg_10, mwp_10, mwg_11, mwp_11, mwr_12, mwg_13, mwp_13, mwr_14, mwr_15, mwr_16, mwr_17, mwr_18, mwr_19, mwg_20, mwp_20, mwr_21, mwr_22, mwr_23, mwa_1, mwu_1, mwa_2, mwu_2, mwa_3, mwu_3, mwa_4, mwu_4, mwa_5, mwu_5, mwa_6, mwu_6, mwa_7, mwu_7, mwa_8, mwu_8, mwa_9, mwu_9, mwa_10, mwu_10, mwa_11, mwu_11, mwa_12, mwu_12, mwa_13, mwu_13, mwa_14, mwu_14, mwa_15, mwu_15, mwa_16, mwu_16, vu_at, vu_ne, pk_us, pk_un, kB_n, wB_n, kL_n, wL_n, mwo, a2, M_fine0, n01, c1, hr, mt_10, e1, M_fault0]
      · simp only [show (K ≤ r0.1 ∨ r0.1 ∈ L) = False from eq_false (fun z => z.elim c1 c2), if_false]
        rw [if_neg c2] at hr
        refine ⟨fun q hq2 => (by cases hq2), fun r hr2 => ?_⟩
        cases hr2
        rw [q149]
        simp (disch := first | omega | exact tl_l | exact tT_len | (simp only [List.length_cons, List.length_nil])) only [e149_0, e149_1, e149_4, e149_5, e149_6, e149_9, e149_12, e149_13, e149_14, e149_17, e149_18, e149_19, e149_22, e149_25, e149_26, e149_27, e149_30, e149_31, e149_32, e149_35, e149_36, kv_s, kh_s, kr_s, kr_v, kn_s, z0, z1, z2, nI_ltI, nI_leI, nI_eq, nI_add, oN, bz0, bz1, bw0, bw1, ltT, ltF, leT, leF, eqT, eqF, if_true, if_false, kI_n, wI_n, and_true, true_and, and_false, false_and, not_true, not_false_eq_true, mwo, mwr_0, mwr_1, mwr_2, mwg_3, mwp_3, mwr_4, mwg_5, mwp_5, mwg_6, mwp_6, mwr_7, mwr_8, mwg_9, mwp_9, mwg_10, mwp_10, mwg_11, mwp_11, mwr_12, mwg_13, mwp_13, mwr_14, mwr_15, mwr_16, mwr_17, mwr_18, mwr_19, mwg_20, mwp_20, mwr_21, mwr_22, mwr_23, mwa_1, mwu_1, mwa_2, mwu_2, mwa_3, mwu_3, mwa_4, mwu_4, mwa_5, mwu_5, mwa_6, mwu_6, mwa_7, mwu_7, mwa_8, mwu_8, mwa_9, mwu_9, mwa_10, mwu_10, mwa_11, mwu_11, mwa_12, mwu_12, mwa_13, mwu_13, mwa_14, mwu_14, mwa_15, mwu_15, mwa_16, mwu_16, vu_at, vu_ne, pk_us, pk_un, kB_n, wB_n, kL_n, wL_n, mwo, a2, M_fine0, n01, c1, hr]
theorem M_passes0 (hB : MB A n B) (hp : p ≤ n) {s : Nat} (hs : s < 256) : dcall 156 [.ref m, .int (nI s)] (mw σ m A R (mt I n p none)) = if p < n ∧ B p = s then some (some (.int (nI 1)), mw σ m A R (mt I n (p + 1) none)) else some (some (.int (nI 0)), mw σ m A R (mt I n p none)) := by
  have hn := hB.1
  by_cases h : p < n
  · obtain ⟨b1, b2⟩ := hB.2 p h
    by_cases h2 : B p = s
    · rw [if_pos ⟨h, h2⟩]
      rw [q156]
      simp (disch := first | omega | exact tl_l | exact tT_len | (simp only [List.length_cons, List.length_nil])) only [e156_0, e156_1, e156_4, e156_7, e156_8, e156_11, e156_12, e156_15, e156_16, e156_17, e156_18, e156_19, e156_22, e156_23, e156_24, e156_27, e156_28, kv_s, kh_s, kr_s, kr_v, kn_s, z0, z1, z2, nI_ltI, nI_leI, nI_eq, nI_add, oN, bz0, bz1, bw0, bw1, ltT, ltF, leT, leF, eqT, eqF, if_true, if_false, kI_n, wI_n, and_true, true_and, and_false, false_and, not_true, not_false_eq_true, mwo, mwr_0, mwr_1, mwr_2, mwg_3, mwp_3, mwr_4, mwg_5, mwp_5, mwg_6, mwp_6, mwr_7, mwr_8, mwg_9, mwp_9, mwg_10, mwp_10, mwg_11, mwp_11, mwr_12, mwg_13, mwp_13, mwr_14, mwr_15, mwr_16, mwr_17, mwr_18, mwr_19, mwg_20, mwp_20, mwr_21, mwr_22, mwr_23, mwa_1, mwu_1, mwa_2, mwu_2, mwa_3, mwu_3, mwa_4, mwu_4, mwa_5, mwu_5, mwa_6, mwu_6, mwa_7, mwu_7, mwa_8, mwu_8, mwa_9, mwu_9, mwa_10, mwu_10, mwa_11, mwu_11, mwa_12, mwu_12, mwa_13, mwu_13, mwa_14, mwu_14, mwa_15, mwu_15, mwa_16, mwu_16, vu_at, vu_ne, pk_us, pk_un, kB_n, wB_n, kL_n, wL_n, M_fine0, n01, M_here hB hp, h, h2, mt_10, mt_p]
    · rw [if_neg (fun z => h2 z.2)]
      rw [q156]
      simp (disch := first | omega | exact tl_l | exact tT_len | (simp only [List.length_cons, List.length_nil])) only [e156_0, e156_1, e156_4, e156_7, e156_8, e156_11, e156_12, e156_15, e156_16, e156_17, e156_18, e156_19, e156_22, e156_23, e156_24, e156_27, e156_28, kv_s, kh_s, kr_s, kr_v, kn_s, z0, z1, z2, nI_ltI, nI_leI, nI_eq, nI_add, oN, bz0, bz1, bw0, bw1, ltT, ltF, leT, leF, eqT, eqF, if_true, if_false, kI_n, wI_n, and_true, true_and, and_false, false_and, not_true, not_false_eq_true, mwo, mwr_0, mwr_1, mwr_2, mwg_3, mwp_3, mwr_4, mwg_5, mwp_5, mwg_6, mwp_6, mwr_7, mwr_8, mwg_9, mwp_9, mwg_10, mwp_10, mwg_11, mwp_11, mwr_12, mwg_13, mwp_13, mwr_14, mwr_15, mwr_16, mwr_17, mwr_18, mwr_19, mwg_20, mwp_20, mwr_21, mwr_22, mwr_23, mwa_1, mwu_1, mwa_2, mwu_2, mwa_3, mwu_3, mwa_4, mwu_4, mwa_5, mwu_5, mwa_6, mwu_6, mwa_7, mwu_7, mwa_8, mwu_8, mwa_9, mwu_9, mwa_10, mwu_10, mwa_11, mwu_11, mwa_12, mwu_12, mwa_13, mwu_13, mwa_14, mwu_14, mwa_15, mwu_15, mwa_16, mwu_16, vu_at, vu_ne, pk_us, pk_un, kB_n, wB_n, kL_n, wL_n, M_fine0, n01, M_here hB hp, h, h2]
  · rw [if_neg (fun z => h z.1)]
    rw [q156]
    simp (disch := first | omega | exact tl_l | exact tT_len | (simp only [List.length_cons, List.length_nil])) only [e156_0, e156_1, e156_4, e156_7, e156_8, e156_11, e156_12, e156_15, e156_16, e156_17, e156_18, e156_19, e156_22, e156_23, e156_24, e156_27, e156_28, kv_s, kh_s, kr_s, kr_v, kn_s, z0, z1, z2, nI_ltI, nI_leI, nI_eq, nI_add, oN, bz0, bz1, bw0, bw1, ltT, ltF, leT, leF, eqT, eqF, if_true, if_false, kI_n, wI_n, and_true, true_and, and_false, false_and, not_true, not_false_eq_true, mwo, mwr_0, mwr_1, mwr_2, mwg_3, mwp_3, mwr_4, mwg_5, mwp_5, mwg_6, mwp_6, mwr_7, mwr_8, mwg_9, mwp_9, mwg_10, mwp_10, mwg_11, mwp_11, mwr_12, mwg_13, mwp_13, mwr_14, mwr_15, mwr_16, mwr_17, mwr_18, mwr_19, mwg_20, mwp_20, mwr_21, mwr_22, mwr_23, mwa_1, mwu_1, mwa_2, mwu_2, mwa_3, mwu_3, mwa_4, mwu_4, mwa_5, mwu_5, mwa_6, mwu_6, mwa_7, mwu_7, mwa_8, mwu_8, mwa_9, mwu_9, mwa_10, mwu_10, mwa_11, mwu_11, mwa_12, mwu_12, mwa_13, mwu_13, mwa_14, mwu_14, mwa_15, mwu_15, mwa_16, mwu_16, vu_at, vu_ne, pk_us, pk_un, kB_n, wB_n, kL_n, wL_n, M_fine0, n01, M_here hB hp, h, n1_nI]
theorem M_passes1 (hq : q ≤ 80) {x : Int32} : dcall 156 [.ref m, .int x] (mw σ m A R (mt I n p (some q))) = some (some (.int (nI 0)), mw σ m A R (mt I n p (some q))) := by
  rw [q156]
  simp (disch := first | omega | exact tl_l | exact tT_len | (simp only [List.length_cons, List.length_nil])) only [e156_0, e156_1, e156_4, e156_7, e156_8, e156_11, e156_12, e156_15, e156_16, e156_17, e156_18, e156_19, e156_22, e156_23, e156_24, e156_27, e156_28, kv_s, kh_s, kr_s, kr_v, kn_s, z0, z1, z2, nI_ltI, nI_leI, nI_eq, nI_add, oN, bz0, bz1, bw0, bw1, ltT, ltF, leT, leF, eqT, eqF, if_true, if_false, kI_n, wI_n, and_true, true_and, and_false, false_and, not_true, not_false_eq_true, mwo, mwr_0, mwr_1, mwr_2, mwg_3, mwp_3, mwr_4, mwg_5, mwp_5, mwg_6, mwp_6, mwr_7, mwr_8, mwg_9, mwp_9, mwg_10, mwp_10, mwg_11, mwp_11, mwr_12, mwg_13, mwp_13, mwr_14, mwr_15, mwr_16, mwr_17, mwr_18, mwr_19, mwg_20, mwp_20, mwr_21, mwr_22, mwr_23, mwa_1, mwu_1, mwa_2, mwu_2, mwa_3, mwu_3, mwa_4, mwu_4, mwa_5, mwu_5, mwa_6, mwu_6, mwa_7, mwu_7, mwa_8, mwu_8, mwa_9, mwu_9, mwa_10, mwu_10, mwa_11, mwu_11, mwa_12, mwu_12, mwa_13, mwu_13, mwa_14, mwu_14, mwa_15, mwu_15, mwa_16, mwu_16, vu_at, vu_ne, pk_us, pk_un, kB_n, wB_n, kL_n, wL_n, mwo, M_fine1 hq]
theorem M_wasRight1 (hq : q ≤ 80) (hp : p ≤ n) (hn : n ≤ 80) : dcall 152 [.ref m] (mw σ m A R (mt I n p (some q))) = some (some (.int (nI 0)), mw σ m A R (mt I n p (some q))) := by
  by_cases h : p < n
  · rw [q152]
    simp (disch := first | omega | exact tl_l | exact tT_len | (simp only [List.length_cons, List.length_nil])) only [e152_0, e152_1, e152_4, e152_5, e152_8, e152_11, e152_12, e152_13, e152_16, e152_19, e152_20, e152_23, kv_s, kh_s, kr_s, kr_v, kn_s, z0, z1, z2, nI_ltI, nI_leI, nI_eq, nI_add, oN, bz0, bz1, bw0, bw1, ltT, ltF, leT, leF, eqT, eqF, if_true, if_false, kI_n, wI_n, and_true, true_and, and_false, false_and, not_true, not_false_eq_true, mwo, mwr_0, mwr_1, mwr_2, mwg_3, mwp_3, mwr_4, mwg_5, mwp_5, mwg_6, mwp_6, mwr_7, mwr_8, mwg_9, mwp_9, mwg_10, mwp_10, mwg_11, mwp_11, mwr_12, mwg_13, mwp_13, mwr_14, mwr_15, mwr_16, mwr_17, mwr_18, mwr_19, mwg_20, mwp_20, mwr_21, mwr_22, mwr_23, mwa_1, mwu_1, mwa_2, mwu_2, mwa_3, mwu_3, mwa_4, mwu_4, mwa_5, mwu_5, mwa_6, mwu_6, mwa_7, mwu_7, mwa_8, mwu_8, mwa_9, mwu_9, mwa_10, mwu_10, mwa_11, mwu_11, mwa_12, mwu_12, mwa_13, mwu_13, mwa_14, mwu_14, mwa_15, mwu_15, mwa_16, mwu_16, vu_at, vu_ne, pk_us, pk_un, kB_n, wB_n, kL_n, wL_n, mt_9, mt_10, h, M_fault1 hq, M_fine1 hq]
  · have h1 : n ≤ p := by omega
    rw [q152]
    simp (disch := first | omega | exact tl_l | exact tT_len | (simp only [List.length_cons, List.length_nil])) only [e152_0, e152_1, e152_4, e152_5, e152_8, e152_11, e152_12, e152_13, e152_16, e152_19, e152_20, e152_23, kv_s, kh_s, kr_s, kr_v, kn_s, z0, z1, z2, nI_ltI, nI_leI, nI_eq, nI_add, oN, bz0, bz1, bw0, bw1, ltT, ltF, leT, leF, eqT, eqF, if_true, if_false, kI_n, wI_n, and_true, true_and, and_false, false_and, not_true, not_false_eq_true, mwo, mwr_0, mwr_1, mwr_2, mwg_3, mwp_3, mwr_4, mwg_5, mwp_5, mwg_6, mwp_6, mwr_7, mwr_8, mwg_9, mwp_9, mwg_10, mwp_10, mwg_11, mwp_11, mwr_12, mwg_13, mwp_13, mwr_14, mwr_15, mwr_16, mwr_17, mwr_18, mwr_19, mwg_20, mwp_20, mwr_21, mwr_22, mwr_23, mwa_1, mwu_1, mwa_2, mwu_2, mwa_3, mwu_3, mwa_4, mwu_4, mwa_5, mwu_5, mwa_6, mwu_6, mwa_7, mwu_7, mwa_8, mwu_8, mwa_9, mwu_9, mwa_10, mwu_10, mwa_11, mwu_11, mwa_12, mwu_12, mwa_13, mwu_13, mwa_14, mwu_14, mwa_15, mwu_15, mwa_16, mwu_16, vu_at, vu_ne, pk_us, pk_un, kB_n, wB_n, kL_n, wL_n, mt_9, mt_10, h, h1, M_fine1 hq]
theorem M_wasRight0 (hp : p ≤ n) (hn : n ≤ 80) : dcall 152 [.ref m] (mw σ m A R (mt I n p none)) = if p < n then some (some (.int (nI 0)), mw σ m A R (mt I n p (some p))) else some (some (.int (nI 1)), mw σ m A R (mt I n p none)) := by
  by_cases h : p < n
  · rw [if_pos h]
    rw [q152]
    simp (disch := first | omega | exact tl_l | exact tT_len | (simp only [List.length_cons, List.length_nil])) only [e152_0, e152_1, e152_4, e152_5, e152_8, e152_11, e152_12, e152_13, e152_16, e152_19, e152_20, e152_23, kv_s, kh_s, kr_s, kr_v, kn_s, z0, z1, z2, nI_ltI, nI_leI, nI_eq, nI_add, oN, bz0, bz1, bw0, bw1, ltT, ltF, leT, leF, eqT, eqF, if_true, if_false, kI_n, wI_n, and_true, true_and, and_false, false_and, not_true, not_false_eq_true, mwo, mwr_0, mwr_1, mwr_2, mwg_3, mwp_3, mwr_4, mwg_5, mwp_5, mwg_6, mwp_6, mwr_7, mwr_8, mwg_9, mwp_9, mwg_10, mwp_10, mwg_11, mwp_11, mwr_12, mwg_13, mwp_13, mwr_14, mwr_15, mwr_16, mwr_17, mwr_18, mwr_19, mwg_20, mwp_20, mwr_21, mwr_22, mwr_23, mwa_1, mwu_1, mwa_2, mwu_2, mwa_3, mwu_3, mwa_4, mwu_4, mwa_5, mwu_5, mwa_6, mwu_6, mwa_7, mwu_7, mwa_8, mwu_8, mwa_9, mwu_9, mwa_10, mwu_10, mwa_11, mwu_11, mwa_12, mwu_12, mwa_13, mwu_13, mwa_14, mwu_14, mwa_15, mwu_15, mwa_16, mwu_16, vu_at, vu_ne, pk_us, pk_un, kB_n, wB_n, kL_n, wL_n, mt_9, mt_10, h, M_fault0, M_fine1 (show p ≤ 80 by omega)]
  · have h1 : n ≤ p := by omega
    rw [if_neg h]
    rw [q152]
    simp (disch := first | omega | exact tl_l | exact tT_len | (simp only [List.length_cons, List.length_nil])) only [e152_0, e152_1, e152_4, e152_5, e152_8, e152_11, e152_12, e152_13, e152_16, e152_19, e152_20, e152_23, kv_s, kh_s, kr_s, kr_v, kn_s, z0, z1, z2, nI_ltI, nI_leI, nI_eq, nI_add, oN, bz0, bz1, bw0, bw1, ltT, ltF, leT, leF, eqT, eqF, if_true, if_false, kI_n, wI_n, and_true, true_and, and_false, false_and, not_true, not_false_eq_true, mwo, mwr_0, mwr_1, mwr_2, mwg_3, mwp_3, mwr_4, mwg_5, mwp_5, mwg_6, mwp_6, mwr_7, mwr_8, mwg_9, mwp_9, mwg_10, mwp_10, mwg_11, mwp_11, mwr_12, mwg_13, mwp_13, mwr_14, mwr_15, mwr_16, mwr_17, mwr_18, mwr_19, mwg_20, mwp_20, mwr_21, mwr_22, mwr_23, mwa_1, mwu_1, mwa_2, mwu_2, mwa_3, mwu_3, mwa_4, mwu_4, mwa_5, mwu_5, mwa_6, mwu_6, mwa_7, mwu_7, mwa_8, mwu_8, mwa_9, mwu_9, mwa_10, mwu_10, mwa_11, mwu_11, mwa_12, mwu_12, mwa_13, mwu_13, mwa_14, mwu_14, mwa_15, mwu_15, mwa_16, mwu_16, vu_at, vu_ne, pk_us, pk_un, kB_n, wB_n, kL_n, wL_n, mt_9, mt_10, h, h1, M_fine0]
end MR
