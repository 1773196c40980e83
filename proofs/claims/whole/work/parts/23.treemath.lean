/-! marks and counts of a tree of values; a path up; place -/
def mkN (K : Nat) (V : Nat → Int32) : Nat → Nat → Int32
  | 0, _ => nI 0
  | n + 1, p => if K ≤ p then lf (p - K) (V (p - K)) else hs (mkN K V n (2 * p)) (mkN K V n (2 * p + 1))
def mk (d : Nat) (V : Nat → Int32) (p : Nat) : Int32 := mkN (2 ^ d) V (d + 1) p
def unN (K : Nat) (V : Nat → Int32) : Nat → Nat → Nat
  | 0, _ => 0
  | n + 1, p => if K ≤ p then (if nI 0 < V (p - K) then 1 else 0) else unN K V n (2 * p) + unN K V n (2 * p + 1)
def un (d : Nat) (V : Nat → Int32) (p : Nat) : Nat := unN (2 ^ d) V (d + 1) p
theorem mkN_hi {K : Nat} {V : Nat → Int32} {n p : Nat} (h : K ≤ p) : mkN K V (n + 1) p = lf (p - K) (V (p - K)) := if_pos h
theorem mkN_lo {K : Nat} {V : Nat → Int32} {n p : Nat} (h : ¬ K ≤ p) : mkN K V (n + 1) p = hs (mkN K V n (2 * p)) (mkN K V n (2 * p + 1)) := if_neg h
theorem mkN_more {K : Nat} {V : Nat → Int32} : ∀ (n p : Nat), K ≤ p * 2 ^ n → mkN K V (n + 2) p = mkN K V (n + 1) p := by
  intro n
  induction n with
  | zero =>
    intro p h
    have h1 : K ≤ p := by simpa using h
    rw [mkN_hi h1, mkN_hi h1]
  | succ n ih =>
    intro p h
    by_cases h1 : K ≤ p
    · rw [mkN_hi h1, mkN_hi h1]
    · rw [mkN_lo (n := n + 2) h1, mkN_lo (n := n + 1) h1]
      have h2 : K ≤ 2 * p * 2 ^ n := by
        rw [Nat.pow_succ] at h
        have : p * (2 ^ n * 2) = 2 * p * 2 ^ n := by rw [← Nat.mul_assoc, Nat.mul_comm, Nat.mul_assoc]
        omega
      have h3 : K ≤ (2 * p + 1) * 2 ^ n := by rw [Nat.add_mul]; omega
      rw [ih _ h2, ih _ h3]
theorem unN_hi {K : Nat} {V : Nat → Int32} {n p : Nat} (h : K ≤ p) : unN K V (n + 1) p = if nI 0 < V (p - K) then 1 else 0 := if_pos h
theorem unN_lo {K : Nat} {V : Nat → Int32} {n p : Nat} (h : ¬ K ≤ p) : unN K V (n + 1) p = unN K V n (2 * p) + unN K V n (2 * p + 1) := if_neg h
theorem unN_more {K : Nat} {V : Nat → Int32} : ∀ (n p : Nat), K ≤ p * 2 ^ n → unN K V (n + 2) p = unN K V (n + 1) p := by
  intro n
  induction n with
  | zero =>
    intro p h
    have h1 : K ≤ p := by simpa using h
    rw [unN_hi h1, unN_hi h1]
  | succ n ih =>
    intro p h
    by_cases h1 : K ≤ p
    · rw [unN_hi h1, unN_hi h1]
    · rw [unN_lo (n := n + 2) h1, unN_lo (n := n + 1) h1]
      have h2 : K ≤ 2 * p * 2 ^ n := by
        rw [Nat.pow_succ] at h
        have : p * (2 ^ n * 2) = 2 * p * 2 ^ n := by rw [← Nat.mul_assoc, Nat.mul_comm, Nat.mul_assoc]
        omega
      have h3 : K ≤ (2 * p + 1) * 2 ^ n := by rw [Nat.add_mul]; omega
      rw [ih _ h2, ih _ h3]
section TM
variable {d : Nat} {V : Nat → Int32}
theorem mk_leaf {k : Nat} (hk : k < 2 ^ d) : mk d V (2 ^ d + k) = lf k (V k) := by
  rw [mk, mkN, if_pos (Nat.le_add_right _ _), Nat.add_sub_cancel_left]
theorem un_leaf {k : Nat} (hk : k < 2 ^ d) : un d V (2 ^ d + k) = if nI 0 < V k then 1 else 0 := by
  rw [un, unN, if_pos (Nat.le_add_right _ _), Nat.add_sub_cancel_left]
theorem pow_half {p : Nat} (h1 : 1 ≤ p) (h2 : p < 2 ^ d) : ∃ e, d = e + 1 ∧ 2 ^ d ≤ 2 * p * 2 ^ e ∧ 2 ^ d ≤ (2 * p + 1) * 2 ^ e := by
  cases d with
  | zero => simp at h2; omega
  | succ e =>
    have h3 : 2 ^ (e + 1) = 2 * 2 ^ e := by rw [Nat.pow_succ, Nat.mul_comm]
    have h4 : 1 * 2 ^ e ≤ p * 2 ^ e := Nat.mul_le_mul_right _ h1
    have h5 : 2 * p * 2 ^ e = 2 * (p * 2 ^ e) := Nat.mul_assoc _ _ _
    have h6 : (2 * p + 1) * 2 ^ e = 2 * p * 2 ^ e + 2 ^ e := by rw [Nat.add_mul, Nat.one_mul]
    exact ⟨e, rfl, by omega, by omega⟩
theorem mk_node {p : Nat} (h1 : 1 ≤ p) (h2 : p < 2 ^ d) : mk d V p = hs (mk d V (2 * p)) (mk d V (2 * p + 1)) := by
  obtain ⟨e, rfl, h3, h4⟩ := pow_half h1 h2
  rw [mk, mkN, if_neg (by omega), mk, mk, mkN_more e _ h3, mkN_more e _ h4]
theorem un_node {p : Nat} (h1 : 1 ≤ p) (h2 : p < 2 ^ d) : un d V p = un d V (2 * p) + un d V (2 * p + 1) := by
  obtain ⟨e, rfl, h3, h4⟩ := pow_half h1 h2
  rw [un, unN, if_neg (by omega), un, un, unN_more e _ h3, unN_more e _ h4]
theorem tree_ind {P : Nat → Prop} (hl : ∀ k, k < 2 ^ d → P (2 ^ d + k)) (hn : ∀ p, 1 ≤ p → p < 2 ^ d → P (2 * p) → P (2 * p + 1) → P p) : ∀ p, 1 ≤ p → p < 2 * 2 ^ d → P p := by
  have key : ∀ m p, 2 * 2 ^ d - p = m → 1 ≤ p → p < 2 * 2 ^ d → P p := by
    intro m
    induction m using Nat.strongRecOn with
    | ind m ih =>
      intro p hm h1 h2
      by_cases h3 : p < 2 ^ d
      · exact hn p h1 h3 (ih _ (by omega) (2 * p) rfl (by omega) (by omega)) (ih _ (by omega) (2 * p + 1) rfl (by omega) (by omega))
      · have := hl (p - 2 ^ d) (by omega)
        rwa [show 2 ^ d + (p - 2 ^ d) = p by omega] at this
  exact fun p => key _ p rfl
def okM (d : Nat) (V M : Nat → Int32) : Prop := (∀ k, k < 2 ^ d → M (2 ^ d + k) = lf k (V k)) ∧ ∀ p, 1 ≤ p → p < 2 ^ d → M p = hs (M (2 * p)) (M (2 * p + 1))
def okF (d : Nat) (V F : Nat → Int32) : Prop := (∀ k, k < 2 ^ d → F (2 ^ d + k) = if nI 0 < V k then nI 1 else nI 0) ∧ ∀ p, 1 ≤ p → p < 2 ^ d → F p = F (2 * p) + F (2 * p + 1)
theorem okM.eq {M : Nat → Int32} (h : okM d V M) : ∀ p, 1 ≤ p → p < 2 * 2 ^ d → M p = mk d V p :=
  tree_ind (fun k hk => by rw [h.1 k hk, mk_leaf hk]) (fun p h1 h2 a b => by rw [h.2 p h1 h2, a, b, mk_node h1 h2])
theorem okF.eq {F : Nat → Int32} (h : okF d V F) : ∀ p, 1 ≤ p → p < 2 * 2 ^ d → F p = nI (un d V p) :=
  tree_ind (fun k hk => by rw [h.1 k hk, un_leaf hk]; split <;> rfl) (fun p h1 h2 a b => by rw [h.2 p h1 h2, a, b, un_node h1 h2, nI_add])
theorem okM_of {M : Nat → Int32} (h : ∀ p, 1 ≤ p → p < 2 * 2 ^ d → M p = mk d V p) : okM d V M := by
  have hK1 : 1 ≤ 2 ^ d := Nat.one_le_two_pow
  exact ⟨fun k hk => by rw [h _ (by omega) (by omega), mk_leaf hk], fun p h1 h2 => by rw [h p h1 (by omega), h (2 * p) (by omega) (by omega), h (2 * p + 1) (by omega) (by omega), mk_node h1 h2]⟩
theorem okF_of {F : Nat → Int32} (h : ∀ p, 1 ≤ p → p < 2 * 2 ^ d → F p = nI (un d V p)) : okF d V F := by
  have hK1 : 1 ≤ 2 ^ d := Nat.one_le_two_pow
  exact ⟨fun k hk => by rw [h _ (by omega) (by omega), un_leaf hk]; split <;> rfl, fun p h1 h2 => by rw [h p h1 (by omega), h (2 * p) (by omega) (by omega), h (2 * p + 1) (by omega) (by omega), un_node h1 h2, nI_add]⟩
theorem mk_congr {W : Nat → Int32} (h : ∀ k, k < 2 ^ d → V k = W k) : ∀ p, 1 ≤ p → p < 2 * 2 ^ d → mk d V p = mk d W p :=
  tree_ind (fun k hk => by rw [mk_leaf hk, mk_leaf hk, h k hk]) (fun p h1 h2 a b => by rw [mk_node h1 h2, mk_node h1 h2, a, b])
theorem un_congr {W : Nat → Int32} (h : ∀ k, k < 2 ^ d → V k = W k) : ∀ p, 1 ≤ p → p < 2 * 2 ^ d → un d V p = un d W p :=
  tree_ind (fun k hk => by rw [un_leaf hk, un_leaf hk, h k hk]) (fun p h1 h2 a b => by rw [un_node h1 h2, un_node h1 h2, a, b])
theorem jd_hi : ∀ (n : Nat) (M : Nat → Int32) (p : Nat), n < p → jd n M p = M p := by
  intro n
  induction n with
  | zero => intro M p _; rfl
  | succ n ih =>
    intro M p hp
    rw [jd, ih _ p (by omega), pk_un (by omega)]
theorem jd_lo : ∀ (n : Nat) (M : Nat → Int32) (p : Nat), 1 ≤ p → p ≤ n → jd n M p = hs (jd n M (2 * p)) (jd n M (2 * p + 1)) := by
  intro n
  induction n with
  | zero => intro M p h1 h2; omega
  | succ n ih =>
    intro M p h1 h2
    rw [jd]
    by_cases hp : p ≤ n
    · exact ih _ p h1 hp
    · have : p = n + 1 := by omega
      subst this
      rw [jd_hi n _ _ (by omega), jd_hi n _ _ (by omega), jd_hi n _ _ (by omega), pk_us, pk_un (by omega), pk_un (by omega)]
theorem lf_0 (k : Nat) : lf k (nI 0) = nI 0 := if_pos rfl
theorem un_zero (h : ∀ k, k < 2 ^ d → V k = nI 0) : ∀ p, 1 ≤ p → p < 2 * 2 ^ d → un d V p = 0 :=
  tree_ind (fun k hk => by rw [un_leaf hk, h k hk]; rfl) (fun p h1 h2 a b => by rw [un_node h1 h2, a, b])
/-- is q on the way from p up? -/
def onb : Nat → Nat → Nat → Bool
  | 0, _, _ => false
  | n + 1, p, q => decide (1 ≤ p) && (decide (q = p) || onb n (p / 2) q)
theorem onb_le : ∀ (n p q : Nat), onb n p q = true → 1 ≤ q ∧ q ≤ p := by
  intro n
  induction n with
  | zero => intro p q h; cases h
  | succ n ih =>
    intro p q h
    simp only [onb, Bool.and_eq_true, Bool.or_eq_true, decide_eq_true_eq] at h
    rcases h with ⟨h1, rfl | h2⟩
    · exact ⟨h1, Nat.le_refl _⟩
    · have := ih _ _ h2
      omega
theorem onb_hi {n p q : Nat} (h : p < q) : onb n p q = false := by
  cases hb : onb n p q with
  | false => rfl
  | true => have := onb_le n p q hb; omega
theorem onb_0 (n q : Nat) : onb n 0 q = false := by
  cases n with
  | zero => rfl
  | succ n => simp [onb]
theorem onb_self {n p : Nat} (h1 : 1 ≤ p) (h2 : p < 2 ^ n) : onb n p p = true := by
  cases n with
  | zero => simp at h2; omega
  | succ n => simp [onb, h1]
theorem onb_kids : ∀ (n p q : Nat), p < 2 ^ n → 1 ≤ q → q < p → onb n p q = (onb n p (2 * q) || onb n p (2 * q + 1)) ∧ ¬ (onb n p (2 * q) = true ∧ onb n p (2 * q + 1) = true) := by
  intro n
  induction n with
  | zero => intro p q h1 h2 h3; simp at h1; omega
  | succ n ih =>
    intro p q h1 h2 h3
    have hp : p / 2 < 2 ^ n := by rw [Nat.pow_succ] at h1; omega
    have e0 : decide (1 ≤ p) = true := by simp; omega
    simp only [onb, e0, Bool.true_and]
    have e1 : decide (q = p) = false := by simp; omega
    rw [e1, Bool.false_or]
    rcases Nat.lt_trichotomy q (p / 2) with h | h | h
    · have e2 : decide (2 * q = p) = false := by simp; omega
      have e3 : decide (2 * q + 1 = p) = false := by simp; omega
      rw [e2, e3, Bool.false_or, Bool.false_or]
      exact ih _ _ hp h2 h
    · have e2 : onb n (p / 2) (2 * q) = false := onb_hi (by omega)
      have e3 : onb n (p / 2) (2 * q + 1) = false := onb_hi (by omega)
      have e4 : onb n (p / 2) q = true := by rw [h]; exact onb_self (by omega) hp
      rw [e2, e3, e4, Bool.or_false, Bool.or_false]
      rcases (show p = 2 * q ∨ p = 2 * q + 1 by omega) with h5 | h5
      · have e5 : decide (2 * q = p) = true := by simp [h5]
        have e6 : decide (2 * q + 1 = p) = false := by simp; omega
        rw [e5, e6]
        exact ⟨rfl, fun z => by cases z.2⟩
      · have e5 : decide (2 * q = p) = false := by simp; omega
        have e6 : decide (2 * q + 1 = p) = true := by simp [h5]
        rw [e5, e6]
        exact ⟨rfl, fun z => by cases z.1⟩
    · have e2 : onb n (p / 2) (2 * q) = false := onb_hi (by omega)
      have e3 : onb n (p / 2) (2 * q + 1) = false := onb_hi (by omega)
      have e4 : onb n (p / 2) q = false := onb_hi h
      have e5 : decide (2 * q = p) = false := by simp; omega
      have e6 : decide (2 * q + 1 = p) = false := by simp; omega
      rw [e2, e3, e4, e5, e6]
      exact ⟨rfl, fun z => by cases z.1⟩
theorem chg_eq {x : Int32} : ∀ (n p : Nat) (F : Nat → Int32) (q : Nat), p < 2 ^ n → chg n p F x q = if onb n p q = true then F q + x else F q := by
  intro n
  induction n with
  | zero => intro p F q h; rfl
  | succ n ih =>
    intro p F q h
    rw [chg]
    by_cases h0 : p = 0
    · rw [if_pos h0, h0, onb_0]; rfl
    · rw [if_neg h0, ih _ _ _ (by rw [Nat.pow_succ] at h; omega)]
      have e0 : decide (1 ≤ p) = true := by simp; omega
      simp only [onb, e0, Bool.true_and]
      by_cases hq : q = p
      · subst hq
        rw [onb_hi (by omega), pk_us]
        simp
      · rw [pk_un hq]
        have e1 : decide (q = p) = false := by simp [hq]
        rw [e1, Bool.false_or]
/-- joins on the way up -/
def jp : Nat → Nat → (Nat → Int32) → (Nat → Int32)
  | 0, _, M => M
  | n + 1, p, M => if p = 0 then M else jp n (p / 2) (upd M p (hs (M (2 * p)) (M (2 * p + 1))))
theorem jp_ok {K : Nat} : ∀ (n p : Nat) (M : Nat → Int32), p < 2 ^ n → (∀ q, 1 ≤ q → q < K → onb n p q = false → M q = hs (M (2 * q)) (M (2 * q + 1))) → (∀ q, onb n p q = false → jp n p M q = M q) ∧ ∀ q, 1 ≤ q → q < K → jp n p M q = hs (jp n p M (2 * q)) (jp n p M (2 * q + 1)) := by
  intro n
  induction n with
  | zero =>
    intro p M hp h
    exact ⟨fun q _ => rfl, fun q h1 h2 => h q h1 h2 rfl⟩
  | succ n ih =>
    intro p M hp h
    rw [jp]
    by_cases h0 : p = 0
    · subst h0
      rw [if_pos rfl]
      exact ⟨fun q _ => rfl, fun q h1 h2 => h q h1 h2 (onb_0 _ _)⟩
    · rw [if_neg h0]
      have hp2 : p / 2 < 2 ^ n := by rw [Nat.pow_succ] at hp; omega
      have e0 : decide (1 ≤ p) = true := by simp; omega
      obtain ⟨g1, g2⟩ := ih (p / 2) (upd M p (hs (M (2 * p)) (M (2 * p + 1)))) hp2 (fun q h1 h2 h3 => by
        by_cases hq : q = p
        · subst hq
          rw [pk_us, pk_un (by omega), pk_un (by omega)]
        · have h4 : onb (n + 1) p q = false := by
            simp only [onb, e0, Bool.true_and, h3, Bool.or_false]
            simp [hq]
          have h5 : 2 * q ≠ p := fun z => by
            have : q = p / 2 := by omega
            rw [← this, onb_self h1 (by omega)] at h3
            cases h3
          have h6 : 2 * q + 1 ≠ p := fun z => by
            have : q = p / 2 := by omega
            rw [← this, onb_self h1 (by omega)] at h3
            cases h3
          rw [pk_un hq, pk_un h5, pk_un h6]
          exact h q h1 h2 h4)
      refine ⟨fun q hq => ?_, g2⟩
      simp only [onb, e0, Bool.true_and, Bool.or_eq_false_iff, decide_eq_false_iff_not] at hq
      rw [g1 q hq.2, pk_un hq.1]
theorem okM_place {M : Nat → Int32} (h : okM d V M) (hd : d ≤ 8) {k : Nat} (hk : k < 2 ^ d) {v : Int32} : okM d (upd V k v) (jp 9 ((2 ^ d + k) / 2) (upd M (2 ^ d + k) (lf k v))) := by
  have hK : 2 ^ d ≤ 256 := Nat.pow_le_pow_right (by omega) hd
  obtain ⟨g1, g2⟩ := jp_ok (K := 2 ^ d) 9 ((2 ^ d + k) / 2) (upd M (2 ^ d + k) (lf k v)) (by omega) (fun q h1 h2 h3 => by
    have h5 : 2 * q ≠ 2 ^ d + k := fun z => by
      have : q = (2 ^ d + k) / 2 := by omega
      rw [← this, onb_self h1 (by omega)] at h3
      cases h3
    have h6 : 2 * q + 1 ≠ 2 ^ d + k := fun z => by
      have : q = (2 ^ d + k) / 2 := by omega
      rw [← this, onb_self h1 (by omega)] at h3
      cases h3
    rw [pk_un (by omega), pk_un h5, pk_un h6]
    exact h.2 q h1 h2)
  refine ⟨fun j hj => ?_, g2⟩
  rw [g1 _ (onb_hi (by omega))]
  by_cases hjk : j = k
  · subst hjk
    rw [pk_us, pk_us]
  · rw [pk_un (by omega), pk_un hjk]
    exact h.1 j hj
theorem okF_place {F : Nat → Int32} (h : okF d V F) (hd : d ≤ 8) {k : Nat} (hk : k < 2 ^ d) {v x : Int32} (hx : (if nI 0 < V k then nI 1 else nI 0) + x = if nI 0 < v then nI 1 else nI 0) {F' : Nat → Int32} (hF : ∀ q, F' q = if onb 9 (2 ^ d + k) q = true then F q + x else F q) : okF d (upd V k v) F' := by
  have hK : 2 ^ d ≤ 256 := Nat.pow_le_pow_right (by omega) hd
  refine ⟨fun j hj => ?_, fun q h1 h2 => ?_⟩
  · rw [hF]
    by_cases hjk : j = k
    · subst hjk
      rw [onb_self (by omega) (by omega), if_pos rfl, pk_us, h.1 j hj, hx]
    · have : onb 9 (2 ^ d + k) (2 ^ d + j) = false := by
        have e0 : decide (1 ≤ 2 ^ d + k) = true := by simp; have := Nat.one_le_two_pow (n := d); omega
        show (decide (1 ≤ 2 ^ d + k) && (decide (2 ^ d + j = 2 ^ d + k) || onb 8 ((2 ^ d + k) / 2) (2 ^ d + j))) = false
        rw [onb_hi (by omega), e0]
        simp [hjk]
      rw [this, pk_un hjk]
      exact h.1 j hj
  · obtain ⟨e1, e2⟩ := onb_kids 9 (2 ^ d + k) q (by omega) h1 (by omega)
    rw [hF q, hF (2 * q), hF (2 * q + 1), e1, h.2 q h1 h2]
    cases ha : onb 9 (2 ^ d + k) (2 * q) <;> cases hb : onb 9 (2 ^ d + k) (2 * q + 1)
    · rfl
    · show F (2 * q) + F (2 * q + 1) + x = F (2 * q) + (F (2 * q + 1) + x)
      exact Int32.add_assoc _ _ _
    · show F (2 * q) + F (2 * q + 1) + x = F (2 * q) + x + F (2 * q + 1)
      rw [Int32.add_assoc, Int32.add_comm (F (2 * q + 1)) x, ← Int32.add_assoc]
    · exact absurd ⟨ha, hb⟩ e2
end TM
