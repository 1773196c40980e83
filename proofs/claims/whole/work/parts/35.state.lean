/-! one state of both: what the class keeps, what the reference keeps, and that they are the same -/
/-- a history: depth, first, latest, values -/
abbrev Hs : Type := Nat × Nat × Nat × (Nat → Nat → Int32)
/-- a proof in hand: key, value, bits, marks -/
abbrev Hn : Type := Nat × Nat × Nat × List Int32
def okH (z : Hs) : Prop := ∀ v, z.2.1 ≤ v → v ≤ z.2.2.1 → plW z.1 (z.2.2.2 v) ∧ un z.1 (z.2.2.2 v) 1 ≤ 40 ∧ ∀ k, 2 ^ z.1 ≤ k → k < 256 → z.2.2.2 v k = nI 0
def okN (q : Hn) : Prop := q.1 < 256 ∧ q.2.1 ≤ 999 ∧ q.2.2.1 < 256 ∧ q.2.2.2.length ≤ 8
/-- cells of slots still to be taken -/
def cost (S : Option Nat) (T : Nat → Option Nat) : Nat := match S with
  | none => 62
  | some _ => 5 * nul T
def costS (S : Option Nat) (T : Nat → Option Nat) : Nat := match S with
  | none => 15436
  | some _ => 1285 * nul T
/-- how many calls have thrown: it is kept behind the slots -/
def kx (K : Nat → Option Hs) : Nat := match K 2 with
  | none => 0
  | some y => y.1
/-- the class's larger things -/
def BC (c : Nat) (σ : Hp) (z : Hs) (K : Nat → Option Hs) : Prop := ∃ (T S : Nat → Option Nat) (Ts : Nat → Nat → Option Nat), RB c σ T z.1 z.2.1 z.2.2.1 z.2.2.2 ∧ (c + 42 ≤ σ.2.1 ∧ ∃ g, σ.1 (c + 41) = some (.inl (1, 1, .inr (.inl g)))) ∧ (∃ dd W, isT σ (c + 12) dd W) ∧ σ.1 (c + 11) = some (.inl (6, 2, .inr (.inr (.inr (.inr S))))) ∧ (∀ i, i < 2 → match S i with
    | none => K i = none
    | some h => ∃ y, K i = some y ∧ HV c σ h (Ts i) y.1 y.2.1 y.2.2.1 y.2.2.2 ∧ DJ (c + 9) T h (Ts i)) ∧ (∀ h0 h1, S 0 = some h0 → S 1 = some h1 → DJ h0 (Ts 0) h1 (Ts 1)) ∧ σ.2.1 + 5 * nul T + cost (S 0) (Ts 0) + cost (S 1) (Ts 1) ≤ c + 300 + kx K ∧ σ.2.2 + 1285 * nul T + costS (S 0) (Ts 0) + costS (S 1) (Ts 1) ≤ 100000 + 6 * kx K
def RCh (A : Nat → Nat → Int32) (I : Nat → Int32) : Option Hn → Prop
  | none => I 4 = nI 0
  | some q => I 4 = nI 1 ∧ I 5 = nI q.1 ∧ I 6 = nI q.2.1 ∧ I 7 = nI q.2.2.1 ∧ I 8 = nI q.2.2.2.length ∧ ∀ i, i < q.2.2.2.length → some (A 1 i) = q.2.2.2[i]?
def RR (R : Nat → Int64) (L : List Int64) : Prop := L.length ≤ 128 ∧ ∀ i, i < L.length → some (R i) = L[i]?
/-- the class's registers -/
def RC (A : Nat → Nat → Int32) (R : Nat → Int64) (I : Nat → Int32) (n : Nat) (B : Nat → Nat) (L : List Int64) (q : Option Hn) : Prop := isB A I n B ∧ I 3 = nI L.length ∧ RR R L ∧ RCh A I q ∧ ∃ dc, dc ≤ 8 ∧ I 14 = nI dc
def RMh (N : Nat → Int32) : Option Hn → Prop
  | none => N 0 = -nI 1
  | some q => N 0 = nI q.2.2.2.length ∧ N 1 = nI q.1 ∧ N 2 = nI q.2.1 ∧ N 3 = nI q.2.2.1 ∧ ∀ i, i < q.2.2.2.length → some (N (4 + i)) = q.2.2.2[i]?
def RMk (A : Nat → Nat → Int32) (i : Nat) : Option Hs → Prop
  | none => A 16 i = nI 0
  | some y => A 16 i = nI 1 ∧ nowM (fun k => A 15 (3075 * i + k)) y.1 y.2.1 y.2.2.1 y.2.2.2
/-- a sign as a byte has it -/
def sx (b : Nat) : Int32 := (nI b).toInt8.toInt32
/-- the reference's registers -/
def RM (A : Nat → Nat → Int32) (R : Nat → Int64) (I : Nat → Int32) (z : Hs) (n : Nat) (B : Nat → Nat) (L : List Int64) (q : Option Hn) (K : Nat → Option Hs) : Prop := nowM (A 1) z.1 z.2.1 z.2.2.1 z.2.2.2 ∧ RMh (A 2) q ∧ I 3 = nI n ∧ (∀ i, i < n → A 3 i = sx (B i)) ∧ I 5 = nI L.length ∧ RR R L ∧ ∀ i, i < 2 → RMk A i (K i)
/-- bounds -/
def okZ (i : Nat) (z : Hs) (n : Nat) (q : Option Hn) (K : Nat → Option Hs) : Prop := okH z ∧ (∀ j y, j < 2 → K j = some y → okH y ∧ 3 * y.2.2.1 + n ≤ 4 * i) ∧ 3 * z.2.2.1 + n ≤ 4 * i ∧ (∀ h, q = some h → okN h) ∧ kx K ≤ i ∧ i ≤ 600
def St (c i : Nat) (σ : Hp) (z : Hs) (n : Nat) (B : Nat → Nat) (L : List Int64) (q : Option Hn) (K : Nat → Option Hs) (A : Nat → Nat → Int32) (R : Nat → Int64) (I : Nat → Int32) (A2 : Nat → Nat → Int32) (R2 : Nat → Int64) (I2 : Nat → Int32) : Prop := cw σ c A R I = σ ∧ mw σ (c + 24) A2 R2 I2 = σ ∧ BC c σ z K ∧ RC A R I n B L q ∧ RM A2 R2 I2 z n B L q K ∧ okZ i z n q K
/-- both are the same, before the i-th call -/
def Inv (c i : Nat) (σ : Hp) : Prop := ∃ z n B L q K A R I A2 R2 I2, St c i σ z n B L q K A R I A2 R2 I2
theorem okZ.up {i : Nat} {z : Hs} {n : Nat} {q : Option Hn} {K : Nat → Option Hs} (h : okZ i z n q K) (hi : i < 600) : okZ (i + 1) z n q K :=
  ⟨h.1, fun j y h1 h2 => ⟨(h.2.1 j y h1 h2).1, by have := (h.2.1 j y h1 h2).2; omega⟩, by have := h.2.2.1; omega, h.2.2.2.1, Nat.le_succ_of_le h.2.2.2.2.1, hi⟩
section ST
variable {c i : Nat} {σ τ : Hp} {z : Hs} {n : Nat} {B : Nat → Nat} {L L' : List Int64} {q : Option Hn} {K : Nat → Option Hs} {A A' : Nat → Nat → Int32} {R R' : Nat → Int64} {I I' : Nat → Int32} {A2 A2' : Nat → Nat → Int32} {R2 R2' : Nat → Int64} {I2 I2' : Nat → Int32}
/-- the class's larger things stay, where their cells stay -/
theorem BC.kept (h : BC c σ z K) (hn : τ.2 = σ.2) (hk : ∀ a, a < σ.2.1 → a = c ∨ (c + 9 ≤ a ∧ a < c + 17) ∨ (c + 19 ≤ a ∧ a < c + 24) ∨ c + 41 ≤ a → τ.1 a = σ.1 a) : BC c τ z K := by
  obtain ⟨T, S, Ts, ⟨b1, b2⟩, ⟨b3, gb, b3'⟩, ⟨dd, W, b4⟩, b5, b6, b7, b8, b9⟩ := h
  have ho : ∀ {h T d f l V}, HV c σ h T d f l V → ∀ a, ow h T a → a = c ∨ (c + 9 ≤ a ∧ a < c + 17) ∨ (c + 19 ≤ a ∧ a < c + 24) ∨ c + 41 ≤ a := fun {h T d f l V} H a ha => by
    have f1 := H.2.1.1
    rcases ha with rfl | rfl | ⟨s, t, q1, q2, q3, q4⟩
    · omega
    · omega
    · have := (H.2.1.2.2.1 s t q1 q2).1
      omega
  have hv : ∀ {h T d f l V}, HV c σ h T d f l V → HV c τ h T d f l V := fun H => H.kept (by rw [hn]; exact Nat.le_refl _) fun a q1 q2 => hk a q1 (ho H a q2)
  refine ⟨T, S, Ts, ⟨(hk c (by omega) (Or.inl rfl)).trans b1, hv b2⟩, ⟨by rw [hn]; exact b3, gb, (hk _ (by omega) (by omega)).trans b3'⟩, ⟨dd, W, b4.kept fun a q1 q2 => hk a (by omega) (by omega)⟩, (hk _ (by omega) (by omega)).trans b5, fun j hj => ?_, b7, by rw [hn]; exact b8, by rw [hn]; exact b9⟩
  have := b6 j hj
  cases hS : S j with
  | none => rw [hS] at this; exact this
  | some h =>
    rw [hS] at this
    obtain ⟨y, y1, y2, y3⟩ := this
    exact ⟨y, y1, hv y2, y3⟩
theorem BC.cw (h : BC c σ z K) : BC c (cw σ c A R I) z K := h.kept rfl fun a _ q => cw_out (by omega)
theorem BC.mw (h : BC c σ z K) : BC c (mw σ (c + 24) A R I) z K := h.kept rfl fun a _ q => mw_out (by omega)
theorem cel_same (j : Nat) : (cel c A R I j).isSome = (cel c A' R' I' j).isSome := by
  unfold cel
  split <;> rfl
/-- the class has its turn, then the reference: registers alone -/
theorem Inv_regs (h : St c i σ z n B L q K A R I A2 R2 I2) {X M : Nat} {as bs : List Value} {b : Value} {n' : Nat} {B' : Nat → Nat} {q' : Option Hn} (e1 : dcall X as (cw σ c A R I) = some (some b, cw σ c A' R' I')) (e2 : dcall M bs (mw (cw σ c A' R' I') (c + 24) A2 R2 I2) = some (some b, mw (cw σ c A' R' I') (c + 24) A2' R2' I2')) (hC : RC A' R' I' n' B' L' q') (hM : RM A2' R2' I2' z n' B' L' q' K) (hZ : okZ (i + 1) z n' q' K) : ∃ b τ τ', dcall X as σ = some (some b, τ) ∧ dcall M bs τ = some (some b, τ') ∧ Inv c (i + 1) τ' := by
  obtain ⟨h1, h2, h3, h4, h5, h6⟩ := h
  rw [h1] at e1
  have g1 : mw (cw σ c A' R' I') (c + 24) A2 R2 I2 = cw σ c A' R' I' := mw_keep (σ := σ) fun a q1 q2 => by rw [cw_out (by omega), h2]
  have g2 := e2
  rw [g1] at g2
  refine ⟨b, _, _, e1, g2, z, n', B', L', q', K, A', R', I', A2', R2', I2', cw_keep (σ := σ) fun a q1 q2 q3 => mw_out (by omega), mw_keep (σ := cw σ c A' R' I') fun _ _ _ => rfl, h3.cw.mw, hC, hM, hZ⟩
end ST
