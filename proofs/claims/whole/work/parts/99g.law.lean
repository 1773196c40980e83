/-! THE CLAIM OUT OF ONE WALK OF THE LAW'S BODY. Your part is whole_start (and what it stands on); all else here is the same for every law, but numbers. -/
def R_law : String := "AbsenceTreeLaw"
def lw_P (b : Addr) (xs : List Int32) (args : Array Value) (s : State) : Prop := args = #[.ref b] ∧ s.IntsAt b xs ∧ xs.length ≤ 3072 ∧ (Jvm.Cond.and given_1 narrow_1).before args s = true
def lw_Q (_ : Array Value) (s : State) (o : Outcome) (t : State) : Prop := o = .returned (some (.int 1)) ∧ Framed s o t [] 601024 7293034
def lw_Z (below : List Frame) (a : Array Value) (s : State) : State → Prop := fun t => ∃ o, t.status = .running ∧ Ended t below o ∧ lw_Q a s o t
/-- the law's own end, with 1 on the stack, nothing written that was there before, its room as the claim has it -/
theorem lw_ret {p : Program} {l : Launch} {e : Env} {s : State} {m : MethodId} {below : List Frame} {meth : Method} {c : Code} {b : Nat} (hx : p.tables.exec = Jvm.exec) (hb : c.code = code) (hr : meth.sig.returnType = ret) (hlocks : meth.locks = false) {pc : Nat} {H : Heap} {ls : Array Slot} (hdg : decode code pc = .ok (.ireturn, 1)) : W p l e room_1 s m #[Value.ref b] below meth c H [] 601024 7293034 (lw_Z below #[Value.ref b] s) (F0 m pc ls [.int 1]) := by
  intro T hT X
  obtain ⟨fs, hret, hrun, hended, hW, hframe⟩ := X.leave (v := some (.int 1)) (hlocks := hlocks) (fun h => by rw [hr] at h; cases h)
  have hmeth' : T.vm.method? m = some meth := X.method'
  refine ⟨T.setFrames fs, ?_, .returned (some (.int 1)), hrun, hended, rfl, ⟨_, rfl⟩, hW, hframe⟩
  jvm_step X.here [X.here.top, hx, hb, hdg, hmeth', hr, ret, narrow_b1]
  (try refine ⟨rfl, ?_⟩); (try refine ⟨rfl, ?_⟩)
  first | (intro acts; rw [hret _ acts rfl rfl rfl]) | rw [hret _ _ rfl rfl rfl]
  exact Steps.refl _
/-- what holds at the law's entry: the machine, the code, the tables' words (any of lw_tbl by 'hts w (by decide +kernel)'), the script of L ints xs at the cell b, what the Statement gives of the start (any of its parts by flat_of_before) -/
def lw_At (p : Program) (s : State) (m : MethodId) (meth : Method) (c : Code) (b L : Nat) (xs : Nat → Int32) : Prop :=
  p.tables.exec = Jvm.exec ∧ c.code = code ∧ meth.sig.returnType = ret ∧ c.maxLocals = 8 ∧ s.vm.findClass R_law = some m.cls ∧ (∀ w ∈ lw_tbl, w.before #[Value.ref b] s = true) ∧ va_X b L xs s s.heap ∧ b < s.heap.size ∧ meth.locks = false ∧ (Jvm.Cond.and given_1 narrow_1).before #[Value.ref b] s = true

section LW
variable {p : Program} {l : Launch} {e : Env} {s : State} {m : MethodId} {below : List Frame} {meth : Method} {c' : Code} {b L : Nat} {xs : Nat → Int32} {D : va_G} {K : Nat → ClassId} {σ τ : Hp} {ls st : List Value} {pc len n i k : Nat}
/-- what the law's walk stands on -/
def LC (p : Program) (l : Launch) (s : State) (m : MethodId) (meth : Method) (c' : Code) (b L : Nat) (xs : Nat → Int32) (D : va_G) (K : Nat → ClassId) : Prop := lw_At p s m meth c' b L xs ∧ TK D K s ∧ XS s.heap.size s ∧ l.stackTraces = false ∧ L ≤ 3072
theorem LC.ct (h : LC p l s m meth c' b L xs D K) : CT p room_1 s m c' meth D K s.heap.size code 8 10 false 10 338 := ⟨h.1.1, h.1.2.1, h.1.2.2.2.1, h.1.2.2.2.2.1, h.2.1, Nat.le_refl _, (fun z => by cases z), Nat.le_of_ble_eq_true rfl, Nat.le_of_ble_eq_true rfl⟩
/-- a world within the law's room -/
def rkL (s : State) (σ : Hp) : Prop := s.heap.size ≤ σ.2.1 ∧ σ.2.1 ≤ s.heap.size + 601024 ∧ σ.2.2 ≤ 7293034
theorem lstep (C : LC p l s m meth c' b L xs D K) (hσ : rkL s σ) (hτ : rkL s τ) {i : Instr} {pc' : Nat} {ls' st' : List Value} (hd : decode code pc = .ok (i, len)) (n : Nat) (he : ex (callN n) false 10 338 10 i len pc ls st σ = some (pc', ls', st', τ)) (k : Go p l e room_1 s m #[Value.ref b] below meth c' (lw_Z below #[Value.ref b] s) D K s.heap.size 8 s.heap.size 0 (pc', ls', st', τ)) : Go p l e room_1 s m #[Value.ref b] below meth c' (lw_Z below #[Value.ref b] s) D K s.heap.size 8 s.heap.size 0 (pc, ls, st, σ) :=
  go_step (run_sound l D K s.heap.size n) C.ct hd he hσ.1 (Nat.zero_le _) (by show τ.2.1 - s.heap.size ≤ 601024; have := hτ.2.1; omega) (by show τ.2.2 - 0 ≤ 7293034; exact hτ.2.2) k
theorem lsld (C : LC p l s m meth c' b L xs D K) {x : Int32} (hin : vp_in x L) (hd : decode code pc = .ok (.iaload, 1)) (k : Go p l e room_1 s m #[Value.ref b] below meth c' (lw_Z below #[Value.ref b] s) D K s.heap.size 8 s.heap.size 0 (pc + 1, ls, .int (xs x.toNatClampNeg) :: st, σ)) : Go p l e room_1 s m #[Value.ref b] below meth c' (lw_Z below #[Value.ref b] s) D K s.heap.size 8 s.heap.size 0 (pc, ls, .int x :: .ref b :: st, σ) :=
  fun H locs arr hW hS hL => va_sld C.1.1 C.1.2.1 C.1.2.2.2.2.2.2.1 C.1.2.2.2.2.2.2.2.1 (Nat.not_le.mpr C.1.2.2.2.2.2.2.2.1) hS hin hd (k H locs arr hW hS hL)
theorem lslen (C : LC p l s m meth c' b L xs D K) (hd : decode code pc = .ok (.arraylength, 1)) (k : Go p l e room_1 s m #[Value.ref b] below meth c' (lw_Z below #[Value.ref b] s) D K s.heap.size 8 s.heap.size 0 (pc + 1, ls, .int (nI L) :: st, σ)) : Go p l e room_1 s m #[Value.ref b] below meth c' (lw_Z below #[Value.ref b] s) D K s.heap.size 8 s.heap.size 0 (pc, ls, .ref b :: st, σ) :=
  fun H locs arr hW hS hL => va_slen C.1.1 C.1.2.1 C.1.2.2.2.2.2.2.1 C.1.2.2.2.2.2.2.2.1 (Nat.not_le.mpr C.1.2.2.2.2.2.2.2.1) hS hd (k H locs arr hW hS hL)
/-- an argument's load: script[i + k] -/
def okArg (pc k : Nat) : Bool := decide (decode code pc = .ok (.aload_n 0, 1)) && decide (decode code (pc + 1) = .ok (.iload 4, 2)) && decide (decode code (pc + 3) = .ok (.iconst (k : Int), 1)) && decide (decode code (pc + 4) = .ok (.iadd, 1)) && decide (decode code (pc + 5) = .ok (.iaload, 1))
def okArgs : Nat → Nat → Nat → Bool
  | _, _, 0 => true
  | pc, k, n + 1 => okArg pc k && okArgs (pc + 6) (k + 1) n
/-- so many arguments from the k-th on -/
def fargs (xs : Nat → Int32) (i : Nat) : Nat → Nat → List Value
  | _, 0 => []
  | k, n + 1 => .int (xs (i + k)) :: fargs xs i (k + 1) n
theorem fargs_len : ∀ n k, (fargs xs i k n).length = n := by
  intro n
  induction n with
  | zero => intro k; rfl
  | succ n ih => intro k; exact congrArg (· + 1) (ih (k + 1))
theorem int_k (hk : k < 6) : Int32.ofInt (k : Int) = nI k := by
  have key : ∀ k : Nat, k < 6 → Int32.ofInt (k : Int) = nI k := by decide
  exact key k hk
theorem larg (C : LC p l s m meth c' b L xs D K) (hσ : rkL s σ) (ok : okArg pc k = true) (hk : k < 6) (hi : i + k < L) (h0 : ls[0]? = some (.ref b)) (h4 : ls[4]? = some (.int (nI i))) (kk : Go p l e room_1 s m #[Value.ref b] below meth c' (lw_Z below #[Value.ref b] s) D K s.heap.size 8 s.heap.size 0 (pc + 6, ls, .int (xs (i + k)) :: st, σ)) : Go p l e room_1 s m #[Value.ref b] below meth c' (lw_Z below #[Value.ref b] s) D K s.heap.size 8 s.heap.size 0 (pc, ls, st, σ) := by
  simp only [okArg, Bool.and_eq_true, decide_eq_true_eq] at ok
  obtain ⟨⟨⟨⟨d0, d1⟩, d3⟩, d4⟩, d5⟩ := ok
  have hL := C.2.2.2.2
  refine lstep C hσ hσ (pc' := pc + 1) (ls' := ls) (st' := .ref b :: st) d0 0 (by simp [ex, ldA, h0]) ?_
  refine lstep C hσ hσ (pc' := pc + 3) (ls' := ls) (st' := .int (nI i) :: .ref b :: st) d1 0 (by simp [ex, ldI, h4]) ?_
  refine lstep C hσ hσ (pc' := pc + 4) (ls' := ls) (st' := .int (nI k) :: .int (nI i) :: .ref b :: st) d3 0 (by simp only [ex, if_true, int_k hk]) ?_
  refine lstep C hσ hσ (pc' := pc + 5) (ls' := ls) (st' := .int (nI (i + k)) :: .ref b :: st) d4 0 (by simp only [ex, bin, if_true, nI_add]) ?_
  refine lsld C (vp_in_nI hi (by omega)) d5 ?_
  rw [nI_clamp (by omega)]
  exact kk
theorem largs (C : LC p l s m meth c' b L xs D K) (hσ : rkL s σ) (h0 : ls[0]? = some (.ref b)) (h4 : ls[4]? = some (.int (nI i))) : ∀ (n pc k : Nat) (st : List Value), okArgs pc k n = true → k + n ≤ 6 → i + 6 ≤ L → Go p l e room_1 s m #[Value.ref b] below meth c' (lw_Z below #[Value.ref b] s) D K s.heap.size 8 s.heap.size 0 (pc + 6 * n, ls, (fargs xs i k n).reverse ++ st, σ) → Go p l e room_1 s m #[Value.ref b] below meth c' (lw_Z below #[Value.ref b] s) D K s.heap.size 8 s.heap.size 0 (pc, ls, st, σ) := by
  intro n
  induction n with
  | zero => intro pc k st _ _ _ kk; exact kk
  | succ n ih =>
    intro pc k st ok hk hL kk
    simp only [okArgs, Bool.and_eq_true] at ok
    refine larg C hσ ok.1 (by omega) (by omega) h0 h4 ?_
    refine ih (pc + 6) (k + 1) _ ok.2 (by omega) hL ?_
    rw [show pc + 6 + 6 * n = pc + 6 * (n + 1) by omega]
    have e : (fargs xs i k (n + 1)).reverse ++ st = (fargs xs i (k + 1) n).reverse ++ (.int (xs (i + k)) :: st) := by
      show (Value.int (xs (i + k)) :: fargs xs i (k + 1) n).reverse ++ st = _
      rw [List.reverse_cons, List.append_assoc]
      rfl
    rw [e] at kk
    exact kk
theorem cal_rev {call : Nat → List Value → Hp → Option Rs} {j idx : Nat} {As rest : List Value} {v : Option Value} (hz : zCa 10 idx = some (j, 0)) (hc : (decide (mK j = 1) && decide (mH j + 1 ≤ 10) && decide (8 + (mL j + 11) + mW j ≤ 338)) = true) (hn : nar 1 j = As.length) (hsum : (rest.map fun v => v.category).sum ≤ 8) (hr : rcv 1 j As σ = true) (hcall : call j As σ = some (v, τ)) : ex call false 10 338 10 (.invokevirtual idx) 3 pc ls (As.reverse ++ rest) σ = some (pc + 3, ls, v.toList ++ rest, τ) := by
  simp only [Bool.and_eq_true, decide_eq_true_eq] at hc
  have e1 : (As.reverse ++ rest).take As.length = As.reverse := List.take_left' (List.length_reverse)
  have e2 : (As.reverse ++ rest).drop As.length = rest := List.drop_left' (List.length_reverse)
  show inv0 call 10 338 10 1 idx pc 3 ls (As.reverse ++ rest) σ = _
  unfold inv0
  rw [if_neg (by omega), if_neg (by omega)]
  unfold cal
  rw [hz]
  dsimp only
  rw [hn, e1, e2, List.reverse_reverse]
  rw [if_pos ⟨rfl, hc.1.1, hc.1.2, hc.2, by rw [List.length_append, List.length_reverse]; omega, hsum, hr⟩, hcall]
/-- a method that the law calls: its room, its arguments, whose it is -/
def okMt (j n o : Nat) : Bool := (decide (mK j = 1) && decide (mH j + 1 ≤ 10) && decide (8 + (mL j + 11) + mW j ≤ 338)) && decide (nar 1 j = n + 1) && decide (mO j = o)
def okIn (j : Nat) : Bool := decide (mR j = some .int) || decide (mR j = some .boolean)
/-- one of the law's cases: the class is asked, the reference is asked, the answers are compared -/
def okCase (n P jx jm X M : Nat) : Bool := decide (decode code P = .ok (.aload_n 1, 1)) && okArgs (P + 1) 1 n && decide (decode code (P + 1 + 6 * n) = .ok (.invokevirtual jx, 3)) && decide (zCa 10 jx = some (X, 0)) && okMt X n 6 && okIn X && decide (decode code (P + 1 + 6 * n + 3) = .ok (.aload_n 2, 1)) && okArgs (P + 1 + 6 * n + 4) 1 n && decide (decode code (P + 1 + 6 * n + 4 + 6 * n) = .ok (.invokevirtual jm, 3)) && decide (zCa 10 jm = some (M, 0)) && okMt M n 7 && decide (decode code (P + 1 + 6 * n + 4 + 6 * n + 3) = .ok (.if_icmp .eq (1937 - ((P + 1 + 6 * n + 4 + 6 * n + 3 : Nat) : Int)), 3))
theorem Inv_bd {c i : Nat} (h : Inv c i σ) : c + 42 ≤ σ.2.1 ∧ σ.2.1 ≤ c + 900 ∧ σ.2.2 ≤ 103600 ∧ hObj σ c = some 6 ∧ hObj σ (c + 24) = some 7 := by
  obtain ⟨z, n, B, L, q, K, A, R, I, A2, R2, I2, h1, h2, ⟨T, S, Ts, b1, ⟨b3, _⟩, b4, b5, b6, b7, b8, b9⟩, h4, h5, h6⟩ := h
  have hk := h6.2.2.2.2
  have ho := (b1.x (A := A) (R := R) (I := I)).o
  rw [h1] at ho
  have ho2 := mwo (σ := σ) (m := c + 24) (A := A2) (R := R2) (I := I2)
  rw [h2] at ho2
  exact ⟨b3, by omega, by omega, ho, ho2⟩
theorem Inv_rk {i : Nat} (h : Inv s.heap.size i σ) : rkL s σ := by
  have := Inv_bd h
  exact ⟨by omega, by omega, by omega⟩
theorem rcv_c {j a o : Nat} {as : List Value} (ho : mO j = o) (h : hObj σ a = some o) : rcv 1 j (.ref a :: as) σ = true := rcv_v (by rw [h, ho])
theorem lcase (C : LC p l s m meth c' b L xs D K) {P jx jm X M idx : Nat} {l5 l6 l7 : Value} (n : Nat) (ok : okCase n P jx jm X M = true) (hn : n ≤ 5) (hL : i + 6 ≤ L) (hJ : Jn X M (fargs xs i 1 n)) (hidx : idx < 600) (hI : Inv s.heap.size idx σ) (kk : ∀ τ, Inv s.heap.size (idx + 1) τ → Go p l e room_1 s m #[Value.ref b] below meth c' (lw_Z below #[Value.ref b] s) D K s.heap.size 8 s.heap.size 0 (1937, [.ref b, .ref s.heap.size, .ref (s.heap.size + 24), .ref (s.heap.size + 41), .int (nI i), l5, l6, l7], [], τ)) : Go p l e room_1 s m #[Value.ref b] below meth c' (lw_Z below #[Value.ref b] s) D K s.heap.size 8 s.heap.size 0 (P, [.ref b, .ref s.heap.size, .ref (s.heap.size + 24), .ref (s.heap.size + 41), .int (nI i), l5, l6, l7], [], σ) := by
  simp only [okCase, okMt, okIn, Bool.and_eq_true, Bool.or_eq_true, decide_eq_true_eq] at ok
  obtain ⟨⟨⟨⟨⟨⟨⟨⟨⟨⟨⟨d0, a1⟩, d1⟩, z1⟩, ⟨⟨⟨⟨k1, k2⟩, k3⟩, k4⟩, k5⟩⟩, r1⟩, d2⟩, a2⟩, d3⟩, z2⟩, ⟨⟨⟨⟨q1, q2⟩, q3⟩, q4⟩, q5⟩⟩, d4⟩ := ok
  obtain ⟨v, τ, τ', e1, e2, hI'⟩ := hJ s.heap.size idx σ hidx hI
  obtain ⟨x, rfl⟩ := dcall_int r1 e1
  obtain ⟨b1, b2, b3, o1, o2⟩ := Inv_bd hI
  have hσ := Inv_rk hI
  have hτ' := Inv_rk hI'
  have m1 := dcall_mono e1
  have m2 := dcall_mono e2
  have hτ : rkL s τ := ⟨Nat.le_trans hσ.1 m1.1, Nat.le_trans m2.1 hτ'.2.1, Nat.le_trans m2.2 hτ'.2.2⟩
  have o3 : hObj τ (s.heap.size + 24) = some 7 := kO_dcall e1 _ _ (by omega) o2
  obtain ⟨n1, c1⟩ := dcall_N e1
  obtain ⟨n2, c2⟩ := dcall_N e2
  refine lstep C hσ hσ (pc' := P + 1) (ls' := [.ref b, .ref s.heap.size, .ref (s.heap.size + 24), .ref (s.heap.size + 41), .int (nI i), l5, l6, l7]) (st' := [.ref s.heap.size]) d0 0 rfl ?_
  refine largs C hσ rfl rfl n (P + 1) 1 _ a1 (by omega) hL ?_
  have s1 : (fargs xs i 1 n).reverse ++ [.ref s.heap.size] = (.ref s.heap.size :: fargs xs i 1 n).reverse ++ [] := by rw [List.reverse_cons, List.append_nil]
  rw [s1]
  refine lstep C hσ hτ (pc' := P + 1 + 6 * n + 3) (ls' := [.ref b, .ref s.heap.size, .ref (s.heap.size + 24), .ref (s.heap.size + 41), .int (nI i), l5, l6, l7]) (st' := [.int x]) d1 n1 (cal_rev (rest := []) (v := some (.int x)) z1 (by rw [decide_eq_true k1, decide_eq_true k2, decide_eq_true k3]; rfl) (by rw [k4, List.length_cons, fargs_len]) (Nat.le_of_ble_eq_true rfl) (rcv_c k5 o1) c1) ?_
  refine lstep C hτ hτ (pc' := P + 1 + 6 * n + 4) (ls' := [.ref b, .ref s.heap.size, .ref (s.heap.size + 24), .ref (s.heap.size + 41), .int (nI i), l5, l6, l7]) (st' := [.ref (s.heap.size + 24), .int x]) d2 0 rfl ?_
  refine largs C hτ rfl rfl n _ 1 _ a2 (by omega) hL ?_
  have s2 : (fargs xs i 1 n).reverse ++ [.ref (s.heap.size + 24), .int x] = (.ref (s.heap.size + 24) :: fargs xs i 1 n).reverse ++ [.int x] := by rw [List.reverse_cons, List.append_assoc]; rfl
  rw [s2]
  refine lstep C hτ hτ' (pc' := P + 1 + 6 * n + 4 + 6 * n + 3) (ls' := [.ref b, .ref s.heap.size, .ref (s.heap.size + 24), .ref (s.heap.size + 41), .int (nI i), l5, l6, l7]) (st' := [.int x, .int x]) d3 n2 (cal_rev (rest := [.int x]) (v := some (.int x)) z2 (by rw [decide_eq_true q1, decide_eq_true q2, decide_eq_true q3]; rfl) (by rw [q4, List.length_cons, fargs_len]) (Nat.le_of_ble_eq_true rfl) (rcv_c q5 o3) c2) ?_
  refine lstep C hτ' hτ' (pc' := 1937) (ls' := [.ref b, .ref s.heap.size, .ref (s.heap.size + 24), .ref (s.heap.size + 41), .int (nI i), l5, l6, l7]) (st' := []) d4 0 ?_ (kk τ' hI')
  have h1 : ((P + 1 + 6 * n + 4 + 6 * n + 3 : Nat) : Int) + (1937 - ((P + 1 + 6 * n + 4 + 6 * n + 3 : Nat) : Int)) = 1937 := by omega
  simp only [ex, cnd, h1]
  simp
end LW
