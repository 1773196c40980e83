/-! the law's loop, its start; the claim -/
section LZ
variable {p : Program} {l : Launch} {e : Env} {s : State} {m : MethodId} {below : List Frame} {meth : Method} {c' : Code} {b L : Nat} {xs : Nat → Int32} {D : va_G} {K : Nat → ClassId} {σ τ : Hp} {ls st : List Value} {pc len n i k : Nat}
theorem and63 (x : Int32) : ∃ k, k < 64 ∧ x &&& 63 = nI k := by
  refine ⟨(x &&& 63).toBitVec.toNat, ?_, (nI_self _).symm⟩
  have e : (x &&& 63).toBitVec.toNat = x.toBitVec.toNat &&& 63 := by
    rw [Int32.toBitVec_and, BitVec.toNat_and]
    rfl
  rw [e]
  exact Nat.lt_succ_of_le Nat.and_le_right
def swT (x : Int32) : Option Nat := if x.toInt < 0 ∨ 51 < x.toInt then some 1937 else match swO[(x.toInt - 0).toNat]? with
  | some off => if 0 ≤ (40 : Int) + off then some ((40 : Int) + off).toNat else none
  | none => none
theorem sw_ok : ∀ k, k < 64 → swT (nI k) = some (tg k) := by decide +kernel
theorem lswitch (C : LC p l s m meth c' b L xs D K) (hσ : rkL s σ) (hk : k < 64) (kk : Go p l e room_1 s m #[Value.ref b] below meth c' (lw_Z below #[Value.ref b] s) D K s.heap.size 8 s.heap.size 0 (tg k, ls, [], σ)) : Go p l e room_1 s m #[Value.ref b] below meth c' (lw_Z below #[Value.ref b] s) D K s.heap.size 8 s.heap.size 0 (40, ls, [.int (nI k)], σ) := by
  refine lstep C hσ hσ (i := .tableswitch 1897 0 51 swO) (len := 224) (pc' := tg k) (ls' := ls) (st' := []) (by decide +kernel) 0 ?_ kk
  have e := sw_ok k hk
  unfold swT at e
  show (if (nI k).toInt < 0 ∨ 51 < (nI k).toInt then jmp 40 1897 ls [] σ else match swO[((nI k).toInt - 0).toNat]? with
    | some off => jmp 40 off ls [] σ
    | none => none) = _
  split at e
  next h =>
    rw [if_pos h, ← Option.some.inj e]
    rfl
  next h =>
    rw [if_neg h]
    split at e
    next off ho =>
      split at e
      next hp =>
        rw [← Option.some.inj e]
        show (if 0 ≤ ((40 : Nat) : Int) + off then some ((((40 : Nat) : Int) + off).toNat, ls, [], σ) else none) = _
        exact if_pos hp
      next => cases e
    next => cases e
theorem lexit (C : LC p l s m meth c' b L xs D K) (hσ : rkL s σ) : Go p l e room_1 s m #[Value.ref b] below meth c' (lw_Z below #[Value.ref b] s) D K s.heap.size 8 s.heap.size 0 (1943, ls, [], σ) := by
  refine lstep C hσ hσ (i := .iconst 1) (len := 1) (pc' := 1944) (ls' := ls) (st' := [.int 1]) (by decide +kernel) 0 rfl ?_
  intro H locs arr hW hS hLR
  refine va_forget (fun q hq => hS.2.2 q hq) ?_
  refine W.widen (k := 601024) (n := 7293034) (by show σ.2.1 - s.heap.size ≤ 601024; have := hσ.2.1; omega) (by show σ.2.2 - 0 ≤ 7293034; exact hσ.2.2) ?_
  exact lw_ret C.1.1 C.1.2.1 C.1.2.2.1 C.1.2.2.2.2.2.2.2.2.1 (show decode code 1944 = .ok (.ireturn, 1) by decide +kernel)
theorem gt_exit {i L : Nat} (hL : L ≤ 3072) (hi : i ≤ 3072) : (nI L - nI 6 < nI i) ↔ L < i + 6 := by
  by_cases h6 : 6 ≤ L
  · rw [pk_sub h6, nI_ltI (by omega) (by omega)]
    omega
  · have key : ∀ L, L < 6 → nI L - nI 6 < nI 0 := by decide
    have h1 := key L (by omega)
    constructor
    · intro _; omega
    · intro _
      exact Int32.lt_of_lt_of_le h1 (nI_le (Nat.zero_le _) (by omega))
theorem lloop (C : LC p l s m meth c' b L xs D K) : ∀ (n idx : Nat) (σ : Hp) (l5 l6 l7 : Value), 6 * idx ≤ L → L < 6 * (idx + n) → Inv s.heap.size idx σ → Go p l e room_1 s m #[Value.ref b] below meth c' (lw_Z below #[Value.ref b] s) D K s.heap.size 8 s.heap.size 0 (23, [.ref b, .ref s.heap.size, .ref (s.heap.size + 24), .ref (s.heap.size + 41), .int (nI (6 * idx)), l5, l6, l7], [], σ) := by
  have hL := C.2.2.2.2
  have g6 : (Int8.ofInt 6).toInt32 = nI 6 := by decide
  have g63 : (Int8.ofInt 63).toInt32 = 63 := by decide
  intro n
  induction n with
  | zero => intro idx σ l5 l6 l7 h1 h2; omega
  | succ n ih =>
    intro idx σ l5 l6 l7 h1 h2 hI
    have hσ := Inv_rk hI
    refine lstep C hσ hσ (i := .iload 4) (len := 2) (pc' := 25) (ls' := [.ref b, .ref s.heap.size, .ref (s.heap.size + 24), .ref (s.heap.size + 41), .int (nI (6 * idx)), l5, l6, l7]) (st' := [.int (nI (6 * idx))]) (by decide +kernel) 0 (rfl) ?_
    refine lstep C hσ hσ (i := .aload_n 0) (len := 1) (pc' := 26) (ls' := [.ref b, .ref s.heap.size, .ref (s.heap.size + 24), .ref (s.heap.size + 41), .int (nI (6 * idx)), l5, l6, l7]) (st' := [.ref b, .int (nI (6 * idx))]) (by decide +kernel) 0 (rfl) ?_
    refine lslen C (by decide +kernel) ?_
    refine lstep C hσ hσ (i := .bipush 6) (len := 2) (pc' := 29) (ls' := [.ref b, .ref s.heap.size, .ref (s.heap.size + 24), .ref (s.heap.size + 41), .int (nI (6 * idx)), l5, l6, l7]) (st' := [.int (nI 6), .int (nI L), .int (nI (6 * idx))]) (by decide +kernel) 0 (by simp only [ex, if_true, g6]) ?_
    refine lstep C hσ hσ (i := .isub) (len := 1) (pc' := 30) (ls' := [.ref b, .ref s.heap.size, .ref (s.heap.size + 24), .ref (s.heap.size + 41), .int (nI (6 * idx)), l5, l6, l7]) (st' := [.int (nI L - nI 6), .int (nI (6 * idx))]) (by decide +kernel) 0 (rfl) ?_
    have hx := gt_exit (L := L) (i := 6 * idx) hL (by omega)
    by_cases hend : L < 6 * idx + 6
    · have hc := hx.mpr hend
      refine lstep C hσ hσ (i := .if_icmp .gt 1913) (len := 3) (pc' := 1943) (ls' := [.ref b, .ref s.heap.size, .ref (s.heap.size + 24), .ref (s.heap.size + 41), .int (nI (6 * idx)), l5, l6, l7]) (st' := []) (by decide +kernel) 0 (by simp [ex, cnd, hc]) ?_
      exact lexit C hσ
    · have hc : ¬ nI L - nI 6 < nI (6 * idx) := fun z => hend (hx.mp z)
      refine lstep C hσ hσ (i := .if_icmp .gt 1913) (len := 3) (pc' := 33) (ls' := [.ref b, .ref s.heap.size, .ref (s.heap.size + 24), .ref (s.heap.size + 41), .int (nI (6 * idx)), l5, l6, l7]) (st' := []) (by decide +kernel) 0 (by simp [ex, cnd, hc]) ?_
      refine lstep C hσ hσ (i := .aload_n 0) (len := 1) (pc' := 34) (ls' := [.ref b, .ref s.heap.size, .ref (s.heap.size + 24), .ref (s.heap.size + 41), .int (nI (6 * idx)), l5, l6, l7]) (st' := [.ref b]) (by decide +kernel) 0 (rfl) ?_
      refine lstep C hσ hσ (i := .iload 4) (len := 2) (pc' := 36) (ls' := [.ref b, .ref s.heap.size, .ref (s.heap.size + 24), .ref (s.heap.size + 41), .int (nI (6 * idx)), l5, l6, l7]) (st' := [.int (nI (6 * idx)), .ref b]) (by decide +kernel) 0 (rfl) ?_
      refine lsld C (vp_in_nI (by omega) (by omega)) (by decide +kernel) ?_
      rw [nI_clamp (by omega)]
      refine lstep C hσ hσ (i := .bipush 63) (len := 2) (pc' := 39) (ls' := [.ref b, .ref s.heap.size, .ref (s.heap.size + 24), .ref (s.heap.size + 41), .int (nI (6 * idx)), l5, l6, l7]) (st' := [.int 63, .int (xs (6 * idx))]) (by decide +kernel) 0 (by simp only [ex, if_true, g63]) ?_
      refine lstep C hσ hσ (i := .iand) (len := 1) (pc' := 40) (ls' := [.ref b, .ref s.heap.size, .ref (s.heap.size + 24), .ref (s.heap.size + 41), .int (nI (6 * idx)), l5, l6, l7]) (st' := [.int (xs (6 * idx) &&& 63)]) (by decide +kernel) 0 (rfl) ?_
      obtain ⟨k, hk, ek⟩ := and63 (xs (6 * idx))
      rw [ek]
      refine lswitch C hσ hk ?_
      refine larm C (by omega) (by omega) hI (fun τ l5 l6 l7 hI' => ?_) k hk
      have hτ := Inv_rk hI'
      have ei : nI (6 * idx) + Int32.ofInt 6 = nI (6 * (idx + 1)) := nI_add (6 * idx) 6
      refine lstep C hτ hτ (i := .iinc 4 6) (len := 3) (pc' := 1940) (ls' := [.ref b, .ref s.heap.size, .ref (s.heap.size + 24), .ref (s.heap.size + 41), .int (nI (6 * (idx + 1))), l5, l6, l7]) (st' := []) (by decide +kernel) 0 (by rw [← ei]; rfl) ?_
      refine lstep C hτ hτ (i := .goto (-1917)) (len := 3) (pc' := 23) (ls' := [.ref b, .ref s.heap.size, .ref (s.heap.size + 24), .ref (s.heap.size + 41), .int (nI (6 * (idx + 1))), l5, l6, l7]) (st' := []) (by decide +kernel) 0 (rfl) ?_
      exact ih (idx + 1) τ l5 l6 l7 (by omega) (by omega) hI'
end LZ
-- ===== YOUR PART BEGINS =====
/-- YOUR PART: from the entry, for every script of at most 3072 ints, the law comes to its end with true ('hflags': the launch's flags, for a law that throws: no stack traces) -/
theorem whole_start {p : Program} {e : Env} {s : State} {m : MethodId} {below : List Frame} {meth : Method} {c : Code} (l : Launch) (hflags : l.flags = flags0) {b L : Nat} {xs : Nat → Int32} (hL : L ≤ 3072) (C0 : lw_At p s m meth c b L xs) : W p l e room_1 s m #[Value.ref b] below meth c s.heap [] 0 0 (lw_Z below #[Value.ref b] s) (entryFrame m ([Value.ref b] : List Value).toArray 8) := by
  obtain ⟨hx, hb, hr, hml, hown, hts, hX, hbl, hlocks, hgv⟩ := id C0
  have hs := flat_of_before _ hgv
  have hst : l.stackTraces = false := by unfold Launch.stackTraces; rw [hflags]; decide
  obtain ⟨D, K, hTK⟩ := tk_of hts
  have hXS := xs_of hts (hs _ (by decide +kernel)) (hs _ (by decide +kernel))
  have C : LC p l s m meth c b L xs D K := ⟨C0, hTK, hXS, hst, hL⟩
  obtain ⟨ρ, τ, e1, r1, e2, r2, hI⟩ := Inv_ini (σ := ((fun _ => none), s.heap.size, 0)) (c := s.heap.size) rfl
  obtain ⟨n1, c1⟩ := dcall_N e1
  obtain ⟨n2, c2⟩ := dcall_N e2
  have hI2 := Inv_rk hI
  have rr1 : ρ.2.1 = s.heap.size + 24 := by rw [r1]
  have rr2 : ρ.2.2 = 3352 := by rw [r1]
  have tt1 : τ.2.1 = s.heap.size + 41 := by rw [r2]
  have tt2 : τ.2.2 = 20027 := by rw [r2]
  have k0 : rkL s ((fun _ => none), s.heap.size, 0) := ⟨Nat.le_refl _, by show s.heap.size ≤ _; omega, by show 0 ≤ _; omega⟩
  have k1 : rkL s (hnew ((fun _ => none), s.heap.size, 0) (.inr (6, zD 6)) 8) := ⟨by show s.heap.size ≤ s.heap.size + 1; omega, by show s.heap.size + 1 ≤ _; omega, by show 0 + 8 ≤ _; omega⟩
  have k2 : rkL s ρ := ⟨by omega, by omega, by omega⟩
  have k3 : rkL s (hnew ρ (.inr (7, zD 7)) 24) := ⟨by show s.heap.size ≤ ρ.2.1 + 1; omega, by show ρ.2.1 + 1 ≤ _; omega, by show ρ.2.2 + 24 ≤ _; omega⟩
  have k4 : rkL s τ := ⟨by omega, by omega, by omega⟩
  have z6 : zN 6 = 8 := rfl
  have z7 : zN 7 = 24 := rfl
  have w8 : zNe 10 8 = some 6 := by decide +kernel
  have w20 : zNe 10 20 = some 7 := by decide +kernel
  rw [lg_entry_eq]
  refine W.cs (Nat.sub_self s.heap.size).symm (Nat.sub_self 0).symm ?_
  suffices G : Go p l e room_1 s m #[Value.ref b] below meth c (lw_Z below #[Value.ref b] s) D K s.heap.size 8 s.heap.size 0 (0, entA 8 [.ref b], [], ((fun _ => none), s.heap.size, 0)) from G s.heap [] _ ⟨rfl, (fun a t x h => by cases h), (fun a e h => by cases h)⟩ va_S.rf (LR.ent (as := [.ref b]) (fun v hv r hr => by subst hr; simp at hv) (Nat.le_of_ble_eq_true rfl))
  have hent : entA 8 [.ref b] = [.ref b, junk, junk, junk, junk, junk, junk, junk] := rfl
  rw [hent]
  refine lstep C k0 k1 (i := .new 8) (len := 3) (pc' := 3) (ls' := [.ref b, junk, junk, junk, junk, junk, junk, junk]) (st' := [.ref s.heap.size]) (by decide +kernel) 0 (by simp only [ex, newO, w8, if_true, z6]) ?_
  refine lstep C k1 k1 (i := .dup) (len := 1) (pc' := 4) (ls' := [.ref b, junk, junk, junk, junk, junk, junk, junk]) (st' := [.ref s.heap.size, .ref s.heap.size]) (by decide +kernel) 0 (rfl) ?_
  refine lstep C k1 k2 (i := .invokespecial 19) (len := 3) (pc' := 7) (ls' := [.ref b, junk, junk, junk, junk, junk, junk, junk]) (st' := [.ref s.heap.size]) (by decide +kernel) n1 (by have := cal_is (call := callN n1) (h := 10) (w := 338) (o := 10) (k := 2) (idx := 19) (j := 0) (nest := 0) (pc := 4) (q := 1) (ls := [.ref b, junk, junk, junk, junk, junk, junk, junk]) (st := [.ref s.heap.size, .ref s.heap.size]) (v := none) (σ := (hnew ((fun _ => none), s.heap.size, 0) (.inr (6, zD 6)) 8)) (τ := ρ) (by decide +kernel) (by decide) (by decide) (by decide +kernel) (Nat.le_of_ble_eq_true rfl) (Nat.le_of_ble_eq_true rfl) rfl c1; exact this) ?_
  refine lstep C k2 k2 (i := .astore_n 1) (len := 1) (pc' := 8) (ls' := [.ref b, .ref s.heap.size, junk, junk, junk, junk, junk, junk]) (st' := []) (by decide +kernel) 0 (rfl) ?_
  refine lstep C k2 k3 (i := .new 20) (len := 3) (pc' := 11) (ls' := [.ref b, .ref s.heap.size, junk, junk, junk, junk, junk, junk]) (st' := [.ref (s.heap.size + 24)]) (by decide +kernel) 0 (by simp only [ex, newO, w20, if_true, z7, rr1]) ?_
  refine lstep C k3 k3 (i := .dup) (len := 1) (pc' := 12) (ls' := [.ref b, .ref s.heap.size, junk, junk, junk, junk, junk, junk]) (st' := [.ref (s.heap.size + 24), .ref (s.heap.size + 24)]) (by decide +kernel) 0 (rfl) ?_
  refine lstep C k3 k4 (i := .invokespecial 22) (len := 3) (pc' := 15) (ls' := [.ref b, .ref s.heap.size, junk, junk, junk, junk, junk, junk]) (st' := [.ref (s.heap.size + 24)]) (by decide +kernel) n2 (by have := cal_is (call := callN n2) (h := 10) (w := 338) (o := 10) (k := 2) (idx := 22) (j := 137) (nest := 0) (pc := 12) (q := 1) (ls := [.ref b, .ref s.heap.size, junk, junk, junk, junk, junk, junk]) (st := [.ref (s.heap.size + 24), .ref (s.heap.size + 24)]) (v := none) (σ := (hnew ρ (.inr (7, zD 7)) 24)) (τ := τ) (by decide +kernel) (by decide) (by decide) (by decide +kernel) (Nat.le_of_ble_eq_true rfl) (Nat.le_of_ble_eq_true rfl) rfl c2; exact this) ?_
  refine lstep C k4 k4 (i := .astore_n 2) (len := 1) (pc' := 16) (ls' := [.ref b, .ref s.heap.size, .ref (s.heap.size + 24), junk, junk, junk, junk, junk]) (st' := []) (by decide +kernel) 0 (rfl) ?_
  refine lstep C k4 k4 (i := .iconst 1) (len := 1) (pc' := 17) (ls' := [.ref b, .ref s.heap.size, .ref (s.heap.size + 24), junk, junk, junk, junk, junk]) (st' := [.int 1]) (by decide +kernel) 0 (rfl) ?_
  refine lstep C k4 hI2 (i := .newarray .long) (len := 2) (pc' := 19) (ls' := [.ref b, .ref s.heap.size, .ref (s.heap.size + 24), junk, junk, junk, junk, junk]) (st' := [.ref (s.heap.size + 41)]) (by decide +kernel) 0 (by rw [show (Value.ref (s.heap.size + 41)) = .ref τ.2.1 by rw [tt1]]; rfl) ?_
  refine lstep C hI2 hI2 (i := .astore_n 3) (len := 1) (pc' := 20) (ls' := [.ref b, .ref s.heap.size, .ref (s.heap.size + 24), .ref (s.heap.size + 41), junk, junk, junk, junk]) (st' := []) (by decide +kernel) 0 (rfl) ?_
  refine lstep C hI2 hI2 (i := .iconst 0) (len := 1) (pc' := 21) (ls' := [.ref b, .ref s.heap.size, .ref (s.heap.size + 24), .ref (s.heap.size + 41), junk, junk, junk, junk]) (st' := [.int 0]) (by decide +kernel) 0 (rfl) ?_
  refine lstep C hI2 hI2 (i := .istore 4) (len := 2) (pc' := 23) (ls' := [.ref b, .ref s.heap.size, .ref (s.heap.size + 24), .ref (s.heap.size + 41), .int (nI (6 * 0)), junk, junk, junk]) (st' := []) (by decide +kernel) 0 (rfl) ?_
  exact lloop C (L + 1) 0 _ junk junk junk (by omega) (by omega) hI

-- ===== YOUR PART ENDS =====
set_option maxHeartbeats 4000000 in
theorem lw_walk (l : Launch) (hflags : l.flags = flags0) (b : Addr) (xs : List Int32) : MetFree l x (headSpec (Jvm.Cond.code x code maxLocals ret :: tables_1) room_1) (lw_P b xs) (fun _ _ _ _ _ => True) lw_Q := by
  refine MetFree.of_bodyS (code := code) (maxLocals := maxLocals) (ret := ret) (by decide) ?_ ?_
  · intro args s m h hn
    obtain ⟨meth, c, h1, h2, h3, h4, h5, h6, -, -⟩ := Cond.code_spec hn (atoms_spec (ws := Jvm.Cond.code x code maxLocals ret :: tables_1) h _ List.mem_cons_self)
    exact ⟨meth, c, h1, h2, h3, h4, h5, h6⟩
  · intro p e s m args below meth c s₁ B hml0 hP _
    obtain ⟨rfl, hx, hbd, hgv⟩ := hP
    obtain ⟨scr, harrAt, hlist, hof, hsmall⟩ := hx
    obtain ⟨hcb, hkn, -, -⟩ := State.arrayAt?_spec harrAt
    have hown : s.vm.findClass R_law = some m.cls := findClass_of_methodNamed B.named
    have hts0 : ∀ c ∈ (Jvm.Cond.code x code maxLocals ret :: tables_1), c.before #[Value.ref b] s = true := atoms_spec (ws := Jvm.Cond.code x code maxLocals ret :: tables_1) B.pre
    have hts : ∀ w ∈ lw_tbl, w.before #[Value.ref b] s = true := k2_hts_sels lw_privs (fun w hw => hts0 w (List.mem_cons_of_mem _ hw)) lw_privs_ok
    have hml : c.maxLocals = 8 := B.maxLocals_eq (hts0 _ List.mem_cons_self)
    have X₀ : Stand p l e room_1 s m #[Value.ref b] below meth c s₁ [] 0 0 := Stand.of_body B
    have hh0 : s₁.heap = s.heap := by rw [B.state]; rfl
    have hsz : scr.slots.size = xs.length := by rw [← Array.length_toList, hlist, List.length_map]
    have hval : ∀ j : Nat, j < xs.length → scr.slots[j]? = some (.int (xs.getD j 0)) := fun j hj => by
      rw [← Array.getElem?_toList, hlist]
      simp [hj]
    have hbl : b < s.heap.size := (Array.getElem?_eq_some_iff.mp hcb).1
    have hX : va_X b xs.length (fun j => xs.getD j 0) s s.heap := ⟨scr, hcb, hof, hkn, hsz, hval⟩
    have K : W p l e room_1 s m #[Value.ref b] below meth c s₁.heap [] 0 0 (lw_Z below #[Value.ref b] s) (entryFrame m ([Value.ref b] : List Value).toArray 8) := by
      rw [hh0]
      exact whole_start l hflags hbd ⟨B.exec, B.bytes, B.returns, hml, hown, hts, hX, hbl, B.notSynchronized, hgv⟩
    obtain ⟨t, a1, o, b1, b2, b3⟩ := K s₁ rfl X₀
    exact ⟨t, o, a1, b1, b2, b3⟩
theorem lw_pre_spec {args : Array Value} {s : State} (h : (Jvm.Cond.and given_1 narrow_1).before args s = true) (hr : rest_1_c.before args s = true) : ∃ (b : Addr) (xs : List Int32), lw_P b xs args s := by
  have hs := flat_of_before _ h
  have hq := flat_of_before _ hr
  have hc : (Cond.count 1).before args s = true := hs _ (by decide +kernel)
  have harr : (Cond.arrayOf (.arg 0) .int).before args s = true := hs _ (by decide +kernel)
  have hle : (Cond.le (.length (.arg 0)) (.int 3072)).before args s = true := hs _ (by decide +kernel)
  have hlen : (Cond.isInt (.length (.arg 0))).before args s = true := hq _ (by decide +kernel)
  have hall : (Cond.all (.arg 0) (.isInt (.elem (.arg 0) (.index 0)))).before args s = true := hq _ (by decide +kernel)
  obtain ⟨b, xs, hb, hx⟩ := State.ints_of_pre rfl harr hlen hall
  have hsm : xs.length < 2 ^ 31 := hx.choose_spec.2.2.2
  have hev : (Term.length (.arg 0)).eval args s none [] s = some (.int xs.length.toInt32) := hx.length_eval hb
  have hv := Cond.le_ints hev (show (Term.int 3072).eval args s none [] s = some (.int 3072) from rfl)
  have hd : xs.length.toInt32 ≤ 3072 := by
    simpa [Cond.before, Cond.holds, hv] using hle
  have hN : xs.length ≤ 3072 := (Int32.ofNat_le_ofNat hsm (by decide)).mp (show Int32.ofNat xs.length ≤ Int32.ofNat 3072 from hd)
  exact ⟨b, xs, Cond.one_arg hc (show args[0]? = some (.ref b) from hb), hx, hN, h⟩
theorem lw_comes (l : Launch) (hflags : l.flags = flags0) : Comes l x (Jvm.Cond.code x code maxLocals ret :: tables_1) room_1 (fun tb e args s => Calls_1 tb e args s ∧ rest_1 tb e args s ∧ Pre_1 tb e args s)
    (fun _ _ args s o t => lw_Q args s o t) := by
  intro p e ha hc hk s m args below hf hfit hheap happ hpre
  obtain ⟨b, xs, hP⟩ := lw_pre_spec hpre.2.2 hpre.2.1
  obtain ⟨k, o, h1, h2, h3, hQ⟩ := lw_walk l hflags b xs p e ha hc hk s m args below hf ((Spec.applies_iff_loose hf).mp happ).1 hP trivial
  exact ⟨k, o, h1, h2, h3, hQ⟩
theorem lw_frame {s t : State} {o : Outcome} {args : Array Value} (h : Framed s o t [] 601024 7293034) :
    Framed s o t (fieldLocs frame_1_writes args s ++ arrayLocs frame_1_arrays args s ++ staticLocs frame_1_statics s) 601024 7293034 := h
theorem lw_limb (L : Cond) (hL : ∀ (args : Array Value) (s t : State), L.after args s (.returned (some (.int 1))) t = true) :
    ArmFor flags0 classFile x code maxLocals ret World_1 tables_1 room_1 Calls_1 rest_1 Pre_1
      (fun tb e a s o t => postC L tb e a s o t ∧ Framed s o t (fieldLocs frame_1_writes a s ++ arrayLocs frame_1_arrays a s ++ staticLocs frame_1_statics s) 601024 7293034) := by
  intro l hflags _ _ p e ha hc hk s m args below hf hfit hheap happ hpre
  obtain ⟨k, o, h1, h2, h3, rfl, hF⟩ := lw_comes l hflags p e ha hc hk s m args below hf hfit hheap happ hpre
  exact ⟨k, _, h1, h2, h3, hL args s _, lw_frame hF⟩
theorem i_vc : Claimed_1_1 ∧ Claimed_1_2 := ⟨lw_limb limb_1_1 (fun args s t => by simp [limb_1_1, Cond.after, Cond.holds, Cond.value]), lw_limb limb_1_2 (fun args s t => Cond.after_iff.mpr (by
  first | (rw [show limb_1_2 = Cond.eq .result (.int 1) from rfl, Cond.eq_ints (x := 1) (y := 1) rfl rfl]; simp; done) | (simp [limb_1_2, Cond.value, Term.eval]; done)))⟩

