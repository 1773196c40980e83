/-! the law's cases, its loop -/
section LX
variable {p : Program} {l : Launch} {e : Env} {s : State} {m : MethodId} {below : List Frame} {meth : Method} {c' : Code} {b L : Nat} {xs : Nat → Int32} {D : va_G} {K : Nat → ClassId} {σ τ : Hp} {ls st : List Value} {pc len n i k : Nat}
variable {idx : Nat} {l5 l6 l7 : Value}
theorem lhelp (C : LC p l s m meth c' b L xs D K) (hσ : rkL s σ) (hτ : rkL s τ) {mc ms maxL ix : Nat} {y : MethodName} {bytes : ByteArray} {hh : List (Nat × Nat × Nat × Nat)} {As : List Value} {x : Int32} (hM : Met l y [.codeWith y bytes maxL (some .int) hh] (rmL mc ms) (va_Pc As (GS D K s.heap.size σ)) (LQ D K s.heap.size x τ) mc ms (fun q => s.heap.size ≤ q)) (hz : τ.2 = (σ.2.1 + mc, σ.2.2 + ms)) (w1 : Jvm.Cond.codeWith y bytes maxL (some .int) hh ∈ zE) (w2 : Jvm.Cond.static y ∈ zE) (w3 : Jvm.Cond.methodLink "AbsenceTreeLaw" ix y ∈ zE) (w4 : Jvm.Cond.initialized y.cls ∈ zE) (hy : y.cls ≠ "java/lang/invoke/MethodHandle" ∧ y.cls ≠ "java/lang/invoke/VarHandle") (hn : (parseMethodDescriptor y.desc).map (fun d => d.parameters.length) = some As.length) (hmL : 8 + (maxL + 11) + 150 ≤ 338) (hd : decode code pc = .ok (.invokestatic ix, 3)) (kk : Go p l e room_1 s m #[Value.ref b] below meth c' (lw_Z below #[Value.ref b] s) D K s.heap.size 8 s.heap.size 0 (pc + 3, ls, [.int x], τ)) : Go p l e room_1 s m #[Value.ref b] below meth c' (lw_Z below #[Value.ref b] s) D K s.heap.size 8 s.heap.size 0 (pc, ls, As.reverse, σ) := by
  intro H locs arr hW hS hLR
  have hw : ∀ w ∈ zE, w.before #[Value.ref b] s = true := fun w hw => C.2.2.1.1 w hw _
  have hX := C.2.2.1
  have hTK := C.2.1
  have CT0 := C.ct
  have t1 : τ.2.1 = σ.2.1 + mc := by rw [hz]
  have t2 : τ.2.2 = σ.2.2 + ms := by rw [hz]
  have hws : ∀ w ∈ [Jvm.Cond.codeWith y bytes maxL (some .int) hh], ∀ (a' : Array Value) (U : State), s.WarmedH U.vm → w.before a' U = true := fun w hm a' U hU => by
    rw [List.mem_singleton.mp hm]
    exact Hd.movedE rfl hU (hX.1 _ w1) a'
  have hlen : ∀ sig, parseMethodDescriptor y.desc = some sig → As.length = sig.parameters.length := fun sig hsig => by
    rw [hsig] at hn
    exact (Option.some.inj hn).symm
  have hr := vx_runSW (hh := hh) (bytes := bytes) (maxL := maxL) (ret := some .int) (As := As) (rest := []) (n := As.length) (index := ix) (g := F0 m pc arr As.reverse) (own := "AbsenceTreeLaw") (Ts := []) (cc := code) (nL := 8) (e := e) (below := below) (meth := meth) (args := #[Value.ref b]) (R := room_1) (s := s) (H := H) (locs := locs) (cells := σ.2.1 - s.heap.size) (slots := σ.2.2 - 0) ⟨CT0.1, CT0.2.1, CT0.2.2.1, CT0.2.2.2.1, fun x hx => absurd hx List.not_mem_nil⟩ hM ⟨⟨rfl, rfl, (Nat.le_of_ble_eq_true rfl : 8 ≤ 10), hmL, hws, List.mem_singleton.mpr rfl⟩, hw _ w1, hw _ w4, hy, hlen, hw _ w3, hw _ w2⟩ ⟨GS_blind, fun U hU hWm => ⟨rfl, by rw [hU]; exact hW, hTK.moved hWm, by rw [hU]; exact hS.1, hX.go hWm fun a h1 h2 => by rw [hU]; exact hS.2.1 a h1 h2⟩⟩ rfl rfl hLR.size (List.append_nil _).symm (Nat.le_of_ble_eq_true rfl) hd ⟨by show σ.2.1 - s.heap.size + mc ≤ 601024; have := hτ.2.1; have := hσ.1; omega, by show σ.2.2 - 0 + ms ≤ 7293034; have := hτ.2.2; omega⟩
  refine zcall (v := some (.int x)) (τ := τ) hr hS fun H1 locs1 hW1 hS1 => ?_
  refine W.cs ?_ ?_ (kk H1 locs1 arr hW1 hS1 hLR)
  · show σ.2.1 - s.heap.size + mc = τ.2.1 - s.heap.size
    have := hσ.1
    omega
  · show σ.2.2 - 0 + ms = τ.2.2 - 0
    omega
theorem lget (C : LC p l s m meth c' b L xs D K) (hLL : i + 6 ≤ L) (hidx : idx < 600) (hI : Inv s.heap.size idx σ) (kk : ∀ τ l5 l6 l7, Inv s.heap.size (idx + 1) τ → Go p l e room_1 s m #[Value.ref b] below meth c' (lw_Z below #[Value.ref b] s) D K s.heap.size 8 s.heap.size 0 (1937, [.ref b, .ref s.heap.size, .ref (s.heap.size + 24), .ref (s.heap.size + 41), .int (nI i), l5, l6, l7], [], τ)) : Go p l e room_1 s m #[Value.ref b] below meth c' (lw_Z below #[Value.ref b] s) D K s.heap.size 8 s.heap.size 0 (500, [.ref b, .ref s.heap.size, .ref (s.heap.size + 24), .ref (s.heap.size + 41), .int (nI i), l5, l6, l7], [], σ) := by
  obtain ⟨b1, b2, b3, o1, o2⟩ := Inv_bd hI
  have hσ := Inv_rk hI
  have hL2 := C.2.2.2.2
  refine lstep C hσ hσ (i := .aload_n 1) (len := 1) (pc' := 501) (ls' := [.ref b, .ref s.heap.size, .ref (s.heap.size + 24), .ref (s.heap.size + 41), .int (nI i), l5, l6, l7]) (st' := [.ref s.heap.size]) (by decide +kernel) 0 (rfl) ?_
  refine largs C hσ rfl rfl 2 501 1 _ (by decide +kernel) (by omega) hLL ?_
  refine lstep C hσ hσ (i := .aload_n 3) (len := 1) (pc' := 514) (ls' := [.ref b, .ref s.heap.size, .ref (s.heap.size + 24), .ref (s.heap.size + 41), .int (nI i), l5, l6, l7]) (st' := [.ref (s.heap.size + 41), .int (xs (i + 2)), .int (xs (i + 1)), .ref s.heap.size]) (by decide +kernel) 0 (rfl) ?_
  rcases J_get (D := D) (Kc := K) (base := s.heap.size) C.2.2.2.1 hidx hI (xs (i + 1)) (xs (i + 2)) with ⟨g, v, τ, hM, e1, e2, h41, hI'⟩ | ⟨v, τ, hM, e1, e2, hI'⟩
  · obtain ⟨n1, c1⟩ := dcall_N e1
    obtain ⟨n2, c2⟩ := dcall_N e2
    have m1 := dcall_mono e1
    have hτ := Inv_rk hI'
    have hω : rkL s (ous σ (s.heap.size + 41) g v.toInt64) := ⟨hσ.1, Nat.le_trans m1.1 hτ.2.1, Nat.le_trans m1.2 hτ.2.2⟩
    have o3 : hObj (ous σ (s.heap.size + 41) g v.toInt64) (s.heap.size + 24) = some 7 := by unfold ous hObj; rw [hup_ne (by omega)]; exact o2
    have o4 : hObj τ (s.heap.size + 24) = some 7 := kO_dcall e1 _ _ (by show _ < σ.2.1; omega) o3
    refine lhelp (As := [.ref s.heap.size, .int (xs (i + 1)), .int (xs (i + 2)), .ref (s.heap.size + 41)]) C hσ hω hM rfl (List.mem_append_left _ (List.mem_of_getElem? (i := 5) rfl)) (List.mem_append_left _ (List.mem_of_getElem? (i := 6) rfl)) (List.mem_append_left _ (List.mem_of_getElem? (i := 7) rfl)) (List.mem_append_left _ (List.mem_of_getElem? (i := 4) rfl)) (by decide +kernel) (show (parseMethodDescriptor method_3.desc).map (fun d => d.parameters.length) = some 4 by decide +kernel) (Nat.le_of_ble_eq_true rfl) (by decide +kernel) ?_
    refine lstep C hω hω (i := .istore 5) (len := 2) (pc' := 519) (ls' := [.ref b, .ref s.heap.size, .ref (s.heap.size + 24), .ref (s.heap.size + 41), .int (nI i), .int (nI 0), l6, l7]) (st' := []) (by decide +kernel) 0 (rfl) ?_
    refine lstep C hω hω (i := .aload_n 2) (len := 1) (pc' := 520) (ls' := [.ref b, .ref s.heap.size, .ref (s.heap.size + 24), .ref (s.heap.size + 41), .int (nI i), .int (nI 0), l6, l7]) (st' := [.ref (s.heap.size + 24)]) (by decide +kernel) 0 (rfl) ?_
    refine largs C hω rfl rfl 2 520 1 _ (by decide +kernel) (by omega) hLL ?_
    refine lstep C hω hτ (i := .invokevirtual 64) (len := 3) (pc' := 535) (ls' := [.ref b, .ref s.heap.size, .ref (s.heap.size + 24), .ref (s.heap.size + 41), .int (nI i), .int (nI 0), l6, l7]) (st' := [.int v]) (by decide +kernel) n1 (cal_rev (As := [.ref (s.heap.size + 24), .int (xs (i + 1)), .int (xs (i + 2))]) (rest := []) (v := some (.int v)) (j := 174) (by decide +kernel) (by decide +kernel) (show nar 1 174 = 3 by decide +kernel) (Nat.le_of_ble_eq_true rfl) (rcv_c (o := 7) (by decide +kernel) o3) c1) ?_
    refine lstep C hτ hτ (i := .istore 6) (len := 2) (pc' := 537) (ls' := [.ref b, .ref s.heap.size, .ref (s.heap.size + 24), .ref (s.heap.size + 41), .int (nI i), .int (nI 0), .int v, l7]) (st' := []) (by decide +kernel) 0 (rfl) ?_
    refine lstep C hτ hτ (i := .aload_n 2) (len := 1) (pc' := 538) (ls' := [.ref b, .ref s.heap.size, .ref (s.heap.size + 24), .ref (s.heap.size + 41), .int (nI i), .int (nI 0), .int v, l7]) (st' := [.ref (s.heap.size + 24)]) (by decide +kernel) 0 (rfl) ?_
    refine lstep C hτ hτ (i := .invokevirtual 65) (len := 3) (pc' := 541) (ls' := [.ref b, .ref s.heap.size, .ref (s.heap.size + 24), .ref (s.heap.size + 41), .int (nI i), .int (nI 0), .int v, l7]) (st' := [.int (nI 0)]) (by decide +kernel) n2 (cal_rev (As := [.ref (s.heap.size + 24)]) (rest := []) (v := some (.int (nI 0))) (j := 138) (by decide +kernel) (by decide +kernel) (show nar 1 138 = 1 by decide +kernel) (Nat.le_of_ble_eq_true rfl) (rcv_c (o := 7) (by decide +kernel) o4) c2) ?_
    refine lstep C hτ hτ (i := .iload 5) (len := 2) (pc' := 543) (ls' := [.ref b, .ref s.heap.size, .ref (s.heap.size + 24), .ref (s.heap.size + 41), .int (nI i), .int (nI 0), .int v, l7]) (st' := [.int (nI 0), .int (nI 0)]) (by decide +kernel) 0 (rfl) ?_
    refine lstep C hτ hτ (i := .if_icmp .eq 5) (len := 3) (pc' := 548) (ls' := [.ref b, .ref s.heap.size, .ref (s.heap.size + 24), .ref (s.heap.size + 41), .int (nI i), .int (nI 0), .int v, l7]) (st' := []) (by decide +kernel) 0 (by simp [ex, cnd]) ?_
    refine lstep C hτ hτ (i := .iload 5) (len := 2) (pc' := 550) (ls' := [.ref b, .ref s.heap.size, .ref (s.heap.size + 24), .ref (s.heap.size + 41), .int (nI i), .int (nI 0), .int v, l7]) (st' := [.int (nI 0)]) (by decide +kernel) 0 (rfl) ?_
    have z0 : (nI 0 : Int32) = 0 := rfl
    refine lstep C hτ hτ (i := .ifCond .ne 15) (len := 3) (pc' := 553) (ls' := [.ref b, .ref s.heap.size, .ref (s.heap.size + 24), .ref (s.heap.size + 41), .int (nI i), .int (nI 0), .int v, l7]) (st' := []) (by decide +kernel) 0 (by simp [ex, cnd, z0]) ?_
    refine lstep C hτ hτ (i := .aload_n 3) (len := 1) (pc' := 554) (ls' := [.ref b, .ref s.heap.size, .ref (s.heap.size + 24), .ref (s.heap.size + 41), .int (nI i), .int (nI 0), .int v, l7]) (st' := [.ref (s.heap.size + 41)]) (by decide +kernel) 0 (rfl) ?_
    refine lstep C hτ hτ (i := .iconst 0) (len := 1) (pc' := 555) (ls' := [.ref b, .ref s.heap.size, .ref (s.heap.size + 24), .ref (s.heap.size + 41), .int (nI i), .int (nI 0), .int v, l7]) (st' := [.int 0, .ref (s.heap.size + 41)]) (by decide +kernel) 0 (rfl) ?_
    have hg : hL τ (s.heap.size + 41) 1 = some (1, vp_updL g 0 v.toInt64) := hL_of h41
    refine lstep C hτ hτ (i := .laload) (len := 1) (pc' := 556) (ls' := [.ref b, .ref s.heap.size, .ref (s.heap.size + 24), .ref (s.heap.size + 41), .int (nI i), .int (nI 0), .int v, l7]) (st' := [.long v.toInt64]) (by decide +kernel) 0 (by simp [ex, aldL, hg, inb, vp_updL]) ?_
    refine lstep C hτ hτ (i := .iload 6) (len := 2) (pc' := 558) (ls' := [.ref b, .ref s.heap.size, .ref (s.heap.size + 24), .ref (s.heap.size + 41), .int (nI i), .int (nI 0), .int v, l7]) (st' := [.int v, .long v.toInt64]) (by decide +kernel) 0 (rfl) ?_
    refine lstep C hτ hτ (i := .i2l) (len := 1) (pc' := 559) (ls' := [.ref b, .ref s.heap.size, .ref (s.heap.size + 24), .ref (s.heap.size + 41), .int (nI i), .int (nI 0), .int v, l7]) (st' := [.long v.toInt64, .long v.toInt64]) (by decide +kernel) 0 (rfl) ?_
    refine lstep C hτ hτ (i := .lcmp) (len := 1) (pc' := 560) (ls' := [.ref b, .ref s.heap.size, .ref (s.heap.size + 24), .ref (s.heap.size + 41), .int (nI i), .int (nI 0), .int v, l7]) (st' := [.int 0]) (by decide +kernel) 0 (by simp [ex, lg_cmp]) ?_
    refine lstep C hτ hτ (i := .ifCond .eq 5) (len := 3) (pc' := 565) (ls' := [.ref b, .ref s.heap.size, .ref (s.heap.size + 24), .ref (s.heap.size + 41), .int (nI i), .int (nI 0), .int v, l7]) (st' := []) (by decide +kernel) 0 (by simp [ex, cnd]) ?_
    refine lstep C hτ hτ (i := .goto 1372) (len := 3) (pc' := 1937) (ls' := [.ref b, .ref s.heap.size, .ref (s.heap.size + 24), .ref (s.heap.size + 41), .int (nI i), .int (nI 0), .int v, l7]) (st' := []) (by decide +kernel) 0 (rfl) ?_
    exact kk τ _ _ _ hI'
  · obtain ⟨n1, c1⟩ := dcall_N e1
    obtain ⟨n2, c2⟩ := dcall_N e2
    have m1 := dcall_mono e1
    have hτ := Inv_rk hI'
    have hω : rkL s (thr σ) := ⟨Nat.le_succ_of_le hσ.1, Nat.le_trans m1.1 hτ.2.1, Nat.le_trans m1.2 hτ.2.2⟩
    have o3 : hObj (thr σ) (s.heap.size + 24) = some 7 := o2
    have o4 : hObj τ (s.heap.size + 24) = some 7 := kO_dcall e1 _ _ (by show _ < σ.2.1 + 1; omega) o3
    refine lhelp (As := [.ref s.heap.size, .int (xs (i + 1)), .int (xs (i + 2)), .ref (s.heap.size + 41)]) C hσ hω hM rfl (List.mem_append_left _ (List.mem_of_getElem? (i := 5) rfl)) (List.mem_append_left _ (List.mem_of_getElem? (i := 6) rfl)) (List.mem_append_left _ (List.mem_of_getElem? (i := 7) rfl)) (List.mem_append_left _ (List.mem_of_getElem? (i := 4) rfl)) (by decide +kernel) (show (parseMethodDescriptor method_3.desc).map (fun d => d.parameters.length) = some 4 by decide +kernel) (Nat.le_of_ble_eq_true rfl) (by decide +kernel) ?_
    refine lstep C hω hω (i := .istore 5) (len := 2) (pc' := 519) (ls' := [.ref b, .ref s.heap.size, .ref (s.heap.size + 24), .ref (s.heap.size + 41), .int (nI i), .int (nI 1), l6, l7]) (st' := []) (by decide +kernel) 0 (rfl) ?_
    refine lstep C hω hω (i := .aload_n 2) (len := 1) (pc' := 520) (ls' := [.ref b, .ref s.heap.size, .ref (s.heap.size + 24), .ref (s.heap.size + 41), .int (nI i), .int (nI 1), l6, l7]) (st' := [.ref (s.heap.size + 24)]) (by decide +kernel) 0 (rfl) ?_
    refine largs C hω rfl rfl 2 520 1 _ (by decide +kernel) (by omega) hLL ?_
    refine lstep C hω hτ (i := .invokevirtual 64) (len := 3) (pc' := 535) (ls' := [.ref b, .ref s.heap.size, .ref (s.heap.size + 24), .ref (s.heap.size + 41), .int (nI i), .int (nI 1), l6, l7]) (st' := [.int v]) (by decide +kernel) n1 (cal_rev (As := [.ref (s.heap.size + 24), .int (xs (i + 1)), .int (xs (i + 2))]) (rest := []) (v := some (.int v)) (j := 174) (by decide +kernel) (by decide +kernel) (show nar 1 174 = 3 by decide +kernel) (Nat.le_of_ble_eq_true rfl) (rcv_c (o := 7) (by decide +kernel) o3) c1) ?_
    refine lstep C hτ hτ (i := .istore 6) (len := 2) (pc' := 537) (ls' := [.ref b, .ref s.heap.size, .ref (s.heap.size + 24), .ref (s.heap.size + 41), .int (nI i), .int (nI 1), .int v, l7]) (st' := []) (by decide +kernel) 0 (rfl) ?_
    refine lstep C hτ hτ (i := .aload_n 2) (len := 1) (pc' := 538) (ls' := [.ref b, .ref s.heap.size, .ref (s.heap.size + 24), .ref (s.heap.size + 41), .int (nI i), .int (nI 1), .int v, l7]) (st' := [.ref (s.heap.size + 24)]) (by decide +kernel) 0 (rfl) ?_
    refine lstep C hτ hτ (i := .invokevirtual 65) (len := 3) (pc' := 541) (ls' := [.ref b, .ref s.heap.size, .ref (s.heap.size + 24), .ref (s.heap.size + 41), .int (nI i), .int (nI 1), .int v, l7]) (st' := [.int (nI 1)]) (by decide +kernel) n2 (cal_rev (As := [.ref (s.heap.size + 24)]) (rest := []) (v := some (.int (nI 1))) (j := 138) (by decide +kernel) (by decide +kernel) (show nar 1 138 = 1 by decide +kernel) (Nat.le_of_ble_eq_true rfl) (rcv_c (o := 7) (by decide +kernel) o4) c2) ?_
    refine lstep C hτ hτ (i := .iload 5) (len := 2) (pc' := 543) (ls' := [.ref b, .ref s.heap.size, .ref (s.heap.size + 24), .ref (s.heap.size + 41), .int (nI i), .int (nI 1), .int v, l7]) (st' := [.int (nI 1), .int (nI 1)]) (by decide +kernel) 0 (rfl) ?_
    refine lstep C hτ hτ (i := .if_icmp .eq 5) (len := 3) (pc' := 548) (ls' := [.ref b, .ref s.heap.size, .ref (s.heap.size + 24), .ref (s.heap.size + 41), .int (nI i), .int (nI 1), .int v, l7]) (st' := []) (by decide +kernel) 0 (by simp [ex, cnd]) ?_
    refine lstep C hτ hτ (i := .iload 5) (len := 2) (pc' := 550) (ls' := [.ref b, .ref s.heap.size, .ref (s.heap.size + 24), .ref (s.heap.size + 41), .int (nI i), .int (nI 1), .int v, l7]) (st' := [.int (nI 1)]) (by decide +kernel) 0 (rfl) ?_
    have z1 : ¬ (nI 1 : Int32) = 0 := by decide
    refine lstep C hτ hτ (i := .ifCond .ne 15) (len := 3) (pc' := 565) (ls' := [.ref b, .ref s.heap.size, .ref (s.heap.size + 24), .ref (s.heap.size + 41), .int (nI i), .int (nI 1), .int v, l7]) (st' := []) (by decide +kernel) 0 (by simp [ex, cnd, z1]) ?_
    refine lstep C hτ hτ (i := .goto 1372) (len := 3) (pc' := 1937) (ls' := [.ref b, .ref s.heap.size, .ref (s.heap.size + 24), .ref (s.heap.size + 41), .int (nI i), .int (nI 1), .int v, l7]) (st' := []) (by decide +kernel) 0 (rfl) ?_
    exact kk τ _ _ _ hI'
theorem lrow (C : LC p l s m meth c' b L xs D K) (hLL : i + 6 ≤ L) (hidx : idx < 600) (hI : Inv s.heap.size idx σ) (kk : ∀ τ l5 l6 l7, Inv s.heap.size (idx + 1) τ → Go p l e room_1 s m #[Value.ref b] below meth c' (lw_Z below #[Value.ref b] s) D K s.heap.size 8 s.heap.size 0 (1937, [.ref b, .ref s.heap.size, .ref (s.heap.size + 24), .ref (s.heap.size + 41), .int (nI i), l5, l6, l7], [], τ)) : Go p l e room_1 s m #[Value.ref b] below meth c' (lw_Z below #[Value.ref b] s) D K s.heap.size 8 s.heap.size 0 (1882, [.ref b, .ref s.heap.size, .ref (s.heap.size + 24), .ref (s.heap.size + 41), .int (nI i), l5, l6, l7], [], σ) := by
  obtain ⟨b1, b2, b3, o1, o2⟩ := Inv_bd hI
  have hσ := Inv_rk hI
  have hL2 := C.2.2.2.2
  refine lstep C hσ hσ (i := .aload_n 1) (len := 1) (pc' := 1883) (ls' := [.ref b, .ref s.heap.size, .ref (s.heap.size + 24), .ref (s.heap.size + 41), .int (nI i), l5, l6, l7]) (st' := [.ref s.heap.size]) (by decide +kernel) 0 (rfl) ?_
  refine largs C hσ rfl rfl 1 1883 1 _ (by decide +kernel) (by omega) hLL ?_
  refine lstep C hσ hσ (i := .aload_n 3) (len := 1) (pc' := 1890) (ls' := [.ref b, .ref s.heap.size, .ref (s.heap.size + 24), .ref (s.heap.size + 41), .int (nI i), l5, l6, l7]) (st' := [.ref (s.heap.size + 41), .int (xs (i + 1)), .ref s.heap.size]) (by decide +kernel) 0 (rfl) ?_
  rcases J_row (D := D) (Kc := K) (base := s.heap.size) C.2.2.2.1 hidx hI (xs (i + 1)) with ⟨g, v, τ, hM, e1, e2, h41, hI'⟩ | ⟨v, τ, hM, e1, e2, hI'⟩
  · obtain ⟨n1, c1⟩ := dcall_N e1
    obtain ⟨n2, c2⟩ := dcall_N e2
    have m1 := dcall_mono e1
    have hτ := Inv_rk hI'
    have hω : rkL s (ous σ (s.heap.size + 41) g v) := ⟨hσ.1, Nat.le_trans m1.1 hτ.2.1, Nat.le_trans m1.2 hτ.2.2⟩
    have o3 : hObj (ous σ (s.heap.size + 41) g v) (s.heap.size + 24) = some 7 := by unfold ous hObj; rw [hup_ne (by omega)]; exact o2
    have o4 : hObj τ (s.heap.size + 24) = some 7 := kO_dcall e1 _ _ (by show _ < σ.2.1; omega) o3
    refine lhelp (As := [.ref s.heap.size, .int (xs (i + 1)), .ref (s.heap.size + 41)]) C hσ hω hM rfl (List.mem_append_left _ (List.mem_of_getElem? (i := 8) rfl)) (List.mem_append_left _ (List.mem_of_getElem? (i := 9) rfl)) (List.mem_append_left _ (List.mem_of_getElem? (i := 10) rfl)) (List.mem_append_left _ (List.mem_of_getElem? (i := 4) rfl)) (by decide +kernel) (show (parseMethodDescriptor method_4.desc).map (fun d => d.parameters.length) = some 3 by decide +kernel) (Nat.le_of_ble_eq_true rfl) (by decide +kernel) ?_
    refine lstep C hω hω (i := .istore 5) (len := 2) (pc' := 1895) (ls' := [.ref b, .ref s.heap.size, .ref (s.heap.size + 24), .ref (s.heap.size + 41), .int (nI i), .int (nI 0), l6, l7]) (st' := []) (by decide +kernel) 0 (rfl) ?_
    refine lstep C hω hω (i := .aload_n 2) (len := 1) (pc' := 1896) (ls' := [.ref b, .ref s.heap.size, .ref (s.heap.size + 24), .ref (s.heap.size + 41), .int (nI i), .int (nI 0), l6, l7]) (st' := [.ref (s.heap.size + 24)]) (by decide +kernel) 0 (rfl) ?_
    refine largs C hω rfl rfl 1 1896 1 _ (by decide +kernel) (by omega) hLL ?_
    refine lstep C hω hτ (i := .invokevirtual 241) (len := 3) (pc' := 1905) (ls' := [.ref b, .ref s.heap.size, .ref (s.heap.size + 24), .ref (s.heap.size + 41), .int (nI i), .int (nI 0), l6, l7]) (st' := [.long v]) (by decide +kernel) n1 (cal_rev (As := [.ref (s.heap.size + 24), .int (xs (i + 1))]) (rest := []) (v := some (.long v)) (j := 251) (by decide +kernel) (by decide +kernel) (show nar 1 251 = 2 by decide +kernel) (Nat.le_of_ble_eq_true rfl) (rcv_c (o := 7) (by decide +kernel) o3) c1) ?_
    refine lstep C hτ hτ (i := .lstore 6) (len := 2) (pc' := 1907) (ls' := [.ref b, .ref s.heap.size, .ref (s.heap.size + 24), .ref (s.heap.size + 41), .int (nI i), .int (nI 0), .long v, secd]) (st' := []) (by decide +kernel) 0 (rfl) ?_
    refine lstep C hτ hτ (i := .aload_n 2) (len := 1) (pc' := 1908) (ls' := [.ref b, .ref s.heap.size, .ref (s.heap.size + 24), .ref (s.heap.size + 41), .int (nI i), .int (nI 0), .long v, secd]) (st' := [.ref (s.heap.size + 24)]) (by decide +kernel) 0 (rfl) ?_
    refine lstep C hτ hτ (i := .invokevirtual 65) (len := 3) (pc' := 1911) (ls' := [.ref b, .ref s.heap.size, .ref (s.heap.size + 24), .ref (s.heap.size + 41), .int (nI i), .int (nI 0), .long v, secd]) (st' := [.int (nI 0)]) (by decide +kernel) n2 (cal_rev (As := [.ref (s.heap.size + 24)]) (rest := []) (v := some (.int (nI 0))) (j := 138) (by decide +kernel) (by decide +kernel) (show nar 1 138 = 1 by decide +kernel) (Nat.le_of_ble_eq_true rfl) (rcv_c (o := 7) (by decide +kernel) o4) c2) ?_
    refine lstep C hτ hτ (i := .iload 5) (len := 2) (pc' := 1913) (ls' := [.ref b, .ref s.heap.size, .ref (s.heap.size + 24), .ref (s.heap.size + 41), .int (nI i), .int (nI 0), .long v, secd]) (st' := [.int (nI 0), .int (nI 0)]) (by decide +kernel) 0 (rfl) ?_
    refine lstep C hτ hτ (i := .if_icmp .eq 5) (len := 3) (pc' := 1918) (ls' := [.ref b, .ref s.heap.size, .ref (s.heap.size + 24), .ref (s.heap.size + 41), .int (nI i), .int (nI 0), .long v, secd]) (st' := []) (by decide +kernel) 0 (by simp [ex, cnd]) ?_
    refine lstep C hτ hτ (i := .iload 5) (len := 2) (pc' := 1920) (ls' := [.ref b, .ref s.heap.size, .ref (s.heap.size + 24), .ref (s.heap.size + 41), .int (nI i), .int (nI 0), .long v, secd]) (st' := [.int (nI 0)]) (by decide +kernel) 0 (rfl) ?_
    have z0 : (nI 0 : Int32) = 0 := rfl
    refine lstep C hτ hτ (i := .ifCond .ne 14) (len := 3) (pc' := 1923) (ls' := [.ref b, .ref s.heap.size, .ref (s.heap.size + 24), .ref (s.heap.size + 41), .int (nI i), .int (nI 0), .long v, secd]) (st' := []) (by decide +kernel) 0 (by simp [ex, cnd, z0]) ?_
    refine lstep C hτ hτ (i := .aload_n 3) (len := 1) (pc' := 1924) (ls' := [.ref b, .ref s.heap.size, .ref (s.heap.size + 24), .ref (s.heap.size + 41), .int (nI i), .int (nI 0), .long v, secd]) (st' := [.ref (s.heap.size + 41)]) (by decide +kernel) 0 (rfl) ?_
    refine lstep C hτ hτ (i := .iconst 0) (len := 1) (pc' := 1925) (ls' := [.ref b, .ref s.heap.size, .ref (s.heap.size + 24), .ref (s.heap.size + 41), .int (nI i), .int (nI 0), .long v, secd]) (st' := [.int 0, .ref (s.heap.size + 41)]) (by decide +kernel) 0 (rfl) ?_
    have hg : hL τ (s.heap.size + 41) 1 = some (1, vp_updL g 0 v) := hL_of h41
    refine lstep C hτ hτ (i := .laload) (len := 1) (pc' := 1926) (ls' := [.ref b, .ref s.heap.size, .ref (s.heap.size + 24), .ref (s.heap.size + 41), .int (nI i), .int (nI 0), .long v, secd]) (st' := [.long v]) (by decide +kernel) 0 (by simp [ex, aldL, hg, inb, vp_updL]) ?_
    refine lstep C hτ hτ (i := .lload 6) (len := 2) (pc' := 1928) (ls' := [.ref b, .ref s.heap.size, .ref (s.heap.size + 24), .ref (s.heap.size + 41), .int (nI i), .int (nI 0), .long v, secd]) (st' := [.long v, .long v]) (by decide +kernel) 0 (rfl) ?_
    refine lstep C hτ hτ (i := .lcmp) (len := 1) (pc' := 1929) (ls' := [.ref b, .ref s.heap.size, .ref (s.heap.size + 24), .ref (s.heap.size + 41), .int (nI i), .int (nI 0), .long v, secd]) (st' := [.int 0]) (by decide +kernel) 0 (by simp [ex, lg_cmp]) ?_
    refine lstep C hτ hτ (i := .ifCond .eq 5) (len := 3) (pc' := 1934) (ls' := [.ref b, .ref s.heap.size, .ref (s.heap.size + 24), .ref (s.heap.size + 41), .int (nI i), .int (nI 0), .long v, secd]) (st' := []) (by decide +kernel) 0 (by simp [ex, cnd]) ?_
    refine lstep C hτ hτ (i := .goto 3) (len := 3) (pc' := 1937) (ls' := [.ref b, .ref s.heap.size, .ref (s.heap.size + 24), .ref (s.heap.size + 41), .int (nI i), .int (nI 0), .long v, secd]) (st' := []) (by decide +kernel) 0 (rfl) ?_
    exact kk τ _ _ _ hI'
  · obtain ⟨n1, c1⟩ := dcall_N e1
    obtain ⟨n2, c2⟩ := dcall_N e2
    have m1 := dcall_mono e1
    have hτ := Inv_rk hI'
    have hω : rkL s (thr σ) := ⟨Nat.le_succ_of_le hσ.1, Nat.le_trans m1.1 hτ.2.1, Nat.le_trans m1.2 hτ.2.2⟩
    have o3 : hObj (thr σ) (s.heap.size + 24) = some 7 := o2
    have o4 : hObj τ (s.heap.size + 24) = some 7 := kO_dcall e1 _ _ (by show _ < σ.2.1 + 1; omega) o3
    refine lhelp (As := [.ref s.heap.size, .int (xs (i + 1)), .ref (s.heap.size + 41)]) C hσ hω hM rfl (List.mem_append_left _ (List.mem_of_getElem? (i := 8) rfl)) (List.mem_append_left _ (List.mem_of_getElem? (i := 9) rfl)) (List.mem_append_left _ (List.mem_of_getElem? (i := 10) rfl)) (List.mem_append_left _ (List.mem_of_getElem? (i := 4) rfl)) (by decide +kernel) (show (parseMethodDescriptor method_4.desc).map (fun d => d.parameters.length) = some 3 by decide +kernel) (Nat.le_of_ble_eq_true rfl) (by decide +kernel) ?_
    refine lstep C hω hω (i := .istore 5) (len := 2) (pc' := 1895) (ls' := [.ref b, .ref s.heap.size, .ref (s.heap.size + 24), .ref (s.heap.size + 41), .int (nI i), .int (nI 1), l6, l7]) (st' := []) (by decide +kernel) 0 (rfl) ?_
    refine lstep C hω hω (i := .aload_n 2) (len := 1) (pc' := 1896) (ls' := [.ref b, .ref s.heap.size, .ref (s.heap.size + 24), .ref (s.heap.size + 41), .int (nI i), .int (nI 1), l6, l7]) (st' := [.ref (s.heap.size + 24)]) (by decide +kernel) 0 (rfl) ?_
    refine largs C hω rfl rfl 1 1896 1 _ (by decide +kernel) (by omega) hLL ?_
    refine lstep C hω hτ (i := .invokevirtual 241) (len := 3) (pc' := 1905) (ls' := [.ref b, .ref s.heap.size, .ref (s.heap.size + 24), .ref (s.heap.size + 41), .int (nI i), .int (nI 1), l6, l7]) (st' := [.long v]) (by decide +kernel) n1 (cal_rev (As := [.ref (s.heap.size + 24), .int (xs (i + 1))]) (rest := []) (v := some (.long v)) (j := 251) (by decide +kernel) (by decide +kernel) (show nar 1 251 = 2 by decide +kernel) (Nat.le_of_ble_eq_true rfl) (rcv_c (o := 7) (by decide +kernel) o3) c1) ?_
    refine lstep C hτ hτ (i := .lstore 6) (len := 2) (pc' := 1907) (ls' := [.ref b, .ref s.heap.size, .ref (s.heap.size + 24), .ref (s.heap.size + 41), .int (nI i), .int (nI 1), .long v, secd]) (st' := []) (by decide +kernel) 0 (rfl) ?_
    refine lstep C hτ hτ (i := .aload_n 2) (len := 1) (pc' := 1908) (ls' := [.ref b, .ref s.heap.size, .ref (s.heap.size + 24), .ref (s.heap.size + 41), .int (nI i), .int (nI 1), .long v, secd]) (st' := [.ref (s.heap.size + 24)]) (by decide +kernel) 0 (rfl) ?_
    refine lstep C hτ hτ (i := .invokevirtual 65) (len := 3) (pc' := 1911) (ls' := [.ref b, .ref s.heap.size, .ref (s.heap.size + 24), .ref (s.heap.size + 41), .int (nI i), .int (nI 1), .long v, secd]) (st' := [.int (nI 1)]) (by decide +kernel) n2 (cal_rev (As := [.ref (s.heap.size + 24)]) (rest := []) (v := some (.int (nI 1))) (j := 138) (by decide +kernel) (by decide +kernel) (show nar 1 138 = 1 by decide +kernel) (Nat.le_of_ble_eq_true rfl) (rcv_c (o := 7) (by decide +kernel) o4) c2) ?_
    refine lstep C hτ hτ (i := .iload 5) (len := 2) (pc' := 1913) (ls' := [.ref b, .ref s.heap.size, .ref (s.heap.size + 24), .ref (s.heap.size + 41), .int (nI i), .int (nI 1), .long v, secd]) (st' := [.int (nI 1), .int (nI 1)]) (by decide +kernel) 0 (rfl) ?_
    refine lstep C hτ hτ (i := .if_icmp .eq 5) (len := 3) (pc' := 1918) (ls' := [.ref b, .ref s.heap.size, .ref (s.heap.size + 24), .ref (s.heap.size + 41), .int (nI i), .int (nI 1), .long v, secd]) (st' := []) (by decide +kernel) 0 (by simp [ex, cnd]) ?_
    refine lstep C hτ hτ (i := .iload 5) (len := 2) (pc' := 1920) (ls' := [.ref b, .ref s.heap.size, .ref (s.heap.size + 24), .ref (s.heap.size + 41), .int (nI i), .int (nI 1), .long v, secd]) (st' := [.int (nI 1)]) (by decide +kernel) 0 (rfl) ?_
    have z1 : ¬ (nI 1 : Int32) = 0 := by decide
    refine lstep C hτ hτ (i := .ifCond .ne 14) (len := 3) (pc' := 1934) (ls' := [.ref b, .ref s.heap.size, .ref (s.heap.size + 24), .ref (s.heap.size + 41), .int (nI i), .int (nI 1), .long v, secd]) (st' := []) (by decide +kernel) 0 (by simp [ex, cnd, z1]) ?_
    refine lstep C hτ hτ (i := .goto 3) (len := 3) (pc' := 1937) (ls' := [.ref b, .ref s.heap.size, .ref (s.heap.size + 24), .ref (s.heap.size + 41), .int (nI i), .int (nI 1), .long v, secd]) (st' := []) (by decide +kernel) 0 (rfl) ?_
    exact kk τ _ _ _ hI'
end LX
