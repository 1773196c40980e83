/-! arraycopy, calls, branches by tables, and one instruction of any kind -/
section GC
variable {p : Program} {l : Launch} {e : Env} {R : Room} {s : State} {m : MethodId} {args : Array Value} {below : List Frame} {meth : Method} {c : Code} {Q : State → Prop} {D : va_G} {K : Nat → ClassId} {base : Nat} {cc : ByteArray} {nL o n0 s0 h w : Nat} {ini : Bool}
variable {pc len : Nat} {ls st : List Value} {σ : Hp} {f : Fr} {H : Heap} {locs : List Loc} {cells slots : Nat} {arr : Array Slot} {rest : List Value}
theorem nn32 {z : Int32} (hz : ¬ z < 0) : z.toInt = (z.toNatClampNeg : Int) := by
  have hz0 : (0 : Int) ≤ z.toInt := by
    have := Int32.not_lt.mp hz
    simpa using Int32.le_iff_toInt_le.mp this
  show z.toInt = ((z.toInt.toNat : Nat) : Int)
  omega
theorem copy_link {j : Nat} (hc : isCopy o j = true) : Jvm.Cond.methodLink (zC o) j arraycopyName ∈ zX := by
  unfold isCopy at hc
  simp only [Bool.or_eq_true, Bool.and_eq_true, beq_iff_eq] at hc
  rcases hc with (⟨rfl, rfl⟩ | ⟨rfl, rfl⟩) | ⟨rfl, rfl⟩
  · exact List.mem_of_getElem? (i := 3) rfl
  · exact List.mem_of_getElem? (i := 4) rfl
  · exact List.mem_of_getElem? (i := 5) rfl
theorem go_copy (C : CT p R s m c meth D K base cc nL o ini h w) {j : Nat} (hc : isCopy o j = true) (hh : 1 ≤ h) (hw' : 60 ≤ w) (hd : decode cc pc = .ok (.invokestatic j, len)) (he : cpy pc len ls st σ = some f) (kk : Go p l e R s m args below meth c Q D K base nL n0 s0 f) : Go p l e R s m args below meth c Q D K base nL n0 s0 (pc, ls, st, σ) := by
  unfold cpy at he
  split at he
  next n dp b sp a st' =>
    split at he
    next na g nb g2 hv1 hv2 =>
      split at he
      next hl =>
        obtain ⟨hl, h1, h2, h3, h4, h5, h6⟩ := hl
        subst hl; cases he
        intro H locs arr hW hS hL T hT X
        have hp1 := hW.2.2 _ _ (hI_eq hv1)
        have hp2 := hW.2.2 _ _ (hI_eq hv2)
        have hc0 : H[a]? = some (vp_cell (K 0) (na, .inl g)) := hp1.2
        have hc1 : H[b]? = some (vp_cell (K 0) (nb, .inl g2)) := hp2.2
        obtain ⟨-, k0, hk0, cm0, hkk0⟩ := (C.arrT (t := 0) (by omega)).1 na (fun j => .int (g j))
        obtain ⟨-, k1, hk1, cm1, hkk1⟩ := (C.arrT (t := 0) (by omega)).1 nb (fun j => .int (g2 j))
        have hrm : 2 * (F0 m pc arr (.int n :: .int dp :: .ref b :: .int sp :: .ref a :: st')).monitorRoom + (st'.map fun v => v.category).sum + (nativeFrameWords "java/lang/System" "arraycopy" 5 + 11) ≤ R.locals := by
          have hR := C.2.2.2.2.2.2.2.2
          have h9 : nativeFrameWords "java/lang/System" "arraycopy" 5 = 7 := by decide +kernel
          show 2 * 0 + _ + _ ≤ _
          omega
        obtain ⟨vm', X', step⟩ := X.arraycopy C.1 C.2.2.2.1 (C.xw (copy_link hc)) (C.xw (List.mem_of_getElem? (i := 0) rfl)) (C.xw (List.mem_of_getElem? (i := 1) rfl)) (C.xw (List.mem_of_getElem? (i := 2) rfl)) (src := a) (dst := b) (cs := vp_cell (K 0) (na, .inl g)) (cd := vp_cell (K 0) (nb, .inl g2)) (srcPos := sp) (destPos := dp) (n := n) (by rw [hT]; exact hc0) (by rw [hT]; exact hc1)
          (fun _ h => by cases h) (fun _ h => by cases h) (fun h => by cases h) (fun h => by cases h) hk0 hk1 hkk0 hkk1 (by simp [refKind, zG]) h1 h2 h3
          (by rw [nn32 h1, nn32 h3]; show ¬ _ > ((arrV (K 0) na (fun j => .int (g j))).slots.size : Int); rw [arrV_size]; omega)
          (by rw [nn32 h2, nn32 h3]; show ¬ _ > ((arrV (K 0) nb (fun j => .int (g2 j))).slots.size : Int); rw [arrV_size]; omega)
          (fun vm₁ _ i hi => by
            have e : (vp_cell (K 0) (na, .inl g)).slots.getD (sp.toNatClampNeg + i) .null = .int (g (sp.toNatClampNeg + i)) := by
              show (arrV (K 0) na (fun j => .int (g j))).slots.getD _ _ = _
              rw [Array.getD_eq_getD_getElem?, arrV_read _ _ (by omega)]
              rfl
            refine ⟨?_, ?_⟩
            · rw [e]
              rfl
            · rw [e]
              exact trivial)
          (g := F0 m pc arr (.int n :: .int dp :: .ref b :: .int sp :: .ref a :: st')) rfl (by rw [C.2.2.1]; exact hL.size) (rest := st') rfl (by rw [C.2.1]; exact hd) (Nat.le_trans hh C.2.2.2.2.2.2.2.1) hrm
        have e1 : copied (vp_cell (K 0) (na, .inl g)) (vp_cell (K 0) (nb, .inl g2)) sp dp n = vp_cell (K 0) (nb, .inl (va_cpy g g2 sp.toNatClampNeg dp.toNatClampNeg n.toNatClampNeg)) := va_copied (fun z => .int z) (K 0) (K 0) g g2 h4
        rw [e1] at X' step
        have hl : b < H.size := (Array.getElem?_eq_some_iff.mp hc1).1
        have hheap : ((T.setVm vm').setCell b (vp_cell (K 0) (nb, .inl (va_cpy g g2 sp.toNatClampNeg dp.toNatClampNeg n.toNatClampNeg)))).heap = H.setIfInBounds b (vp_cell (K 0) (nb, .inl (va_cpy g g2 sp.toNatClampNeg dp.toNatClampNeg n.toNatClampNeg))) := by rw [← hT]; rfl
        have oq : ∀ q : Nat, q ≠ b → (H.setIfInBounds b (vp_cell (K 0) (nb, .inl (va_cpy g g2 sp.toNatClampNeg dp.toNatClampNeg n.toNatClampNeg))))[q]? = H[q]? := fun q hq => by simp [Array.getElem?_setIfInBounds, Ne.symm hq]
        obtain ⟨t, a1, b1⟩ := kk _ _ arr (hW.up (hI_eq hv2) (show (H.setIfInBounds b _)[b]? = some _ by simp [Array.getElem?_setIfInBounds, hl]) (fun t x hx => by cases hx; exact (by decide : (0 : Nat) < 7)) (by simp) oq) ⟨by simp; exact hS.1, fun q g1 g3 => by
            rw [oq q (fun e => g3 (by rw [e]; exact hp2.1))]
            exact hS.2.1 q g1 g3, fun q hq => by
            rcases List.mem_append.mp hq with h | h
            · exact hS.2.2 q h
            · obtain ⟨z, -, hz⟩ := List.mem_map.mp h
              rw [← hz]
              exact hp2.1⟩ hL _ hheap X'
        exact ⟨t, step t a1, b1⟩
      next => cases he
    next => cases he
  next => cases he
/-- a method of the system, from a world and arguments to an answer and a world -/
def Ct (l : Launch) (D : va_G) (K : Nat → ClassId) (base : Nat) (j : Nat) (as : List Value) (σ : Hp) (v : Option Value) (τ : Hp) : Prop :=
  Met l (mY j) [.code (mY j) (mB j) (mL j) (mR j)] ({ frames := mH j, cells := τ.2.1 - σ.2.1, slots := τ.2.2 - σ.2.2, locals := mW j }) (va_Pc as (fun U => Wo D K base σ U.heap ∧ TK D K U ∧ base ≤ U.heap.size)) (fun _ st oc t => oc = .returned v ∧ Wo D K base τ t.heap ∧ va_F (fun q => base ≤ q) st t) (τ.2.1 - σ.2.1) (τ.2.2 - σ.2.2) (fun q => base ≤ q)
def OS (l : Launch) (D : va_G) (K : Nat → ClassId) (base : Nat) (call : Nat → List Value → Hp → Option Rs) : Prop := ∀ j as σ v τ, j < 252 → call j as σ = some (v, τ) → σ.2.1 ≤ τ.2.1 ∧ σ.2.2 ≤ τ.2.2 ∧ Ct l D K base j as σ v τ
theorem zcall {v : Option Value} {τ : Hp} {mc ms : Nat} {g : JFrame} (hr : va_Run p l e R s m args below meth c H locs cells slots mc ms g rest (fun st oc t => oc = .returned v ∧ Wo D K base τ t.heap ∧ va_F (fun q => base ≤ q) st t) (fun q => base ≤ q)) (hS : va_S (fun q => base ≤ q) s.heap H locs)
    (kk : ∀ (H1 : Heap) (locs1 : List Loc), Wo D K base τ H1 → va_S (fun q => base ≤ q) s.heap H1 locs1 → W p l e R s m args below meth c H1 locs1 (cells + mc) (slots + ms) Q { g with pc := g.pc + 3, stack := v.toList ++ rest }) : W p l e R s m args below meth c H locs cells slots Q g := by
  intro T hT X
  obtain ⟨v', st₀, t, T', L, h0, X', hL, e1, e2, ⟨hv, hWo, hz, hk⟩, st⟩ := hr T hT X
  cases hv
  rw [h0] at hz hk
  obtain ⟨t2, a1, b1⟩ := kk T'.heap (locs ++ L) (by rw [e1]; exact hWo) ⟨Nat.le_trans hS.1 (by rw [e1]; exact hz), fun q h1 h2 => by rw [e1, hk q (Nat.lt_of_lt_of_le h1 hS.1) h2]; exact hS.2.1 q h1 h2, fun q hq => by
    rcases List.mem_append.mp hq with h | h
    · exact hS.2.2 q h
    · exact hL q h⟩ T' rfl X'
  exact ⟨t2, st t2 a1, b1⟩
theorem zM_at {P : Nat → Prop} (h0 : ∀ i, i < 32 → P (0 + i)) (h1 : ∀ i, i < 32 → P (32 + i)) (h2 : ∀ i, i < 32 → P (64 + i)) (h3 : ∀ i, i < 32 → P (96 + i)) (h4 : ∀ i, i < 32 → P (128 + i)) (h5 : ∀ i, i < 32 → P (160 + i)) (h6 : ∀ i, i < 32 → P (192 + i)) (h7 : ∀ i, i < 28 → P (224 + i)) {j : Nat} (hj : j < 252) : P j := by
  have key : ∀ a n, (∀ i, i < n → P (a + i)) → a ≤ j → j < a + n → P j := fun a n h q1 q2 => by
    have := h (j - a) (by omega)
    rwa [show a + (j - a) = j by omega] at this
  by_cases q1 : j < 32
  · exact key 0 32 h0 (by omega) (by omega)
  by_cases q2 : j < 64
  · exact key 32 32 h1 (by omega) (by omega)
  by_cases q3 : j < 96
  · exact key 64 32 h2 (by omega) (by omega)
  by_cases q4 : j < 128
  · exact key 96 32 h3 (by omega) (by omega)
  by_cases q5 : j < 160
  · exact key 128 32 h4 (by omega) (by omega)
  by_cases q6 : j < 192
  · exact key 160 32 h5 (by omega) (by omega)
  by_cases q7 : j < 224
  · exact key 192 32 h6 (by omega) (by omega)
  · exact key 224 28 h7 (by omega) (by omega)
theorem zM_od {j : Nat} (hj : j < 252) : (mY j).cls ≠ "java/lang/invoke/MethodHandle" ∧ (mY j).cls ≠ "java/lang/invoke/VarHandle" ∧ (parseMethodDescriptor (mY j).desc).map (fun d => d.parameters.length) = some (mP j) ∧ (mK j = 2 → (mY j).name = "<init>" ∧ mR j = none) := zM_at (P := fun j => (mY j).cls ≠ "java/lang/invoke/MethodHandle" ∧ (mY j).cls ≠ "java/lang/invoke/VarHandle" ∧ (parseMethodDescriptor (mY j).desc).map (fun d => d.parameters.length) = some (mP j) ∧ (mK j = 2 → (mY j).name = "<init>" ∧ mR j = none)) zM_od0 zM_od1 zM_od2 zM_od3 zM_od4 zM_od5 zM_od6 zM_od7 hj
theorem zM_pf {j : Nat} (hj : j < 252) : plainFor (mY j) = true := zM_at (P := fun j => plainFor (mY j) = true) zM_pf0 zM_pf1 zM_pf2 zM_pf3 zM_pf4 zM_pf5 zM_pf6 zM_pf7 hj
theorem Pc_blind {as : List Value} : FrameBlind (va_Pc as (fun U => Wo D K base σ U.heap ∧ TK D K U ∧ base ≤ U.heap.size)) := fun a U g mk q => by
  obtain ⟨q0, q1, q2, q3⟩ := q
  exact ⟨q0, q1, q2.moved (s := U) (U := U.calling g mk a) (State.WarmedH.refl U), q3⟩
theorem go_call (C : CT p R s m c meth D K base cc nL o ini h w) {call : Nat → List Value → Hp → Option Rs} (hOS : OS l D K base call) {k idx : Nat} {ins : Instr} (hk : (k = 0 ∧ ins = .invokestatic idx) ∨ (k = 1 ∧ ins = .invokevirtual idx) ∨ (k = 2 ∧ ins = .invokespecial idx)) (hd : decode cc pc = .ok (ins, len)) (he : cal call h w o k idx pc len ls st σ = some f)
    (h1 : n0 ≤ σ.2.1) (h2 : s0 ≤ σ.2.2) (h3 : f.2.2.2.2.1 - n0 ≤ R.cells) (h4 : f.2.2.2.2.2 - s0 ≤ R.slots) (kk : Go p l e R s m args below meth c Q D K base nL n0 s0 f) : Go p l e R s m args below meth c Q D K base nL n0 s0 (pc, ls, st, σ) := by
  unfold cal at he
  split at he
  next j nest hv =>
    split at he
    next hcs =>
      obtain ⟨hl, hkj, hfr, hwd, hst, hsum, hrcv⟩ := hcs
      split at he
      next v τ hcall =>
        subst hl; cases he
        have hj : j < 252 := zCt_ok _ (lookup_in hv)
        obtain ⟨m1, m2, hM⟩ := hOS j _ σ v τ hj hcall
        have hTW := C.2.2.2.2.1.2
        have hlink := hTW.2.1 _ (lookup_in hv)
        obtain ⟨hcode, hkw, hsw⟩ := hTW.2.2.2.2.2.1 j hj
        obtain ⟨hy1, hy2, hpar, hin2⟩ := zM_od hj
        have hws : ∀ x ∈ [Jvm.Cond.code (mY j) (mB j) (mL j) (mR j)], ∀ (a' : Array Value) (U : State), s.WarmedH U.vm → x.before a' U = true := by
          intro x hx a' U hU
          rw [List.mem_singleton.mp hx]
          exact hcode.moved rfl hU a'
        have hini : (Jvm.Cond.initialized (mY j).cls).before args s = true := by
          have ho : mO j < 10 := zM_at (P := fun j => mO j < 10) (by decide +kernel) (by decide +kernel) (by decide +kernel) (by decide +kernel) (by decide +kernel) (by decide +kernel) (by decide +kernel) (by decide +kernel) hj
          exact hTW.2.2.2.2.2.2.1 (mO j) ho args
        have hlen : ∀ sig, parseMethodDescriptor (mY j).desc = some sig → mP j = sig.parameters.length := fun sig hsig => by
          rw [hsig] at hpar
          exact (Option.some.inj hpar).symm
        have hfr' : mH j + 1 ≤ R.frames := Nat.le_trans hfr C.2.2.2.2.2.2.2.1
        have hwd' : 8 + (mL j + 11) + mW j ≤ R.locals := Nat.le_trans hwd C.2.2.2.2.2.2.2.2
        have hS9 : CallFix p m c cc nL s args [] (zC o) := ⟨C.1, C.2.1, C.2.2.1, C.2.2.2.1, fun x hx => absurd hx List.not_mem_nil⟩
        dsimp only at h3 h4
        intro H locs arr hW hS hL
        have hb : base ≤ H.size := Nat.le_trans C.2.2.2.2.2.1 hS.1
        have hpre : ∀ U : State, U.heap = H → s.WarmedH U.vm → Wo D K base σ U.heap ∧ TK D K U ∧ base ≤ U.heap.size := fun U hU hWm => ⟨by rw [hU]; exact hW, C.2.2.2.2.1.moved hWm, by rw [hU]; exact hb⟩
        have hroom : (σ.2.1 - n0) + (τ.2.1 - σ.2.1) ≤ R.cells ∧ (σ.2.2 - s0) + (τ.2.2 - σ.2.2) ≤ R.slots := ⟨by omega, by omega⟩
        have fin : va_Run p l e R s m args below meth c H locs (σ.2.1 - n0) (σ.2.2 - s0) (τ.2.1 - σ.2.1) (τ.2.2 - σ.2.2) (F0 m pc arr st) (st.drop (nar k j)) (fun st oc t => oc = .returned v ∧ Wo D K base τ t.heap ∧ va_F (fun q => base ≤ q) st t) (fun q => base ≤ q) → W p l e R s m args below meth c H locs (σ.2.1 - n0) (σ.2.2 - s0) Q (F0 m pc arr st) := fun hr =>
          zcall hr hS (fun H1 locs1 hW1 hS1 => W.cs (by show _ = τ.2.1 - n0; omega) (by show _ = τ.2.2 - s0; omega) (kk H1 locs1 arr hW1 hS1 hL))
        apply fin
        unfold zCw at hlink
        dsimp only at hlink
        unfold zKw at hkw
        unfold zSw at hsw
        generalize hn : nar k j = n at *
        have hsplit : st = ((st.take n).reverse).reverse ++ st.drop n := by rw [List.reverse_reverse, List.take_append_drop]
        have htl : (st.take n).length = n := by rw [List.length_take]; omega
        have hrl : (st.take n).reverse.length = n := by rw [List.length_reverse]; exact htl
        generalize has : (st.take n).reverse = as at *
        rcases hk with ⟨rfl, rfl⟩ | ⟨rfl, rfl⟩ | ⟨rfl, rfl⟩
        · rw [if_pos hkj] at hkw
          have hn : mP j = n := hn
          by_cases hne : nest = 0
          · rw [if_pos hne] at hlink
            exact va_runS (n := mP j) hS9 hM ⟨⟨rfl, rfl, hfr', hwd', hws, List.mem_singleton.mpr rfl, hcode _, hini, ⟨hy1, hy2⟩, hlen, hlink _⟩, hkw _⟩ ⟨Pc_blind, fun U hU hWm => ⟨rfl, hpre U hU hWm⟩⟩ rfl (by omega) hL.size hsplit (lv_room hsum) hd hroom
          · rw [if_neg hne] at hlink
            exact va_runSN (n := mP j) hS9 hM ⟨⟨⟨rfl, rfl, hfr', hwd', hws, List.mem_singleton.mpr rfl⟩, hcode _, hini, ⟨hy1, hy2⟩, hlen, hlink _⟩, hkw _, trivial⟩ ⟨Pc_blind, fun U hU hWm => ⟨rfl, hpre U hU hWm⟩⟩ rfl (by omega) hL.size hsplit (lv_room hsum) hd hroom
        · rw [if_neg (by omega)] at hkw
          have hn : mP j + 1 = n := hn
          rw [if_pos hkj] at hsw
          match as, hrl, hrcv with
          | [], hrl, _ => exact absurd hrl (by simp; omega)
          | a0 :: As, hrl, hrcv =>
            have hA : As.length = mP j := by simp at hrl; omega
            cases a0 with
            | ref b =>
              have hob : hObj σ b = some (mO j) := by simpa [rcv] using hrcv
              obtain ⟨fs, hfs⟩ := hObj_eq hob
              have hstk : st = As.reverse ++ .ref b :: st.drop n := by
                have := hsplit
                rw [List.reverse_cons, List.append_assoc] at this
                exact this
              have hrv : ∃ cellB : Cell, H[b]? = some cellB ∧ cellB.vm.isStatics = false ∧ s.vm.findClass (zC (mO j)) = some cellB.cls := by
                obtain ⟨r, g0, cell, g1, g2, g3, -⟩ := (hW.2.2 _ _ hfs).2
                have h8 : mO j < 8 := by
                  have := (List.getElem?_eq_some_iff.mp g0).1
                  exact this
                exact ⟨cell, g1, by rw [g3]; rfl, by rw [g2]; exact (C.2.2.2.2.1.1.1 (mO j) _ (zC8 h8)).2.1⟩
              by_cases hne : nest = 0
              · rw [if_pos hne] at hlink
                exact va_runV (n := mP j) (C := zC (mO j)) hS9 hM ⟨⟨rfl, rfl, hfr', hwd', hws, List.mem_singleton.mpr rfl, hcode _, hini, ⟨hy1, hy2⟩, hlen, hlink _⟩, hkw _, hsw _⟩ ⟨Pc_blind, hrv, fun U hU hWm => ⟨rfl, hpre U hU hWm⟩⟩ rfl hA hL.size hstk (lv_room hsum) hd hroom
              · rw [if_neg hne] at hlink
                exact va_runVN (n := mP j) (C := zC (mO j)) hS9 hM ⟨⟨⟨rfl, rfl, hfr', hwd', hws, List.mem_singleton.mpr rfl⟩, hcode _, hini, ⟨hy1, hy2⟩, hlen, hlink _⟩, hkw _, hsw _⟩ ⟨Pc_blind, hrv, fun U hU hWm => ⟨rfl, hpre U hU hWm⟩⟩ rfl hA hL.size hstk (lv_room hsum) hd hroom
            | _ => simp [rcv] at hrcv
        · rw [if_neg (by omega)] at hkw
          have hn : mP j + 1 = n := hn
          obtain ⟨hnm, hrt⟩ := hin2 hkj
          match as, hrl, hrcv with
          | [], hrl, _ => exact absurd hrl (by simp; omega)
          | a0 :: As, hrl, hrcv =>
            have hA : As.length = mP j := by simp at hrl; omega
            cases a0 with
            | ref b =>
              have hstk : st = As.reverse ++ .ref b :: st.drop n := by
                have := hsplit
                rw [List.reverse_cons, List.append_assoc] at this
                exact this
              have hM' := hM
              unfold Ct at hM'
              unfold zVw at hcode
              rw [hrt] at hM' hws hcode
              by_cases hne : nest = 0
              · rw [if_pos hne] at hlink
                exact va_runI (n := mP j) hS9 hM' ⟨⟨rfl, rfl, hfr', hwd', hws, List.mem_singleton.mpr rfl, hcode _, hini, ⟨hy1, hy2⟩, hlen, hlink _⟩, hnm, hkw _⟩ ⟨Pc_blind, fun U hU hWm => ⟨rfl, hpre U hU hWm⟩⟩ rfl hA hL.size hstk (lv_room hsum) hd hroom
              · rw [if_neg hne] at hlink
                exact va_runIN (n := mP j) hS9 hM' ⟨⟨⟨rfl, rfl, hfr', hwd', hws, List.mem_singleton.mpr rfl⟩, hcode _, hini, ⟨hy1, hy2⟩, hlen, hlink _⟩, hnm, hkw _⟩ ⟨Pc_blind, fun U hU hWm => ⟨rfl, hpre U hU hWm⟩⟩ rfl hA hL.size hstk (lv_room hsum) hd hroom
            | _ => simp [rcv] at hrcv
      next => cases he
    next => cases he
  next => cases he
end GC
