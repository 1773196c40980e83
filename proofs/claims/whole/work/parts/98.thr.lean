/-! calls that throw: their words, the throw itself, the class's get and row where they throw -/
def nE : String := "java/util/NoSuchElementException"
def nS : List String := ["java/lang/RuntimeException", "java/lang/Exception"]
def hh3 : List (Nat × Nat × Nat × Nat) := [(0, 10, 13, 13)]
def hh4 : List (Nat × Nat × Nat × Nat) := [(0, 8, 11, 13)]
def zL1 : List Jvm.Cond := [.classLink "AbsenceTree" 143 nE, .initialized nE, .classLink "AbsenceTreeLaw" 13 nE, .castable nE nE, .initialized "AbsenceTreeLaw", .codeWith method_3 method_3_code 5 (some .int) hh3, .static method_3, .methodLink "AbsenceTreeLaw" 59 method_3, .codeWith method_4 method_4_code 4 (some .int) hh4, .static method_4, .methodLink "AbsenceTreeLaw" 238 method_4]
def zE : List Jvm.Cond := zL1 ++ vx_at0 "AbsenceTree" 145 nE nS
def okE (w : Jvm.Cond) : Bool := match w with
  | .castable .. => true
  | .declares .. => true
  | w => okW w
theorem Hd.movedE {s U : State} {w : Jvm.Cond} (hw : okE w = true) (hW : s.WarmedH U.vm) (h : Hd s w) : Hd U w := by
  unfold okE at hw
  split at hw
  next => exact fun a => va_Nw.use rfl (va_Nw.warmC hW (h #[]))
  next => exact fun a => va_tabs rfl (rfl : (s.setVm U.vm).vm = U.vm) (by rw [Jvm.Cond.declares_setVm hW.alike]; exact h #[])
  next => exact h.moved hw hW
set_option maxRecDepth 100000 in
theorem zE_ok : ∀ w ∈ zE, okE w = true := by decide +kernel
set_option maxRecDepth 100000 in
theorem zE_ot : ∀ w ∈ Jvm.Cond.classLink "AbsenceTree" 143 nE :: Jvm.Cond.initialized nE :: vx_at0 "AbsenceTree" 145 nE nS, vx_ot w = true := by decide +kernel
/-- the world behind a throw -/
def thr (σ : Hp) : Hp := (σ.1, σ.2.1 + 1, σ.2.2 + 6)
def XS (base : Nat) (U : State) : Prop := (∀ w ∈ zE, Hd U w) ∧ vx_Zq Bundle.tN "UNASSIGNED_STACK" Bundle.steD (fun q => base ≤ q) U U.heap ∧ vx_Zq Bundle.tN "SUPPRESSED_SENTINEL" Bundle.listD (fun q => base ≤ q) U U.heap
theorem XS.go {base : Nat} {s U : State} (hW : s.WarmedH U.vm) (hk : ∀ a : Nat, a < s.heap.size → ¬ base ≤ a → U.heap[a]? = s.heap[a]?) (h : XS base s) : XS base U :=
  ⟨fun w hw => (h.1 w hw).movedE (zE_ok w hw) hW, (h.2.1.moved hW.alike).kept hk, (h.2.2.moved hW.alike).kept hk⟩
/-- what a call that throws starts from -/
def GS (D : va_G) (K : Nat → ClassId) (base : Nat) (σ : Hp) (U : State) : Prop := Wo D K base σ U.heap ∧ TK D K U ∧ base ≤ U.heap.size ∧ XS base U
theorem GS_blind {D : va_G} {K : Nat → ClassId} {base : Nat} {σ : Hp} {as : List Value} : FrameBlind (va_Pc as (GS D K base σ)) := fun a U g mk q => by
  obtain ⟨q0, q1, q2, q3, q4⟩ := q
  exact ⟨q0, q1, q2.moved (s := U) (U := U.calling g mk a) (State.WarmedH.refl U), q3, q4.go (s := U) (U := U.calling g mk a) (State.WarmedH.refl U) fun _ _ _ => rfl⟩
def XT (D : va_G) (K : Nat → ClassId) (base : Nat) (σ : Hp) (E : String) (st t : State) : Prop := E = nE ∧ Wo D K base (thr σ) t.heap ∧ va_F (fun q => base ≤ q) st t
section TH
variable {p : Program} {l : Launch} {e : Env} {R : Room} {s : State} {m : MethodId} {args : Array Value} {below : List Frame} {meth : Method} {c : Code} {Q : State → Prop} {D : va_G} {K : Nat → ClassId} {base : Nat} {cc : ByteArray} {nL n0 s0 h w : Nat} {ini : Bool}
variable {pc : Nat} {ls : List Value} {σ : Hp} {Qc : Array Value → State → Outcome → State → Prop}
theorem go_thr (C : CT p R s m c meth D K base cc nL 6 ini h w) (hlocks : meth.locks = false) (hl : l.stackTraces = false) (hX : XS base s) (hout : ∀ x ∈ c.exceptionTable.toList, False) (d0 : decode cc pc = .ok (.new 143, 3)) (d3 : decode cc (pc + 3) = .ok (.dup, 1)) (d4 : decode cc (pc + 4) = .ok (.invokespecial 145, 3)) (d7 : decode cc (pc + 7) = .ok (.athrow, 1)) (hF : 6 ≤ R.frames) (hL : 81 ≤ R.locals) (hc : 1 ≤ R.cells) (hs : 6 ≤ R.slots) :
    Go p l e R s m args below meth c (vx_MQ below Qc (XT D K base σ) args s 1 6 (fun q => base ≤ q)) D K base nL σ.2.1 σ.2.2 (pc, ls, [], σ) := by
  intro H locs arr hW hS hLR
  have hw : ∀ w ∈ zE, w.before args s = true := fun w hw => hX.1 w hw args
  refine wx_throw0 (own := "AbsenceTree") (cls := nE) (names := nS) (ik := 143) (ic := 145) (A := fun q => base ≤ q) C.1 C.2.1 hl C.2.2.2.1 (by decide +kernel) (by decide +kernel) (hw _ (List.mem_append_left _ (List.mem_of_getElem? (i := 0) rfl))) (hw _ (List.mem_append_left _ (List.mem_of_getElem? (i := 1) rfl))) (fun w h => hw w (List.mem_append_right _ h)) zE_ot hX.2.1 hX.2.2 hS (hLR.size.trans C.2.2.1.symm) d0 d3 d4 d7 (fun x hx => (hout x hx).elim) (by show 2 + 3 < _; omega) (by show 0 + _ ≤ _; exact hL) (by show σ.2.1 - σ.2.1 + 1 ≤ _; omega) (by show σ.2.2 - σ.2.2 + 6 ≤ _; omega) hlocks (fun t hal hsz hkp => ?_) hS.2.2 (by show σ.2.1 - σ.2.1 + 1 ≤ _; omega) (by show σ.2.2 - σ.2.2 + 6 ≤ _; omega)
  refine ⟨rfl, ⟨hsz.trans (by rw [hW.1]; rfl), hW.2.1, fun a e he => ?_⟩, ?_, fun q h1 h2 => ?_⟩
  · have h1 := hW.2.2 a e he
    exact ⟨h1.1, h1.2.kept (hkp a h1.2.lt)⟩
  · exact Nat.le_trans hS.1 (by rw [hsz]; omega)
  · rw [hkp q (Nat.lt_of_lt_of_le h1 hS.1)]
    exact hS.2.1 q h1 h2
end TH
