/-! the small machine's memory instructions and calls over the machine -/
section GM
variable {p : Program} {l : Launch} {e : Env} {R : Room} {s : State} {m : MethodId} {args : Array Value} {below : List Frame} {meth : Method} {c : Code} {Q : State → Prop} {D : va_G} {K : Nat → ClassId} {base : Nat} {cc : ByteArray} {nL o n0 s0 h w : Nat} {ini : Bool}
variable {pc len : Nat} {ls st : List Value} {σ : Hp} {f : Fr} {H : Heap} {locs : List Loc} {cells slots : Nat} {arr : Array Slot} {rest : List Value}
theorem CT.fw (C : CT p R s m c meth D K base cc nL o ini h w) {ci : Nat} (h8 : ci < 8) : ∀ x ∈ u_ws (zC ci) (zT ci) (zN ci), x.before args s = true := fun x hx => (C.2.2.2.2.1.2.2.2.2.2.2.2.2.1 ci h8).2 x hx args
theorem CT.xw (C : CT p R s m c meth D K base cc nL o ini h w) {x : Jvm.Cond} (hx : x ∈ zX) : x.before args s = true := C.2.2.2.2.1.2.2.2.2.2.2.2.2.2 x hx args
theorem CT.arrT (C : CT p R s m c meth D K base cc nL o ini h w) {t : Nat} (ht : t < 7) : ArrOfT s (K t) (zG t) ∧ va_RA s (K t) (zG t) := C.2.2.2.2.1.1.2 t _ (tgs_at K ht)
theorem go_getfield (C : CT p R s m c meth D K base cc nL o ini h w) {j : Nat} (hd : decode cc pc = .ok (.getfield j, len)) (he : gfl o j pc len ls st σ = some f) (kk : Go p l e R s m args below meth c Q D K base nL n0 s0 f) : Go p l e R s m args below meth c Q D K base nL n0 s0 (pc, ls, st, σ) := by
  unfold gfl at he
  split at he
  next ci k a st' hf =>
    split at he
    next v hv =>
      split at he
      next hl =>
        subst hl; cases he
        obtain ⟨hk, h8, hself⟩ := zFt_ok _ (lookup_in hf)
        have hw0 := C.2.2.2.2.1.2.1 _ (lookup_in hf)
        dsimp only at hk h8 hself
        unfold hGet at hv
        split at hv
        next ob hob =>
          split at hv
          next hci =>
            obtain ⟨ci', fs⟩ := ob
            dsimp only at hci hv
            subst hci
            intro H locs arr hW hS hL
            have hP := hW.one hob
            unfold zFw at hw0
            dsimp only at hw0
            by_cases hoc : o = ci'
            · rw [if_pos hoc] at hw0
              exact va_get (D := D) (cl := vwCl) (ci := ci') (C := zC ci') (T := zT ci') (N := zN ci') (Ts := u_ws (zC ci') (zT ci') (zN ci')) C.1 C.2.1 (C.fw h8) (fun x hx => hx) C.2.2.2.1 C.2.2.2.2.1.1 hP 0 rfl (zC8 h8) k hk (hw0 _) (fun x hx => by rw [hself] at hx; exact hx) hv hd (kk H locs arr hW hS hL)
            · rw [if_neg hoc] at hw0
              exact va_getN (D := D) (cl := vwCl) (ci := ci') (C := zC ci') (T := zT ci') (N := zN ci') (Ts := u_ws (zC ci') (zT ci') (zN ci')) C.1 C.2.1 (C.fw h8) (fun x hx => hx) C.2.2.2.1 C.2.2.2.2.1.1 hP 0 rfl (zC8 h8) k hk (hw0 _) (fun x hx => by rw [hself] at hx; exact hx) hv hd (kk H locs arr hW hS hL)
          next => cases hv
        next => cases hv
      next => cases he
    next => cases he
  next => cases he
/-- what a putfield leaves: the object's new picture, the rest as it was -/
def PutK (p : Program) (l : Launch) (e : Env) (R : Room) (s : State) (m : MethodId) (args : Array Value) (below : List Frame) (meth : Method) (c : Code) (Q : State → Prop) (D : va_G) (H : Heap) (locs : List Loc) (cells slots : Nat) (a : Nat) (E : va_E) (g : JFrame) : Prop :=
  ∀ (H1 : Heap) (k : Nat), va_at D vwCl (a, E) H1 → H1.size = H.size → (∀ q : Nat, q ≠ a → H1[q]? = H[q]?) → W p l e R s m args below meth c H1 (locs ++ [⟨a, k⟩]) cells slots Q g
theorem row_put (C : CT p R s m c meth D K base cc nL o ini h w) {a j ci k : Nat} {fs : List Value} {v : Value} (h8 : ci < 8) (hk : k < zN ci) (hself : (zT ci k).1 = zC ci) (hw0 : Hd s (zFw ((o, j), (ci, k)))) (hat : va_at D vwCl (a, .inr (ci, fs)) H) (hok : pok ini o ci k v = true) (hl : k < fs.length) (hd : decode cc pc = .ok (.putfield j, 3))
    (kk : PutK p l e R s m args below meth c Q D H locs cells slots a (.inr (ci, fs.set k v)) (F0 m (pc + 3) arr rest)) : W p l e R s m args below meth c H locs cells slots Q (F0 m pc arr (v :: .ref a :: rest)) := by
  have hK := C.2.2.2.2.1.1
  have hap := va_apart (own := zC o) (args := args) (C.fw (args := args) h8) (fun x hx => hx) (zY ci) (zY_ok h8) (zn_ok h8) hK (zC8 h8)
  obtain ⟨r, h1, cell, q1, q2, q3, q4⟩ := hat
  have hr : r = (zC ci, zT ci, zN ci) := Option.some.inj (h1.symm.trans (zC8 h8))
  subst hr
  obtain ⟨hS, hfc, kC, hkC, hkind⟩ := hK.1 ci _ (zC8 h8)
  obtain ⟨cf, kf, fi, fd, hi, hsl⟩ := hS k hk
  have hlay := C.fw (args := args) h8 _ (u_in_lay hk)
  have hst := (u_facts hfc hkC (u_lays (C.fw (args := args) h8) (fun x hx => hx) hk) hi).1
  have hi' := hi
  rw [hself] at hi'
  unfold pok at hok
  simp only [Bool.and_eq_true, decide_eq_true_eq, Bool.or_eq_true, Bool.not_eq_true'] at hok
  obtain ⟨⟨hn, hfit⟩, hfin⟩ := hok
  have hd1 := zY_ok h8 k hk
  have fin : ∀ H' : Heap, H'[a]? = some (cell.setSlot fd.slot v) → H'.size = H.size → (∀ q : Nat, q ≠ a → H'[q]? = H[q]?) → W p l e R s m args below meth c H' (locs ++ [⟨a, fd.slot⟩]) cells slots Q (F0 m (pc + 3) arr rest) := by
    intro H' e1 e2 e3
    rw [hsl] at e1
    exact kk H' fd.slot ⟨_, zC8 h8, t_OB.to (V := updV (vp_V fs) k v) ⟨_, e1, q2, q3, t_set q4 hap hk v⟩ (fun i _ => vp_updV_set hl v i)⟩ e2 e3
  unfold zFw at hw0
  dsimp only at hw0
  unfold u_lay at hlay
  by_cases hf : (zT ci k).2.2.2 = false
  · rw [if_neg (by rw [hf]; decide)] at hlay
    have h6 := u_store hfc hkC hkind hlay hi hd1 hn hfit
    by_cases hoc : o = ci
    · rw [if_pos hoc] at hw0
      exact W.putK C.1 C.2.1 (f := fd) ⟨C.2.2.2.1, hw0 _, ⟨_, _, _, hi'⟩, hst⟩ (by rw [q2]; exact h6) q1 q3 (by rw [hsl]; exact k2_hasslot (q4 k hk)) rfl rfl hd fin
    · rw [if_neg hoc] at hw0
      exact va_WputK C.1 C.2.1 (f := fd) C.2.2.2.1 (hw0 _) hi' hst (by rw [q2]; exact h6) q1 q3 (by rw [hsl]; exact k2_hasslot (q4 k hk)) rfl rfl hd fin
  · rcases hfin with hfin | ⟨hini, hoc⟩
    · exact absurd hfin hf
    have hf1 : (zT ci k).2.2.2 = true := by simpa using hf
    rw [if_pos hf1] at hlay
    rw [if_pos hoc] at hw0
    have hcf : m.cls = cf := by
      obtain ⟨_, _, c', _, _, _, -, -, hf', -, -, -, hown2, -⟩ := Cond.laysFinal_spec hlay
      have e1 : c' = cf := by have := hi.symm.trans hf'; simp at this; exact this.1.symm
      rw [hself, ← hoc] at hown2
      rw [← e1]; exact Option.some.inj (C.2.2.2.1.symm.trans hown2)
    have h6 := u_fits hfc hkC hkind (Or.inr hlay) hi hd1 hn hfit
    exact W.putFinK C.1 C.2.1 C.2.2.2.1 (hw0 _) hi' hst hcf (C.2.2.2.2.2.2.1 hini) (by rw [q2]; exact h6) q1 q3 (by rw [hsl]; exact k2_hasslot (q4 k hk)) rfl rfl hd fin
theorem go_putfield (C : CT p R s m c meth D K base cc nL o ini h w) {j : Nat} (hd : decode cc pc = .ok (.putfield j, len)) (he : pfl ini o j pc len ls st σ = some f) (kk : Go p l e R s m args below meth c Q D K base nL n0 s0 f) : Go p l e R s m args below meth c Q D K base nL n0 s0 (pc, ls, st, σ) := by
  unfold pfl at he
  split at he
  next ci k v a st' hf =>
    split at he
    next τ hv =>
      split at he
      next hl =>
        obtain ⟨hl, hok⟩ := hl
        subst hl; cases he
        obtain ⟨hk, h8, hself⟩ := zFt_ok _ (lookup_in hf)
        have hw0 := C.2.2.2.2.1.2.1 _ (lookup_in hf)
        dsimp only at hk h8 hself
        unfold hPut at hv
        split at hv
        next ob hob =>
          split at hv
          next hci =>
            obtain ⟨ci', fs⟩ := ob
            obtain ⟨hci, hkl⟩ := hci
            dsimp only at hci hv hkl
            subst hci
            cases hv
            intro H locs arr hW hS hL
            have h3 := hW.2.2 _ _ hob
            exact row_put C h8 hk hself hw0 h3.2 hok hkl hd (fun H1 k1 e1 e2 e3 => kk H1 _ arr (hW.up hob e1 (fun t x hx => by cases hx) e2 e3) (hS.put e2 e3 h3.1) hL)
          next => cases hv
        next => cases hv
      next => cases he
    next => cases he
  next => cases he
theorem inb_in {i : Int32} {n : Nat} (h : inb i n = true) : vp_in i n := by
  unfold inb at h
  simp only [Bool.and_eq_true, decide_eq_true_eq] at h
  rintro (q | q)
  · exact h.1 q
  · omega
theorem hI_eq {a t n : Nat} {g : Nat → Int32} (hv : hI σ a t = some (n, g)) : σ.1 a = some (.inl (t, n, .inl g)) := by
  unfold hI at hv
  split at hv
  next t' n' g' hx =>
    split at hv
    next ht => subst ht; cases hv; exact hx
    next => cases hv
  next => cases hv
theorem hL_eq {a t n : Nat} {g : Nat → Int64} (hv : hL σ a t = some (n, g)) : σ.1 a = some (.inl (t, n, .inr (.inl g))) := by
  unfold hL at hv
  split at hv
  next t' n' g' hx =>
    split at hv
    next ht => subst ht; cases hv; exact hx
    next => cases hv
  next => cases hv
theorem hR_eq {a t n : Nat} {g : Nat → Option Nat} (hv : hR σ a = some (t, n, g)) : σ.1 a = some (.inl (t, n, .inr (.inr (.inr (.inr g))))) := by
  unfold hR at hv
  split at hv
  next t' n' g' hx => cases hv; exact hx
  next => cases hv
theorem hLen_eq {a n : Nat} (hv : hLen σ a = some n) : ∃ t x, σ.1 a = some (.inl (t, n, x)) := by
  unfold hLen at hv
  split at hv
  next t' n' x hx => cases hv; exact ⟨t', x, hx⟩
  next => cases hv
theorem hObj_eq {a ci : Nat} (hv : hObj σ a = some ci) : ∃ fs, σ.1 a = some (.inr (ci, fs)) := by
  unfold hObj at hv
  split at hv
  next ob hx => cases hv; exact ⟨ob.2, hx⟩
  next => cases hv

theorem go_iaload (C : CT p R s m c meth D K base cc nL o ini h w) (hd : decode cc pc = .ok (.iaload, len)) (he : aldI 0 pc len ls st σ = some f) (kk : Go p l e R s m args below meth c Q D K base nL n0 s0 f) : Go p l e R s m args below meth c Q D K base nL n0 s0 (pc, ls, st, σ) := by
  unfold aldI at he
  split at he
  next i a st' =>
    split at he
    next n g hv =>
      split at he
      next hl =>
        obtain ⟨hl, hi⟩ := hl
        subst hl; cases he
        intro H locs arr hW hS hL
        exact va_iald (D := D) (cl := vwCl) (tys := tgs K) C.1 C.2.1 C.2.2.2.2.1.1 (hW.one (hI_eq hv)) 0 0 rfl rfl (inb_in hi) hd (kk H locs arr hW hS hL)
      next => cases he
    next => cases he
  next => cases he

theorem go_caload (C : CT p R s m c meth D K base cc nL o ini h w) (hd : decode cc pc = .ok (.caload, len)) (he : aldI 3 pc len ls st σ = some f) (kk : Go p l e R s m args below meth c Q D K base nL n0 s0 f) : Go p l e R s m args below meth c Q D K base nL n0 s0 (pc, ls, st, σ) := by
  unfold aldI at he
  split at he
  next i a st' =>
    split at he
    next n g hv =>
      split at he
      next hl =>
        obtain ⟨hl, hi⟩ := hl
        subst hl; cases he
        intro H locs arr hW hS hL
        exact va_cald (D := D) (cl := vwCl) (tys := tgs K) C.1 C.2.1 C.2.2.2.2.1.1 (hW.one (hI_eq hv)) 0 3 rfl rfl (inb_in hi) hd (kk H locs arr hW hS hL)
      next => cases he
    next => cases he
  next => cases he

theorem go_baloadB (C : CT p R s m c meth D K base cc nL o ini h w) (hd : decode cc pc = .ok (.baload, len)) (he : aldI 2 pc len ls st σ = some f) (kk : Go p l e R s m args below meth c Q D K base nL n0 s0 f) : Go p l e R s m args below meth c Q D K base nL n0 s0 (pc, ls, st, σ) := by
  unfold aldI at he
  split at he
  next i a st' =>
    split at he
    next n g hv =>
      split at he
      next hl =>
        obtain ⟨hl, hi⟩ := hl
        subst hl; cases he
        intro H locs arr hW hS hL
        exact va_bald (D := D) (cl := vwCl) (tys := tgs K) C.1 C.2.1 C.2.2.2.2.1.1 (hW.one (hI_eq hv)) 0 2 rfl rfl (inb_in hi) hd (kk H locs arr hW hS hL)
      next => cases he
    next => cases he
  next => cases he

theorem go_baloadZ (C : CT p R s m c meth D K base cc nL o ini h w) (hd : decode cc pc = .ok (.baload, len)) (he : aldI 4 pc len ls st σ = some f) (kk : Go p l e R s m args below meth c Q D K base nL n0 s0 f) : Go p l e R s m args below meth c Q D K base nL n0 s0 (pc, ls, st, σ) := by
  unfold aldI at he
  split at he
  next i a st' =>
    split at he
    next n g hv =>
      split at he
      next hl =>
        obtain ⟨hl, hi⟩ := hl
        subst hl; cases he
        intro H locs arr hW hS hL
        exact va_zald (D := D) (cl := vwCl) (tys := tgs K) C.1 C.2.1 C.2.2.2.2.1.1 (hW.one (hI_eq hv)) 0 4 rfl rfl (inb_in hi) hd (kk H locs arr hW hS hL)
      next => cases he
    next => cases he
  next => cases he

theorem go_laload (C : CT p R s m c meth D K base cc nL o ini h w) (hd : decode cc pc = .ok (.laload, len)) (he : aldL pc len ls st σ = some f) (kk : Go p l e R s m args below meth c Q D K base nL n0 s0 f) : Go p l e R s m args below meth c Q D K base nL n0 s0 (pc, ls, st, σ) := by
  unfold aldL at he
  split at he
  next i a st' =>
    split at he
    next n g hv =>
      split at he
      next hl =>
        obtain ⟨hl, hi⟩ := hl
        subst hl; cases he
        intro H locs arr hW hS hL
        exact va_lald (D := D) (cl := vwCl) (tys := tgs K) C.1 C.2.1 C.2.2.2.2.1.1 (hW.one (hL_eq hv)) 0 1 rfl rfl (inb_in hi) hd (kk H locs arr hW hS hL)
      next => cases he
    next => cases he
  next => cases he
theorem go_aaload (C : CT p R s m c meth D K base cc nL o ini h w) (hd : decode cc pc = .ok (.aaload, len)) (he : aldR pc len ls st σ = some f) (kk : Go p l e R s m args below meth c Q D K base nL n0 s0 f) : Go p l e R s m args below meth c Q D K base nL n0 s0 (pc, ls, st, σ) := by
  unfold aldR at he
  split at he
  next i a st' =>
    split at he
    next t n g hv =>
      split at he
      next hl =>
        obtain ⟨hl, hi, ht⟩ := hl
        subst hl; cases he
        intro H locs arr hW hS hL
        rcases ht with rfl | rfl
        · exact va_aldq (D := D) (cl := vwCl) (tys := tgs K) C.1 C.2.1 C.2.2.2.2.1.1 (hW.one (hR_eq hv)) 0 5 rfl rfl (inb_in hi) hd (kk H locs arr hW hS hL)
        · exact va_aldq (D := D) (cl := vwCl) (tys := tgs K) C.1 C.2.1 C.2.2.2.2.1.1 (hW.one (hR_eq hv)) 0 6 rfl rfl (inb_in hi) hd (kk H locs arr hW hS hL)
      next => cases he
    next => cases he
  next => cases he
theorem go_alen (C : CT p R s m c meth D K base cc nL o ini h w) (hd : decode cc pc = .ok (.arraylength, len)) (he : alen pc len ls st σ = some f) (kk : Go p l e R s m args below meth c Q D K base nL n0 s0 f) : Go p l e R s m args below meth c Q D K base nL n0 s0 (pc, ls, st, σ) := by
  unfold alen at he
  split at he
  next a st' =>
    split at he
    next n hv =>
      split at he
      next hl =>
        subst hl; cases he
        intro H locs arr hW hS hL
        obtain ⟨t, x, hx⟩ := hLen_eq hv
        exact va_alen (D := D) (cl := vwCl) (tys := tgs K) C.1 C.2.1 C.2.2.2.2.1.1 (hW.one hx) 0 t rfl (tgs_at K (hW.2.1 _ _ _ hx)) rfl hd (kk H locs arr hW hS hL)
      next => cases he
    next => cases he
  next => cases he

theorem go_iastore (C : CT p R s m c meth D K base cc nL o ini h w) (hd : decode cc pc = .ok (.iastore, len)) (he : astI 0 pc len ls st σ = some f) (kk : Go p l e R s m args below meth c Q D K base nL n0 s0 f) : Go p l e R s m args below meth c Q D K base nL n0 s0 (pc, ls, st, σ) := by
  unfold astI at he
  split at he
  next x i a st' =>
    split at he
    next n g hv =>
      split at he
      next hl =>
        obtain ⟨hl, hi⟩ := hl
        subst hl; cases he
        intro H locs arr hW hS hL
        have h3 := hW.2.2 _ _ (hI_eq hv)
        have hin := inb_in hi
        refine W.iast C.1 C.2.1 h3.2 ((C.arrT (t := 0) (by omega)).1 n (fun j => .int (g j))) (fun q => by cases q) (by show ¬ (i < 0 ∨ (arrV _ _ _).slots.size ≤ _); rw [arrV_size]; exact hin) rfl rfl hd fun H1 e1 z oq => ?_
        refine kk H1 _ arr (hW.up (hI_eq hv) ?_ (fun t' x' hx => by cases hx; exact (by decide : (0 : Nat) < 7)) z oq) (hS.put z oq h3.1) hL
        show H1[a]? = some (vp_cell _ _)
        rw [e1]
        refine congrArg some ?_
        show (vp_cell (K 0) (n, .inl g)).setSlot _ _ = vp_cell (K 0) (n, .inl _)
        rw [vp_cell_i, vp_cell_i, arrV_store]
        congr 1
        funext q
        by_cases hq : q = i.toNatClampNeg
        · subst hq
          simp [updV, upd, vp_nar, zG]
          try rfl
        · simp [updV, upd, hq]
      next => cases he
    next => cases he
  next => cases he

theorem go_castore (C : CT p R s m c meth D K base cc nL o ini h w) (hd : decode cc pc = .ok (.castore, len)) (he : astI 3 pc len ls st σ = some f) (kk : Go p l e R s m args below meth c Q D K base nL n0 s0 f) : Go p l e R s m args below meth c Q D K base nL n0 s0 (pc, ls, st, σ) := by
  unfold astI at he
  split at he
  next x i a st' =>
    split at he
    next n g hv =>
      split at he
      next hl =>
        obtain ⟨hl, hi⟩ := hl
        subst hl; cases he
        intro H locs arr hW hS hL
        have h3 := hW.2.2 _ _ (hI_eq hv)
        have hin := inb_in hi
        refine W.cast C.1 C.2.1 h3.2 ((C.arrT (t := 3) (by omega)).1 n (fun j => .int (g j))) (fun q => by cases q) (by show ¬ (i < 0 ∨ (arrV _ _ _).slots.size ≤ _); rw [arrV_size]; exact hin) rfl rfl hd fun H1 e1 z oq => ?_
        refine kk H1 _ arr (hW.up (hI_eq hv) ?_ (fun t' x' hx => by cases hx; exact (by decide : (3 : Nat) < 7)) z oq) (hS.put z oq h3.1) hL
        show H1[a]? = some (vp_cell _ _)
        rw [e1]
        refine congrArg some ?_
        show (vp_cell (K 3) (n, .inl g)).setSlot _ _ = vp_cell (K 3) (n, .inl _)
        rw [vp_cell_i, vp_cell_i, arrV_store]
        congr 1
        funext q
        by_cases hq : q = i.toNatClampNeg
        · subst hq
          simp [updV, upd, vp_nar, zG]
          try rfl
        · simp [updV, upd, hq]
      next => cases he
    next => cases he
  next => cases he

theorem go_bastoreB (C : CT p R s m c meth D K base cc nL o ini h w) (hd : decode cc pc = .ok (.bastore, len)) (he : astI 2 pc len ls st σ = some f) (kk : Go p l e R s m args below meth c Q D K base nL n0 s0 f) : Go p l e R s m args below meth c Q D K base nL n0 s0 (pc, ls, st, σ) := by
  unfold astI at he
  split at he
  next x i a st' =>
    split at he
    next n g hv =>
      split at he
      next hl =>
        obtain ⟨hl, hi⟩ := hl
        subst hl; cases he
        intro H locs arr hW hS hL
        have h3 := hW.2.2 _ _ (hI_eq hv)
        have hin := inb_in hi
        refine W.bast C.1 C.2.1 h3.2 ((C.arrT (t := 2) (by omega)).1 n (fun j => .int (g j))) (fun q => by cases q) (by show ¬ (i < 0 ∨ (arrV _ _ _).slots.size ≤ _); rw [arrV_size]; exact hin) rfl rfl hd fun H1 e1 z oq => ?_
        refine kk H1 _ arr (hW.up (hI_eq hv) ?_ (fun t' x' hx => by cases hx; exact (by decide : (2 : Nat) < 7)) z oq) (hS.put z oq h3.1) hL
        show H1[a]? = some (vp_cell _ _)
        rw [e1]
        refine congrArg some ?_
        show (vp_cell (K 2) (n, .inl g)).setSlot _ _ = vp_cell (K 2) (n, .inl _)
        rw [vp_cell_i, vp_cell_i, arrV_store]
        congr 1
        funext q
        by_cases hq : q = i.toNatClampNeg
        · subst hq
          simp [updV, upd, vp_nar, zG]
          try rfl
        · simp [updV, upd, hq]
      next => cases he
    next => cases he
  next => cases he

theorem go_bastoreZ (C : CT p R s m c meth D K base cc nL o ini h w) (hd : decode cc pc = .ok (.bastore, len)) (he : astI 4 pc len ls st σ = some f) (kk : Go p l e R s m args below meth c Q D K base nL n0 s0 f) : Go p l e R s m args below meth c Q D K base nL n0 s0 (pc, ls, st, σ) := by
  unfold astI at he
  split at he
  next x i a st' =>
    split at he
    next n g hv =>
      split at he
      next hl =>
        obtain ⟨hl, hi⟩ := hl
        subst hl; cases he
        intro H locs arr hW hS hL
        have h3 := hW.2.2 _ _ (hI_eq hv)
        have hin := inb_in hi
        refine W.zast C.1 C.2.1 h3.2 ((C.arrT (t := 4) (by omega)).1 n (fun j => .int (g j))) (fun q => by cases q) (by show ¬ (i < 0 ∨ (arrV _ _ _).slots.size ≤ _); rw [arrV_size]; exact hin) rfl rfl hd fun H1 e1 z oq => ?_
        refine kk H1 _ arr (hW.up (hI_eq hv) ?_ (fun t' x' hx => by cases hx; exact (by decide : (4 : Nat) < 7)) z oq) (hS.put z oq h3.1) hL
        show H1[a]? = some (vp_cell _ _)
        rw [e1]
        refine congrArg some ?_
        show (vp_cell (K 4) (n, .inl g)).setSlot _ _ = vp_cell (K 4) (n, .inl _)
        rw [vp_cell_i, vp_cell_i, arrV_store]
        congr 1
        funext q
        by_cases hq : q = i.toNatClampNeg
        · subst hq
          simp [updV, upd, vp_nar, zG]
          try rfl
        · simp [updV, upd, hq]
      next => cases he
    next => cases he
  next => cases he

theorem go_lastore (C : CT p R s m c meth D K base cc nL o ini h w) (hd : decode cc pc = .ok (.lastore, len)) (he : astL pc len ls st σ = some f) (kk : Go p l e R s m args below meth c Q D K base nL n0 s0 f) : Go p l e R s m args below meth c Q D K base nL n0 s0 (pc, ls, st, σ) := by
  unfold astL at he
  split at he
  next x i a st' =>
    split at he
    next n g hv =>
      split at he
      next hl =>
        obtain ⟨hl, hi⟩ := hl
        subst hl; cases he
        intro H locs arr hW hS hL
        have h3 := hW.2.2 _ _ (hL_eq hv)
        have hin := inb_in hi
        refine W.last C.1 C.2.1 h3.2 ((C.arrT (t := 1) (by omega)).1 n (fun j => .long (g j))) (fun q => by cases q) (by show ¬ (i < 0 ∨ (arrV _ _ _).slots.size ≤ _); rw [arrV_size]; exact hin) rfl rfl hd fun H1 e1 z oq => ?_
        refine kk H1 _ arr (hW.up (hL_eq hv) ?_ (fun t' x' hx => by cases hx; exact (by decide : (1 : Nat) < 7)) z oq) (hS.put z oq h3.1) hL
        show H1[a]? = some (vp_cell _ _)
        rw [e1]
        refine congrArg some ?_
        show (vp_cell (K 1) (n, .inr (.inl g))).setSlot _ _ = vp_cell (K 1) (n, .inr (.inl _))
        rw [vp_cell_l, vp_cell_l, arrV_store]
        congr 1
        funext q
        by_cases hq : q = i.toNatClampNeg
        · subst hq
          simp [updV, vp_updL]
        · simp [updV, vp_updL, hq]
      next => cases he
    next => cases he
  next => cases he
theorem go_aastore (C : CT p R s m c meth D K base cc nL o ini h w) (hd : decode cc pc = .ok (.aastore, len)) (he : astR pc len ls st σ = some f) (kk : Go p l e R s m args below meth c Q D K base nL n0 s0 f) : Go p l e R s m args below meth c Q D K base nL n0 s0 (pc, ls, st, σ) := by
  unfold astR at he
  split at he
  next v i a st' =>
    split at he
    next t n g ci hv ho =>
      split at he
      next hl =>
        obtain ⟨hl, hi, ht⟩ := hl
        subst hl; cases he
        intro H locs arr hW hS hL
        have h3 := hW.2.2 _ _ (hR_eq hv)
        have hin := inb_in hi
        obtain ⟨fs, hfs⟩ := hObj_eq ho
        have hlt : i.toNatClampNeg < n := Nat.not_le.mp fun q => hin (Or.inr q)
        have hn0 : ¬ i < 0 := fun q => hin (Or.inl q)
        have h8 : ci < 8 := by omega
        have h7 : t < 7 := by omega
        have hobj : zG t = .object (zC ci) := by rcases ht with ⟨rfl, rfl⟩ | ⟨rfl, rfl⟩ <;> rfl
        obtain ⟨r', hr', cellV, g1, g2, g3, -⟩ := (hW.2.2 _ _ hfs).2
        have hcls := (C.2.2.2.2.1.1.1 ci _ (zC8 h8)).2
        have hra := (C.arrT h7).2
        rw [hobj] at hra
        obtain ⟨kA, comp, k1, k2, k3, -⟩ := hra
        have hcomp : comp = D.1 ci := Option.some.inj (k3.symm.trans hcls.1)
        subst hcomp
        obtain ⟨kC, hkC, hkd⟩ := hcls.2
        refine W.aast C.1 C.2.1 h3.2 (fun q h => by cases h) (fun h => by cases h) k1 k2 rfl hkC ⟨hn0, by show _ < (arrV _ _ _).slots.size; rw [arrV_size]; exact hlt⟩ g1 (fun q h => by rw [g3] at h; cases h) (by rw [g2]; exact hkC) (by rw [g2]; exact va_assign hcls) rfl rfl hd fun H1 e1 z oq => ?_
        refine kk H1 _ arr (hW.up (hR_eq hv) ?_ (fun t' x' hx => by cases hx; exact h7) z oq) (hS.put z oq h3.1) hL
        show H1[a]? = some (vp_cell _ _)
        rw [e1]
        refine congrArg some ?_
        show (vp_cell (K t) (n, .inr (.inr (.inr (.inr g))))).setSlot _ _ = vp_cell (K t) (n, .inr (.inr (.inr (.inr _))))
        rw [vp_cell_q, vp_cell_q, arrV_store]
        congr 1
        funext q
        by_cases hq : q = i.toNatClampNeg
        · subst hq
          simp [updV, va_up, va_rf]
        · simp [updV, va_up, hq]
      next => cases he
    next => cases he
  next => cases he

theorem va_S.grow {A : Nat → Prop} {H0 H H1 : Heap} {locs : List Loc} {n : Nat} (h : va_S A H0 H locs) (hz : H.size = n) (z : H1.size = n + 1) (oq : ∀ q, q < n → H1[q]? = H[q]?) : va_S A H0 H1 locs :=
  ⟨by have := h.1; omega, fun q a b => (oq q (by have := h.1; omega)).trans (h.2.1 q a b), h.2.2⟩
theorem go_new (C : CT p R s m c meth D K base cc nL o ini h w) {j : Nat} (hd : decode cc pc = .ok (.new j, len)) (he : newO o j pc len ls st σ = some f) (h1 : n0 ≤ σ.2.1) (h2 : s0 ≤ σ.2.2) (h3 : f.2.2.2.2.1 - n0 ≤ R.cells) (h4 : f.2.2.2.2.2 - s0 ≤ R.slots) (kk : Go p l e R s m args below meth c Q D K base nL n0 s0 f) : Go p l e R s m args below meth c Q D K base nL n0 s0 (pc, ls, st, σ) := by
  unfold newO at he
  split at he
  next ci hv =>
    split at he
    next hl =>
      subst hl; cases he
      intro H locs arr hW hS hL
      have h8 := zNt_ok _ (lookup_in hv)
      dsimp only at h8
      have hw0 := C.2.2.2.2.1.2.2.2.1 _ (lookup_in hv)
      have hini := C.2.2.2.2.1.2.2.2.2.2.2.2.1 ci (by omega)
      have hKn := C.2.2.2.2.1.1.1 ci _ (zC8 h8)
      dsimp only [hnew] at h3 h4
      have hb : base ≤ σ.2.1 := by rw [← hW.1]; exact Nat.le_trans C.2.2.2.2.2.1 hS.1
      have hc1 : σ.2.1 - n0 + 1 ≤ R.cells := by omega
      have hc2 : σ.2.2 - s0 + zN ci ≤ R.slots := by omega
      refine W.newcK C.1 C.2.1 C.2.2.2.1 (hw0.1 _) (hw0.2 _) (hini _) rfl hd hc1 hc2 hKn.2.1 hW.1 fun H1 kC hkC e1 z1 o1 => ?_
      refine W.cs (by show _ = (hnew _ _ _).2.1 - n0; dsimp only [hnew]; omega) (by show _ = (hnew _ _ _).2.2 - s0; dsimp only [hnew]; omega) (kk H1 locs arr (hW.nw _ hb ⟨_, zC8 h8, (u_born (zY ci) (C.fw (args := args) h8) (fun x hx => hx) hKn hkC e1 (zY_ok h8)).to (zD_ok h8)⟩ (fun t x hx => by cases hx) z1 o1) (hS.grow hW.1 z1 o1) hL)
    next => cases he
  next => cases he
theorem go_newarray (C : CT p R s m c meth D K base cc nL o ini h w) {at_ : ArrayType} (hd : decode cc pc = .ok (.newarray at_, len)) (he : newP at_ pc len ls st σ = some f) (h1 : n0 ≤ σ.2.1) (h2 : s0 ≤ σ.2.2) (h3 : f.2.2.2.2.1 - n0 ≤ R.cells) (h4 : f.2.2.2.2.2 - s0 ≤ R.slots) (kk : Go p l e R s m args below meth c Q D K base nL n0 s0 f) : Go p l e R s m args below meth c Q D K base nL n0 s0 (pc, ls, st, σ) := by
  unfold newP at he
  split at he
  next g n st' hv =>
    split at he
    next hl =>
      obtain ⟨hl, hn, hN⟩ := hl
      subst hl; cases he
      intro H locs arr hW hS hL
      dsimp only [hnew] at h3 h4
      have hb : base ≤ σ.2.1 := by rw [← hW.1]; exact Nat.le_trans C.2.2.2.2.2.1 hS.1
      have key : g < 7 ∧ newarray.typeOf at_ = zG g ∧ (Cond.arrayClass (newarray.typeOf at_)).before args s = true ∧ componentBytes (newarray.typeOf at_) ≤ 8 ∧ va_RA s (K g) (zG g) ∧ (s.vm.findClass ("[" ++ (newarray.typeOf at_).toString) = some (K g)) ∧ (∀ cA : ClassId, ∀ N : Nat, vp_cell cA (match zArr g N with | .inl x => x.2 | .inr _ => (0, .inl fun _ => 0)) = arrV cA N (fun _ => defaultValue (newarray.typeOf at_))) ∧ ∃ x, ∀ N, zArr g N = .inl (g, N, x) := by
        cases at_ <;> simp only [zTag, Option.some.injEq, reduceCtorEq] at hv <;> subst hv
        · have := (C.arrT (t := 4) (by omega)).2
          exact ⟨by omega, rfl, C.xw (List.mem_of_getElem? (i := 12) rfl), by decide, this, this, fun _ _ => rfl, _, fun _ => rfl⟩
        · have := (C.arrT (t := 3) (by omega)).2
          exact ⟨by omega, rfl, C.xw (List.mem_of_getElem? (i := 11) rfl), by decide, this, this, fun _ _ => rfl, _, fun _ => rfl⟩
        · have := (C.arrT (t := 2) (by omega)).2
          exact ⟨by omega, rfl, C.xw (List.mem_of_getElem? (i := 10) rfl), by decide, this, this, fun _ _ => rfl, _, fun _ => rfl⟩
        · have := (C.arrT (t := 0) (by omega)).2
          exact ⟨by omega, rfl, C.xw (List.mem_of_getElem? (i := 8) rfl), by decide, this, this, fun _ _ => rfl, _, fun _ => rfl⟩
        · have := (C.arrT (t := 1) (by omega)).2
          exact ⟨by omega, rfl, C.xw (List.mem_of_getElem? (i := 9) rfl), by decide, this, this, fun _ _ => rfl, _, fun _ => rfl⟩
      obtain ⟨g7, hty, hac, hcb, -, hnm, hcell, x, hx⟩ := key
      have hc1 : σ.2.1 - n0 + 1 ≤ R.cells := by omega
      have hc2 : σ.2.2 - s0 + n.toNatClampNeg ≤ R.slots := by omega
      refine va_newaK C.1 C.2.1 hac rfl hd rfl hn rfl (by have := Nat.mul_le_mul hN hcb; omega) hc1 hc2 hW.1 fun H1 cA e1 z1 o1 hAr hNm => ?_
      have hcA : cA = K g := Option.some.inj (hNm.symm.trans hnm)
      subst hcA
      refine W.cs (by show _ = (hnew _ _ _).2.1 - n0; dsimp only [hnew]; omega) (by show _ = (hnew _ _ _).2.2 - s0; dsimp only [hnew]; omega) (kk H1 locs arr (hW.nw _ hb ?_ (fun t x' h' => by rw [hx] at h'; cases h'; omega) z1 o1) (hS.grow hW.1 z1 o1) hL)
      have h9 := hcell (K g) n.toNatClampNeg
      rw [hx] at h9 ⊢
      show H1[σ.2.1]? = some (vp_cell _ _)
      rw [e1]
      exact congrArg some h9.symm
    next => cases he
  next => cases he
theorem go_anewarray (C : CT p R s m c meth D K base cc nL o ini h w) {j : Nat} (hd : decode cc pc = .ok (.anewarray j, len)) (he : newA o j pc len ls st σ = some f) (h1 : n0 ≤ σ.2.1) (h2 : s0 ≤ σ.2.2) (h3 : f.2.2.2.2.1 - n0 ≤ R.cells) (h4 : f.2.2.2.2.2 - s0 ≤ R.slots) (kk : Go p l e R s m args below meth c Q D K base nL n0 s0 f) : Go p l e R s m args below meth c Q D K base nL n0 s0 (pc, ls, st, σ) := by
  unfold newA at he
  split at he
  next ci n st' hv =>
    split at he
    next hl =>
      obtain ⟨hl, hn, hN, hci⟩ := hl
      subst hl; cases he
      intro H locs arr hW hS hL
      dsimp only [hnew] at h3 h4
      have hb : base ≤ σ.2.1 := by rw [← hW.1]; exact Nat.le_trans C.2.2.2.2.2.1 hS.1
      have hw0 := C.2.2.2.2.1.2.2.2.1 _ (lookup_in hv)
      dsimp only at hw0
      have hg : ∃ g : Nat, g = (if ci = 5 then 5 else 6) ∧ g < 7 ∧ zG g = .object (zC ci) ∧ (Cond.arrayOver (.object (zC ci))).before args s = true := by
        rcases hci with rfl | rfl
        · exact ⟨5, rfl, by omega, rfl, C.xw (List.mem_of_getElem? (i := 13) rfl)⟩
        · exact ⟨6, rfl, by omega, rfl, C.xw (List.mem_of_getElem? (i := 14) rfl)⟩
      obtain ⟨g, hg0, g7, hty, hov⟩ := hg
      have hra := (C.arrT g7).2
      rw [hty] at hra
      obtain ⟨kA, comp, k1, k2, k3, k4⟩ := hra
      have hc1 : σ.2.1 - n0 + 1 ≤ R.cells := by omega
      have hc2 : σ.2.2 - s0 + n.toNatClampNeg ≤ R.slots := by omega
      refine W.anew C.1 C.2.1 C.2.2.2.1 (hw0.1 _) hov rfl hd rfl hn (by omega) hc1 hc2 fun cA kA' comp' f1 f2 f3 f4 => ?_
      have hcA : cA = K g := Option.some.inj (f1.symm.trans k4)
      subst hcA
      generalize hH1 : H.push ({ cls := K g, slots := Array.replicate n.toNatClampNeg .null, vm := .none } : Cell) = H1
      have z1 : H1.size = σ.2.1 + 1 := by rw [← hH1, Array.size_push, hW.1]
      have e1 : H1[σ.2.1]? = some (arrV (K g) n.toNatClampNeg (fun _ => .null)) := by rw [← hH1, ← hW.1, Array.getElem?_push_size, ← arrV_new]
      have o1 : ∀ q : Nat, q < σ.2.1 → H1[q]? = H[q]? := fun q hq => by rw [← hH1, Array.getElem?_push, if_neg (by have h0 : H.size = σ.2.1 := hW.1; omega)]
      rw [hW.1]
      refine W.cs (by show _ = (hnew _ _ _).2.1 - n0; dsimp only [hnew]; omega) (by show _ = (hnew _ _ _).2.2 - s0; dsimp only [hnew]; omega) (kk H1 locs arr (hW.nw _ hb ?_ (fun t x' h' => by cases h'; rw [← hg0]; exact g7) z1 o1) (hS.grow hW.1 z1 o1) hL)
      rw [← hg0]
      show H1[σ.2.1]? = some (vp_cell _ _)
      rw [vp_cell_q]
      exact e1
    next => cases he
  next => cases he
end GM
