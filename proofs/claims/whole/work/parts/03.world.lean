/-! what the small machine's worlds and locals are over the machine's; the tables' words, and that they move -/
def wc (K : Nat → ClassId) : va_E → va_E := fun e => match e with
  | .inl a => .inl (K a.1, a.2)
  | .inr o => .inr o
def Wo (D : va_G) (K : Nat → ClassId) (base : Nat) (σ : Hp) (H : Heap) : Prop := H.size = σ.2.1 ∧ (∀ a t x, σ.1 a = some (.inl (t, x)) → t < 7) ∧ ∀ a e, σ.1 a = some e → base ≤ a ∧ va_at D vwCl (a, wc K e) H
def tgs (K : Nat → ClassId) : List (ClassId × FieldType) := [(K 0, .int), (K 1, .long), (K 2, .byte), (K 3, .char), (K 4, .boolean), (K 5, .object "AbsenceTree$Tree"), (K 6, .object "AbsenceTree$History")]
theorem tgs_at (K : Nat → ClassId) {t : Nat} (h : t < 7) : (tgs K)[t]? = some (K t, zG t) := by
  rcases (show t = 0 ∨ t = 1 ∨ t = 2 ∨ t = 3 ∨ t = 4 ∨ t = 5 ∨ t = 6 by omega) with rfl | rfl | rfl | rfl | rfl | rfl | rfl <;> rfl
theorem Wo.up {D : va_G} {K : Nat → ClassId} {base : Nat} {σ : Hp} {H H1 : Heap} {a : Nat} {e0 e : va_E} (h : Wo D K base σ H) (h0 : σ.1 a = some e0) (he : va_at D vwCl (a, wc K e) H1) (ht : ∀ t x, e = .inl (t, x) → t < 7) (z : H1.size = H.size) (oq : ∀ q, q ≠ a → H1[q]? = H[q]?) : Wo D K base (hup σ a e) H1 := by
  refine ⟨z.trans h.1, fun q t x hq => ?_, fun q e' hq => ?_⟩
  · simp only [hup] at hq
    split at hq
    next => cases hq; exact ht t x rfl
    next => exact h.2.1 q t x hq
  · simp only [hup] at hq
    split at hq
    next hqa => subst hqa; cases hq; exact ⟨(h.2.2 _ _ h0).1, he⟩
    next hqa => exact ⟨(h.2.2 q e' hq).1, (h.2.2 q e' hq).2.kept (oq q hqa)⟩
theorem Wo.nw {D : va_G} {K : Nat → ClassId} {base : Nat} {σ : Hp} {H H1 : Heap} {e : va_E} (k : Nat) (h : Wo D K base σ H) (hb : base ≤ σ.2.1) (he : va_at D vwCl (σ.2.1, wc K e) H1) (ht : ∀ t x, e = .inl (t, x) → t < 7) (z : H1.size = σ.2.1 + 1) (oq : ∀ q, q < σ.2.1 → H1[q]? = H[q]?) : Wo D K base (hnew σ e k) H1 := by
  refine ⟨z, fun q t x hq => ?_, fun q e' hq => ?_⟩
  · simp only [hnew] at hq
    split at hq
    next => cases hq; exact ht t x rfl
    next => exact h.2.1 q t x hq
  · simp only [hnew] at hq
    split at hq
    next hqa => subst hqa; cases hq; exact ⟨hb, he⟩
    next hqa =>
      have h1 := h.2.2 q e' hq
      exact ⟨h1.1, h1.2.kept (oq q (by have := h1.2.lt; rw [h.1] at this; exact this))⟩
theorem Wo.one {D : va_G} {K : Nat → ClassId} {base : Nat} {σ : Hp} {H : Heap} {a : Nat} {e : va_E} (h : Wo D K base σ H) (h0 : σ.1 a = some e) : va_P D vwCl [(a, wc K e)] H := by
  intro k q hk
  have hz : k < 1 := (List.getElem?_eq_some_iff.mp hk).1
  rw [show k = 0 by omega] at hk
  cases hk
  exact (h.2.2 a e h0).2
/-! locals -/
def lgood (ls : List Value) (k : Nat) (v : Value) : Prop := ls[k]? = some v ∧ (v.category = 2 → ls[k + 1]? = some secd) ∧ ∀ r, v ≠ .retAddr r
def LR (arr : Array Slot) (nL : Nat) (ls : List Value) : Prop := ls.length = nL ∧ ∃ lv, lv_has arr nL lv ∧ ∀ k v, lgood ls k v → (k, v) ∈ lv
theorem LR.at {arr : Array Slot} {nL : Nat} {ls : List Value} (h : LR arr nL ls) {k : Nat} {v : Value} (hg : lgood ls k v) : arr[k]? = some (.val v) := by
  obtain ⟨-, lv, h1, h2⟩ := h
  exact h1.2.2 (k, v) (h2 k v hg)
theorem LR.size {arr : Array Slot} {nL : Nat} {ls : List Value} (h : LR arr nL ls) : arr.size = nL := by
  obtain ⟨-, lv, h1, -⟩ := h
  exact h1.1
theorem LR.set1 {arr' : Array Slot} {nL : Nat} {ls : List Value} {lv : List (Nat × Value)} {i : Nat} {v : Value} (hn : ls.length = nL) (hg : ∀ k v, lgood ls k v → (k, v) ∈ lv) (hc : ∀ r, v ≠ .retAddr r) (h : lv_has arr' nL ((i, v) :: lv.filter (fun q => !(q.1 == i) && !(q.1 + 1 == i && q.2.category == 2)))) : LR arr' nL (ls.set i v) := by
  refine ⟨by rw [List.length_set]; exact hn, _, h, fun k w ⟨h1, h2, h3⟩ => ?_⟩
  by_cases hk : k = i
  · subst hk
    have : w = v := by
      have hl : k < (ls.set k v).length := (List.getElem?_eq_some_iff.mp h1).1
      rw [List.length_set] at hl
      rw [List.getElem?_set_self hl] at h1
      exact (Option.some.inj h1).symm
    subst this
    exact List.mem_cons_self
  · rw [List.getElem?_set_ne (Ne.symm hk)] at h1
    refine List.mem_cons_of_mem _ (List.mem_filter.mpr ⟨hg k w ⟨h1, fun hw => ?_, h3⟩, ?_⟩)
    · have h4 := h2 hw
      by_cases hk1 : k + 1 = i
      · exfalso
        have hl := (List.getElem?_eq_some_iff.mp h4).1
        rw [List.length_set, hk1] at hl
        rw [hk1, List.getElem?_set_self hl] at h4
        exact hc 1 (Option.some.inj h4)
      · rw [List.getElem?_set_ne (Ne.symm hk1)] at h4
        exact h4
    · simp only [Bool.and_eq_true, Bool.not_eq_true', beq_eq_false_iff_ne, ne_eq, Bool.and_eq_false_iff]
      refine ⟨hk, ?_⟩
      by_cases hw : w.category = 2
      · left
        intro hk1
        have h4 := h2 hw
        have hl := (List.getElem?_eq_some_iff.mp h4).1
        rw [List.length_set, hk1] at hl
        rw [hk1, List.getElem?_set_self hl] at h4
        exact hc 1 (Option.some.inj h4)
      · right; exact hw
theorem LR.set2 {arr' : Array Slot} {nL : Nat} {ls : List Value} {lv : List (Nat × Value)} {i : Nat} {x : Int64} (hn : ls.length = nL) (hg : ∀ k v, lgood ls k v → (k, v) ∈ lv) (h : lv_has arr' nL ((i, Value.long x) :: lv.filter (fun q => !(q.1 == i) && (!(q.1 == i + 1) && !(q.1 + 1 == i && q.2.category == 2))))) : LR arr' nL ((ls.set i (.long x)).set (i + 1) secd) := by
  refine ⟨by rw [List.length_set, List.length_set]; exact hn, _, h, fun k w ⟨h1, h2, h3⟩ => ?_⟩
  by_cases hk1 : k = i + 1
  · exfalso
    subst hk1
    have hl := (List.getElem?_eq_some_iff.mp h1).1
    rw [List.length_set] at hl
    rw [List.getElem?_set_self hl] at h1
    exact h3 1 (Option.some.inj h1).symm
  rw [List.getElem?_set_ne (Ne.symm hk1)] at h1
  by_cases hk : k = i
  · subst hk
    have hl := (List.getElem?_eq_some_iff.mp h1).1
    rw [List.length_set] at hl
    rw [List.getElem?_set_self hl] at h1
    have : w = .long x := (Option.some.inj h1).symm
    subst this
    exact List.mem_cons_self
  · rw [List.getElem?_set_ne (Ne.symm hk)] at h1
    have key : w.category = 2 → k + 1 ≠ i ∧ ls[k + 1]? = some secd := by
      intro hw
      have h4 := h2 hw
      rw [List.getElem?_set_ne (by omega)] at h4
      have hki : k + 1 ≠ i := by
        intro hki
        have hl := (List.getElem?_eq_some_iff.mp h4).1
        rw [List.length_set] at hl
        rw [hki] at hl
        rw [hki, List.getElem?_set_self hl] at h4
        cases h4
      rw [List.getElem?_set_ne (Ne.symm hki)] at h4
      exact ⟨hki, h4⟩
    refine List.mem_cons_of_mem _ (List.mem_filter.mpr ⟨hg k w ⟨h1, fun hw => (key hw).2, h3⟩, ?_⟩)
    simp only [Bool.and_eq_true, Bool.not_eq_true', beq_eq_false_iff_ne, ne_eq, Bool.and_eq_false_iff]
    refine ⟨hk, hk1, ?_⟩
    by_cases hw : w.category = 2
    · exact Or.inl (key hw).1
    · exact Or.inr hw
theorem lv_args_good (as : List Value) (hv : ∀ v ∈ as, ∀ r, v ≠ .retAddr r) : ∀ (i : Nat) (tl : List Value), (∀ v ∈ tl, ∃ r, v = .retAddr r) → ∀ k v, (flatA as ++ tl)[k]? = some v → (∀ r, v ≠ .retAddr r) → (i + k, v) ∈ lv_args i as := by
  induction as with
  | nil =>
    intro i tl ht k v h1 h2
    exfalso
    simp only [flatA, List.flatMap_nil, List.nil_append] at h1
    obtain ⟨r, hr⟩ := ht v (List.mem_of_getElem? h1)
    exact h2 r hr
  | cons a as ih =>
    intro i tl ht k v h1 h2
    have ih := ih (fun v hm => hv v (List.mem_cons_of_mem _ hm))
    simp only [flatA, List.flatMap_cons] at h1
    simp only [lv_args]
    by_cases hc : a.category = 2
    · simp only [hc, if_true] at h1 ⊢
      match k, h1 with
      | 0, h1 => simp at h1; subst h1; simp
      | 1, h1 => simp at h1; exact absurd h1.symm (h2 1)
      | k + 2, h1 =>
        have h3 : (flatA as ++ tl)[k]? = some v := by simpa [flatA] using h1
        have h4 := ih (i + 2) tl ht k v h3 h2
        rw [show i + (k + 2) = i + 2 + k by omega]
        exact List.mem_cons_of_mem _ h4
    · simp only [hc, if_false] at h1 ⊢
      match k, h1 with
      | 0, h1 => simp at h1; subst h1; simp
      | k + 1, h1 =>
        have h3 : (flatA as ++ tl)[k]? = some v := by simpa [flatA] using h1
        have h4 := ih (i + 1) tl ht k v h3 h2
        rw [show i + (k + 1) = i + 1 + k by omega]
        exact List.mem_cons_of_mem _ h4
theorem flatA_len (as : List Value) : (flatA as).length = (lg_sl as).length := by
  induction as with
  | nil => rfl
  | cons a as ih =>
    have h1 : flatA (a :: as) = (if a.category = 2 then [a, secd] else [a]) ++ flatA as := rfl
    have h2 : lg_sl (a :: as) = (if a.category = 2 then [Slot.val a, Slot.second] else [Slot.val a]) ++ lg_sl as := rfl
    rw [h1, h2, List.length_append, List.length_append, ih]
    by_cases hc : a.category = 2 <;> simp [hc]
theorem LR.ent {as : List Value} {n : Nat} (hv : ∀ v ∈ as, ∀ r, v ≠ .retAddr r) (hl : (flatA as).length ≤ n) : LR ((lg_sl as ++ List.replicate (n - (lg_sl as).length) Slot.unset).toArray) n (entA n as) := by
  refine ⟨by simp [entA]; omega, _, lv_entry as (by rw [← flatA_len]; exact hl), fun k v h => ?_⟩
  have := lv_args_good as hv 0 (List.replicate (n - (flatA as).length) junk) (fun v hm => ⟨0, (List.mem_replicate.mp hm).2⟩) k v h.1 h.2.2
  rw [Nat.zero_add] at this
  exact this
/-! the tables' words -/
def okW (w : Jvm.Cond) : Bool := match w with
  | .fieldLinkNest .. => true
  | .methodLinkNest .. => true
  | .arrayOver (.object _) => true
  | w => goodWord w
def Hd (U : State) (w : Jvm.Cond) : Prop := ∀ a : Array Value, w.before a U = true
theorem Hd.moved {s U : State} {w : Jvm.Cond} (hw : okW w = true) (hW : s.WarmedH U.vm) (h : Hd s w) : Hd U w := by
  have hgood : goodWord w = true → Hd U w := fun h1 a => word_at hW (good_of_word h1) (h #[])
  unfold okW at hw
  split at hw
  next => exact fun a => va_Nw.use rfl (va_Nw.warmF hW (h #[]))
  next => exact fun a => va_Nw.use rfl (va_Nw.warmM hW (h #[]))
  next => exact fun a => va_AO.use (va_AO.moved hW.alike (h #[]))
  next => exact hgood hw
def zX : List Jvm.Cond := [.native arraycopyName, .static arraycopyName, .initialized "java/lang/System", .methodLink RX1 25 arraycopyName, .methodLink RX2 36 arraycopyName, .methodLink RX5 46 arraycopyName, .instanceMethod Lib.objectInit, .code Lib.objectInit ⟨#[0xb1]⟩ 1 none, .arrayClass .int, .arrayClass .long, .arrayClass .byte, .arrayClass .char, .arrayClass .boolean, .arrayOver (.object "AbsenceTree$Tree"), .arrayOver (.object "AbsenceTree$History")]
def TWs (U : State) : Prop :=
  (∀ e ∈ zFt, Hd U (zFw e)) ∧ (∀ e ∈ zCt, Hd U (zCw e)) ∧ (∀ e ∈ zNt, Hd U (.classLink (zC e.1.1) e.1.2 (zC e.2)) ∧ Hd U (.instantiable (zC e.2) (zN e.2))) ∧
  (∀ e ∈ zIt, Hd U (.constant (zC e.1.1) e.1.2 e.2)) ∧ (∀ e ∈ zLt, Hd U (.constantLong (zC e.1.1) e.1.2 e.2)) ∧
  (∀ i, i < 252 → Hd U (zVw i) ∧ Hd U (zKw i) ∧ Hd U (zSw i)) ∧ (∀ k, k < 10 → Hd U (.initialized (zC k))) ∧
  (∀ k, k < 8 → Hd U (.methodLink (zC k) 3 Lib.objectInit) ∧ ∀ w ∈ u_ws (zC k) (zT k) (zN k), Hd U w) ∧ ∀ w ∈ zX, Hd U w
theorem zFw_ok (e : (Nat × Nat) × (Nat × Nat)) : okW (zFw e) = true := by
  unfold zFw
  split <;> rfl
theorem zCw_ok (e : (Nat × Nat) × (Nat × Nat)) : okW (zCw e) = true := by
  unfold zCw
  split <;> rfl
theorem zKw_ok (i : Nat) : okW (zKw i) = true := by
  unfold zKw
  split <;> rfl
theorem zSw_ok (i : Nat) : okW (zSw i) = true := by
  unfold zSw
  split <;> rfl
theorem zUw_ok {C : String} {T : u_T} {N : Nat} : ∀ w ∈ u_ws C T N, okW w = true := by
  intro w hw
  obtain ⟨k, -, rfl⟩ := List.mem_map.mp hw
  unfold u_lay
  split <;> rfl
theorem TWs.moved {s U : State} (hW : s.WarmedH U.vm) (h : TWs s) : TWs U := by
  obtain ⟨h1, h2, h3, h4, h5, h6, h7, h8, h9⟩ := h
  refine ⟨fun e he => (h1 e he).moved (zFw_ok e) hW, fun e he => (h2 e he).moved (zCw_ok e) hW, fun e he => ⟨(h3 e he).1.moved rfl hW, (h3 e he).2.moved rfl hW⟩, fun e he => (h4 e he).moved rfl hW, fun e he => (h5 e he).moved rfl hW, fun i hi => ⟨(h6 i hi).1.moved rfl hW, (h6 i hi).2.1.moved (zKw_ok i) hW, (h6 i hi).2.2.moved (zSw_ok i) hW⟩, fun k hk => (h7 k hk).moved rfl hW, fun k hk => ⟨(h8 k hk).1.moved rfl hW, fun w hw => ((h8 k hk).2 w hw).moved (zUw_ok w hw) hW⟩, fun w hw => (h9 w hw).moved ?_ hW⟩
  exact (by decide : ∀ w ∈ zX.map okW, w = true) _ (List.mem_map.mpr ⟨w, hw, rfl⟩)
def TK (D : va_G) (K : Nat → ClassId) (U : State) : Prop := va_K D vwCl (tgs K) U ∧ TWs U
theorem TK.moved {D : va_G} {K : Nat → ClassId} {s U : State} (hW : s.WarmedH U.vm) (h : TK D K s) : TK D K U := ⟨h.1.moved hW.alike, h.2.moved hW⟩
theorem zC8 {k : Nat} (h : k < 8) : vwCl[k]? = some (zC k, zT k, zN k) := by
  rcases (show k = 0 ∨ k = 1 ∨ k = 2 ∨ k = 3 ∨ k = 4 ∨ k = 5 ∨ k = 6 ∨ k = 7 by omega) with rfl | rfl | rfl | rfl | rfl | rfl | rfl | rfl <;> rfl
theorem zY_ok {k : Nat} (h : k < 8) : ∀ j, j < zN k → parseFieldDescriptor (zT k j).2.2.1 = some (zY k j) := by
  rcases (show k = 0 ∨ k = 1 ∨ k = 2 ∨ k = 3 ∨ k = 4 ∨ k = 5 ∨ k = 6 ∨ k = 7 by omega) with rfl | rfl | rfl | rfl | rfl | rfl | rfl | rfl
  · exact tyX0_ok
  · exact tyX1_ok
  · exact tyX2_ok
  · exact tyX3_ok
  · exact tyX4_ok
  · exact tyX5_ok
  · exact tyX6_ok
  · exact tyX7_ok
theorem zn_ok {k : Nat} (h : k < 8) : ∀ a, a < zN k → ∀ b, b < zN k → a ≠ b → (zT k a).2.1 ≠ (zT k b).2.1 := by
  rcases (show k = 0 ∨ k = 1 ∨ k = 2 ∨ k = 3 ∨ k = 4 ∨ k = 5 ∨ k = 6 ∨ k = 7 by omega) with rfl | rfl | rfl | rfl | rfl | rfl | rfl | rfl
  · exact nmX0
  · exact nmX1
  · exact nmX2
  · exact nmX3
  · exact nmX4
  · exact nmX5
  · exact nmX6
  · exact nmX7
theorem zD_ok {k : Nat} (h : k < 8) : ∀ j, j < zN k → defaultValue (zY k j) = vp_V (zD k) j := by
  have key : ∀ k, k < 8 → ∀ j, j < zN k → defaultValue (zY k j) = vp_V (zD k) j := by decide +kernel
  exact key k h
