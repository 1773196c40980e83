/-! A SMALL MACHINE over worlds: what an instruction does to locals, stack and world; a method's run; what it answers. -/
abbrev Hp : Type := (Nat → Option va_E) × Nat × Nat
abbrev Fr : Type := Nat × List Value × List Value × Hp
abbrev Rs : Type := Option Value × Hp
def junk : Value := .retAddr 0
def secd : Value := .retAddr 1
def hup (σ : Hp) (a : Nat) (e : va_E) : Hp := (fun q => if q = a then some e else σ.1 q, σ.2)
def hnew (σ : Hp) (e : va_E) (k : Nat) : Hp := (fun q => if q = σ.2.1 then some e else σ.1 q, σ.2.1 + 1, σ.2.2 + k)
def hGet (σ : Hp) (a ci k : Nat) : Option Value := match σ.1 a with
  | some (.inr o) => if o.1 = ci then o.2[k]? else none
  | _ => none
def hPut (σ : Hp) (a ci k : Nat) (v : Value) : Option Hp := match σ.1 a with
  | some (.inr o) => if o.1 = ci ∧ k < o.2.length then some (hup σ a (.inr (o.1, o.2.set k v))) else none
  | _ => none
def hObj (σ : Hp) (a : Nat) : Option Nat := match σ.1 a with
  | some (.inr o) => some o.1
  | _ => none
def hI (σ : Hp) (a t : Nat) : Option (Nat × (Nat → Int32)) := match σ.1 a with
  | some (.inl (t', n, .inl f)) => if t' = t then some (n, f) else none
  | _ => none
def hL (σ : Hp) (a t : Nat) : Option (Nat × (Nat → Int64)) := match σ.1 a with
  | some (.inl (t', n, .inr (.inl f))) => if t' = t then some (n, f) else none
  | _ => none
def hR (σ : Hp) (a : Nat) : Option (Nat × Nat × (Nat → Option Nat)) := match σ.1 a with
  | some (.inl (t', n, .inr (.inr (.inr (.inr f))))) => some (t', n, f)
  | _ => none
def hLen (σ : Hp) (a : Nat) : Option Nat := match σ.1 a with
  | some (.inl (_, n, _)) => some n
  | _ => none
def inb (i : Int32) (n : Nat) : Bool := decide (¬ i < 0) && decide (i.toNatClampNeg < n)
def zG : Nat → FieldType := fun k => match k with
  | 0 => .int
  | 1 => .long
  | 2 => .byte
  | 3 => .char
  | 4 => .boolean
  | 5 => .object "AbsenceTree$Tree"
  | _ => .object "AbsenceTree$History"
def zTag : ArrayType → Option Nat := fun t => match t with
  | .int => some 0
  | .long => some 1
  | .byte => some 2
  | .char => some 3
  | .boolean => some 4
  | _ => none
def zArr (t n : Nat) : va_E := if t = 1 then .inl (t, n, .inr (.inl (fun _ => 0))) else .inl (t, n, .inl (fun _ => 0))
/-- fresh fields -/
def zD : Nat → List Value := fun k => match k with
  | 0 => [.null, .int 0, .int 0, .int 0]
  | 1 => [.null, .int 0]
  | 2 => [.null, .int 0, .int 0, .int 0, .int 0, .int 0]
  | 3 => [.null, .int 0]
  | 4 => [.null, .int 0, .int 0, .int 0]
  | 5 => [.null, .null, .null]
  | 6 => [.null, .null, .null, .null, .null, .null, .null, .null]
  | _ => [.null, .null, .null, .int 0, .null, .int 0, .int 0, .null, .null, .int 0, .int 0, .int 0, .null, .int 0, .null, .null, .null, .null, .null, .null, .int 0, .null, .null, .null]
def isObj (v : Value) : Bool := match v with
  | .ref _ => true
  | .null => true
  | _ => false
def bin : Instr → Option (Int32 → Int32 → Int32) := fun i => match i with
  | .iadd => some fun x y => x + y
  | .isub => some fun x y => x - y
  | .imul => some fun x y => x * y
  | .iand => some fun x y => x &&& y
  | .ior => some fun x y => x ||| y
  | .ixor => some fun x y => x ^^^ y
  | .ishl => some fun x y => x <<< (y &&& 31)
  | .ishr => some fun x y => x >>> (y &&& 31)
  | .iushr => some fun x y => (x.toUInt32 >>> (y.toUInt32 &&& Int32.toUInt32 31)).toInt32
  | _ => none
def una : Instr → Option (Int32 → Int32) := fun i => match i with
  | .i2b => some fun x => x.toInt8.toInt32
  | .i2s => some fun x => x.toInt16.toInt32
  | .i2c => some fun x => (x.toUInt32 % 65536).toInt32
  | _ => none
def cnd : ClassFile.Cond → Int32 → Int32 → Bool := fun c x y => match c with
  | .eq => decide (x = y)
  | .ne => decide (¬ x = y)
  | .lt => decide (x < y)
  | .ge => decide (y ≤ x)
  | .gt => decide (y < x)
  | .le => decide (x ≤ y)
def jmp (pc : Nat) (off : Int) (ls st : List Value) (σ : Hp) : Option Fr := if 0 ≤ (pc : Int) + off then some (((pc : Int) + off).toNat, ls, st, σ) else none
/-- loads: value at a place -/
def ldI (k n pc len : Nat) (ls st : List Value) (σ : Hp) : Option Fr := match ls[k]? with
  | some (.int x) => if len = n then some (pc + n, ls, .int x :: st, σ) else none
  | _ => none
def ldL (k n pc len : Nat) (ls st : List Value) (σ : Hp) : Option Fr := match ls[k]?, ls[k + 1]? with
  | some (.long x), some (.retAddr 1) => if len = n then some (pc + n, ls, .long x :: st, σ) else none
  | _, _ => none
def ldA (k n pc len : Nat) (ls st : List Value) (σ : Hp) : Option Fr := match ls[k]? with
  | some (.ref x) => if len = n then some (pc + n, ls, .ref x :: st, σ) else none
  | some .null => if len = n then some (pc + n, ls, .null :: st, σ) else none
  | _ => none
def stI (k n pc len : Nat) (ls st : List Value) (σ : Hp) : Option Fr := match st with
  | .int x :: st => if len = n ∧ k < ls.length then some (pc + n, ls.set k (.int x), st, σ) else none
  | _ => none
def stL (k n pc len : Nat) (ls st : List Value) (σ : Hp) : Option Fr := match st with
  | .long x :: st => if len = n ∧ k + 1 < ls.length then some (pc + n, (ls.set k (.long x)).set (k + 1) secd, st, σ) else none
  | _ => none
def stA (k n pc len : Nat) (ls st : List Value) (σ : Hp) : Option Fr := match st with
  | .ref x :: st => if len = n ∧ k < ls.length then some (pc + n, ls.set k (.ref x), st, σ) else none
  | .null :: st => if len = n ∧ k < ls.length then some (pc + n, ls.set k .null, st, σ) else none
  | _ => none
def incI (k : Nat) (d : Int) (pc len : Nat) (ls st : List Value) (σ : Hp) : Option Fr := match ls[k]? with
  | some (.int x) => if len = 3 ∧ k < ls.length then some (pc + 3, ls.set k (.int (x + Int32.ofInt d)), st, σ) else none
  | _ => none
def gfl (o j pc len : Nat) (ls st : List Value) (σ : Hp) : Option Fr := match zF o j, st with
  | some (ci, k), .ref a :: st => match hGet σ a ci k with
    | some v => if len = 3 then some (pc + 3, ls, v :: st, σ) else none
    | none => none
  | _, _ => none
/-- a final field is written by its own class's init alone -/
def pok (ini : Bool) (o ci k : Nat) (v : Value) : Bool := decide (narrow (zY ci k) v = v) && fits (zY ci k) v && (!(zT ci k).2.2.2 || (ini && decide (o = ci)))
def pfl (ini : Bool) (o j pc len : Nat) (ls st : List Value) (σ : Hp) : Option Fr := match zF o j, st with
  | some (ci, k), v :: .ref a :: st => match hPut σ a ci k v with
    | some τ => if len = 3 ∧ pok ini o ci k v = true then some (pc + 3, ls, st, τ) else none
    | none => none
  | _, _ => none
def aldI (t pc len : Nat) (ls st : List Value) (σ : Hp) : Option Fr := match st with
  | .int i :: .ref a :: st => match hI σ a t with
    | some (n, f) => if len = 1 ∧ inb i n = true then some (pc + 1, ls, .int (f i.toNatClampNeg) :: st, σ) else none
    | none => none
  | _ => none
def aldL (pc len : Nat) (ls st : List Value) (σ : Hp) : Option Fr := match st with
  | .int i :: .ref a :: st => match hL σ a 1 with
    | some (n, f) => if len = 1 ∧ inb i n = true then some (pc + 1, ls, .long (f i.toNatClampNeg) :: st, σ) else none
    | none => none
  | _ => none
def aldR (pc len : Nat) (ls st : List Value) (σ : Hp) : Option Fr := match st with
  | .int i :: .ref a :: st => match hR σ a with
    | some (t, n, f) => if len = 1 ∧ inb i n = true ∧ (t = 5 ∨ t = 6) then some (pc + 1, ls, va_rf (f i.toNatClampNeg) :: st, σ) else none
    | none => none
  | _ => none
def astI (t pc len : Nat) (ls st : List Value) (σ : Hp) : Option Fr := match st with
  | .int x :: .int i :: .ref a :: st => match hI σ a t with
    | some (n, f) => if len = 1 ∧ inb i n = true then some (pc + 1, ls, st, hup σ a (.inl (t, n, .inl (upd f i.toNatClampNeg (vp_nar (zG t) x))))) else none
    | none => none
  | _ => none
def astL (pc len : Nat) (ls st : List Value) (σ : Hp) : Option Fr := match st with
  | .long x :: .int i :: .ref a :: st => match hL σ a 1 with
    | some (n, f) => if len = 1 ∧ inb i n = true then some (pc + 1, ls, st, hup σ a (.inl (1, n, .inr (.inl (vp_updL f i.toNatClampNeg x))))) else none
    | none => none
  | _ => none
def astR (pc len : Nat) (ls st : List Value) (σ : Hp) : Option Fr := match st with
  | .ref v :: .int i :: .ref a :: st => match hR σ a, hObj σ v with
    | some (t, n, f), some ci => if len = 1 ∧ inb i n = true ∧ ((t = 5 ∧ ci = 5) ∨ (t = 6 ∧ ci = 0)) then some (pc + 1, ls, st, hup σ a (.inl (t, n, .inr (.inr (.inr (.inr (va_up f i.toNatClampNeg (some v)))))))) else none
    | _, _ => none
  | _ => none
def alen (pc len : Nat) (ls st : List Value) (σ : Hp) : Option Fr := match st with
  | .ref a :: st => match hLen σ a with
    | some n => if len = 1 then some (pc + 1, ls, .int (Int32.ofNat n) :: st, σ) else none
    | none => none
  | _ => none
def newO (o j pc len : Nat) (ls st : List Value) (σ : Hp) : Option Fr := match zNe o j with
  | some ci => if len = 3 then some (pc + 3, ls, .ref σ.2.1 :: st, hnew σ (.inr (ci, zD ci)) (zN ci)) else none
  | none => none
def newP (t : ArrayType) (pc len : Nat) (ls st : List Value) (σ : Hp) : Option Fr := match zTag t, st with
  | some g, .int n :: st => if len = 2 ∧ ¬ n < 0 ∧ n.toNatClampNeg ≤ 100000 then some (pc + 2, ls, .ref σ.2.1 :: st, hnew σ (zArr g n.toNatClampNeg) n.toNatClampNeg) else none
  | _, _ => none
def newA (o j pc len : Nat) (ls st : List Value) (σ : Hp) : Option Fr := match zNe o j, st with
  | some ci, .int n :: st => if len = 3 ∧ ¬ n < 0 ∧ n.toNatClampNeg ≤ 100000 ∧ (ci = 5 ∨ ci = 0) then some (pc + 3, ls, .ref σ.2.1 :: st, hnew σ (.inl (if ci = 5 then 5 else 6, n.toNatClampNeg, .inr (.inr (.inr (.inr (fun _ => none)))))) n.toNatClampNeg) else none
  | _, _ => none
/-- arraycopy of ints -/
def cpy (pc len : Nat) (ls st : List Value) (σ : Hp) : Option Fr := match st with
  | .int n :: .int dp :: .ref b :: .int sp :: .ref a :: st => match hI σ a 0, hI σ b 0 with
    | some (n0, f), some (n1, g) => if len = 3 ∧ ¬ sp < 0 ∧ ¬ dp < 0 ∧ ¬ n < 0 ∧ sp.toNatClampNeg + n.toNatClampNeg ≤ n0 ∧ dp.toNatClampNeg + n.toNatClampNeg ≤ n1 ∧ (st.map fun v => v.category).sum ≤ 8 then some (pc + 3, ls, st, hup σ b (.inl (0, n1, .inl (va_cpy f g sp.toNatClampNeg dp.toNatClampNeg n.toNatClampNeg)))) else none
    | _, _ => none
  | _ => none
def isCopy (o j : Nat) : Bool := (o == 1 && j == 25) || (o == 2 && j == 36) || (o == 5 && j == 46)
/-- a receiver is there, of the callee's class (an init's: just there) -/
def rcv (k j : Nat) (as : List Value) (σ : Hp) : Bool := k == 0 || match as with
  | .ref b :: _ => k == 2 || decide (hObj σ b = some (mO j))
  | _ => false
/-- how many values a call takes -/
def nar (k j : Nat) : Nat := match k with
  | 0 => mP j
  | _ => mP j + 1
/-- a call: what it needs of the callee, its arguments off the stack -/
def cal (call : Nat → List Value → Hp → Option Rs) (h w o k idx pc len : Nat) (ls st : List Value) (σ : Hp) : Option Fr := match zCa o idx with
  | some (j, _) =>
    if len = 3 ∧ mK j = k ∧ mH j + 1 ≤ h ∧ 8 + (mL j + 11) + mW j ≤ w ∧ nar k j ≤ st.length ∧ ((st.drop (nar k j)).map fun v => v.category).sum ≤ 8 ∧ rcv k j (st.take (nar k j)).reverse σ = true then
      match call j (st.take (nar k j)).reverse σ with
      | some (v, τ) => some (pc + 3, ls, v.toList ++ st.drop (nar k j), τ)
      | none => none
    else none
  | none => none
def inv0 (call : Nat → List Value → Hp → Option Rs) (h w o k idx pc len : Nat) (ls st : List Value) (σ : Hp) : Option Fr :=
  if k = 2 ∧ idx = 3 ∧ o < 8 then match st with
    | .ref _ :: st => if len = 3 ∧ 1 ≤ h ∧ 20 ≤ w ∧ (st.map fun v => v.category).sum ≤ 8 then some (pc + 3, ls, st, σ) else none
    | _ => none
  else if k = 0 ∧ isCopy o idx = true then (if 1 ≤ h ∧ 60 ≤ w then cpy pc len ls st σ else none)
  else cal call h w o k idx pc len ls st σ
/-- one instruction that is no return, of a method of class o (ini: an init), with room h, w below it -/
def ex (call : Nat → List Value → Hp → Option Rs) (ini : Bool) (h w o : Nat) (i : Instr) (len pc : Nat) (ls st : List Value) (σ : Hp) : Option Fr := match i with
  | .iload_n k => ldI k 1 pc len ls st σ
  | .iload k => ldI k 2 pc len ls st σ
  | .lload_n k => ldL k 1 pc len ls st σ
  | .lload k => ldL k 2 pc len ls st σ
  | .aload_n k => ldA k 1 pc len ls st σ
  | .aload k => ldA k 2 pc len ls st σ
  | .istore_n k => stI k 1 pc len ls st σ
  | .istore k => stI k 2 pc len ls st σ
  | .lstore_n k => stL k 1 pc len ls st σ
  | .lstore k => stL k 2 pc len ls st σ
  | .astore_n k => stA k 1 pc len ls st σ
  | .astore k => stA k 2 pc len ls st σ
  | .iinc k d => incI k d pc len ls st σ
  | .iconst n => if len = 1 then some (pc + 1, ls, .int (Int32.ofInt n) :: st, σ) else none
  | .bipush n => if len = 2 then some (pc + 2, ls, .int (Int8.ofInt n).toInt32 :: st, σ) else none
  | .sipush n => if len = 3 then some (pc + 3, ls, .int (Int16.ofInt n).toInt32 :: st, σ) else none
  | .lconst n => if len = 1 then some (pc + 1, ls, .long (Int64.ofNat (n : Nat)) :: st, σ) else none
  | .aconst_null => if len = 1 then some (pc + 1, ls, .null :: st, σ) else none
  | .ldc j => match zLI o j with
    | some v => if len = 2 then some (pc + 2, ls, .int v :: st, σ) else none
    | none => none
  | .ldc_w j => match zLI o j with
    | some v => if len = 3 then some (pc + 3, ls, .int v :: st, σ) else none
    | none => none
  | .ldc2_w j => match zLL o j with
    | some v => if len = 3 then some (pc + 3, ls, .long v :: st, σ) else none
    | none => none
  | .ladd => match st with
    | .long y :: .long x :: st => if len = 1 then some (pc + 1, ls, .long (x + y) :: st, σ) else none
    | _ => none
  | .lmul => match st with
    | .long y :: .long x :: st => if len = 1 then some (pc + 1, ls, .long (x * y) :: st, σ) else none
    | _ => none
  | .lneg => match st with
    | .long x :: st => if len = 1 then some (pc + 1, ls, .long (-x) :: st, σ) else none
    | _ => none
  | .lcmp => match st with
    | .long y :: .long x :: st => if len = 1 then some (pc + 1, ls, .int (lg_cmp x y) :: st, σ) else none
    | _ => none
  | .i2l => match st with
    | .int x :: st => if len = 1 then some (pc + 1, ls, .long x.toInt64 :: st, σ) else none
    | _ => none
  | .l2i => match st with
    | .long x :: st => if len = 1 then some (pc + 1, ls, .int x.toInt32 :: st, σ) else none
    | _ => none
  | .idiv => match st with
    | .int y :: .int x :: st => if len = 1 ∧ ¬ y = 0 then some (pc + 1, ls, .int (x / y) :: st, σ) else none
    | _ => none
  | .irem => match st with
    | .int y :: .int x :: st => if len = 1 ∧ ¬ y = 0 then some (pc + 1, ls, .int (x - x / y * y) :: st, σ) else none
    | _ => none
  | .dup => match st with
    | v :: st => if len = 1 ∧ v.category = 1 then some (pc + 1, ls, v :: v :: st, σ) else none
    | _ => none
  | .dup2 => match st with
    | v :: u :: st => if len = 1 ∧ v.category = 1 ∧ u.category = 1 then some (pc + 1, ls, v :: u :: v :: u :: st, σ) else none
    | _ => none
  | .dup_x1 => match st with
    | v :: u :: st => if len = 1 ∧ v.category = 1 ∧ u.category = 1 then some (pc + 1, ls, v :: u :: v :: st, σ) else none
    | _ => none
  | .pop => match st with
    | v :: st => if len = 1 ∧ v.category = 1 then some (pc + 1, ls, st, σ) else none
    | _ => none
  | .ifCond c off => match st with
    | .int x :: st => if len = 3 ∧ 0 ≤ (pc : Int) + off then some (if cnd c x 0 = true then ((pc : Int) + off).toNat else pc + 3, ls, st, σ) else none
    | _ => none
  | .if_icmp c off => match st with
    | .int y :: .int x :: st => if len = 3 ∧ 0 ≤ (pc : Int) + off then some (if cnd c x y = true then ((pc : Int) + off).toNat else pc + 3, ls, st, σ) else none
    | _ => none
  | .goto off => if len = 3 then jmp pc off ls st σ else none
  | .ifnull off => match st with
    | .ref _ :: st => if len = 3 then some (pc + 3, ls, st, σ) else none
    | .null :: st => if len = 3 then jmp pc off ls st σ else none
    | _ => none
  | .ifnonnull off => match st with
    | .ref _ :: st => if len = 3 then jmp pc off ls st σ else none
    | .null :: st => if len = 3 then some (pc + 3, ls, st, σ) else none
    | _ => none
  | .tableswitch d lo hi offs => match st with
    | .int x :: st => if x.toInt < lo ∨ hi < x.toInt then jmp pc d ls st σ else match offs[(x.toInt - lo).toNat]? with
      | some off => jmp pc off ls st σ
      | none => none
    | _ => none
  | .lookupswitch d ps => match st with
    | .int x :: st => if (ps.toList.zip (ps.toList.drop 1)).all (fun (a, next) => a.1 < next.1) = true then jmp pc (Op.lookupswitch.offset ps.toList d x.toInt) ls st σ else none
    | _ => none
  | .getfield j => gfl o j pc len ls st σ
  | .putfield j => pfl ini o j pc len ls st σ
  | .iaload => aldI 0 pc len ls st σ
  | .caload => aldI 3 pc len ls st σ
  | .baload => match aldI 2 pc len ls st σ with
    | some r => some r
    | none => aldI 4 pc len ls st σ
  | .laload => aldL pc len ls st σ
  | .aaload => aldR pc len ls st σ
  | .iastore => astI 0 pc len ls st σ
  | .castore => astI 3 pc len ls st σ
  | .bastore => match astI 2 pc len ls st σ with
    | some r => some r
    | none => astI 4 pc len ls st σ
  | .lastore => astL pc len ls st σ
  | .aastore => astR pc len ls st σ
  | .arraylength => alen pc len ls st σ
  | .new j => newO o j pc len ls st σ
  | .newarray t => newP t pc len ls st σ
  | .anewarray j => newA o j pc len ls st σ
  | .invokevirtual j => inv0 call h w o 1 j pc len ls st σ
  | .invokestatic j => inv0 call h w o 0 j pc len ls st σ
  | .invokespecial j => inv0 call h w o 2 j pc len ls st σ
  | i => match bin i with
    | some f => match st with
      | .int y :: .int x :: st => if len = 1 then some (pc + 1, ls, .int (f x y) :: st, σ) else none
      | _ => none
    | none => match una i with
      | some f => match st with
        | .int x :: st => if len = 1 then some (pc + 1, ls, .int (f x) :: st, σ) else none
        | _ => none
      | none => none
/-- a return: what is answered -/
def rtn (r : Option FieldType) (i : Instr) (len : Nat) (st : List Value) : Option (Option Value) := match i with
  | .return_ => if len = 1 ∧ r = none ∧ st = [] then some none else none
  | .ireturn => match st with
    | [.int v] => if len = 1 ∧ (r = some .int ∨ (r = some .boolean ∧ v &&& 1 = v)) then some (some (.int v)) else none
    | _ => none
  | .lreturn => match st with
    | [.long v] => if len = 1 ∧ r = some .long then some (some (.long v)) else none
    | _ => none
  | .areturn => match st with
    | [.ref v] => if len = 1 ∧ r = some (.object "AbsenceTree$Tree") then some (some (.ref v)) else none
    | [.null] => if len = 1 ∧ r = some (.object "AbsenceTree$Tree") then some (some .null) else none
    | _ => none
  | _ => none
def dcd (i pc : Nat) : Option (Instr × Nat) := match decode (mB i) pc with
  | .ok r => some r
  | _ => none
def flatA (as : List Value) : List Value := as.flatMap fun v => if v.category = 2 then [v, secd] else [v]
def entA (n : Nat) (as : List Value) : List Value := flatA as ++ List.replicate (n - (flatA as).length) junk
def okV (v : Value) : Bool := match v with
  | .retAddr _ => false
  | _ => true
def run : Nat → Nat → Nat → List Value → List Value → Hp → Option Rs
  | 0, _, _, _, _, _ => none
  | f + 1, i, pc, ls, st, σ => match dcd i pc with
    | none => none
    | some (ins, len) => match rtn (mR i) ins len st with
      | some v => some (v, σ)
      | none => match ex (fun j as τ => if (flatA as).length ≤ mL j ∧ as.all okV = true then run f j 0 (entA (mL j) as) [] τ else none) (decide (mK i = 2)) (mH i) (mW i) (mO i) ins len pc ls st σ with
        | some (pc', ls', st', σ') => if σ.2.1 ≤ σ'.2.1 ∧ σ.2.2 ≤ σ'.2.2 then run f i pc' ls' st' σ' else none
        | none => none
