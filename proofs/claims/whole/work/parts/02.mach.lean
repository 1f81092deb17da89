/-! THE SMALL MACHINE: what the landed bytecode does, over ids instead of addresses; a cell's content is f (whole numbers) and g (references) -/
abbrev FF : Type := Nat → Nat → Int32
abbrev GG : Type := Nat → Nat → Option Nat
abbrev LL : Type := List (Option Value)
/-- an instruction, the place of the next, two numbers (a jump's target, a field, a callee; the place of its word), a small constant -/
abbrev Ent : Type := Instr × Nat × Nat × Nat × Int32
abbrev Nxt : Type := Nat × LL × List Value × Nat × FF × GG
abbrev Res : Type := Option Value × Nat × FF × GG
abbrev Scr : Type := (Nat → Int32) × Nat
def fup (f : FF) (a k : Nat) (v : Int32) : FF := fun x y => if x = a ∧ y = k then v else f x y
def gup (g : GG) (a k : Nat) (v : Option Nat) : GG := fun x y => if x = a ∧ y = k then v else g x y
def lget (ls : LL) (i : Nat) : Option Value := (ls[i]?).join
def isL (o : Option Value) : Bool := match o with
  | some v => Nat.beq v.category 2
  | none => false
def st1 (ls : LL) (i : Nat) (v : Value) : LL := match i with
  | 0 => ls.set 0 (some v)
  | k + 1 => match isL (lget ls k) with
    | true => (ls.set k none).set (k + 1) (some v)
    | false => ls.set (k + 1) (some v)
def st2 (ls : LL) (i : Nat) (v : Value) : LL := (st1 ls i v).set (i + 1) none
def isA (v : Value) : Bool := match v with
  | .ref _ => true
  | .null => true
  | .float _ => true
  | _ => false
def ldI (o : Option Value) : Option Value := match o with
  | some (.int x) => some (.int x)
  | _ => none
def ldL (o : Option Value) : Option Value := match o with
  | some (.long x) => some (.long x)
  | _ => none
def ldA (o : Option Value) : Option Value := match o with
  | some v => if isA v = true then some v else none
  | _ => none
def entL1 : List Value → LL
  | [] => []
  | v :: l => if v.category = 2 then some v :: none :: entL1 l else some v :: entL1 l
def entL (vs : List Value) (n : Nat) : LL := entL1 vs ++ List.replicate (n - (entL1 vs).length) none
/-- the string constant's signs -/
def strB : List Int32 := [99, 48, 44, 51, 44, 48, 59, 99, 49, 44, 50, 44, 48, 59, 99, 50, 44, 52, 44, 49, 59, 99, 51, 44, 53, 44, 49, 59, 99, 48, 44, 49, 44, 50, 59, 99, 52, 44, 54, 44, 51, 59, 99, 50, 44, 50, 44, 53, 59, 99, 48, 44, 55, 44, 55, 59, 109, 52, 44, 48, 44, 112, 117, 112, 117, 59, 109, 54, 44, 50, 44, 115, 115, 112, 117, 112, 59, 109, 55, 44, 53, 44, 117, 59, 109, 53, 44, 57, 44, 112, 112, 112, 115, 115, 115, 59, 105, 51, 59]
section MACH
variable (KK : List (Nat × Nat))
def kd (n a : Nat) : Option (Nat × Nat) := if a < n then KK[a]? else none
def pu (q : Nat) (ls : LL) (n : Nat) (f : FF) (g : GG) (r : List Value) (o : Option Value) : Option Nxt := match o with
  | some v => some (q, ls, v :: r, n, f, g)
  | none => none
def bin (q : Nat) (ls : LL) (n : Nat) (f : FF) (g : GG) (st : List Value) (F : Int32 → Int32 → Option Int32) : Option Nxt := match st with
  | .int y :: .int x :: r => match F x y with
    | some v => some (q, ls, .int v :: r, n, f, g)
    | none => none
  | _ => none
def binl (q : Nat) (ls : LL) (n : Nat) (f : FF) (g : GG) (st : List Value) (F : Int64 → Int64 → Option Value) : Option Nxt := match st with
  | .long y :: .long x :: r => match F x y with
    | some v => some (q, ls, v :: r, n, f, g)
    | none => none
  | _ => none
def cnd (c : Jvm.ClassFile.Cond) (x y : Int32) : Bool := match c with
  | .eq => decide (x = y)
  | .ne => decide (¬ x = y)
  | .lt => decide (x < y)
  | .ge => decide (y ≤ x)
  | .gt => decide (y < x)
  | .le => decide (x ≤ y)
def tsw (pc : Nat) (d lo hi : Int) (offs : Array Int) (x : Int32) : Option Nat :=
  if x.toInt < lo ∨ hi < x.toInt then some ((pc : Int) + d).toNat else match offs[(x.toInt - lo).toNat]? with
    | some o => some ((pc : Int) + o).toNat
    | none => none
def sGet (e : Ent) (q : Nat) (ls : LL) (st : List Value) (n : Nat) (f : FF) (g : GG) : Option Nxt := match st with
  | .ref a :: r => match kd KK n a with
    | some (ci, sz) => if ci < 20 ∧ ci = e.2.2.1 / 100 ∧ e.2.2.1 % 100 < sz then (if e.2.2.2.2 = 1 then some (q, ls, va_rf (g a (e.2.2.1 % 100)) :: r, n, f, g) else some (q, ls, .int (f a (e.2.2.1 % 100)) :: r, n, f, g)) else none
    | none => none
  | .float t :: r => if t = 1 ∧ e.2.2.1 = 9000 then some (q, ls, .float 2 :: r, n, f, g) else if t = 1 ∧ e.2.2.1 = 9001 then some (q, ls, .int 0 :: r, n, f, g) else none
  | _ => none
def sPut (e : Ent) (q : Nat) (ls : LL) (st : List Value) (n : Nat) (f : FF) (g : GG) : Option Nxt := match st with
  | .int v :: .ref a :: r => match kd KK n a with
    | some (ci, sz) => if ci < 20 ∧ ci = e.2.2.1 / 100 ∧ e.2.2.1 % 100 < sz ∧ e.2.2.2.2 = 0 then some (q, ls, r, n, fup f a (e.2.2.1 % 100) v, g) else none
    | none => none
  | .ref v :: .ref a :: r => match kd KK n a with
    | some (ci, sz) => if ci < 20 ∧ ci = e.2.2.1 / 100 ∧ e.2.2.1 % 100 < sz ∧ e.2.2.2.2 = 1 then some (q, ls, r, n, f, gup g a (e.2.2.1 % 100) (some v)) else none
    | none => none
  | _ => none
def sALen (S : Scr) (q : Nat) (ls : LL) (st : List Value) (n : Nat) (f : FF) (g : GG) : Option Nxt := match st with
  | .ref a :: r => match kd KK n a with
    | some (k, sz) => if 20 ≤ k then some (q, ls, .int (Int32.ofNat sz) :: r, n, f, g) else none
    | none => none
  | .float t :: r => if t = 0 then some (q, ls, .int (Int32.ofNat S.2) :: r, n, f, g) else if t = 2 then some (q, ls, .int 99 :: r, n, f, g) else none
  | _ => none
def sIald (S : Scr) (q : Nat) (ls : LL) (st : List Value) (n : Nat) (f : FF) (g : GG) : Option Nxt := match st with
  | .int i :: .ref a :: r => match kd KK n a with
    | some (k, sz) => if k = 20 ∧ ¬ (i < 0 ∨ sz ≤ i.toNatClampNeg) then some (q, ls, .int (f a i.toNatClampNeg) :: r, n, f, g) else none
    | none => none
  | .int i :: .float t :: r => if t = 0 ∧ ¬ (i < 0 ∨ S.2 ≤ i.toNatClampNeg) then some (q, ls, .int (S.1 i.toNatClampNeg) :: r, n, f, g) else none
  | _ => none
def sBald (q : Nat) (ls : LL) (st : List Value) (n : Nat) (f : FF) (g : GG) : Option Nxt := match st with
  | .int i :: .float t :: r => if t = 2 ∧ ¬ (i < 0 ∨ 99 ≤ i.toNatClampNeg) then some (q, ls, .int (strB.getD i.toNatClampNeg 0) :: r, n, f, g) else none
  | _ => none
def sIast (q : Nat) (ls : LL) (st : List Value) (n : Nat) (f : FF) (g : GG) : Option Nxt := match st with
  | .int x :: .int i :: .ref a :: r => match kd KK n a with
    | some (k, sz) => if k = 20 ∧ ¬ (i < 0 ∨ sz ≤ i.toNatClampNeg) then some (q, ls, r, n, fup f a i.toNatClampNeg x, g) else none
    | none => none
  | _ => none
def sAald (q : Nat) (ls : LL) (st : List Value) (n : Nat) (f : FF) (g : GG) : Option Nxt := match st with
  | .int i :: .ref a :: r => match kd KK n a with
    | some (k, sz) => if 20 < k ∧ ¬ (i < 0 ∨ sz ≤ i.toNatClampNeg) then some (q, ls, va_rf (g a i.toNatClampNeg) :: r, n, f, g) else none
    | none => none
  | _ => none
/-- the class of a kind of array's elements -/
def elK (k : Nat) : Nat := if k = 21 then 1 else 2
def sAast (q : Nat) (ls : LL) (st : List Value) (n : Nat) (f : FF) (g : GG) : Option Nxt := match st with
  | .ref v :: .int i :: .ref a :: r => match kd KK n a with
    | some (k, sz) => match kd KK n v with
      | some (c, _) => if (k = 21 ∨ k = 22) ∧ c = elK k ∧ ¬ (i < 0 ∨ sz ≤ i.toNatClampNeg) then some (q, ls, r, n, f, gup g a i.toNatClampNeg (some v)) else none
      | none => none
    | none => none
  | _ => none
def sNew (k sz q : Nat) (ls : LL) (r : List Value) (n : Nat) (f : FF) (g : GG) : Option Nxt :=
  if KK[n]? = some (k, sz) then some (q, ls, .ref n :: r, n + 1, f, g) else none
def sNewO (k q : Nat) (ls : LL) (r : List Value) (n : Nat) (f : FF) (g : GG) : Option Nxt := match KK[n]? with
  | some (c, _) => if c = k ∧ k < 20 then some (q, ls, .ref n :: r, n + 1, f, g) else none
  | none => none
def sNewA (k q : Nat) (ls : LL) (st : List Value) (n : Nat) (f : FF) (g : GG) : Option Nxt := match st with
  | .int x :: r => if ¬ x < 0 ∧ x.toNatClampNeg ≤ 1000 then sNew KK k x.toNatClampNeg q ls r n f g else none
  | _ => none
def sMax (q : Nat) (ls : LL) (st : List Value) (n : Nat) (f : FF) (g : GG) : Option Nxt := match st with
  | .int y :: .int x :: r => if Nat.ble (r.map Value.category).sum 8 = true then some (q, ls, .int (if x < y then y else x) :: r, n, f, g) else none
  | _ => none
/-- one instruction that neither calls nor returns -/
def stp (S : Scr) (e : Ent) (pc : Nat) (ls : LL) (st : List Value) (n : Nat) (f : FF) (g : GG) : Option Nxt :=
  match e.1 with
  | .iload k => pu (e.2.1) ls n f g st (ldI (lget ls k))
  | .iload_n k => pu (e.2.1) ls n f g st (ldI (lget ls k.val))
  | .lload k => pu (e.2.1) ls n f g st (ldL (lget ls k))
  | .lload_n k => pu (e.2.1) ls n f g st (ldL (lget ls k.val))
  | .aload k => pu (e.2.1) ls n f g st (ldA (lget ls k))
  | .aload_n k => pu (e.2.1) ls n f g st (ldA (lget ls k.val))
  | .istore k => match st with
    | .int x :: r => some (e.2.1, st1 ls k (.int x), r, n, f, g)
    | _ => none
  | .istore_n k => match st with
    | .int x :: r => some (e.2.1, st1 ls k.val (.int x), r, n, f, g)
    | _ => none
  | .lstore k => match st with
    | .long x :: r => some (e.2.1, st2 ls k (.long x), r, n, f, g)
    | _ => none
  | .lstore_n k => match st with
    | .long x :: r => some (e.2.1, st2 ls k.val (.long x), r, n, f, g)
    | _ => none
  | .astore k => match st with
    | v :: r => if isA v = true then some (e.2.1, st1 ls k v, r, n, f, g) else none
    | _ => none
  | .astore_n k => match st with
    | v :: r => if isA v = true then some (e.2.1, st1 ls k.val v, r, n, f, g) else none
    | _ => none
  | .iinc k _ => match lget ls k with
    | some (.int x) => some (e.2.1, st1 ls k (.int (x + e.2.2.2.2)), st, n, f, g)
    | _ => none
  | .iconst _ => some (e.2.1, ls, .int e.2.2.2.2 :: st, n, f, g)
  | .bipush _ => some (e.2.1, ls, .int e.2.2.2.2 :: st, n, f, g)
  | .sipush _ => some (e.2.1, ls, .int e.2.2.2.2 :: st, n, f, g)
  | .ldc _ => if e.2.2.1 = 1 then some (e.2.1, ls, .float 1 :: st, n, f, g) else some (e.2.1, ls, .int e.2.2.2.2 :: st, n, f, g)
  | .ldc_w _ => some (e.2.1, ls, .int e.2.2.2.2 :: st, n, f, g)
  | .ldc2_w _ => some (e.2.1, ls, .long e.2.2.2.2.toInt64 :: st, n, f, g)
  | .lconst _ => some (e.2.1, ls, .long e.2.2.2.2.toInt64 :: st, n, f, g)
  | .aconst_null => some (e.2.1, ls, .null :: st, n, f, g)
  | .dup => match st with
    | v :: r => if v.category = 1 then some (e.2.1, ls, v :: v :: r, n, f, g) else none
    | _ => none
  | .dup2 => match st with
    | v :: w :: r => if v.category = 1 ∧ w.category = 1 then some (e.2.1, ls, v :: w :: v :: w :: r, n, f, g) else none
    | _ => none
  | .pop => match st with
    | v :: r => if v.category = 1 then some (e.2.1, ls, r, n, f, g) else none
    | _ => none
  | .iadd => bin (e.2.1) ls n f g st (fun x y => some (x + y))
  | .isub => bin (e.2.1) ls n f g st (fun x y => some (x - y))
  | .imul => bin (e.2.1) ls n f g st (fun x y => some (x * y))
  | .idiv => bin (e.2.1) ls n f g st (fun x y => if y = 0 then none else some (x / y))
  | .irem => bin (e.2.1) ls n f g st (fun x y => if y = 0 then none else some (x - x / y * y))
  | .iand => bin (e.2.1) ls n f g st (fun x y => some (x &&& y))
  | .ior => bin (e.2.1) ls n f g st (fun x y => some (x ||| y))
  | .ixor => bin (e.2.1) ls n f g st (fun x y => some (x ^^^ y))
  | .ishl => bin (e.2.1) ls n f g st (fun x y => some (x <<< (y &&& 31)))
  | .ishr => bin (e.2.1) ls n f g st (fun x y => some (x >>> (y &&& 31)))
  | .iushr => bin (e.2.1) ls n f g st (fun x y => some (x.toUInt32 >>> (y.toUInt32 &&& Int32.toUInt32 31)).toInt32)
  | .ladd => binl (e.2.1) ls n f g st (fun x y => some (.long (x + y)))
  | .lmul => binl (e.2.1) ls n f g st (fun x y => some (.long (x * y)))
  | .ldiv => binl (e.2.1) ls n f g st (fun x y => if y = 0 then none else some (.long (x / y)))
  | .lrem => binl (e.2.1) ls n f g st (fun x y => if y = 0 then none else some (.long (x - x / y * y)))
  | .lcmp => binl (e.2.1) ls n f g st (fun x y => some (.int (lg_cmp x y)))
  | .i2l => match st with
    | .int x :: r => some (e.2.1, ls, .long x.toInt64 :: r, n, f, g)
    | _ => none
  | .l2i => match st with
    | .long x :: r => some (e.2.1, ls, .int x.toInt32 :: r, n, f, g)
    | _ => none
  | .i2c => match st with
    | .int x :: r => some (e.2.1, ls, .int (x.toUInt32 % 65536).toInt32 :: r, n, f, g)
    | _ => none
  | .goto _ => some (e.2.2.1, ls, st, n, f, g)
  | .if_icmp c _ => match st with
    | .int y :: .int x :: r => match cnd c x y with
      | true => some (e.2.2.1, ls, r, n, f, g)
      | false => some (e.2.1, ls, r, n, f, g)
    | _ => none
  | .ifCond c _ => match st with
    | .int x :: r => match cnd c x 0 with
      | true => some (e.2.2.1, ls, r, n, f, g)
      | false => some (e.2.1, ls, r, n, f, g)
    | _ => none
  | .ifnonnull _ => match st with
    | .ref _ :: r => some (e.2.2.1, ls, r, n, f, g)
    | .null :: r => some (e.2.1, ls, r, n, f, g)
    | _ => none
  | .tableswitch d lo hi offs => match st with
    | .int x :: r => match tsw pc d lo hi offs x with
      | some t => some (t, ls, r, n, f, g)
      | none => none
    | _ => none
  | .getfield _ => sGet KK e (e.2.1) ls st n f g
  | .putfield _ => sPut KK e (e.2.1) ls st n f g
  | .getstatic _ => if e.2.2.1 = 0 then some (e.2.1, ls, .int 1 :: st, n, f, g) else some (e.2.1, ls, .float 3 :: st, n, f, g)
  | .arraylength => sALen KK S (e.2.1) ls st n f g
  | .iaload => sIald KK S (e.2.1) ls st n f g
  | .baload => sBald (e.2.1) ls st n f g
  | .iastore => sIast KK (e.2.1) ls st n f g
  | .aaload => sAald KK (e.2.1) ls st n f g
  | .aastore => sAast KK (e.2.1) ls st n f g
  | .invokestatic _ => if e.2.2.1 = 9997 then sMax e.2.1 ls st n f g else none
  | .new _ => sNewO KK e.2.2.1 (e.2.1) ls st n f g
  | .newarray _ => sNewA KK 20 (e.2.1) ls st n f g
  | .anewarray _ => sNewA KK e.2.2.1 (e.2.1) ls st n f g
  | _ => none
/-- 1: a return, 2: a call, 3: Object's constructor -/
def knd (e : Ent) : Nat := match e.1 with
  | .ireturn => 1
  | .lreturn => 1
  | .areturn => 1
  | .return_ => 1
  | .invokevirtual _ => 2
  | .invokestatic _ => if e.2.2.1 = 9997 then 0 else 2
  | .invokespecial _ => if e.2.2.1 = 9999 then 3 else 2
  | _ => 0
/-- what a method of the table is: name, code, locals, what it returns, how many it takes (its object too), static, its class' number -/
abbrev Mth : Type := MethodName × ByteArray × Nat × Option FieldType × Nat × Bool × Nat
variable (MT : List Mth) (MC : List (List (Option Ent)))
def icode (y pc : Nat) : Option Ent := match MC[y]? with
  | some c => (c[pc]?).join
  | none => none
def rets (ret : Option FieldType) (e : Ent) (st : List Value) (n : Nat) (f : FF) (g : GG) : Option Res := match e.1 with
  | .ireturn => match st, ret with
    | [.int x], some ty => if narrow ty (.int x) = .int x then some (some (.int x), n, f, g) else none
    | _, _ => none
  | .lreturn => match st, ret with
    | [.long x], some .long => some (some (.long x), n, f, g)
    | _, _ => none
  | .areturn => match st, ret with
    | [.ref a], some (.object _) => some (some (.ref a), n, f, g)
    | _, _ => none
  | _ => match st, ret with
    | [], none => some (none, n, f, g)
    | _, _ => none
/-- the object of a call: of the class that it names -/
def recOk (ci n : Nat) (v : Option Value) : Bool := match v with
  | some (.ref a) => match kd KK n a with
    | some (c, _) => decide (c = ci ∧ c < 20)
    | none => false
  | some (.float t) => decide (t = 1 ∧ ci = 50)
  | _ => false
def callA (e : Ent) (mt : Mth) (st : List Value) (n : Nat) : Option (List Value × List Value) :=
  if mt.2.2.2.2.1 ≤ st.length ∧ Nat.ble ((st.drop mt.2.2.2.2.1).map Value.category).sum 8 = true ∧ (entL1 (st.take mt.2.2.2.2.1).reverse).length ≤ mt.2.2.1 then
    (match e.1 with
    | .invokestatic _ => if mt.2.2.2.2.2.1 = true then some ((st.take mt.2.2.2.2.1).reverse, st.drop mt.2.2.2.2.1) else none
    | .invokevirtual _ => if mt.2.2.2.2.2.1 = false ∧ recOk KK mt.2.2.2.2.2.2 n (st.take mt.2.2.2.2.1).reverse.head? = true then some ((st.take mt.2.2.2.2.1).reverse, st.drop mt.2.2.2.2.1) else none
    | _ => if mt.2.2.2.2.2.1 = false ∧ mt.1.name = "<init>" ∧ mt.2.2.2.1 = none ∧ recOk KK mt.2.2.2.2.2.2 n (st.take mt.2.2.2.2.1).reverse.head? = true then some ((st.take mt.2.2.2.2.1).reverse, st.drop mt.2.2.2.2.1) else none)
  else none
def dpre : Nat → Option Nat
  | 0 => none
  | d + 1 => some d
def popR (st : List Value) : Option (List Value) := match st with
  | .ref _ :: r => if Nat.ble (r.map Value.category).sum 8 = true then some r else none
  | _ => none
/-- the machine: k steps at most, calls d deep at most -/
def run (S : Scr) : Nat → Nat → Nat → Nat → LL → List Value → Nat → FF → GG → Option Res
  | 0, _, _, _, _, _, _, _, _ => none
  | k + 1, d, y, pc, ls, st, n, f, g =>
    match icode MC y pc with
    | none => none
    | some e =>
      match knd e with
      | 1 => match MT[y]? with
        | some mt => rets mt.2.2.2.1 e st n f g
        | none => none
      | 2 => match dpre d with
        | some d' => match MT[e.2.2.1]? with
          | some mt => match callA KK e mt st n with
            | some (as, rest) => match run S k d' e.2.2.1 0 (entL as mt.2.2.1) [] n f g with
              | some (v, n', f', g') => run S k d y e.2.1 ls (v.toList ++ rest) n' f' g'
              | none => none
            | none => none
          | none => none
        | none => none
      | 3 => match dpre d with
        | some _ => match popR st with
          | some r => run S k d y e.2.1 ls r n f g
          | none => none
        | none => none
      | _ => match stp KK S e pc ls st n f g with
        | some (pc', ls', st', n', f', g') => run S k d y pc' ls' st' n' f' g'
        | none => none
end MACH
