/-! A SMALL MACHINE over a flat memory: what a method of the system does, seen without the JVM's tables. mV: a value on the stack; mL: a value in a local (no longs there). -/
abbrev mV : Type := Int32 ⊕ (Int64 ⊕ Option Nat)
abbrev mL : Type := Int32 ⊕ Option Nat
def m_val (v : mV) : Value := match v with
  | .inl x => .int x
  | .inr (.inl y) => .long y
  | .inr (.inr r) => va_rf r
def m_lv (v : mL) : mV := match v with
  | .inl x => .inl x
  | .inr r => .inr (.inr r)
/-- the memory: shapes (tag, length), the next address and how many slots were made, ints, longs, references -/
def Mm : Type := (Nat → Option (Nat × Nat)) × (Nat × Nat) × (Nat → Nat → Int32) × (Nat → Nat → Int64) × (Nat → Nat → Option Nat)
def Mm.sh (M : Mm) : Nat → Option (Nat × Nat) := M.1
def Mm.sz (M : Mm) : Nat := M.2.1.1
def Mm.sl (M : Mm) : Nat := M.2.1.2
def Mm.it (M : Mm) : Nat → Nat → Int32 := M.2.2.1
def Mm.lg (M : Mm) : Nat → Nat → Int64 := M.2.2.2.1
def Mm.rf (M : Mm) : Nat → Nat → Option Nat := M.2.2.2.2
def up2 {α : Type} (f : Nat → Nat → α) (a k : Nat) (x : α) : Nat → Nat → α := fun b j => if b = a ∧ j = k then x else f b j
def Mm.si (M : Mm) (a k : Nat) (x : Int32) : Mm := (M.1, M.2.1, up2 M.2.2.1 a k x, M.2.2.2.1, M.2.2.2.2)
def Mm.sg (M : Mm) (a k : Nat) (x : Int64) : Mm := (M.1, M.2.1, M.2.2.1, up2 M.2.2.2.1 a k x, M.2.2.2.2)
def Mm.sr (M : Mm) (a k : Nat) (x : Option Nat) : Mm := (M.1, M.2.1, M.2.2.1, M.2.2.2.1, up2 M.2.2.2.2 a k x)
/-- a new cell of shape t, n slots of the room -/
def Mm.nw (M : Mm) (t : Nat × Nat) (n : Nat) : Mm := (fun a => if a = M.2.1.1 then some t else M.1 a, (M.2.1.1 + 1, M.2.1.2 + n), fun a k => if a = M.2.1.1 then 0 else M.2.2.1 a k, fun a k => if a = M.2.1.1 then 0 else M.2.2.2.1 a k, fun a k => if a = M.2.1.1 then none else M.2.2.2.2 a k)
/-- all n ints of an array become x -/
def Mm.fl (M : Mm) (a n : Nat) (x : Int32) : Mm := (M.1, M.2.1, fun b j => if b = a ∧ j < n then x else M.2.2.1 b j, M.2.2.2.1, M.2.2.2.2)
/-- a copy of the array at a of shape t with n slots -/
def Mm.cp (M : Mm) (a : Nat) (t : Nat × Nat) (n : Nat) : Mm := (fun b => if b = M.2.1.1 then some t else M.1 b, (M.2.1.1 + 1, M.2.1.2 + n), fun b k => if b = M.2.1.1 then M.2.2.1 a k else M.2.2.1 b k, fun b k => if b = M.2.1.1 then M.2.2.2.1 a k else M.2.2.2.1 b k, fun b k => if b = M.2.1.1 then M.2.2.2.2 a k else M.2.2.2.2 b k)
theorem si_sh (M : Mm) (a k : Nat) (x : Int32) : (M.si a k x).sh = M.sh := rfl
theorem si_sz (M : Mm) (a k : Nat) (x : Int32) : (M.si a k x).sz = M.sz := rfl
theorem si_sl (M : Mm) (a k : Nat) (x : Int32) : (M.si a k x).sl = M.sl := rfl
theorem si_lg (M : Mm) (a k : Nat) (x : Int32) : (M.si a k x).lg = M.lg := rfl
theorem si_rf (M : Mm) (a k : Nat) (x : Int32) : (M.si a k x).rf = M.rf := rfl
theorem si_it (M : Mm) (a k b j : Nat) (x : Int32) : (M.si a k x).it b j = if b = a ∧ j = k then x else M.it b j := rfl
theorem sg_sh (M : Mm) (a k : Nat) (x : Int64) : (M.sg a k x).sh = M.sh := rfl
theorem sg_sz (M : Mm) (a k : Nat) (x : Int64) : (M.sg a k x).sz = M.sz := rfl
theorem sg_sl (M : Mm) (a k : Nat) (x : Int64) : (M.sg a k x).sl = M.sl := rfl
theorem sg_it (M : Mm) (a k : Nat) (x : Int64) : (M.sg a k x).it = M.it := rfl
theorem sg_rf (M : Mm) (a k : Nat) (x : Int64) : (M.sg a k x).rf = M.rf := rfl
theorem sg_lg (M : Mm) (a k b j : Nat) (x : Int64) : (M.sg a k x).lg b j = if b = a ∧ j = k then x else M.lg b j := rfl
theorem sr_sh (M : Mm) (a k : Nat) (x : Option Nat) : (M.sr a k x).sh = M.sh := rfl
theorem sr_sz (M : Mm) (a k : Nat) (x : Option Nat) : (M.sr a k x).sz = M.sz := rfl
theorem sr_sl (M : Mm) (a k : Nat) (x : Option Nat) : (M.sr a k x).sl = M.sl := rfl
theorem sr_it (M : Mm) (a k : Nat) (x : Option Nat) : (M.sr a k x).it = M.it := rfl
theorem sr_lg (M : Mm) (a k : Nat) (x : Option Nat) : (M.sr a k x).lg = M.lg := rfl
theorem sr_rf (M : Mm) (a k b j : Nat) (x : Option Nat) : (M.sr a k x).rf b j = if b = a ∧ j = k then x else M.rf b j := rfl
theorem nw_sh (M : Mm) (t : Nat × Nat) (n a : Nat) : (M.nw t n).sh a = if a = M.sz then some t else M.sh a := rfl
theorem nw_sz (M : Mm) (t : Nat × Nat) (n : Nat) : (M.nw t n).sz = M.sz + 1 := rfl
theorem nw_sl (M : Mm) (t : Nat × Nat) (n : Nat) : (M.nw t n).sl = M.sl + n := rfl
theorem nw_it (M : Mm) (t : Nat × Nat) (n a k : Nat) : (M.nw t n).it a k = if a = M.sz then 0 else M.it a k := rfl
theorem nw_lg (M : Mm) (t : Nat × Nat) (n a k : Nat) : (M.nw t n).lg a k = if a = M.sz then 0 else M.lg a k := rfl
theorem nw_rf (M : Mm) (t : Nat × Nat) (n a k : Nat) : (M.nw t n).rf a k = if a = M.sz then none else M.rf a k := rfl
theorem fl_sh (M : Mm) (a n : Nat) (x : Int32) : (M.fl a n x).sh = M.sh := rfl
theorem fl_sz (M : Mm) (a n : Nat) (x : Int32) : (M.fl a n x).sz = M.sz := rfl
theorem fl_sl (M : Mm) (a n : Nat) (x : Int32) : (M.fl a n x).sl = M.sl := rfl
theorem fl_lg (M : Mm) (a n : Nat) (x : Int32) : (M.fl a n x).lg = M.lg := rfl
theorem fl_rf (M : Mm) (a n : Nat) (x : Int32) : (M.fl a n x).rf = M.rf := rfl
theorem fl_it (M : Mm) (a n b j : Nat) (x : Int32) : (M.fl a n x).it b j = if b = a ∧ j < n then x else M.it b j := rfl
/-! one step, as a predicate on what comes behind it -/
def pI (S : List mV) (F : Int32 → List mV → Prop) : Prop := match S with
  | .inl x :: S' => F x S'
  | _ => False
def pL (S : List mV) (F : Int64 → List mV → Prop) : Prop := match S with
  | .inr (.inl x) :: S' => F x S'
  | _ => False
def pR (S : List mV) (F : Option Nat → List mV → Prop) : Prop := match S with
  | .inr (.inr r) :: S' => F r S'
  | _ => False
def pA (S : List mV) (F : Nat → List mV → Prop) : Prop := match S with
  | .inr (.inr (some a)) :: S' => F a S'
  | _ => False
def pC (S : List mV) (F : mV → List mV → Prop) : Prop := match S with
  | .inl x :: S' => F (.inl x) S'
  | .inr (.inr r) :: S' => F (.inr (.inr r)) S'
  | _ => False
def gI (L : List (Option mL)) (k : Nat) (F : Int32 → Prop) : Prop := match L[k]? with
  | some (some (.inl x)) => F x
  | _ => False
def gR (L : List (Option mL)) (k : Nat) (F : Option Nat → Prop) : Prop := match L[k]? with
  | some (some (.inr r)) => F r
  | _ => False
def pAs : Nat → List mV → (List mL → List mV → Prop) → Prop
  | 0, S, F => F [] S
  | n + 1, S, F => match S with
    | .inl x :: S' => pAs n S' (fun as S2 => F (as ++ [.inl x]) S2)
    | .inr (.inr r) :: S' => pAs n S' (fun as S2 => F (as ++ [.inr r]) S2)
    | _ => False
def stk : List mV → Nat
  | [] => 0
  | .inl _ :: S => stk S + 1
  | .inr (.inl _) :: S => stk S + 2
  | .inr (.inr _) :: S => stk S + 1
def swc : List (Int × Nat) → Nat → Int32 → (Nat → Prop) → Prop
  | [], dt, _, F => F dt
  | (v, t) :: cs, dt, x, F => (x.toInt = v → F t) ∧ (¬ x.toInt = v → swc cs dt x F)
def iif (P A B : Prop) : Prop := (P → A) ∧ (¬ P → B)
theorem pI_c (x : Int32) (S : List mV) (F : Int32 → List mV → Prop) : pI (.inl x :: S) F = F x S := rfl
theorem pL_c (x : Int64) (S : List mV) (F : Int64 → List mV → Prop) : pL (.inr (.inl x) :: S) F = F x S := rfl
theorem pR_c (x : Option Nat) (S : List mV) (F : Option Nat → List mV → Prop) : pR (.inr (.inr x) :: S) F = F x S := rfl
theorem pA_c (x : Nat) (S : List mV) (F : Nat → List mV → Prop) : pA (.inr (.inr (some x)) :: S) F = F x S := rfl
theorem pC_i (x : Int32) (S : List mV) (F : mV → List mV → Prop) : pC (.inl x :: S) F = F (.inl x) S := rfl
theorem pC_r (x : Option Nat) (S : List mV) (F : mV → List mV → Prop) : pC (.inr (.inr x) :: S) F = F (.inr (.inr x)) S := rfl
theorem gI_z (x : Int32) (L : List (Option mL)) (F : Int32 → Prop) : gI (some (.inl x) :: L) 0 F = F x := rfl
theorem gI_s (o : Option mL) (L : List (Option mL)) (k : Nat) (F : Int32 → Prop) : gI (o :: L) (k + 1) F = gI L k F := rfl
theorem gR_z (x : Option Nat) (L : List (Option mL)) (F : Option Nat → Prop) : gR (some (.inr x) :: L) 0 F = F x := rfl
theorem gR_s (o : Option mL) (L : List (Option mL)) (k : Nat) (F : Option Nat → Prop) : gR (o :: L) (k + 1) F = gR L k F := rfl
/-- what the value of a field or an element is: ty 0 int, 1 boolean, 2 long, 3 a reference -/
def m_rd (M : Mm) (ty a k : Nat) : mV := match ty with
  | 2 => .inr (.inl (M.lg a k))
  | 3 => .inr (.inr (M.rf a k))
  | _ => .inl (M.it a k)
theorem m_rd0 (M : Mm) (a k : Nat) : m_rd M 0 a k = .inl (M.it a k) := rfl
theorem m_rd1 (M : Mm) (a k : Nat) : m_rd M 1 a k = .inl (M.it a k) := rfl
theorem m_rd2 (M : Mm) (a k : Nat) : m_rd M 2 a k = .inr (.inl (M.lg a k)) := rfl
theorem m_rd3 (M : Mm) (a k : Nat) : m_rd M 3 a k = .inr (.inr (M.rf a k)) := rfl
/-- an instruction, its length, what it links to -/
abbrev mI : Type := Instr × Nat × Nat × Nat × Nat
abbrev mK : Type := Nat → List (Option mL) → List mV → Mm → Prop
abbrev mQ : Type := Option mV → Mm → Prop
abbrev mC : Type := Nat → List mL → Mm → mQ → Prop
def cmpP (c : Jvm.ClassFile.Cond) (x y : Int32) : Prop := match c with
  | .eq => x = y
  | .ne => ¬ x = y
  | .lt => x < y
  | .ge => y ≤ x
  | .gt => y < x
  | .le => x ≤ y
/-- how a call's answer goes on: rk 0 nothing, 1 an int, 2 a reference -/
def rtK (rk : Nat) (pc : Nat) (L : List (Option mL)) (S : List mV) (K : mK) : mQ := fun r M => match rk with
  | 0 => r = none ∧ K pc L S M
  | 1 => ∃ x : Int32, r = some (.inl x) ∧ K pc L (.inl x :: S) M
  | _ => ∃ x : Option Nat, r = some (.inr (.inr x)) ∧ K pc L (.inr (.inr x) :: S) M
def inB (i : Int32) (n : Nat) : Prop := 0 ≤ i.toInt ∧ i.toInt < n
def shA (M : Mm) (a : Nat) (F : Nat → Nat → Prop) : Prop := match M.sh a with
  | some q => F q.1 q.2
  | none => False
theorem shA_of {M : Mm} {a t n : Nat} (h : M.sh a = some (t, n)) (F : Nat → Nat → Prop) : shA M a F = F t n := by unfold shA; rw [h]
def rTyB (t : Nat) : Bool := Nat.beq t 54 || Nat.beq t 58 || Nat.beq t 59
def aTyB (t : Nat) : Bool := Nat.beq t 40 || Nat.beq t 41 || Nat.beq t 42 || Nat.beq t 44 || rTyB t
/-- what a store into a boolean[] (42) or a byte[] (44) keeps -/
def bnar (t : Nat) (x : Int32) : Int32 := if t = 44 then x.toInt8.toInt32 else vp_nar .boolean x
theorem bnar_42 (x : Int32) : bnar 42 x = vp_nar .boolean x := rfl
theorem bnar_44 (x : Int32) : bnar 44 x = x.toInt8.toInt32 := rfl
/-- Long.bitCount, as the JDK computes it -/
def bcl (x0 : Int64) : Int32 :=
  let sh := fun (x : Int64) (k : Int32) => (x.toUInt64 >>> (k.toInt64.toUInt64 &&& Int64.toUInt64 63)).toInt64
  let x1 := x0 - (sh x0 1 &&& 0x5555555555555555)
  let x2 := (x1 &&& 0x3333333333333333) + (sh x1 2 &&& 0x3333333333333333)
  let x3 := (x2 + sh x2 4) &&& 0x0f0f0f0f0f0f0f0f
  let x4 := x3 + sh x3 8
  let x5 := x4 + sh x4 16
  let x6 := x5 + sh x5 32
  x6.toInt32 &&& 127
def imax (x y : Int32) : Int32 := if x < y then y else x
def imin (x y : Int32) : Int32 := if y < x then y else x
/-- Math.max (1001), Math.min -/
def mmx (r : Nat) (x y : Int32) : Int32 := if r = 1001 then imax x y else imin x y
theorem mmx_1 (x y : Int32) : mmx 1001 x y = imax x y := rfl
theorem mmx_2 (x y : Int32) : mmx 1002 x y = imin x y := rfl
def tblC (pc : Nat) (lo : Int) (offs : List Int) : List (Int × Nat) := match offs with
  | [] => []
  | o :: os => (lo, ((pc : Int) + o).toNat) :: tblC pc (lo + 1) os
/-- the instructions that are no call and no return -/
def stp (q : mI) (d pc : Nat) (L : List (Option mL)) (S : List mV) (M : Mm) (K : mK) : Prop := match q.1 with
  | .iconst c => K (pc + 1) L (.inl (Int32.ofInt c) :: S) M
  | .bipush c => K (pc + 2) L (.inl (Int8.ofInt c).toInt32 :: S) M
  | .sipush c => K (pc + 3) L (.inl (Int16.ofInt c).toInt32 :: S) M
  | .ldc _ => K (pc + 2) L (.inl (Int32.ofNat q.2.2.1) :: S) M
  | .lconst c => K (pc + 1) L (.inr (.inl (Int64.ofNat c.val)) :: S) M
  | .ldc2_w _ => K (pc + 3) L (.inr (.inl (Int64.ofNat q.2.2.1)) :: S) M
  | .aconst_null => K (pc + 1) L (.inr (.inr none) :: S) M
  | .iload k => gI L k fun x => K (pc + 2) L (.inl x :: S) M
  | .iload_n k => gI L k.val fun x => K (pc + 1) L (.inl x :: S) M
  | .aload k => gR L k fun x => K (pc + 2) L (.inr (.inr x) :: S) M
  | .aload_n k => gR L k.val fun x => K (pc + 1) L (.inr (.inr x) :: S) M
  | .istore k => pI S fun x S => K (pc + 2) (L.set k (some (.inl x))) S M
  | .istore_n k => pI S fun x S => K (pc + 1) (L.set k.val (some (.inl x))) S M
  | .astore k => pR S fun x S => K (pc + 2) (L.set k (some (.inr x))) S M
  | .astore_n k => pR S fun x S => K (pc + 1) (L.set k.val (some (.inr x))) S M
  | .iinc k c => gI L k fun x => K (pc + 3) (L.set k (some (.inl (x + Int32.ofInt c)))) S M
  | .iadd => pI S fun y S => pI S fun x S => K (pc + 1) L (.inl (x + y) :: S) M
  | .isub => pI S fun y S => pI S fun x S => K (pc + 1) L (.inl (x - y) :: S) M
  | .imul => pI S fun y S => pI S fun x S => K (pc + 1) L (.inl (x * y) :: S) M
  | .iand => pI S fun y S => pI S fun x S => K (pc + 1) L (.inl (x &&& y) :: S) M
  | .ior => pI S fun y S => pI S fun x S => K (pc + 1) L (.inl (x ||| y) :: S) M
  | .ixor => pI S fun y S => pI S fun x S => K (pc + 1) L (.inl (x ^^^ y) :: S) M
  | .ishl => pI S fun y S => pI S fun x S => K (pc + 1) L (.inl (x <<< (y &&& 31)) :: S) M
  | .ishr => pI S fun y S => pI S fun x S => K (pc + 1) L (.inl (x >>> (y &&& 31)) :: S) M
  | .iushr => pI S fun y S => pI S fun x S => K (pc + 1) L (.inl (x.toUInt32 >>> (y.toUInt32 &&& Int32.toUInt32 31)).toInt32 :: S) M
  | .idiv => pI S fun y S => pI S fun x S => ¬ y = 0 ∧ K (pc + 1) L (.inl (x / y) :: S) M
  | .irem => pI S fun y S => pI S fun x S => ¬ y = 0 ∧ K (pc + 1) L (.inl (x - x / y * y) :: S) M
  | .ineg => pI S fun x S => K (pc + 1) L (.inl (-x) :: S) M
  | .i2l => pI S fun x S => K (pc + 1) L (.inr (.inl x.toInt64) :: S) M
  | .i2b => pI S fun x S => K (pc + 1) L (.inl x.toInt8.toInt32 :: S) M
  | .l2i => pL S fun x S => K (pc + 1) L (.inl x.toInt32 :: S) M
  | .land => pL S fun y S => pL S fun x S => K (pc + 1) L (.inr (.inl (x &&& y)) :: S) M
  | .lor => pL S fun y S => pL S fun x S => K (pc + 1) L (.inr (.inl (x ||| y)) :: S) M
  | .lxor => pL S fun y S => pL S fun x S => K (pc + 1) L (.inr (.inl (x ^^^ y)) :: S) M
  | .lshl => pI S fun y S => pL S fun x S => K (pc + 1) L (.inr (.inl (x <<< (y.toInt64 &&& 63))) :: S) M
  | .dup => pC S fun v S => K (pc + 1) L (v :: v :: S) M
  | .dup_x1 => pC S fun v S => pC S fun w S => K (pc + 1) L (v :: w :: v :: S) M
  | .dup2 => pC S fun v S => pC S fun w S => K (pc + 1) L (v :: w :: v :: w :: S) M
  | .pop => pC S fun _ S => K (pc + 1) L S M
  | .goto _ => K q.2.2.1 L S M
  | .ifCond c _ => pI S fun x S => iif (cmpP c x 0) (K q.2.2.1 L S M) (K (pc + 3) L S M)
  | .if_icmp c _ => pI S fun y S => pI S fun x S => iif (cmpP c x y) (K q.2.2.1 L S M) (K (pc + 3) L S M)
  | .ifnull _ => pR S fun r S => iif (r = none) (K q.2.2.1 L S M) (K (pc + 3) L S M)
  | .ifnonnull _ => pR S fun r S => iif (r = none) (K (pc + 3) L S M) (K q.2.2.1 L S M)
  | .if_acmp c _ => pR S fun y S => pR S fun x S => match c with
    | .eq => iif (x = y) (K q.2.2.1 L S M) (K (pc + 3) L S M)
    | .ne => iif (x = y) (K (pc + 3) L S M) (K q.2.2.1 L S M)
  | .tableswitch dt lo _ offs => pI S fun x S => swc (tblC pc lo offs.toList) ((pc : Int) + dt).toNat x (fun t => K t L S M)
  | .lookupswitch dt ps => pI S fun x S => swc (ps.toList.map fun c => (c.1, ((pc : Int) + c.2).toNat)) ((pc : Int) + dt).toNat x (fun t => K t L S M)
  | .getfield _ => pA S fun a S => M.sh a = some (q.2.2.1, 0) ∧ K (pc + 3) L (m_rd M q.2.2.2.2 a q.2.2.2.1 :: S) M
  | .putfield _ => match q.2.2.2.2 with
    | 2 => pL S fun x S => pA S fun a S => M.sh a = some (q.2.2.1, 0) ∧ K (pc + 3) L S (M.sg a q.2.2.2.1 x)
    | 3 => pR S fun x S => pA S fun a S => M.sh a = some (q.2.2.1, 0) ∧ K (pc + 3) L S (M.sr a q.2.2.2.1 x)
    | 1 => pI S fun x S => pA S fun a S => (x = 0 ∨ x = 1) ∧ M.sh a = some (q.2.2.1, 0) ∧ K (pc + 3) L S (M.si a q.2.2.2.1 x)
    | _ => pI S fun x S => pA S fun a S => M.sh a = some (q.2.2.1, 0) ∧ K (pc + 3) L S (M.si a q.2.2.2.1 x)
  | .arraylength => pA S fun a S => shA M a fun t n => aTyB t = true ∧ K (pc + 1) L (.inl (nI n) :: S) M
  | .iaload => pI S fun i S => pA S fun a S => shA M a fun t n => (t = 40 ∨ t = 41) ∧ inB i n ∧ K (pc + 1) L (.inl (M.it a i.toNatClampNeg) :: S) M
  | .iastore => pI S fun x S => pI S fun i S => pA S fun a S => shA M a fun t n => t = 41 ∧ inB i n ∧ K (pc + 1) L S (M.si a i.toNatClampNeg x)
  | .baload => pI S fun i S => pA S fun a S => shA M a fun t n => (t = 42 ∨ t = 44) ∧ inB i n ∧ K (pc + 1) L (.inl (M.it a i.toNatClampNeg) :: S) M
  | .bastore => pI S fun x S => pI S fun i S => pA S fun a S => shA M a fun t n => (t = 42 ∨ t = 44) ∧ inB i n ∧ K (pc + 1) L S (M.si a i.toNatClampNeg (bnar t x))
  | .aaload => pI S fun i S => pA S fun a S => shA M a fun t n => rTyB t = true ∧ inB i n ∧ K (pc + 1) L (.inr (.inr (M.rf a i.toNatClampNeg)) :: S) M
  | .aastore => pR S fun x S => pI S fun i S => pA S fun a S => shA M a fun t n => rTyB t = true ∧ inB i n ∧ (∀ b : Nat, x = some b → M.sh b = some (t - 50, 0)) ∧ K (pc + 1) L S (M.sr a i.toNatClampNeg x)
  | .newarray _ => pI S fun n S => 0 ≤ n.toInt ∧ n.toInt ≤ 100000 ∧ K (pc + 2) L (.inr (.inr (some M.sz)) :: S) (M.nw (q.2.2.1, n.toNatClampNeg) n.toNatClampNeg)
  | .anewarray _ => pI S fun n S => 0 ≤ n.toInt ∧ n.toInt ≤ 100000 ∧ K (pc + 3) L (.inr (.inr (some M.sz)) :: S) (M.nw (q.2.2.1, n.toNatClampNeg) n.toNatClampNeg)
  | .new _ => K (pc + 3) L (.inr (.inr (some M.sz)) :: S) (M.nw (q.2.2.1, 0) q.2.2.2.1)
  | .checkcast _ => pA S fun a S => shA M a fun t _ => t = q.2.2.1 ∧ K (pc + 3) L (.inr (.inr (some a)) :: S) M
  | .invokespecial _ => pA S fun _ S => q.2.2.1 = 1000 ∧ 0 < d ∧ stk S ≤ 8 ∧ K (pc + 3) L S M
  | .invokestatic _ => if q.2.2.1 = 1003 then pL S fun x S => 0 < d ∧ stk S ≤ 8 ∧ K (pc + 3) L (.inl (bcl x) :: S) M else pI S fun y S => pI S fun x S => 0 < d ∧ stk S ≤ 8 ∧ K (pc + 3) L (.inl (mmx q.2.2.1 x y) :: S) M
  | .invokevirtual _ => pA S fun a S => shA M a fun t n => q.2.2.1 = 1005 ∧ t = 41 ∧ 0 < d ∧ stk S ≤ 8 ∧ K (pc + 3) L (.inr (.inr (some M.sz)) :: S) (M.cp a (t, n) n)
  | _ => False
/-- every instruction: returns by Q, calls of the system's methods by Cc -/
def stx (q : mI) (d pc : Nat) (L : List (Option mL)) (S : List mV) (M : Mm) (Q : mQ) (K : mK) (Cc : mC) : Prop := match q.1 with
  | .ireturn => pI S fun x S => S = [] ∧ (q.2.2.1 = 0 ∨ x = 0 ∨ x = 1) ∧ Q (some (.inl x)) M
  | .areturn => pR S fun r S => S = [] ∧ Q (some (.inr (.inr r))) M
  | .return_ => S = [] ∧ Q none M
  | .invokevirtual _ => if q.2.2.1 < 1000 then pAs q.2.2.2.1 S fun as S => pA S fun a S => M.sh a = some (mCl q.2.2.1, 0) ∧ stk S ≤ 8 ∧ Cc q.2.2.1 (.inr (some a) :: as) M (rtK q.2.2.2.2 (pc + 3) L S K) else stp q d pc L S M K
  | .invokespecial _ => if q.2.2.1 < 1000 then pAs q.2.2.2.1 S fun as S => pA S fun a S => stk S ≤ 8 ∧ Cc q.2.2.1 (.inr (some a) :: as) M (rtK q.2.2.2.2 (pc + 3) L S K) else stp q d pc L S M K
  | .invokestatic _ => if q.2.2.1 < 1000 then pAs q.2.2.2.1 S fun as S => stk S ≤ 8 ∧ Cc q.2.2.1 as M (rtK q.2.2.2.2 (pc + 3) L S K) else stp q d pc L S M K
  | _ => stp q d pc L S M K
