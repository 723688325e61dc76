/-! A SMALL MACHINE over the program's own decoded instructions. Its objects hang on a tree that stands for good once the constructors are through: an object is the road to it from its root, innermost first ([k, .., r]); what can change are ints (and longs), read by road and place. -/
abbrev mV : Type := (Int32 ⊕ (Int64 ⊕ Int)) ⊕ Option (Nat × List Nat)
abbrev vi (v : Int32) : mV := .inl (.inl v)
abbrev vl (v : Int64) : mV := .inl (.inr (.inl v))
/-- an int that is written in the code -/
abbrev vk (n : Int) : mV := .inl (.inr (.inr n))
abbrev vr (c : Nat) (p : List Nat) : mV := .inr (some (c, p))
abbrev vn : mV := .inr none
/-- ints, longs, how many exceptions were made -/
abbrev mM : Type := (List Nat → Nat → Int32) × (List Nat → Nat → Int64) × Nat
abbrev mS : Type := Nat × List (Option mV) × List mV × mM
/-- goes on (the first whose test holds); leaves (if the test holds); calls -/
abbrev mO : Type := List (Bool × mS) ⊕ (Bool × Option mV) ⊕ (Nat × List mV × List mV)
/-- an int written in the code -/
def cI (n : Int) : Int32 := match n with
  | .ofNat k => Int32.ofNat k
  | .negSucc k => -(Int32.ofNat (k + 1))
def nz (v : mV) : mV := match v with
  | .inl (.inr (.inr n)) => vi (cI n)
  | v => v
def pI {α : Type} (st : List mV) (k : Int32 → List mV → Option α) : Option α := match st with
  | .inl (.inl v) :: r => k v r
  | .inl (.inr (.inr n)) :: r => k (cI n) r
  | _ => none
def pL {α : Type} (st : List mV) (k : Int64 → List mV → Option α) : Option α := match st with
  | .inl (.inr (.inl v)) :: r => k v r
  | _ => none
def pR {α : Type} (st : List mV) (k : Nat → List Nat → List mV → Option α) : Option α := match st with
  | .inr (some (c, p)) :: r => k c p r
  | _ => none
/-- a reference or null -/
def pN {α : Type} (st : List mV) (k : Option (Nat × List Nat) → List mV → Option α) : Option α := match st with
  | .inr v :: r => k v r
  | _ => none
/-- an int, as it is -/
def pV {α : Type} (st : List mV) (k : mV → List mV → Option α) : Option α := match st with
  | .inl (.inl v) :: r => k (vi v) r
  | .inl (.inr (.inr n)) :: r => k (vk n) r
  | _ => none
/-- any of one word -/
def pA {α : Type} (st : List mV) (k : mV → List mV → Option α) : Option α := match st with
  | .inl (.inl v) :: r => k (vi v) r
  | .inl (.inr (.inr n)) :: r => k (vk n) r
  | .inr v :: r => k (.inr v) r
  | _ => none
def mCat (v : mV) : Nat := match v with
  | .inl (.inr (.inl _)) => 2
  | _ => 1
def preOne (l : List mV) : Bool := match l with
  | [] => true
  | v :: r => match r with
    | [] => true
    | _ :: _ => Nat.beq (mCat v) 1 && preOne r
/-- what a call passes on: all of one word, but for the last, which may be a long; there is room for it -/
def allOne (k : Nat) (l : List mV) : Bool := preOne l && Nat.ble (l.map mCat).sum k
def uI (f : List Nat → Nat → Int32) (p : List Nat) (g : Nat → Int32) : List Nat → Nat → Int32 := fun q => if q = p then g else f q
def uL (f : List Nat → Nat → Int64) (p : List Nat) (g : Nat → Int64) : List Nat → Nat → Int64 := fun q => if q = p then g else f q
def tgK (c : Nat) : Nat := Nat.div c 1000000
def tgN (c : Nat) : Nat := Nat.mod c 1000000
def fKd (ci k : Nat) : Option Nat := (fKs.getD ci [])[k]?
def inB (i : Int32) (n : Nat) : Bool := decide (0 ≤ i) && decide (i.toNatClampNeg < n)
def isZ (v : Int32) : Bool := decide (v = 0) || decide (v = 1)
def fnd {α : Type} (l : List (Nat × α)) (k : Nat) : Option α := match l with
  | [] => none
  | (a, b) :: r => bif Nat.beq a k then some b else fnd r k
def fndE {α : Type} (l : List (Nat × α)) (k : Nat) : Option (Nat × α) := match l with
  | [] => none
  | (a, b) :: r => bif Nat.beq a k then some (a, b) else fndE r k
def fnd2 {α : Type} (l : List (Nat × List (Nat × α))) (k : Nat) : Option (Nat × α) := match l with
  | [] => none
  | (a, b) :: r => bif Nat.blt k a then fndE b k else fnd2 r k
def lSet (ls : List (Option mV)) (i : Nat) (v : mV) : List (Option mV) :=
  let l1 := match i with
    | 0 => ls
    | j + 1 => match ls[j]? with
      | some (some (.inl (.inr (.inl _)))) => ls.set j none
      | _ => ls
  l1.set i (some v)
def lSet2 (ls : List (Option mV)) (i : Nat) (v : mV) : List (Option mV) := (lSet ls i v).set (i + 1) none
def rkM (t : Nat) (args : List mV) : Nat := kRk t + (match fnd mRe t with
  | none => 0
  | some (a, b, c) => match args with
    | _ :: .inl (.inl d) :: _ => b * (Int.ofNat a - d.toInt).toNat + c
    | _ => 0)
def ini (t : Nat) (args : List mV) : List (Option mV) := args.map some ++ List.replicate (kMl t - args.length) none
/-- where a char stands among the letters of the FIELDS -/
def sIx (c : Int32) : Int32 := match ([109, 104, 100, 112, 113, 110, 115, 108, 117, 116, 119, 120] : List Int32).findIdx? (fun b => decide (b = c)) with
  | some k => Int32.ofNat k
  | none => -1
def sTos (f : List Nat → Nat → Int32) (d : Int32) : Int32 :=
  bif inB d 8 then
    let p := [d.toNatClampNeg, 6, 0]
    if f p 0 = 0 then -11 else if f p 0 = 1 then
      let b := 1 :: p
      if f b 1 = 5 then -15 else if f b 2 < 0 then -15 else if f b 1 = 3 then 100 + f b 0 else f b 0
    else -12
  else -1
def sEle (f : List Nat → Nat → Int32) (d i : Int32) : Int32 × Int32 :=
  bif inB d 8 then
    let p := [d.toNatClampNeg, 6, 0]
    if f p 0 = 2 then
      if i < 0 then (2, 0) else if f p 3 - 1 < i then (2, 0) else (0, f (4 :: p) i.toNatClampNeg)
    else (2, 0)
  else (1, 0)
/-- how many exceptions are counted for it: one at most; far too many where the place lies outside the row (then no run of the law comes to its end within its count) -/
def sElC (f : List Nat → Nat → Int32) (d i : Int32) : Nat := if (sEle f d i).1 = 0 ∧ ¬ inB i 80 = true then 1000 else 1
section Sem
variable (L : Nat) (xs : Nat → Int32)
def gO (pc : Nat) (ls : List (Option mV)) (st : List mV) (mem : mM) : Option mO := some (.inl [(true, (pc, ls, st, mem))])
def gG (b : Bool) (pc : Nat) (ls : List (Option mV)) (st : List mV) (mem : mM) : Option mO := some (.inl [(b, (pc, ls, st, mem))])
/-- where a jump goes -/
def jmp (pc : Nat) (off : Int) : Option Nat := match off with
  | .ofNat k => some (Nat.add pc k)
  | .negSucc k => bif Nat.blt k pc then some (Nat.sub pc (Nat.succ k)) else none
def gB (b : Bool) (pc : Nat) (off : Int) (ls : List (Option mV)) (st : List mV) (mem : mM) : Option mO := match jmp pc off with
  | some t => some (.inl [(b, (t, ls, st, mem)), (true, (pc + 3, ls, st, mem))])
  | none => none
def cmpB (c : ClassFile.Cond) (v w : Int32) : Bool := match c with
  | .eq => decide (v = w)
  | .ne => !decide (v = w)
  | .lt => decide (v < w)
  | .ge => decide (w ≤ v)
  | .gt => decide (w < v)
  | .le => decide (v ≤ w)
/-- the tests, so that nobody looks into them (what they are: cmpS_eq and its like) -/
noncomputable def cmpS : ClassFile.Cond → Int32 → Int32 → Bool := Classical.choose (⟨cmpB, rfl⟩ : ∃ f, f = cmpB)
theorem cmpS_eq : cmpS = cmpB := Classical.choose_spec (⟨cmpB, rfl⟩ : ∃ f, f = cmpB)
noncomputable def inS : Int32 → Nat → Bool := Classical.choose (⟨inB, rfl⟩ : ∃ f, f = inB)
theorem inS_eq : inS = inB := Classical.choose_spec (⟨inB, rfl⟩ : ∃ f, f = inB)
noncomputable def isZS : Int32 → Bool := Classical.choose (⟨isZ, rfl⟩ : ∃ f, f = isZ)
theorem isZS_eq : isZS = isZ := Classical.choose_spec (⟨isZ, rfl⟩ : ∃ f, f = isZ)
def cmpZ (c : ClassFile.Cond) (v w : Int) : Bool := match c with
  | .eq => decide (v = w)
  | .ne => !decide (v = w)
  | .lt => decide (v < w)
  | .ge => decide (w ≤ v)
  | .gt => decide (w < v)
  | .le => decide (v ≤ w)
def litIn (n : Int) (l : Nat) : Bool := match n with
  | .ofNat k => Nat.blt k l
  | .negSucc _ => false
def isZk (n : Int) : Bool := match n with
  | .ofNat k => Nat.ble k 1
  | .negSucc _ => false
/-- an index: its test, its place -/
noncomputable def pX {α : Type} (l : Nat) (st : List mV) (k : Bool → Nat → List mV → Option α) : Option α := match st with
  | .inl (.inl v) :: r => k (inS v l) v.toNatClampNeg r
  | .inl (.inr (.inr n)) :: r => k (litIn n l) n.toNat r
  | _ => none
/-- 0 or 1 -/
noncomputable def pZ {α : Type} (st : List mV) (k : Bool → Int32 → List mV → Option α) : Option α := match st with
  | .inl (.inl v) :: r => k (isZS v) v r
  | .inl (.inr (.inr n)) :: r => k (isZk n) (cI n) r
  | _ => none
/-- what divides -/
noncomputable def pD {α : Type} (st : List mV) (k : Bool → Int32 → List mV → Option α) : Option α := match st with
  | .inl (.inl v) :: r => k (cmpS .ne v 0) v r
  | .inl (.inr (.inr n)) :: r => k (!Nat.beq n.natAbs 0) (cI n) r
  | _ => none
def ldI (ls : List (Option mV)) (i : Nat) (k : mV → Option mO) : Option mO := match ls[i]? with
  | some (some (.inl (.inl v))) => k (vi v)
  | some (some (.inl (.inr (.inr n)))) => k (vk n)
  | _ => none
def ldL (ls : List (Option mV)) (i : Nat) (k : Int64 → Option mO) : Option mO := match ls[i]? with
  | some (some (.inl (.inr (.inl v)))) => k v
  | _ => none
def ldR (ls : List (Option mV)) (i : Nat) (k : Option (Nat × List Nat) → Option mO) : Option mO := match ls[i]? with
  | some (some (.inr v)) => k v
  | _ => none
def callT (t n ci pc : Nat) (ls : List (Option mV)) (st : List mV) (mem : mM) (virt : Bool) : Option mO :=
  let args := (st.take n).reverse
  let rest := st.drop n
  bif Nat.ble n st.length && allOne (kMl t) args && Nat.ble (rest.map mCat).sum 8 && (bif virt then (match args with
    | .inr (some (c, _)) :: _ => Nat.beq c ci
    | _ => false) else Nat.beq ci 99) then some (.inr (.inr (t, args, rest))) else none
def cpyB (f g : List Nat × Nat) (mi : List Nat → Nat → Int32) (sp dp n : Int32) : Bool :=
  decide (0 ≤ sp) && decide (0 ≤ dp) && decide (0 ≤ n) && decide (sp.toNatClampNeg + n.toNatClampNeg ≤ tgN f.2) && decide (dp.toNatClampNeg + n.toNatClampNeg ≤ tgN g.2) && Nat.beq (tgK f.2) (tgK g.2) &&
    (Nat.beq (tgK f.2) 1 || (Nat.beq (tgK f.2) 2 && (List.range n.toNatClampNeg).all (fun i => isZ (mi f.1 (sp.toNatClampNeg + i)))))
noncomputable def cpyS : List Nat × Nat → List Nat × Nat → (List Nat → Nat → Int32) → Int32 → Int32 → Int32 → Bool := Classical.choose (⟨cpyB, rfl⟩ : ∃ f, f = cpyB)
theorem cpyS_eq : cpyS = cpyB := Classical.choose_spec (⟨cpyB, rfl⟩ : ∃ f, f = cpyB)
noncomputable def intr (j pc : Nat) (ls : List (Option mV)) (st : List mV) (mem : mM) : Option mO :=
  bif Nat.beq j 900 then (pI st fun y st => pI st fun v st => bif Nat.ble (st.map mCat).sum 8 then gO (pc + 3) ls (vi (if v < y then y else v) :: st) mem else none) else
  bif Nat.beq j 901 then (pI st fun y st => pI st fun v st => bif Nat.ble (st.map mCat).sum 8 then gO (pc + 3) ls (vi (if y < v then y else v) :: st) mem else none) else
  bif Nat.beq j 902 then (pI st fun n st => pI st fun dp st => pR st fun c1 p1 st => pI st fun sp st => pR st fun c0 p0 st => bif Nat.ble (st.map mCat).sum 8 then
      gG (cpyS (p0, c0) (p1, c1) mem.1 sp dp n) (pc + 3) ls st (uI mem.1 p1 (va_cpy (mem.1 p0) (mem.1 p1) sp.toNatClampNeg dp.toNatClampNeg n.toNatClampNeg), mem.2) else none) else
  bif Nat.beq j 903 then (pI st fun c st => pR st fun t _ st => bif Nat.beq t 8000000 && Nat.ble (st.map mCat).sum 8 then gO (pc + 3) ls (vi (sIx c) :: st) mem else none) else
  bif Nat.beq j 904 then (pI st fun d st => pR st fun t p st => bif Nat.beq t 9 && decide (p = [0]) && Nat.ble (st.map mCat).sum 8 then gO (pc + 3) ls (vi (sTos mem.1 d) :: st) (mem.1, mem.2.1, mem.2.2 + 1) else none) else
  bif Nat.beq j 905 then (pR st fun t3 p3 st => pI st fun i st => pI st fun d st => pR st fun t p st => bif Nat.beq t 9 && decide (p = [0]) && Nat.beq t3 4000001 && decide (p3 = [2]) && Nat.ble (st.map mCat).sum 8 then
      gO (pc + 3) ls (vi (sEle mem.1 d i).1 :: st) (mem.1, (if (sEle mem.1 d i).1 = 0 then uL mem.2.1 [2] (vp_updL (mem.2.1 [2]) 0 (sEle mem.1 d i).2.toInt64) else mem.2.1), mem.2.2 + sElC mem.1 d i) else none) else none
/-- the targets of a switch -/
def swT (pc : Nat) (l : List Int) : Option (List Nat) := match l with
  | [] => some []
  | o :: r => match jmp pc o, swT pc r with
    | some t, some ts => some (t :: ts)
    | _, _ => none
noncomputable def swL (v : Int32) (k : Nat) (ts : List Nat) (ls : List (Option mV)) (st : List mV) (mem : mM) (d : Nat) : List (Bool × mS) := match ts with
  | [] => [(true, (d, ls, st, mem))]
  | t :: r => (cmpS .eq v (Int32.ofNat k), (t, ls, st, mem)) :: swL v (k + 1) r ls st mem d
def lkT (pc : Nat) (l : List (Int × Int)) : Option (List (Int × Nat)) := match l with
  | [] => some []
  | (a, o) :: r => match jmp pc o, lkT pc r with
    | some t, some ts => some ((a, t) :: ts)
    | _, _ => none
noncomputable def lkL (v : Int32) (ts : List (Int × Nat)) (ls : List (Option mV)) (st : List mV) (mem : mM) (d : Nat) : List (Bool × mS) := match ts with
  | [] => [(true, (d, ls, st, mem))]
  | (a, t) :: r => (cmpS .eq v (cI a), (t, ls, st, mem)) :: lkL v r ls st mem d
noncomputable def isem (m pc len : Nat) (ig : Instr) (fa fb fc : Nat) (ls : List (Option mV)) (st : List mV) (mem : mM) : Option mO :=
  match ig with
  | .iconst n => bif Nat.ble n.natAbs 32767 then gO (pc + len) ls (vk n :: st) mem else none
  | .bipush n => bif Nat.ble n.natAbs 127 then gO (pc + len) ls (vk n :: st) mem else none
  | .sipush n => bif Nat.ble n.natAbs 32767 then gO (pc + len) ls (vk n :: st) mem else none
  | .lconst n => gO (pc + len) ls (vl (Int64.ofNat (n : Nat)) :: st) mem
  | .aconst_null => gO (pc + len) ls (vn :: st) mem
  | .ldc j => match fnd (kRs.getD (kOw m) []) j with
    | some v => gO (pc + len) ls (vi v :: st) mem
    | none => bif Nat.beq (kOw m) 6 && Nat.beq j 77 then gO (pc + len) ls (vr 8000000 [4] :: st) mem else none
  | .ldc_w j => match fnd (kRs.getD (kOw m) []) j with
    | some v => gO (pc + len) ls (vi v :: st) mem
    | none => none
  | .ldc2_w j => match fnd (kLs.getD (kOw m) []) j with
    | some v => gO (pc + len) ls (vl v :: st) mem
    | none => none
  | .iload_n k => ldI ls (k : Nat) fun v => gO (pc + len) ls (v :: st) mem
  | .iload k => ldI ls k fun v => gO (pc + len) ls (v :: st) mem
  | .lload_n k => ldL ls (k : Nat) fun v => gO (pc + len) ls (vl v :: st) mem
  | .lload k => ldL ls k fun v => gO (pc + len) ls (vl v :: st) mem
  | .aload_n k => ldR ls (k : Nat) fun v => gO (pc + len) ls (.inr v :: st) mem
  | .aload k => ldR ls k fun v => gO (pc + len) ls (.inr v :: st) mem
  | .istore_n k => pV st fun v st => bif Nat.blt (k : Nat) ls.length then gO (pc + len) (lSet ls (k : Nat) v) st mem else none
  | .istore k => pV st fun v st => bif Nat.blt k ls.length then gO (pc + len) (lSet ls k v) st mem else none
  | .lstore_n k => pL st fun v st => bif Nat.blt ((k : Nat) + 1) ls.length then gO (pc + len) (lSet2 ls (k : Nat) (vl v)) st mem else none
  | .lstore k => pL st fun v st => bif Nat.blt (k + 1) ls.length then gO (pc + len) (lSet2 ls k (vl v)) st mem else none
  | .astore_n k => pN st fun v st => bif Nat.blt (k : Nat) ls.length then gO (pc + len) (lSet ls (k : Nat) (.inr v)) st mem else none
  | .astore k => pN st fun v st => bif Nat.blt k ls.length then gO (pc + len) (lSet ls k (.inr v)) st mem else none
  | .iinc k n => ldI ls k fun v => pI [v] fun v _ => gO (pc + len) (lSet ls k (vi (v + cI n))) st mem
  | .iadd => pI st fun y st => pI st fun v st => gO (pc + len) ls (vi (v + y) :: st) mem
  | .isub => pI st fun y st => pI st fun v st => gO (pc + len) ls (vi (v - y) :: st) mem
  | .imul => pI st fun y st => pI st fun v st => gO (pc + len) ls (vi (v * y) :: st) mem
  | .idiv => pD st fun b y st => pI st fun v st => gG b (pc + len) ls (vi (v / y) :: st) mem
  | .irem => pD st fun b y st => pI st fun v st => gG b (pc + len) ls (vi (v - v / y * y) :: st) mem
  | .iand => pI st fun y st => pI st fun v st => gO (pc + len) ls (vi (v &&& y) :: st) mem
  | .ior => pI st fun y st => pI st fun v st => gO (pc + len) ls (vi (v ||| y) :: st) mem
  | .ishl => pI st fun y st => pI st fun v st => gO (pc + len) ls (vi (v <<< (y &&& 31)) :: st) mem
  | .ladd => pL st fun y st => pL st fun v st => gO (pc + len) ls (vl (v + y) :: st) mem
  | .lsub => pL st fun y st => pL st fun v st => gO (pc + len) ls (vl (v - y) :: st) mem
  | .land => pL st fun y st => pL st fun v st => gO (pc + len) ls (vl (v &&& y) :: st) mem
  | .lor => pL st fun y st => pL st fun v st => gO (pc + len) ls (vl (v ||| y) :: st) mem
  | .lxor => pL st fun y st => pL st fun v st => gO (pc + len) ls (vl (v ^^^ y) :: st) mem
  | .lshl => pI st fun y st => pL st fun v st => gO (pc + len) ls (vl (v <<< (y.toInt64 &&& 63)) :: st) mem
  | .lushr => pI st fun y st => pL st fun v st => gO (pc + len) ls (vl (v.toUInt64 >>> (y.toInt64.toUInt64 &&& Int64.toUInt64 63)).toInt64 :: st) mem
  | .lcmp => pL st fun y st => pL st fun v st => gO (pc + len) ls (vi (lg_cmp v y) :: st) mem
  | .i2l => pI st fun v st => gO (pc + len) ls (vl v.toInt64 :: st) mem
  | .l2i => pL st fun v st => gO (pc + len) ls (vi v.toInt32 :: st) mem
  | .i2b => pI st fun v st => gO (pc + len) ls (vi v.toInt8.toInt32 :: st) mem
  | .i2s => pI st fun v st => gO (pc + len) ls (vi v.toInt16.toInt32 :: st) mem
  | .i2c => pI st fun v st => gO (pc + len) ls (vi (v.toUInt32 % 65536).toInt32 :: st) mem
  | .dup => pA st fun v st => gO (pc + len) ls (v :: v :: st) mem
  | .dup_x1 => pA st fun v st => pA st fun w st => gO (pc + len) ls (v :: w :: v :: st) mem
  | .dup2 => pA st fun v st => pA st fun w st => gO (pc + len) ls (v :: w :: v :: w :: st) mem
  | .pop => pA st fun _ st => gO (pc + len) ls st mem
  | .goto off => match jmp pc off with
    | some t => gO t ls st mem
    | none => none
  | .ifCond c off => match st with
    | .inl (.inl v) :: st => gB (cmpS c v 0) pc off ls st mem
    | .inl (.inr (.inr n)) :: st => gB (cmpZ c n 0) pc off ls st mem
    | _ => none
  | .if_icmp c off => match st with
    | .inl (.inr (.inr n)) :: .inl (.inr (.inr j)) :: st => gB (cmpZ c j n) pc off ls st mem
    | _ => pI st fun y st => pI st fun v st => gB (cmpS c v y) pc off ls st mem
  | .ifnull off => match st with
    | .inr none :: st => gB true pc off ls st mem
    | .inr (some _) :: st => gB false pc off ls st mem
    | _ => none
  | .ifnonnull off => match st with
    | .inr none :: st => gB false pc off ls st mem
    | .inr (some _) :: st => gB true pc off ls st mem
    | _ => none
  | .tableswitch dflt lo hi offs => pI st fun v st =>
      (match lo with
      | .ofNat lo => bif decide ((offs.size : Int) = hi - (lo : Int) + 1) && Nat.ble (lo + offs.size) 2147483647 then
          (match jmp pc dflt, swT pc offs.toList with
          | some t, some ts => some (.inl (swL v lo ts ls st mem t))
          | _, _ => none) else none
      | _ => none)
  | .lookupswitch dflt ps => pI st fun v st =>
      bif (ps.toList.zip (ps.toList.drop 1)).all (fun (a, next) => decide (a.1 < next.1)) && ps.toList.all (fun q => Nat.ble q.1.natAbs 32767) then
        (match jmp pc dflt, lkT pc ps.toList with
        | some t, some ts => some (.inl (lkL v ts ls st mem t))
        | _, _ => none) else none
  | .getfield _ => pR st fun c p st => bif Nat.beq c fa then (bif Nat.ble fc 1 then gO (pc + len) ls (vi (mem.1 p fb) :: st) mem else gO (pc + len) ls (vr (Nat.sub fc 2) (fb :: p) :: st) mem) else none
  | .putfield _ => pZ st fun b v st => pR st fun c p st => bif Nat.beq c fa then (bif Nat.beq fc 0 then gO (pc + len) ls st (uI mem.1 p (upd (mem.1 p) fb v), mem.2) else
      bif Nat.beq fc 1 then gG b (pc + len) ls st (uI mem.1 p (upd (mem.1 p) fb v), mem.2) else none) else none
  | .iaload => pR (st.drop 1) fun c p _ => bif Nat.beq (tgK c) 1 then (pX (tgN c) st fun b i st => gG b (pc + len) ls (vi (mem.1 p i) :: st.drop 1) mem) else
      bif Nat.beq (tgK c) 7 then (pX L st fun b i st => gG b (pc + len) ls (vi (xs i) :: st.drop 1) mem) else none
  | .baload => pR (st.drop 1) fun c p _ => bif Nat.beq (tgK c) 2 || Nat.beq (tgK c) 3 then (pX (tgN c) st fun b i st => gG b (pc + len) ls (vi (mem.1 p i) :: st.drop 1) mem) else none
  | .laload => pR (st.drop 1) fun c p _ => bif Nat.beq (tgK c) 4 then (pX (tgN c) st fun b i st => gG b (pc + len) ls (vl (mem.2.1 p i) :: st.drop 1) mem) else none
  | .aaload => pR (st.drop 1) fun c p _ => bif Nat.beq (tgK c) 5 then (pX (tgN c) st fun b i st => gG b (pc + len) ls (vr 0 (i :: p) :: st.drop 1) mem) else
      bif Nat.beq (tgK c) 6 then (pX (tgN c) st fun b i st => gG b (pc + len) ls (vr 4 (i :: p) :: st.drop 1) mem) else none
  | .iastore => pR (st.drop 2) fun c p _ => bif Nat.beq (tgK c) 1 then (pI st fun v st => pX (tgN c) st fun b i st => gG b (pc + len) ls (st.drop 1) (uI mem.1 p (upd (mem.1 p) i v), mem.2)) else none
  | .bastore => pR (st.drop 2) fun c p _ => bif Nat.beq (tgK c) 2 then (pI st fun v st => pX (tgN c) st fun b i st => gG b (pc + len) ls (st.drop 1) (uI mem.1 p (upd (mem.1 p) i (vp_nar .boolean v)), mem.2)) else
      bif Nat.beq (tgK c) 3 then (pI st fun v st => pX (tgN c) st fun b i st => gG b (pc + len) ls (st.drop 1) (uI mem.1 p (upd (mem.1 p) i (vp_nar .byte v)), mem.2)) else none
  | .lastore => pR (st.drop 2) fun c p _ => bif Nat.beq (tgK c) 4 then (pL st fun v st => pX (tgN c) st fun b i st => gG b (pc + len) ls (st.drop 1) (mem.1, uL mem.2.1 p (vp_updL (mem.2.1 p) i v), mem.2.2)) else none
  | .arraylength => pR st fun c _ st => bif Nat.beq (tgK c) 7 then gO (pc + len) ls (vi (Int32.ofNat L) :: st) mem else
      bif Nat.blt 0 (tgK c) && Nat.blt (tgK c) 7 then gO (pc + len) ls (vi (Int32.ofNat (tgN c)) :: st) mem else none
  | .invokevirtual _ => bif Nat.blt fa 900 then callT fa fb fc pc ls st mem true else bif Nat.beq fa 903 || Nat.beq fa 904 then intr fa pc ls st mem else none
  | .invokestatic _ => bif Nat.blt fa 900 then callT fa fb fc pc ls st mem false else bif Nat.beq fa 903 || Nat.beq fa 904 then none else intr fa pc ls st mem
  | .ireturn => match st with
    | [.inl (.inl v)] => (match kRt m with
      | some .int => some (.inr (.inl (true, some (vi v))))
      | some .boolean => some (.inr (.inl (isZS v, some (vi v))))
      | _ => none)
    | [.inl (.inr (.inr n))] => (match kRt m with
      | some .int => some (.inr (.inl (true, some (vk n))))
      | some .boolean => some (.inr (.inl (isZk n, some (vk n))))
      | _ => none)
    | _ => none
  | .lreturn => match st with
    | [.inl (.inr (.inl v))] => (match kRt m with
      | some .long => some (.inr (.inl (true, some (vl v))))
      | _ => none)
    | _ => none
  | .areturn => match st with
    | [.inr (some (c, p))] => (match kRt m with
      | some (.object _) => some (.inr (.inl (true, some (vr c p))))
      | some (.array _) => some (.inr (.inl (true, some (vr c p))))
      | _ => none)
    | _ => none
  | .return_ => match st with
    | [] => (match kRt m with
      | none => some (.inr (.inl (true, none)))
      | _ => none)
    | _ => none
  | _ => none
def alt {α : Type} (l : List (Bool × mS)) (k : mS → Option α) : Option α := match l with
  | [] => none
  | (b, s) :: r => bif b then k s else alt r k
/-- what a return of that type is -/
def retB (t : Option FieldType) (v : Option mV) : Bool := match t, v with
  | none, none => true
  | some .int, some (.inl (.inl _)) => true
  | some .int, some (.inl (.inr (.inr _))) => true
  | some .boolean, some (.inl (.inl _)) => true
  | some .boolean, some (.inl (.inr (.inr _))) => true
  | some .long, some (.inl (.inr (.inl _))) => true
  | some (.object _), some (.inr (some _)) => true
  | some (.array _), some (.inr (some _)) => true
  | _, _ => false
/-- one instruction of method m -/
noncomputable def mStep (m pc : Nat) (ls : List (Option mV)) (st : List mV) (mem : mM) : Option mO := match fnd2 (kCd m) pc with
  | none => none
  | some (p0, ig, len, fa, fb, fc) => isem L xs m p0 len ig fa fb fc ls st mem
def cutP (m pc : Nat) : Option (List Bool) := fnd (kCut m) pc
def nrm (m : Nat) (s : mS) : mS := match s with
  | (pc, ls, r) => match cutP m pc with
    | none => (pc, ls, r)
    | some q => (pc, List.zipWith (fun b v => bif b then v.map nz else none) q ls, r)
/-- is it an instruction that writes -/
def isWr (m pc : Nat) : Bool := match fnd2 (kCd m) pc with
  | none => false
  | some (_, ig, _, fa, _) => match ig with
    | .putfield _ => true
    | .iastore => true
    | .bastore => true
    | .lastore => true
    | .invokestatic _ => Nat.beq fa 902 || Nat.beq fa 905
    | .invokevirtual _ => Nat.beq fa 904
    | _ => false
def ltM {α : Type} (v : mM) (k : mM → α) : α := k v

/-- what a call passes on, and what comes back: written ints are plain ones, where the callee isn't looked into -/
def cArg (t : Nat) (args : List mV) : List mV := bif kInl t then args else args.map nz
def cRet (m : Nat) (v : Option mV) : Option mV := bif kInl m then v else v.map nz
/-- a run of n instructions at most, calls in it too -/
noncomputable def exec : Nat → Nat → Nat → mS → Option (Option mV × mM)
  | 0, _, _, _ => none
  | n + 1, m, rk, (pc, ls, st, mem) => match mStep L xs m pc ls st mem with
    | none => none
    | some (.inl l) => alt l (fun s' => exec n m rk (nrm m s'))
    | some (.inr (.inl (b, v))) => bif b && retB (kRt m) v then some (cRet m v, mem) else none
    | some (.inr (.inr (t, args, rest))) => bif Nat.blt (rkM t (cArg t args)) rk then
        (match exec n t (rkM t (cArg t args)) (0, ini t (cArg t args), [], mem) with
        | none => none
        | some (v, mem') => exec n m rk (pc + 3, ls, v.toList ++ rest, mem')) else none
end Sem
