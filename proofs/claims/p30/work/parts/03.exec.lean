/-! 03: an abstract machine over typed cells. A cell's key: (kind, j, i); what it holds of numbers is a function; where its references lead is fixed (the objects are made once). -/
abbrev Key : Type := Nat × Nat × Nat
abbrev V : Type := Int32 ⊕ (Int64 ⊕ Option Key)
abbrev Mem : Type := Nat → Nat → Nat → Nat → Int32
abbrev SX : Type := Nat × (Nat → Int32)
abbrev St : Type := Nat × List (Option V) × List V × Mem
abbrev Res : Type := St ⊕ ((Nat × List V × List V) ⊕ Option V)
def wr (M : Mem) (K j i s : Nat) (x : Int32) : Mem := fun K' j' i' s' => if K' = K ∧ j' = j ∧ i' = i ∧ s' = s then x else M K' j' i' s'
def cpA (M : Mem) (K j i K2 j2 i2 sp dp n : Nat) : Mem := fun K' j' i' s' => if K' = K2 ∧ j' = j2 ∧ i' = i2 ∧ dp ≤ s' ∧ s' < dp + n then M K j i (sp + (s' - dp)) else M K' j' i' s'
def gd {α : Type} (b : Bool) (y : Option α) : Option α := bif b then y else none
def inb (i : Int32) (n : Nat) : Bool := !(decide (i < 0)) && decide (i.toNatClampNeg < n)
def isb (v : Int32) : Bool := decide (v = 0) || decide (v = 1)
def fnd2 {α : Type} : List ((Nat × Nat) × α) → Nat → Nat → Option α
  | [], _, _ => none
  | q :: l, a, b => bif Nat.beq q.1.1 a && Nat.beq q.1.2 b then some q.2 else fnd2 l a b
/-- where a reference field leads -/
def shp (K s j : Nat) : Option Key := match K, s with
  | 1, 0 => some (9, j, 0)
  | 1, 1 => some (13, j, 0)
  | 1, 2 => some (14, j, 0)
  | 2, 0 => some (12, 0, 0)
  | 4, 0 => some (15, 0, 0)
  | 4, 1 => some (16, 0, 0)
  | 5, 0 => some (1, j, 0)
  | 5, 1 => some (10, j, 0)
  | 5, 2 => some (11, j, 0)
  | 7, 0 => some (5, 0, 0)
  | 7, 1 => some (5, 1, 0)
  | 7, 2 => some (2, 0, 0)
  | 7, 3 => some (4, 0, 0)
  | _, _ => none
/-- boolean fields -/
def fZ (K s : Nat) : Bool := match K, s with
  | 5, 6 => true
  | _, _ => false
/-- arrays of numbers: length; whether of chars -/
def aln (X : SX) (K : Nat) : Option (Nat × Bool) := match K with
  | 13 => some (600, false)
  | 14 => some (600, false)
  | 15 => some (120, true)
  | 16 => some (3, false)
  | 17 => some (11, false)
  | 18 => some (9, false)
  | 19 => some (63, false)
  | 20 => some (60, false)
  | 21 => some (60, false)
  | 30 => some (X.1, false)
  | _ => none
/-- arrays of references: length -/
def rln (K : Nat) : Option Nat := match K with
  | 9 => some 6
  | 10 => some 20
  | 11 => some 20
  | 12 => some 6
  | _ => none
/-- arrays of references: what they hold -/
def ael (K j n : Nat) : Key := match K with
  | 9 => (0, j, n)
  | 10 => (3, j, n)
  | 11 => (6, j, n)
  | 12 => (5, 2 + n, 0)
  | _ => (0, 0, 0)
/-- the number in a place of an array -/
def ard (X : SX) (M : Mem) (K j i n : Nat) : Int32 := match K with
  | 30 => X.2 n
  | _ => M K j i n
/-- the String constants -/
def strT : List (List Nat) := []
def LTab : List ((Nat × Nat) × Nat) := []
def KTab : List ((Nat × Nat) × Int32 × Nat) := [((9, 7), 1013904223, 233), ((9, 8), 2147483647, 237), ((10, 265), 1431655765, 296), ((10, 266), 858993459, 297), ((10, 267), 252645135, 298)]
def JTab : List ((Nat × Nat) × Int64 × Nat) := []
def getL (ls : List (Option V)) (i : Nat) : Option V := match nth ls i with
  | some (some v) => some v
  | _ => none
def setL : List (Option V) → Nat → Option V → List (Option V)
  | [], _, _ => []
  | _ :: l, 0, v => v :: l
  | a :: l, n + 1, v => a :: setL l n v
def isLong : Option V → Bool
  | some (.inr (.inl _)) => true
  | _ => false
def kilL (ls : List (Option V)) : Nat → List (Option V)
  | 0 => ls
  | n + 1 => bif isLong ((nth ls n).getD none) then setL ls n none else ls
def st1 (g : Bool) (ls : List (Option V)) (i : Nat) (v : V) : List (Option V) := setL (bif g then kilL ls i else ls) i (some v)
def st2 (ls : List (Option V)) (i : Nat) (v : V) : List (Option V) := setL (setL (kilL ls i) (i + 1) none) i (some v)
def popN : Nat → List V → Option (List V × List V)
  | 0, st => some ([], st)
  | _ + 1, [] => none
  | n + 1, v :: st => match popN n st with
    | some q => some (q.1 ++ [v], q.2)
    | none => none
def catS : List V → Nat
  | [] => 0
  | .inr (.inl _) :: l => 2 + catS l
  | _ :: l => 1 + catS l
def argS : List V → List (Option V)
  | [] => []
  | .inr (.inl y) :: l => some (.inr (.inl y)) :: none :: argS l
  | v :: l => some v :: argS l
def padL : Nat → List (Option V) → List (Option V)
  | 0, _ => []
  | n + 1, [] => none :: padL n []
  | n + 1, a :: l => a :: padL n l
def initL (n : Nat) (as : List V) : List (Option V) := padL n (argS as)
def pushR : Option V → List V → List V
  | none, st => st
  | some v, st => v :: st
def tg (pc : Nat) (off : Int) : Option Nat := match (pc : Int) + off with
  | .ofNat t => some t
  | _ => none
def tgs (pc : Nat) : List Int → Option (List Nat)
  | [] => some []
  | o :: l => match tg pc o, tgs pc l with
    | some t, some r => some (t :: r)
    | _, _ => none
def swN (v : Int32) : Int → List Nat → Nat → Nat
  | _, [], d => d
  | lo, t :: l, d => if v = Int32.ofInt lo then t else swN v (lo + 1) l d
def brZ (c : Jvm.ClassFile.Cond) (a : Int32) (t f : Nat) : Nat := match c with
  | .eq => if a = 0 then t else f
  | .ne => if a = 0 then f else t
  | .lt => if a < 0 then t else f
  | .ge => if a < 0 then f else t
  | .gt => if 0 < a then t else f
  | .le => if 0 < a then f else t
/-- compares a (below) with b (top) -/
def br2 (c : Jvm.ClassFile.Cond) (a b : Int32) (t f : Nat) : Nat := match c with
  | .eq => if a = b then t else f
  | .ne => if a = b then f else t
  | .lt => if a < b then t else f
  | .ge => if a < b then f else t
  | .gt => if b < a then t else f
  | .le => if b < a then f else t
def nx (pc : Nat) (ls : List (Option V)) (st : List V) (M : Mem) : Option Res := some (.inl (pc, ls, st, M))
def cpOK (sp n : Int32) (N : Nat) : Bool := !(decide (sp < 0)) && !(decide (n < 0)) && decide (sp.toNatClampNeg + n.toNatClampNeg ≤ N)
/-- a call: of the class's own methods, or one of three of the JDK's -/
def doCall (X : SX) (e0 : ME) (z : Nat) (virt : Bool) (pc : Nat) (ls : List (Option V)) (st : List V) (M : Mem) : Option Res :=
  bif Nat.beq z 1000 then (match virt, st with
    | false, .inl n :: .inl dp :: .inr (.inr (some (K2, j2, i2))) :: .inl sp :: .inr (.inr (some (K, j, i))) :: st => (match aln X K, aln X K2 with
      | some (n1, false), some (n2, false) => gd (Nat.ble 1 (eF e0) && Nat.ble 40 (eW e0) && !(Nat.beq K 30) && !(Nat.beq K2 30) && cpOK sp n n1 && cpOK dp n n2 && Nat.ble (catS st) 8) (nx (pc + 3) ls st (cpA M K j i K2 j2 i2 sp.toNatClampNeg dp.toNatClampNeg n.toNatClampNeg))
      | _, _ => none)
    | _, _ => none)
  else bif Nat.beq z 1001 then (match virt, st with
    | true, .inr (.inr (some (31, i, _))) :: st => (match nth strT i with
      | some s => gd (Nat.ble 2 (eF e0) && Nat.ble 40 (eW e0) && Nat.ble (catS st) 8) (nx (pc + 3) ls (.inl (nI s.length) :: st) M)
      | none => none)
    | _, _ => none)
  else bif Nat.beq z 1002 then (match virt, st with
    | true, .inl k :: .inr (.inr (some (31, i, _))) :: st => (match nth strT i with
      | some s => gd (inb k s.length && Nat.ble 5 (eF e0) && Nat.ble 106 (eW e0) && Nat.ble (catS st) 8) (nx (pc + 3) ls (.inl (nI (s.getD k.toNatClampNeg 0)) :: st) M)
      | none => none)
    | _, _ => none)
  else match nth MT z with
    | none => none
    | some e => match popN (eN e) st with
      | none => none
      | some (as, rest) => bif virt then (match rest with
          | .inr (.inr (some k)) :: rest => gd (Nat.ble (eF e + 1) (eF e0) && Nat.ble (8 + (eL e + 11) + eW e) (eW e0) && Nat.beq k.1 (eO e) && !(eS e) && Nat.ble (catS rest) 8 && Nat.ble (argS (.inr (.inr (some k)) :: as)).length (eL e) && (eG e || Nat.beq (argS (.inr (.inr (some k)) :: as)).length (as.length + 1))) (some (.inr (.inl (z, .inr (.inr (some k)) :: as, rest))))
          | _ => none)
        else gd (Nat.ble (eF e + 1) (eF e0) && Nat.ble (8 + (eL e + 11) + eW e) (eW e0) && eS e && Nat.ble (catS rest) 8 && Nat.ble (argS as).length (eL e) && (eG e || Nat.beq (argS as).length as.length)) (some (.inr (.inl (z, as, rest))))
def lcm (a b : Int64) : Int32 := lg_cmp a b
/-- one instruction -/
def stepI (X : SX) (e : ME) (I : Instr) (n pc : Nat) (ls : List (Option V)) (st : List V) (M : Mem) : Option Res := match I with
  | .iconst k => nx (pc + 1) ls (.inl (Int32.ofInt k) :: st) M
  | .bipush k => nx (pc + 2) ls (.inl (Int8.ofInt k).toInt32 :: st) M
  | .sipush k => nx (pc + 3) ls (.inl (Int16.ofInt k).toInt32 :: st) M
  | .lconst k => nx (pc + 1) ls (.inr (.inl (Int64.ofNat k.val)) :: st) M
  | .aconst_null => nx (pc + 1) ls (.inr (.inr none) :: st) M
  | .iload_n k => (match getL ls k.val with
    | some (.inl v) => nx (pc + 1) ls (.inl v :: st) M
    | _ => none)
  | .iload k => (match getL ls k with
    | some (.inl v) => gd (Nat.beq n 2) (nx (pc + 2) ls (.inl v :: st) M)
    | _ => none)
  | .lload_n k => (match getL ls k.val with
    | some (.inr (.inl v)) => nx (pc + 1) ls (.inr (.inl v) :: st) M
    | _ => none)
  | .aload_n k => (match getL ls k.val with
    | some (.inr (.inr v)) => nx (pc + 1) ls (.inr (.inr v) :: st) M
    | _ => none)
  | .aload k => (match getL ls k with
    | some (.inr (.inr v)) => gd (Nat.beq n 2) (nx (pc + 2) ls (.inr (.inr v) :: st) M)
    | _ => none)
  | .istore_n k => (match st with
    | .inl v :: st => gd (Nat.blt k.val ls.length) (nx (pc + 1) (st1 (eG e) ls k.val (.inl v)) st M)
    | _ => none)
  | .istore k => (match st with
    | .inl v :: st => gd (Nat.beq n 2 && Nat.blt k ls.length) (nx (pc + 2) (st1 (eG e) ls k (.inl v)) st M)
    | _ => none)
  | .lstore_n k => (match st with
    | .inr (.inl v) :: st => gd (eG e && Nat.blt (k.val + 1) ls.length) (nx (pc + 1) (st2 ls k.val (.inr (.inl v))) st M)
    | _ => none)
  | .astore_n k => (match st with
    | .inr (.inr v) :: st => gd (Nat.blt k.val ls.length) (nx (pc + 1) (st1 (eG e) ls k.val (.inr (.inr v))) st M)
    | _ => none)
  | .astore k => (match st with
    | .inr (.inr v) :: st => gd (Nat.beq n 2 && Nat.blt k ls.length) (nx (pc + 2) (st1 (eG e) ls k (.inr (.inr v))) st M)
    | _ => none)
  | .iinc k d => (match getL ls k with
    | some (.inl v) => gd (Nat.beq n 3 && Nat.blt k ls.length) (nx (pc + 3) (st1 (eG e) ls k (.inl (v + Int32.ofInt d))) st M)
    | _ => none)
  | .iadd => (match st with
    | .inl b :: .inl a :: st => nx (pc + 1) ls (.inl (a + b) :: st) M
    | _ => none)
  | .isub => (match st with
    | .inl b :: .inl a :: st => nx (pc + 1) ls (.inl (a - b) :: st) M
    | _ => none)
  | .imul => (match st with
    | .inl b :: .inl a :: st => nx (pc + 1) ls (.inl (a * b) :: st) M
    | _ => none)
  | .idiv => (match st with
    | .inl b :: .inl a :: st => gd (!(decide (b = 0))) (nx (pc + 1) ls (.inl (a / b) :: st) M)
    | _ => none)
  | .irem => (match st with
    | .inl b :: .inl a :: st => gd (!(decide (b = 0))) (nx (pc + 1) ls (.inl (a - a / b * b) :: st) M)
    | _ => none)
  | .iand => (match st with
    | .inl b :: .inl a :: st => nx (pc + 1) ls (.inl (a &&& b) :: st) M
    | _ => none)
  | .ior => (match st with
    | .inl b :: .inl a :: st => nx (pc + 1) ls (.inl (a ||| b) :: st) M
    | _ => none)
  | .ixor => (match st with
    | .inl b :: .inl a :: st => nx (pc + 1) ls (.inl (a ^^^ b) :: st) M
    | _ => none)
  | .ishl => (match st with
    | .inl b :: .inl a :: st => nx (pc + 1) ls (.inl (a <<< (b &&& 31)) :: st) M
    | _ => none)
  | .ishr => (match st with
    | .inl b :: .inl a :: st => nx (pc + 1) ls (.inl (a >>> (b &&& 31)) :: st) M
    | _ => none)
  | .iushr => (match st with
    | .inl b :: .inl a :: st => nx (pc + 1) ls (.inl (a.toUInt32 >>> (b.toUInt32 &&& Int32.toUInt32 31)).toInt32 :: st) M
    | _ => none)
  | .i2c => (match st with
    | .inl a :: st => nx (pc + 1) ls (.inl (a.toUInt32 % 65536).toInt32 :: st) M
    | _ => none)
  | .i2l => (match st with
    | .inl a :: st => nx (pc + 1) ls (.inr (.inl a.toInt64) :: st) M
    | _ => none)
  | .lshl => (match st with
    | .inl b :: .inr (.inl a) :: st => nx (pc + 1) ls (.inr (.inl (a <<< (b.toInt64 &&& 63))) :: st) M
    | _ => none)
  | .lor => (match st with
    | .inr (.inl b) :: .inr (.inl a) :: st => nx (pc + 1) ls (.inr (.inl (a ||| b)) :: st) M
    | _ => none)
  | .lcmp => (match st with
    | .inr (.inl b) :: .inr (.inl a) :: st => nx (pc + 1) ls (.inl (lcm a b) :: st) M
    | _ => none)
  | .dup => (match st with
    | .inl a :: st => nx (pc + 1) ls (.inl a :: .inl a :: st) M
    | .inr (.inr a) :: st => nx (pc + 1) ls (.inr (.inr a) :: .inr (.inr a) :: st) M
    | _ => none)
  | .pop => (match st with
    | .inl _ :: st => nx (pc + 1) ls st M
    | .inr (.inr _) :: st => nx (pc + 1) ls st M
    | _ => none)
  | .dup2 => (match st with
    | .inl b :: .inr (.inr a) :: st => nx (pc + 1) ls (.inl b :: .inr (.inr a) :: .inl b :: .inr (.inr a) :: st) M
    | _ => none)
  | .goto o => (match tg pc o with
    | some t => nx t ls st M
    | none => none)
  | .ifCond c o => (match st, tg pc o with
    | .inl a :: st, some t => nx (brZ c a t (pc + 3)) ls st M
    | _, _ => none)
  | .if_icmp c o => (match st, tg pc o with
    | .inl b :: .inl a :: st, some t => nx (br2 c a b t (pc + 3)) ls st M
    | _, _ => none)
  | .ifnull o => (match st, tg pc o with
    | .inr (.inr none) :: st, some t => nx t ls st M
    | .inr (.inr (some _)) :: st, some _ => nx (pc + 3) ls st M
    | _, _ => none)
  | .ifnonnull o => (match st, tg pc o with
    | .inr (.inr none) :: st, some _ => nx (pc + 3) ls st M
    | .inr (.inr (some _)) :: st, some t => nx t ls st M
    | _, _ => none)
  | .tableswitch d lo hi os => (match st, tg pc d, tgs pc os.toList with
    | .inl a :: st, some t, some l => gd (decide (hi + 1 = lo + (os.toList.length : Int)) && decide (-2147483648 ≤ lo) && decide (hi < 2147483648)) (nx (swN a lo l t) ls st M)
    | _, _, _ => none)
  | .getfield ix => (match st with
    | .inr (.inr (some (K, j, i))) :: st => (match fnd2 FTab (eO e) ix with
      | some (K', s, _) => gd (Nat.beq K K') (match shp K s j with
        | some k => nx (pc + 3) ls (.inr (.inr (some k)) :: st) M
        | none => nx (pc + 3) ls (.inl (M K j i s) :: st) M)
      | none => none)
    | _ => none)
  | .putfield ix => (match st with
    | .inl v :: .inr (.inr (some (K, j, i))) :: st => (match fnd2 FTab (eO e) ix with
      | some (K', s, _) => gd (Nat.beq K K') (match shp K s j with
        | some _ => none
        | none => gd (bif fZ K s then isb v else true) (nx (pc + 3) ls st (wr M K j i s v)))
      | none => none)
    | _ => none)
  | .iaload => (match st with
    | .inl v :: .inr (.inr (some (K, j, i))) :: st => (match aln X K with
      | some (N, false) => gd (inb v N) (nx (pc + 1) ls (.inl (ard X M K j i v.toNatClampNeg) :: st) M)
      | _ => none)
    | _ => none)
  | .caload => (match st with
    | .inl v :: .inr (.inr (some (K, j, i))) :: st => (match aln X K with
      | some (N, true) => gd (inb v N) (nx (pc + 1) ls (.inl (M K j i v.toNatClampNeg) :: st) M)
      | _ => none)
    | _ => none)
  | .iastore => (match st with
    | .inl w :: .inl v :: .inr (.inr (some (K, j, i))) :: st => (match aln X K with
      | some (N, false) => gd (!(Nat.beq K 30) && inb v N) (nx (pc + 1) ls st (wr M K j i v.toNatClampNeg w))
      | _ => none)
    | _ => none)
  | .castore => (match st with
    | .inl w :: .inl v :: .inr (.inr (some (K, j, i))) :: st => (match aln X K with
      | some (N, true) => gd (inb v N) (nx (pc + 1) ls st (wr M K j i v.toNatClampNeg (vp_nar .char w)))
      | _ => none)
    | _ => none)
  | .aaload => (match st with
    | .inl v :: .inr (.inr (some (K, j, _))) :: st => (match rln K with
      | some N => gd (inb v N) (nx (pc + 1) ls (.inr (.inr (some (ael K j v.toNatClampNeg))) :: st) M)
      | none => none)
    | _ => none)
  | .arraylength => (match st with
    | .inr (.inr (some (30, _, _))) :: st => nx (pc + 1) ls (.inl (nI X.1) :: st) M
    | _ => none)
  | .ldc ix => (match fnd2 KTab (eO e) ix with
    | some (v, _) => nx (pc + 2) ls (.inl v :: st) M
    | none => none)
  | .ldc_w ix => (match fnd2 KTab (eO e) ix with
    | some (v, _) => nx (pc + 3) ls (.inl v :: st) M
    | none => none)
  | .ldc2_w ix => (match fnd2 JTab (eO e) ix with
    | some (v, _) => nx (pc + 3) ls (.inr (.inl v) :: st) M
    | none => none)
  | .invokevirtual ix => (match fnd2 CTab (eO e) ix with
    | some (z, _) => doCall X e z true pc ls st M
    | none => none)
  | .invokestatic ix => (match fnd2 CTab (eO e) ix with
    | some (z, _) => doCall X e z false pc ls st M
    | none => none)
  | .ireturn => (match st, eR e with
    | [.inl v], some .int => some (.inr (.inr (some (.inl v))))
    | [.inl v], some .boolean => gd (isb v) (some (.inr (.inr (some (.inl v)))))
    | _, _ => none)
  | .lreturn => (match st, eR e with
    | [.inr (.inl v)], some .long => some (.inr (.inr (some (.inr (.inl v)))))
    | _, _ => none)
  | .areturn => (match st, eR e with
    | [.inr (.inr v)], some (.object _) => some (.inr (.inr (some (.inr (.inr v)))))
    | _, _ => none)
  | .return_ => (match st, eR e with
    | [], none => some (.inr (.inr none))
    | _, _ => none)
  | _ => none
def stepS (X : SX) (z : Nat) (s : St) : Option Res := match nth MT z with
  | none => none
  | some e => match fnd (eI e) s.1 with
    | none => none
    | some q => stepI X e q.1 q.2 s.1 s.2.1 s.2.2.1 s.2.2.2
def run (X : SX) : Nat → Nat → St → Option (Option V × Mem)
  | 0, _, _ => none
  | n + 1, z, s => match stepS X z s with
    | none => none
    | some (.inl s') => run X n z s'
    | some (.inr (.inl (z', as, rest))) => (match nth MT z' with
      | none => none
      | some e => match run X n z' (0, initL (eL e) as, [], s.2.2.2) with
        | none => none
        | some (r, M') => run X n z (s.1 + 3, s.2.1, pushR r rest, M'))
    | some (.inr (.inr r)) => some (r, s.2.2.2)
def mst (X : SX) : Nat → Nat → St → Option St
  | 0, _, s => some s
  | n + 1, z, s => match stepS X z s with
    | some (.inl s') => mst X n z s'
    | _ => none
def Ev (X : SX) (z : Nat) (s : St) (R : Option V × Mem) : Prop := ∃ n, run X n z s = some R
def Cl (X : SX) (z : Nat) (as : List V) (M : Mem) (r : Option V) (M' : Mem) : Prop := ∃ e, nth MT z = some e ∧ Ev X z (0, initL (eL e) as, [], M) (r, M')
theorem run_mono (X : SX) : ∀ (n z : Nat) (s : St) (R : Option V × Mem), run X n z s = some R → run X (n + 1) z s = some R := by
  intro n
  induction n with
  | zero => intro z s R h; simp [run] at h
  | succ n ih =>
    intro z s R h
    rw [run] at h ⊢
    split at h
    · simp at h
    · next s' hs => exact ih _ _ _ h
    · next z' as rest hs =>
      split at h
      · simp at h
      · next e he =>
        split at h
        · simp at h
        · next r M' hr =>
          rw [ih _ _ _ hr]
          exact ih _ _ _ h
    · next r hs => exact h
theorem run_le (X : SX) {n k z : Nat} {s : St} {R : Option V × Mem} (h : run X n z s = some R) (hk : n ≤ k) : run X k z s = some R := by
  induction hk with
  | refl => exact h
  | step _ ih => exact run_mono X _ _ _ _ ih
theorem ev_one {X : SX} {z : Nat} {s s' : St} {R : Option V × Mem} (h : stepS X z s = some (.inl s')) (k : Ev X z s' R) : Ev X z s R := by
  obtain ⟨n, hn⟩ := k
  exact ⟨n + 1, by rw [run, h]; exact hn⟩
theorem ev_st {X : SX} {z : Nat} {s' : St} {R : Option V × Mem} : ∀ (k : Nat) {s : St}, mst X k z s = some s' → Ev X z s' R → Ev X z s R := by
  intro k
  induction k with
  | zero => intro s h q; rw [mst] at h; cases h; exact q
  | succ k ih =>
    intro s h q
    rw [mst] at h
    split at h
    · next s1 hs => exact ev_one hs (ih h q)
    · simp at h
theorem ev_gd {X : SX} {z : Nat} {b : Bool} {s s' : St} {R : Option V × Mem} (h : stepS X z s = gd b (some (.inl s'))) (hb : b = true) (k : Ev X z s' R) : Ev X z s R := by
  subst hb
  exact ev_one h k
theorem ev_call {X : SX} {z z' pc : Nat} {ls : List (Option V)} {st as rest : List V} {M M' : Mem} {r : Option V} {R : Option V × Mem} (h : stepS X z (pc, ls, st, M) = some (.inr (.inl (z', as, rest)))) (hc : Cl X z' as M r M') (k : Ev X z (pc + 3, ls, pushR r rest, M') R) : Ev X z (pc, ls, st, M) R := by
  obtain ⟨e, he, n, hn⟩ := hc
  obtain ⟨m, hm⟩ := k
  refine ⟨max n m + 1, ?_⟩
  rw [run, h]
  simp only [he]
  rw [run_le X hn (Nat.le_max_left n m)]
  exact run_le X hm (Nat.le_max_right n m)
theorem ev_ret {X : SX} {z pc : Nat} {ls : List (Option V)} {st : List V} {M : Mem} {r : Option V} (h : stepS X z (pc, ls, st, M) = some (.inr (.inr r))) : Ev X z (pc, ls, st, M) (r, M) := ⟨1, by rw [run, h]⟩
theorem ev_retg {X : SX} {z pc : Nat} {ls : List (Option V)} {st : List V} {M : Mem} {r : Option V} {b : Bool} (h : stepS X z (pc, ls, st, M) = gd b (some (.inr (.inr r)))) (hb : b = true) : Ev X z (pc, ls, st, M) (r, M) := by
  subst hb
  exact ev_ret h
theorem ev_br {X : SX} {z t f : Nat} {c : Prop} [Decidable c] {ls : List (Option V)} {st : List V} {M : Mem} {R : Option V × Mem} (a : c → Ev X z (t, ls, st, M) R) (b : ¬ c → Ev X z (f, ls, st, M) R) : Ev X z (if c then t else f, ls, st, M) R := by
  by_cases h : c
  · rw [if_pos h]; exact a h
  · rw [if_neg h]; exact b h
theorem cl_of {X : SX} {z : Nat} {as : List V} {M M' : Mem} {r : Option V} {e : ME} (he : nth MT z = some e) (h : Ev X z (0, initL (eL e) as, [], M) (r, M')) : Cl X z as M r M' := ⟨e, he, h⟩
