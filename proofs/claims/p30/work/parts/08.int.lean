/-! 08: the same machine over whole numbers: an instruction has a guard (nothing wraps, an index is in its row). -/
abbrev KI : Type := Nat × Int × Int
abbrev U : Type := Int ⊕ (Int ⊕ Option KI)
abbrev NM : Type := Nat → Int → Int → Int → Int
abbrev XI : Type := Int × (Int → Int)
abbrev SI : Type := Nat × List (Option U) × List U × NM
abbrev RI : Type := SI ⊕ ((Nat × List U × List U) ⊕ Option U)
abbrev OI : Type := Option Prop × Option RI
abbrev i32 (a : Int) : Prop := -2147483648 ≤ a ∧ a < 2147483648
abbrev i64 (a : Int) : Prop := -9223372036854775808 ≤ a ∧ a < 9223372036854775808
def wri (M : NM) (K : Nat) (j i s v : Int) : NM := fun K' j' i' s' => if K' = K ∧ j' = j ∧ i' = i ∧ s' = s then v else M K' j' i' s'
def cpi (M : NM) (K : Nat) (j i : Int) (K2 : Nat) (j2 i2 sp dp n : Int) : NM := fun K' j' i' s' => if K' = K2 ∧ j' = j2 ∧ i' = i2 ∧ dp ≤ s' ∧ s' < dp + n then M K j i (sp + (s' - dp)) else M K' j' i' s'
def andI (a b : Int) : Int := (Int32.ofInt a &&& Int32.ofInt b).toInt
def orI (a b : Int) : Int := (Int32.ofInt a ||| Int32.ofInt b).toInt
def xorI (a b : Int) : Int := (Int32.ofInt a ^^^ Int32.ofInt b).toInt
def shlI (a b : Int) : Int := (Int32.ofInt a <<< (Int32.ofInt b &&& 31)).toInt
def shrI (a b : Int) : Int := (Int32.ofInt a >>> (Int32.ofInt b &&& 31)).toInt
def ushI (a b : Int) : Int := ((Int32.ofInt a).toUInt32 >>> ((Int32.ofInt b).toUInt32 &&& Int32.toUInt32 31)).toInt32.toInt
def lshlI (a b : Int) : Int := (Int64.ofInt a <<< ((Int32.ofInt b).toInt64 &&& 63)).toInt
def lorI (a b : Int) : Int := (Int64.ofInt a ||| Int64.ofInt b).toInt
def lcmI (a b : Int) : Int := if b < a then 1 else if a = b then 0 else -1
def go (pc : Nat) (ls : List (Option U)) (st : List U) (M : NM) : OI := (none, some (.inl (pc, ls, st, M)))
def gg (G : Prop) (pc : Nat) (ls : List (Option U)) (st : List U) (M : NM) : OI := (some G, some (.inl (pc, ls, st, M)))
def no : OI := (none, none)
def bb (b : Bool) (r : OI) : OI := bif b then r else no
/-- a product that wraps (the law's own cell alone) -/
def wrI (a : Int) : Int := (Int32.ofInt a).toInt
/-- where a reference field leads -/
def shI (K s : Nat) (j : Int) : Option KI := match K, s with
  | 1, 0 => some (9, j, 0)
  | 1, 1 => some (13, j, 0)
  | 1, 2 => some (14, j, 0)
  | 2, 0 => some (12, 0, 0)
  | 4, 0 => some (15, 0, 0)
  | 4, 1 => some (16, 0, 0)
  | 5, 0 => some (1, j, 0)
  | 5, 1 => some (10, j, 0)
  | 5, 2 => some (11, j, 0)
  | 7, 0 => some (5, 0, 0)
  | 7, 1 => some (5, 1, 0)
  | 7, 2 => some (2, 0, 0)
  | 7, 3 => some (4, 0, 0)
  | _, _ => none
/-- arrays of numbers: length; whether of chars -/
def alI (X : XI) (K : Nat) : Option (Int × Bool) := match K with
  | 13 => some (600, false)
  | 14 => some (600, false)
  | 15 => some (120, true)
  | 16 => some (3, false)
  | 17 => some (11, false)
  | 18 => some (9, false)
  | 19 => some (63, false)
  | 20 => some (60, false)
  | 21 => some (60, false)
  | 30 => some (X.1, false)
  | _ => none
def rlI (K : Nat) : Option Int := match K with
  | 9 => some 6
  | 10 => some 20
  | 11 => some 20
  | 12 => some 6
  | _ => none
def aeI (K : Nat) (j n : Int) : KI := match K with
  | 9 => (0, j, n)
  | 10 => (3, j, n)
  | 11 => (6, j, n)
  | 12 => (5, 2 + n, 0)
  | _ => (0, 0, 0)
def arI (X : XI) (M : NM) (K : Nat) (j i n : Int) : Int := match K with
  | 30 => X.2 n
  | _ => M K j i n
def KTabI : List ((Nat × Nat) × Int) := [((9, 7), 1013904223), ((9, 8), 2147483647), ((10, 265), 1431655765), ((10, 266), 858993459), ((10, 267), 252645135)]
def JTabI : List ((Nat × Nat) × Int) := []
def getU (ls : List (Option U)) (i : Nat) : Option U := match nth ls i with
  | some (some v) => some v
  | _ => none
def setU : List (Option U) → Nat → Option U → List (Option U)
  | [], _, _ => []
  | _ :: l, 0, v => v :: l
  | a :: l, n + 1, v => a :: setU l n v
def lngU : Option U → Bool
  | some (.inr (.inl _)) => true
  | _ => false
def kilU (ls : List (Option U)) : Nat → List (Option U)
  | 0 => ls
  | n + 1 => bif lngU ((nth ls n).getD none) then setU ls n none else ls
def s1U (g : Bool) (ls : List (Option U)) (i : Nat) (v : U) : List (Option U) := setU (bif g then kilU ls i else ls) i (some v)
def s2U (ls : List (Option U)) (i : Nat) (v : U) : List (Option U) := setU (setU (kilU ls i) (i + 1) none) i (some v)
def popU : Nat → List U → Option (List U × List U)
  | 0, st => some ([], st)
  | _ + 1, [] => none
  | n + 1, v :: st => match popU n st with
    | some q => some (q.1 ++ [v], q.2)
    | none => none
def catU : List U → Nat
  | [] => 0
  | .inr (.inl _) :: l => 2 + catU l
  | _ :: l => 1 + catU l
def argU : List U → List (Option U)
  | [] => []
  | .inr (.inl y) :: l => some (.inr (.inl y)) :: none :: argU l
  | v :: l => some v :: argU l
def padU : Nat → List (Option U) → List (Option U)
  | 0, _ => []
  | n + 1, [] => none :: padU n []
  | n + 1, a :: l => a :: padU n l
def initU (n : Nat) (as : List U) : List (Option U) := padU n (argU as)
def pushU : Option U → List U → List U
  | none, st => st
  | some v, st => v :: st
def swI (v : Int) : Int → List Nat → Nat → Nat
  | _, [], d => d
  | lo, t :: l, d => if v = lo then t else swI v (lo + 1) l d
def bzI (c : Jvm.ClassFile.Cond) (a : Int) (t f : Nat) : Nat := match c with
  | .eq => if a = 0 then t else f
  | .ne => if a = 0 then f else t
  | .lt => if a < 0 then t else f
  | .ge => if a < 0 then f else t
  | .gt => if 0 < a then t else f
  | .le => if 0 < a then f else t
def b2I (c : Jvm.ClassFile.Cond) (a b : Int) (t f : Nat) : Nat := match c with
  | .eq => if a = b then t else f
  | .ne => if a = b then f else t
  | .lt => if a < b then t else f
  | .ge => if a < b then f else t
  | .gt => if b < a then t else f
  | .le => if b < a then f else t
def clI (e0 : ME) (z : Nat) (virt : Bool) (pc : Nat) (ls : List (Option U)) (st : List U) (M : NM) (X : XI) : OI :=
  bif Nat.beq z 1000 then (match virt, st with
    | false, .inl n :: .inl dp :: .inr (.inr (some (K2, j2, i2))) :: .inl sp :: .inr (.inr (some (K, j, i))) :: st => (match alI X K, alI X K2 with
      | some (n1, false), some (n2, false) => bb (Nat.ble 1 (eF e0) && Nat.ble 40 (eW e0) && !(Nat.beq K 30) && !(Nat.beq K2 30) && Nat.ble (catU st) 8) (gg ((0 ≤ sp ∧ 0 ≤ n ∧ sp + n ≤ n1) ∧ 0 ≤ dp ∧ dp + n ≤ n2) (pc + 3) ls st (cpi M K j i K2 j2 i2 sp dp n))
      | _, _ => no)
    | _, _ => no)
  else bif Nat.beq z 1001 then (match virt, st with
    | true, .inr (.inr (some (31, i, _))) :: st => (match nth strT i.toNat with
      | some s => bb (Nat.ble 2 (eF e0) && Nat.ble 40 (eW e0) && Nat.ble (catU st) 8 && Nat.ble s.length 100) (go (pc + 3) ls (.inl (Int.ofNat s.length) :: st) M)
      | none => no)
    | _, _ => no)
  else bif Nat.beq z 1002 then (match virt, st with
    | true, .inl k :: .inr (.inr (some (31, i, _))) :: st => (match nth strT i.toNat with
      | some s => bb (Nat.ble 5 (eF e0) && Nat.ble 106 (eW e0) && Nat.ble (catU st) 8 && s.all (fun c => Nat.ble c 255)) (gg (0 ≤ k ∧ k < Int.ofNat s.length) (pc + 3) ls (.inl (Int.ofNat (s.getD k.toNat 0)) :: st) M)
      | none => no)
    | _, _ => no)
  else match nth MT z with
    | none => no
    | some e => match popU (eN e) st with
      | none => no
      | some (as, rest) => bif virt then (match rest with
          | .inr (.inr (some k)) :: rest => bb (Nat.ble (eF e + 1) (eF e0) && Nat.ble (8 + (eL e + 11) + eW e) (eW e0) && Nat.beq k.1 (eO e) && !(eS e) && Nat.ble (catU rest) 8 && Nat.ble (argU (.inr (.inr (some k)) :: as)).length (eL e) && (eG e || Nat.beq (argU (.inr (.inr (some k)) :: as)).length (as.length + 1))) (none, some (.inr (.inl (z, .inr (.inr (some k)) :: as, rest))))
          | _ => no)
        else bb (Nat.ble (eF e + 1) (eF e0) && Nat.ble (8 + (eL e + 11) + eW e) (eW e0) && eS e && Nat.ble (catU rest) 8 && Nat.ble (argU as).length (eL e) && (eG e || Nat.beq (argU as).length as.length)) (none, some (.inr (.inl (z, as, rest))))
/-- one instruction -/
def stI (X : XI) (e : ME) (I : Instr) (n pc : Nat) (ls : List (Option U)) (st : List U) (M : NM) : OI := match I with
  | .iconst k => bb (decide (-128 ≤ k) && decide (k < 128)) (go (pc + 1) ls (.inl k :: st) M)
  | .bipush k => bb (decide (-128 ≤ k) && decide (k < 128)) (go (pc + 2) ls (.inl k :: st) M)
  | .sipush k => bb (decide (-32768 ≤ k) && decide (k < 32768)) (go (pc + 3) ls (.inl k :: st) M)
  | .lconst k => go (pc + 1) ls (.inr (.inl (Int.ofNat k.val)) :: st) M
  | .aconst_null => go (pc + 1) ls (.inr (.inr none) :: st) M
  | .iload_n k => (match getU ls k.val with
    | some (.inl v) => go (pc + 1) ls (.inl v :: st) M
    | _ => no)
  | .iload k => (match getU ls k with
    | some (.inl v) => bb (Nat.beq n 2) (go (pc + 2) ls (.inl v :: st) M)
    | _ => no)
  | .lload_n k => (match getU ls k.val with
    | some (.inr (.inl v)) => go (pc + 1) ls (.inr (.inl v) :: st) M
    | _ => no)
  | .aload_n k => (match getU ls k.val with
    | some (.inr (.inr v)) => go (pc + 1) ls (.inr (.inr v) :: st) M
    | _ => no)
  | .aload k => (match getU ls k with
    | some (.inr (.inr v)) => bb (Nat.beq n 2) (go (pc + 2) ls (.inr (.inr v) :: st) M)
    | _ => no)
  | .istore_n k => (match st with
    | .inl v :: st => bb (Nat.blt k.val ls.length) (go (pc + 1) (s1U (eG e) ls k.val (.inl v)) st M)
    | _ => no)
  | .istore k => (match st with
    | .inl v :: st => bb (Nat.beq n 2 && Nat.blt k ls.length) (go (pc + 2) (s1U (eG e) ls k (.inl v)) st M)
    | _ => no)
  | .lstore_n k => (match st with
    | .inr (.inl v) :: st => bb (eG e && Nat.blt (k.val + 1) ls.length) (go (pc + 1) (s2U ls k.val (.inr (.inl v))) st M)
    | _ => no)
  | .astore_n k => (match st with
    | .inr (.inr v) :: st => bb (Nat.blt k.val ls.length) (go (pc + 1) (s1U (eG e) ls k.val (.inr (.inr v))) st M)
    | _ => no)
  | .astore k => (match st with
    | .inr (.inr v) :: st => bb (Nat.beq n 2 && Nat.blt k ls.length) (go (pc + 2) (s1U (eG e) ls k (.inr (.inr v))) st M)
    | _ => no)
  | .iinc k d => (match getU ls k with
    | some (.inl v) => bb (Nat.beq n 3 && Nat.blt k ls.length && decide (-32768 ≤ d) && decide (d < 32768)) (gg (-2147483648 ≤ v + d ∧ v + d < 2147483648) (pc + 3) (s1U (eG e) ls k (.inl (v + d))) st M)
    | _ => no)
  | .iadd => (match st with
    | .inl b :: .inl a :: st => gg (-2147483648 ≤ a + b ∧ a + b < 2147483648) (pc + 1) ls (.inl (a + b) :: st) M
    | _ => no)
  | .isub => (match st with
    | .inl b :: .inl a :: st => gg (-2147483648 ≤ a - b ∧ a - b < 2147483648) (pc + 1) ls (.inl (a - b) :: st) M
    | _ => no)
  | .imul => (match st with
    | .inl b :: .inl a :: st => bif Nat.beq (eO e) 9 && Nat.beq (eL e) 2 then go (pc + 1) ls (.inl (wrI (a * b)) :: st) M else gg (-2147483648 ≤ a * b ∧ a * b < 2147483648) (pc + 1) ls (.inl (a * b) :: st) M
    | _ => no)
  | .idiv => (match st with
    | .inl b :: .inl a :: st => gg (0 ≤ a ∧ 0 < b) (pc + 1) ls (.inl (a / b) :: st) M
    | _ => no)
  | .irem => (match st with
    | .inl b :: .inl a :: st => gg (0 ≤ a ∧ 0 < b) (pc + 1) ls (.inl (a % b) :: st) M
    | _ => no)
  | .iand => (match st with
    | .inl b :: .inl a :: st => go (pc + 1) ls (.inl (andI a b) :: st) M
    | _ => no)
  | .ior => (match st with
    | .inl b :: .inl a :: st => go (pc + 1) ls (.inl (orI a b) :: st) M
    | _ => no)
  | .ixor => (match st with
    | .inl b :: .inl a :: st => go (pc + 1) ls (.inl (xorI a b) :: st) M
    | _ => no)
  | .ishl => (match st with
    | .inl b :: .inl a :: st => go (pc + 1) ls (.inl (shlI a b) :: st) M
    | _ => no)
  | .ishr => (match st with
    | .inl b :: .inl a :: st => go (pc + 1) ls (.inl (shrI a b) :: st) M
    | _ => no)
  | .iushr => (match st with
    | .inl b :: .inl a :: st => go (pc + 1) ls (.inl (ushI a b) :: st) M
    | _ => no)
  | .i2c => (match st with
    | .inl a :: st => gg (0 ≤ a ∧ a < 65536) (pc + 1) ls (.inl a :: st) M
    | _ => no)
  | .i2l => (match st with
    | .inl a :: st => go (pc + 1) ls (.inr (.inl a) :: st) M
    | _ => no)
  | .lshl => (match st with
    | .inl b :: .inr (.inl a) :: st => go (pc + 1) ls (.inr (.inl (lshlI a b)) :: st) M
    | _ => no)
  | .lor => (match st with
    | .inr (.inl b) :: .inr (.inl a) :: st => go (pc + 1) ls (.inr (.inl (lorI a b)) :: st) M
    | _ => no)
  | .lcmp => (match st with
    | .inr (.inl b) :: .inr (.inl a) :: st => go (pc + 1) ls (.inl (lcmI a b) :: st) M
    | _ => no)
  | .dup => (match st with
    | .inl a :: st => go (pc + 1) ls (.inl a :: .inl a :: st) M
    | .inr (.inr a) :: st => go (pc + 1) ls (.inr (.inr a) :: .inr (.inr a) :: st) M
    | _ => no)
  | .pop => (match st with
    | .inl _ :: st => go (pc + 1) ls st M
    | .inr (.inr _) :: st => go (pc + 1) ls st M
    | _ => no)
  | .dup2 => (match st with
    | .inl b :: .inr (.inr a) :: st => go (pc + 1) ls (.inl b :: .inr (.inr a) :: .inl b :: .inr (.inr a) :: st) M
    | _ => no)
  | .goto o => (match tg pc o with
    | some t => go t ls st M
    | none => no)
  | .ifCond c o => (match st, tg pc o with
    | .inl a :: st, some t => go (bzI c a t (pc + 3)) ls st M
    | _, _ => no)
  | .if_icmp c o => (match st, tg pc o with
    | .inl b :: .inl a :: st, some t => go (b2I c a b t (pc + 3)) ls st M
    | _, _ => no)
  | .ifnull o => (match st, tg pc o with
    | .inr (.inr none) :: st, some t => go t ls st M
    | .inr (.inr (some _)) :: st, some _ => go (pc + 3) ls st M
    | _, _ => no)
  | .ifnonnull o => (match st, tg pc o with
    | .inr (.inr none) :: st, some _ => go (pc + 3) ls st M
    | .inr (.inr (some _)) :: st, some t => go t ls st M
    | _, _ => no)
  | .tableswitch d lo hi os => (match st, tg pc d, tgs pc os.toList with
    | .inl a :: st, some t, some l => bb (decide (hi + 1 = lo + (os.toList.length : Int)) && decide (-2147483648 ≤ lo) && decide (hi < 2147483648)) (go (swI a lo l t) ls st M)
    | _, _, _ => no)
  | .getfield ix => (match st with
    | .inr (.inr (some (K, j, i))) :: st => (match fnd2 FTab (eO e) ix with
      | some (K', s, _) => bb (Nat.beq K K') (match shI K s j with
        | some k => go (pc + 3) ls (.inr (.inr (some k)) :: st) M
        | none => go (pc + 3) ls (.inl (M K j i (Int.ofNat s)) :: st) M)
      | none => no)
    | _ => no)
  | .putfield ix => (match st with
    | .inl v :: .inr (.inr (some (K, j, i))) :: st => (match fnd2 FTab (eO e) ix with
      | some (K', s, _) => bb (Nat.beq K K') (match shI K s j with
        | some _ => no
        | none => bif fZ K s then gg (v = 0 ∨ v = 1) (pc + 3) ls st (wri M K j i (Int.ofNat s) v) else go (pc + 3) ls st (wri M K j i (Int.ofNat s) v))
      | none => no)
    | _ => no)
  | .iaload => (match st with
    | .inl v :: .inr (.inr (some (K, j, i))) :: st => (match alI X K with
      | some (N, false) => gg (0 ≤ v ∧ v < N) (pc + 1) ls (.inl (arI X M K j i v) :: st) M
      | _ => no)
    | _ => no)
  | .caload => (match st with
    | .inl v :: .inr (.inr (some (K, j, i))) :: st => (match alI X K with
      | some (N, true) => gg (0 ≤ v ∧ v < N) (pc + 1) ls (.inl (M K j i v) :: st) M
      | _ => no)
    | _ => no)
  | .iastore => (match st with
    | .inl w :: .inl v :: .inr (.inr (some (K, j, i))) :: st => (match alI X K with
      | some (N, false) => bb (!(Nat.beq K 30)) (gg (0 ≤ v ∧ v < N) (pc + 1) ls st (wri M K j i v w))
      | _ => no)
    | _ => no)
  | .castore => (match st with
    | .inl w :: .inl v :: .inr (.inr (some (K, j, i))) :: st => (match alI X K with
      | some (N, true) => bb (!(Nat.beq K 30)) (gg ((0 ≤ v ∧ v < N) ∧ 0 ≤ w ∧ w < 65536) (pc + 1) ls st (wri M K j i v w))
      | _ => no)
    | _ => no)
  | .aaload => (match st with
    | .inl v :: .inr (.inr (some (K, j, _))) :: st => (match rlI K with
      | some N => gg (0 ≤ v ∧ v < N) (pc + 1) ls (.inr (.inr (some (aeI K j v))) :: st) M
      | none => no)
    | _ => no)
  | .arraylength => (match st with
    | .inr (.inr (some (30, _, _))) :: st => go (pc + 1) ls (.inl X.1 :: st) M
    | _ => no)
  | .ldc ix => (match fnd2 KTabI (eO e) ix with
    | some v => go (pc + 2) ls (.inl v :: st) M
    | none => no)
  | .ldc_w ix => (match fnd2 KTabI (eO e) ix with
    | some v => go (pc + 3) ls (.inl v :: st) M
    | none => no)
  | .ldc2_w ix => (match fnd2 JTabI (eO e) ix with
    | some v => go (pc + 3) ls (.inr (.inl v) :: st) M
    | none => no)
  | .invokevirtual ix => (match fnd2 CTab (eO e) ix with
    | some (z, _) => clI e z true pc ls st M X
    | none => no)
  | .invokestatic ix => (match fnd2 CTab (eO e) ix with
    | some (z, _) => clI e z false pc ls st M X
    | none => no)
  | .ireturn => (match st, eR e with
    | [.inl v], some .int => (none, some (.inr (.inr (some (.inl v)))))
    | [.inl v], some .boolean => (some (v = 0 ∨ v = 1), some (.inr (.inr (some (.inl v)))))
    | _, _ => no)
  | .lreturn => (match st, eR e with
    | [.inr (.inl v)], some .long => (none, some (.inr (.inr (some (.inr (.inl v))))))
    | _, _ => no)
  | .areturn => (match st, eR e with
    | [.inr (.inr v)], some (.object _) => (none, some (.inr (.inr (some (.inr (.inr v))))))
    | _, _ => no)
  | .return_ => (match st, eR e with
    | [], none => (none, some (.inr (.inr none)))
    | _, _ => no)
  | _ => no
def stS (X : XI) (e : ME) (s : SI) : OI := match fnd (eI e) s.1 with
  | none => no
  | some q => stI X e q.1 q.2 s.1 s.2.1 s.2.2.1 s.2.2.2
def Gd : Option Prop → Prop → Prop
  | none, P => P
  | some G, P => G ∧ P
def wpI (X : XI) : Nat → ME → SI → (Option U → NM → Prop) → Prop
  | 0, _, _, _ => False
  | n + 1, e, s, Q => match stS X e s with
    | (G, some (.inl s')) => Gd G (wpI X n e s' Q)
    | (G, some (.inr (.inl (z, as, rest)))) => Gd G (match nth MT z with
      | some e' => wpI X n e' (0, initU (eL e') as, [], s.2.2.2) (fun r M' => wpI X n e (s.1 + 3, s.2.1, pushU r rest, M') Q)
      | none => False)
    | (G, some (.inr (.inr r))) => Gd G (Q r s.2.2.2)
    | (_, none) => False
def EvI (X : XI) (e : ME) (s : SI) (Q : Option U → NM → Prop) : Prop := ∃ n, wpI X n e s Q
def HT (X : XI) (z : Nat) (as : List U) (M : NM) (P : Option U → NM → Prop) : Prop := ∃ e, nth MT z = some e ∧ EvI X e (0, initU (eL e) as, [], M) P
def seg (X : XI) (e : ME) : Nat → SI → (SI → Prop) → Prop
  | 0, s, K => K s
  | n + 1, s, K => match stS X e s with
    | (G, some (.inl s')) => Gd G (seg X e n s' K)
    | _ => False
theorem Gd_imp {G : Option Prop} {P P' : Prop} (h : Gd G P) (k : P → P') : Gd G P' := by
  cases G with
  | none => exact k h
  | some G => exact ⟨h.1, k h.2⟩
theorem wp_mono (X : XI) : ∀ (n : Nat) (e : ME) (s : SI) (Q Q' : Option U → NM → Prop), (∀ r M, Q r M → Q' r M) → wpI X n e s Q → wpI X (n + 1) e s Q' := by
  intro n
  induction n with
  | zero => intro e s Q Q' hQ h; exact absurd h id
  | succ n ih =>
    intro e s Q Q' hQ h
    rw [wpI] at h ⊢
    split at h
    · next G s' hs => exact Gd_imp h (ih _ _ _ _ hQ)
    · next G z as rest hs =>
      refine Gd_imp h (fun h => ?_)
      split at h
      · next e' he => exact ih _ _ _ _ (fun r M' h2 => ih _ _ _ _ hQ h2) h
      · exact absurd h id
    · next G r hs => exact Gd_imp h (hQ _ _)
    · exact absurd h id
theorem wp_le {X : XI} {n k : Nat} {e : ME} {s : SI} {Q : Option U → NM → Prop} (h : wpI X n e s Q) (hk : n ≤ k) : wpI X k e s Q := by
  induction hk with
  | refl => exact h
  | step _ ih => exact wp_mono X _ _ _ _ _ (fun _ _ q => q) ih
theorem wp_imp {X : XI} : ∀ (n : Nat) {e : ME} {s : SI} {Q Q' : Option U → NM → Prop}, wpI X n e s Q → (∀ r M, Q r M → Q' r M) → wpI X n e s Q' := by
  intro n
  induction n with
  | zero => intro e s Q Q' h; exact absurd h id
  | succ n ih =>
    intro e s Q Q' h hQ
    rw [wpI] at h ⊢
    split at h
    · next G s' hs => exact Gd_imp h (fun h => ih h hQ)
    · next G z as rest hs =>
      refine Gd_imp h (fun h => ?_)
      split at h
      · next e' he => exact ih h (fun r M' h2 => ih h2 hQ)
      · exact absurd h id
    · next G r hs => exact Gd_imp h (hQ _ _)
    · exact absurd h id
theorem wp_det (X : XI) : ∀ (n : Nat) (e : ME) (s : SI) (Q : Option U → NM → Prop), wpI X n e s Q → ∃ r M, Q r M ∧ wpI X n e s (fun r' M' => r' = r ∧ M' = M) := by
  intro n
  induction n with
  | zero => intro e s Q h; exact absurd h id
  | succ n ih =>
    intro e s Q h
    rw [wpI] at h
    split at h
    · next G s' hs =>
      have h2 : wpI X n e s' Q := by
        cases G with
        | none => exact h
        | some G => exact h.2
      obtain ⟨r, M, hq, h3⟩ := ih _ _ _ h2
      refine ⟨r, M, hq, ?_⟩
      rw [wpI, hs]
      exact Gd_imp h (fun _ => h3)
    · next G z as rest hs =>
      cases he : nth MT z with
      | none =>
        rw [he] at h
        cases G with
        | none => exact absurd h id
        | some G => exact absurd h.2 id
      | some e' =>
        rw [he] at h
        have h2 : wpI X n e' (0, initU (eL e') as, [], s.2.2.2) (fun r M' => wpI X n e (s.1 + 3, s.2.1, pushU r rest, M') Q) := by
          cases G with
          | none => exact h
          | some G => exact h.2
        obtain ⟨r1, M1, h3, h4⟩ := ih _ _ _ h2
        obtain ⟨r, M, hq, h5⟩ := ih _ _ _ h3
        refine ⟨r, M, hq, ?_⟩
        rw [wpI, hs]
        refine Gd_imp h (fun _ => ?_)
        simp only [he]
        exact wp_imp n h4 (fun r' M' hr => by obtain ⟨rfl, rfl⟩ := hr; exact h5)
    · next G r hs =>
      have h2 : Q r s.2.2.2 := by
        cases G with
        | none => exact h
        | some G => exact h.2
      refine ⟨r, s.2.2.2, h2, ?_⟩
      rw [wpI, hs]
      exact Gd_imp h (fun _ => ⟨rfl, rfl⟩)
    · exact absurd h id
section
variable {X : XI} {e : ME}
theorem evI_imp {s : SI} {Q Q' : Option U → NM → Prop} (h : EvI X e s Q) (k : ∀ r M, Q r M → Q' r M) : EvI X e s Q' := by
  obtain ⟨n, h⟩ := h
  exact ⟨n, wp_imp n h k⟩
theorem evI_one {s s' : SI} {G : Option Prop} {Q : Option U → NM → Prop} (h : stS X e s = (G, some (.inl s'))) (k : Gd G (EvI X e s' Q)) : EvI X e s Q := by
  have k2 : EvI X e s' Q := by
    cases G with
    | none => exact k
    | some G => exact k.2
  obtain ⟨n, hn⟩ := k2
  exact ⟨n + 1, by rw [wpI, h]; exact Gd_imp k (fun _ => hn)⟩
theorem seg_ok {Q : Option U → NM → Prop} : ∀ (n : Nat) {s : SI}, seg X e n s (fun s' => EvI X e s' Q) → EvI X e s Q := by
  intro n
  induction n with
  | zero => intro s h; exact h
  | succ n ih =>
    intro s h
    rw [seg] at h
    split at h
    · next G s' hs => exact evI_one hs (Gd_imp h ih)
    · exact absurd h id
theorem ev_if {c : Prop} [Decidable c] {t f : Nat} {ls : List (Option U)} {st : List U} {M : NM} {Q : Option U → NM → Prop} (a : c → EvI X e (t, ls, st, M) Q) (b : ¬ c → EvI X e (f, ls, st, M) Q) : EvI X e (if c then t else f, ls, st, M) Q := by
  by_cases h : c
  · rw [if_pos h]; exact a h
  · rw [if_neg h]; exact b h
theorem ev_rt {s : SI} {G : Option Prop} {r : Option U} {Q : Option U → NM → Prop} (h : stS X e s = (G, some (.inr (.inr r)))) (k : Gd G (Q r s.2.2.2)) : EvI X e s Q := ⟨1, by rw [wpI, h]; exact k⟩
theorem ht_of {z : Nat} {as : List U} {M : NM} {P : Option U → NM → Prop} (he : nth MT z = some e) (h : EvI X e (0, initU (eL e) as, [], M) P) : HT X z as M P := ⟨e, he, h⟩
theorem ht_imp {z : Nat} {as : List U} {M : NM} {P P' : Option U → NM → Prop} (h : HT X z as M P) (k : ∀ r M, P r M → P' r M) : HT X z as M P' := by
  obtain ⟨e, he, h⟩ := h
  exact ⟨e, he, evI_imp h k⟩
theorem ev_cl {pc z : Nat} {ls : List (Option U)} {st as rest : List U} {M : NM} {P Q : Option U → NM → Prop} (h : stS X e (pc, ls, st, M) = (none, some (.inr (.inl (z, as, rest))))) (hc : HT X z as M P) (k : ∀ r M', P r M' → EvI X e (pc + 3, ls, pushU r rest, M') Q) : EvI X e (pc, ls, st, M) Q := by
  obtain ⟨e', he, n, hn⟩ := hc
  obtain ⟨r, M', hP, hd⟩ := wp_det X n _ _ _ hn
  obtain ⟨m, hm⟩ := k r M' hP
  refine ⟨max n m + 1, ?_⟩
  rw [wpI, h]
  show (match nth MT z with | some e' => wpI X (max n m) e' (0, initU (eL e') as, [], M) (fun r M' => wpI X (max n m) e (pc + 3, ls, pushU r rest, M') Q) | none => False)
  rw [he]
  refine wp_imp _ (wp_le hd (Nat.le_max_left n m)) (fun r' M'' hr => ?_)
  obtain ⟨rfl, rfl⟩ := hr
  exact wp_le hm (Nat.le_max_right n m)
end

