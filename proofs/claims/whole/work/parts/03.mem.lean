/-! ===== the memory of the pure side: addresses are numbers (0: null), a cell has a tag (its class's number, or 100 and on for arrays) and a length; ints, longs and references by (address, place) ===== -/
abbrev AH : Type := (Nat × Nat) × (Nat → Nat × Nat) × (Nat → Nat → Int32) × (Nat → Nat → Int64) × (Nat → Nat → Nat)
def nx (h : AH) : Nat := h.1.1
def us (h : AH) : Nat := h.1.2
def tg (h : AH) (a : Nat) : Nat × Nat := h.2.1 a
def rI (h : AH) (a k : Nat) : Int32 := h.2.2.1 a k
def rL (h : AH) (a k : Nat) : Int64 := h.2.2.2.1 a k
def rR (h : AH) (a k : Nat) : Nat := h.2.2.2.2 a k
def up2 {α : Type} (f : Nat → Nat → α) (a k : Nat) (v : α) : Nat → Nat → α := fun b j => if b = a ∧ j = k then v else f b j
def wI (h : AH) (a k : Nat) (v : Int32) : AH := (h.1, h.2.1, up2 h.2.2.1 a k v, h.2.2.2.1, h.2.2.2.2)
def wL (h : AH) (a k : Nat) (v : Int64) : AH := (h.1, h.2.1, h.2.2.1, up2 h.2.2.2.1 a k v, h.2.2.2.2)
def wR (h : AH) (a k : Nat) (v : Nat) : AH := (h.1, h.2.1, h.2.2.1, h.2.2.2.1, up2 h.2.2.2.2 a k v)
def cpI (h : AH) (s sp d dp n : Nat) : AH := (h.1, h.2.1, (fun b j => if b = d then va_cpy (h.2.2.1 s) (h.2.2.1 d) sp dp n j else h.2.2.1 b j), h.2.2.2.1, h.2.2.2.2)
def al (h : AH) (t n : Nat) : AH := ((nx h + 1, us h + n), (fun b => if b = nx h then (t, n) else tg h b), (fun b j => if b = nx h then 0 else rI h b j), (fun b j => if b = nx h then 0 else rL h b j), (fun b j => if b = nx h then 0 else rR h b j))
def h00 : AH := ((1, 0), (fun _ => (999, 0)), (fun _ _ => 0), (fun _ _ => 0), (fun _ _ => 0))
/-- an index within an array of this tag -/
def inB (h : AH) (a t : Nat) (i : Int32) : Bool := decide ((tg h a).1 = t ∧ ¬ (i < 0 ∨ (tg h a).2 ≤ i.toNatClampNeg))
abbrev LA : Type := List (Nat × Value)
def lk : LA → Nat → Option Value
  | [], _ => none
  | (j, v) :: r, i => if j = i then some v else lk r i
def st1 (la : LA) (i : Nat) (v : Value) : LA := (i, v) :: la.filter (fun q => !(q.1 == i) && !(q.1 + 1 == i && q.2.category == 2))
def st2 (la : LA) (i : Nat) (v : Value) : LA := (i, v) :: la.filter (fun q => !(q.1 == i) && (!(q.1 == i + 1) && !(q.1 + 1 == i && q.2.category == 2)))
/-- an instruction: as decoded, its length, its links and targets, its constant -/
abbrev AI : Type := Instr × Nat × List Nat × Int32
def a1 (f : Int32 → Int32) (st : List Value) : Option (List Value) := match st with
  | .int x :: r => some (.int (f x) :: r)
  | _ => none
def a2 (f : Int32 → Int32 → Int32) (st : List Value) : Option (List Value) := match st with
  | .int y :: .int x :: r => some (.int (f x y) :: r)
  | _ => none
def a2l (f : Int64 → Int64 → Int64) (st : List Value) : Option (List Value) := match st with
  | .long y :: .long x :: r => some (.long (f x y) :: r)
  | _ => none
/-- what only moves the operand stack -/
def ar (ins : Instr) (st : List Value) : Option (List Value) := match ins with
  | .iadd => a2 (fun x y => x + y) st
  | .isub => a2 (fun x y => x - y) st
  | .imul => a2 (fun x y => x * y) st
  | .iand => a2 (fun x y => x &&& y) st
  | .ior => a2 (fun x y => x ||| y) st
  | .ixor => a2 (fun x y => x ^^^ y) st
  | .ishl => a2 (fun x y => x <<< (y &&& 31)) st
  | .ishr => a2 (fun x y => x >>> (y &&& 31)) st
  | .iushr => a2 (fun x y => (x.toUInt32 >>> (y &&& 31).toUInt32).toInt32) st
  | .i2b => a1 (fun x => x.toInt8.toInt32) st
  | .ladd => a2l (fun x y => x + y) st
  | .lmul => a2l (fun x y => x * y) st
  | .i2l => match st with
    | .int x :: r => some (.long x.toInt64 :: r)
    | _ => none
  | .l2i => match st with
    | .long x :: r => some (.int x.toInt32 :: r)
    | _ => none
  | .lcmp => match st with
    | .long y :: .long x :: r => some (.int (lg_cmp x y) :: r)
    | _ => none
  | .dup => match st with
    | .int x :: r => some (.int x :: .int x :: r)
    | .ref x :: r => some (.ref x :: .ref x :: r)
    | _ => none
  | .dup2 => match st with
    | .int x :: .ref y :: r => some (.int x :: .ref y :: .int x :: .ref y :: r)
    | _ => none
  | .pop => match st with
    | .int _ :: r => some r
    | _ => none
  | _ => none
/-- a switch's target -/
def swT (lo hi : Int) (pl : List Nat) (x : Int32) : Nat := if x.toInt < lo ∨ hi < x.toInt then pl.headD 0 else pl.getD ((x.toInt - lo).toNat + 1) 0
def irm (x y : Int32) : Int32 := x - x / y * y
def lrm (x y : Int64) : Int64 := x - x / y * y
/-- words of the operand stack -/
def csum (st : List Value) : Nat := (st.map fun v => v.category).sum
section EV
variable {ρ : Type} (K : Nat → LA → List Value → AH → Option ρ) (FI : Nat → List Value → AH → Option (Int32 × AH)) (FV : Nat → List Value → AH → Option AH) (FL : Nat → List Value → AH → Option (Int64 × AH)) (SL : Nat → Option Int32) (SC : Nat → Int32 → Option Int32) (XS : Nat × (Nat → Int32)) (rt : Option Value → AH → Option ρ) (ft : Nat)
/-- a stretch of code, from its first instruction to its last: a jump goes to K, a call to F, the end to rt -/
def evL : List AI → LA → List Value → AH → Option ρ
  | [], la, st, h => K ft la st h
  | (ins, _, pl, v) :: rest, la, st, h => match ins with
    | .iconst _ => evL rest la (.int v :: st) h
    | .bipush _ => evL rest la (.int v :: st) h
    | .sipush _ => evL rest la (.int v :: st) h
    | .ldc _ => if pl.headD 0 = 0 then evL rest la (.int v :: st) h else evL rest la (.retAddr (pl.headD 0) :: st) h
    | .ldc_w _ => evL rest la (.int v :: st) h
    | .lconst _ => evL rest la (.long v.toInt64 :: st) h
    | .ldc2_w _ => evL rest la (.long v.toInt64 :: st) h
    | .iload_n k => match lk la k with
      | some (.int x) => evL rest la (.int x :: st) h
      | _ => none
    | .iload i => match lk la i with
      | some (.int x) => evL rest la (.int x :: st) h
      | _ => none
    | .lload_n k => match lk la k with
      | some (.long x) => evL rest la (.long x :: st) h
      | _ => none
    | .lload i => match lk la i with
      | some (.long x) => evL rest la (.long x :: st) h
      | _ => none
    | .aload_n k => match lk la k with
      | some (.ref x) => evL rest la (.ref x :: st) h
      | some (.retAddr x) => evL rest la (.retAddr x :: st) h
      | _ => none
    | .aload i => match lk la i with
      | some (.ref x) => evL rest la (.ref x :: st) h
      | some (.retAddr x) => evL rest la (.retAddr x :: st) h
      | _ => none
    | .istore_n k => match st with
      | .int x :: st => evL rest (st1 la k (.int x)) st h
      | _ => none
    | .istore i => match st with
      | .int x :: st => evL rest (st1 la i (.int x)) st h
      | _ => none
    | .lstore_n k => match st with
      | .long x :: st => evL rest (st2 la k (.long x)) st h
      | _ => none
    | .lstore i => match st with
      | .long x :: st => evL rest (st2 la i (.long x)) st h
      | _ => none
    | .astore_n k => match st with
      | .ref x :: st => evL rest (st1 la k (.ref x)) st h
      | _ => none
    | .astore i => match st with
      | .ref x :: st => evL rest (st1 la i (.ref x)) st h
      | _ => none
    | .iinc i _ => match lk la i with
      | some (.int x) => evL rest (st1 la i (.int (x + v))) st h
      | _ => none
    | .idiv => match st with
      | .int y :: .int x :: st => if y = 0 then none else evL rest la (.int (x / y) :: st) h
      | _ => none
    | .irem => match st with
      | .int y :: .int x :: st => if y = 0 then none else evL rest la (.int (irm x y) :: st) h
      | _ => none
    | .ldiv => match st with
      | .long y :: .long x :: st => if y = 0 then none else evL rest la (.long (x / y) :: st) h
      | _ => none
    | .lrem => match st with
      | .long y :: .long x :: st => if y = 0 then none else evL rest la (.long (lrm x y) :: st) h
      | _ => none
    | .goto _ => K (pl.headD 0) la st h
    | .ifCond c _ => match st with
      | .int x :: st => match c with
        | .eq => if x = 0 then K (pl.headD 0) la st h else evL rest la st h
        | .ne => if x = 0 then evL rest la st h else K (pl.headD 0) la st h
        | .lt => if x < 0 then K (pl.headD 0) la st h else evL rest la st h
        | .ge => if x < 0 then evL rest la st h else K (pl.headD 0) la st h
        | .gt => if 0 < x then K (pl.headD 0) la st h else evL rest la st h
        | .le => if 0 < x then evL rest la st h else K (pl.headD 0) la st h
      | _ => none
    | .if_icmp c _ => match st with
      | .int y :: .int x :: st => match c with
        | .eq => if x = y then K (pl.headD 0) la st h else evL rest la st h
        | .ne => if x = y then evL rest la st h else K (pl.headD 0) la st h
        | .lt => if x < y then K (pl.headD 0) la st h else evL rest la st h
        | .ge => if x < y then evL rest la st h else K (pl.headD 0) la st h
        | .gt => if y < x then K (pl.headD 0) la st h else evL rest la st h
        | .le => if y < x then evL rest la st h else K (pl.headD 0) la st h
      | _ => none
    | .ifnull _ => match st with
      | .ref a :: st => if a = 0 then K (pl.headD 0) la st h else evL rest la st h
      | _ => none
    | .ifnonnull _ => match st with
      | .ref a :: st => if a = 0 then evL rest la st h else K (pl.headD 0) la st h
      | _ => none
    | .tableswitch _ lo hi _ => match st with
      | .int x :: st => K (swT lo hi pl x) la st h
      | _ => none
    | .getfield _ => match pl with
      | [ci, k, ty, _] => match st with
        | .ref a :: st => if (tg h a).1 = ci then (match ty with
          | 1 => evL rest la (.long (rL h a k) :: st) h
          | 2 => evL rest la (.ref (rR h a k) :: st) h
          | _ => evL rest la (.int (rI h a k) :: st) h) else none
        | _ => none
      | _ => none
    | .putfield _ => match pl with
      | [ci, k, ty, _] => match ty with
        | 0 => match st with
          | .int x :: .ref a :: st => if (tg h a).1 = ci then evL rest la st (wI h a k x) else none
          | _ => none
        | 1 => match st with
          | .long x :: .ref a :: st => if (tg h a).1 = ci then evL rest la st (wL h a k x) else none
          | _ => none
        | 2 => match st with
          | .ref x :: .ref a :: st => if (tg h a).1 = ci then evL rest la st (wR h a k x) else none
          | _ => none
        | _ => match st with
          | .int x :: .ref a :: st => if (tg h a).1 = ci then (if x &&& 1 = x then evL rest la st (wI h a k x) else none) else none
          | _ => none
      | _ => none
    | .new _ => match pl with
      | [ci, n, _] => evL rest la (.ref (nx h) :: st) (al h ci n)
      | _ => none
    | .newarray _ => match st with
      | .int n :: st => if n < 0 ∨ 100000 < n.toNatClampNeg then none else evL rest la (.ref (nx h) :: st) (al h (pl.headD 0) n.toNatClampNeg)
      | _ => none
    | .anewarray _ => match st with
      | .int n :: st => if n < 0 ∨ 100000 < n.toNatClampNeg then none else evL rest la (.ref (nx h) :: st) (al h 104 n.toNatClampNeg)
      | _ => none
    | .arraylength => match st with
      | .retAddr k :: st => if k = 0 then evL rest la (.int (Int32.ofNat XS.1) :: st) h else none
      | _ => none
    | .iaload => match st with
      | .int i :: .ref a :: st => if inB h a 100 i then evL rest la (.int (rI h a i.toNatClampNeg) :: st) h else none
      | .int i :: .retAddr k :: st => if k = 0 ∧ ¬ (i < 0 ∨ XS.1 ≤ i.toNatClampNeg) then evL rest la (.int (XS.2 i.toNatClampNeg) :: st) h else none
      | _ => none
    | .baload => match st with
      | .int i :: .ref a :: st => if inB h a (pl.headD 0) i then evL rest la (.int (rI h a i.toNatClampNeg) :: st) h else none
      | _ => none
    | .laload => match st with
      | .int i :: .ref a :: st => if inB h a 103 i then evL rest la (.long (rL h a i.toNatClampNeg) :: st) h else none
      | _ => none
    | .aaload => match st with
      | .int i :: .ref a :: st => if inB h a 104 i then evL rest la (.ref (rR h a i.toNatClampNeg) :: st) h else none
      | _ => none
    | .iastore => match st with
      | .int x :: .int i :: .ref a :: st => if inB h a 100 i then evL rest la st (wI h a i.toNatClampNeg x) else none
      | _ => none
    | .bastore => match st with
      | .int x :: .int i :: .ref a :: st => if inB h a (pl.headD 0) i then evL rest la st (wI h a i.toNatClampNeg (if pl.headD 0 = 101 then x.toInt8.toInt32 else x &&& 1)) else none
      | _ => none
    | .lastore => match st with
      | .long x :: .int i :: .ref a :: st => if inB h a 103 i then evL rest la st (wL h a i.toNatClampNeg x) else none
      | _ => none
    | .aastore => match st with
      | .ref b :: .int i :: .ref a :: st => if inB h a 104 i ∧ (tg h b).1 = pl.headD 0 then evL rest la st (wR h a i.toNatClampNeg b) else none
      | _ => none
    | .invokespecial _ => match pl with
      | [0, _] => match st with
        | .ref a :: st => if a = 0 then none else cond (Nat.ble (csum st) 8) (evL rest la st h) none
        | _ => none
      | [2, mi, n, _] => match st.drop (n - 1) with
        | .ref a :: st' => if a = 0 then none else cond (Nat.ble (csum st') 8) ((FV mi (.ref a :: (st.take (n - 1)).reverse) h).bind fun h => evL rest la st' h) none
        | _ => none
      | _ => none
    | .invokestatic _ => match pl with
      | [1, mi, n, _] => cond (Nat.ble n st.length && Nat.ble (csum (st.drop n)) 8) ((FI mi (st.take n).reverse h).bind fun p => evL rest la (.int p.1 :: st.drop n) p.2) none
      | [2, mi, n, _] => cond (Nat.ble n st.length && Nat.ble (csum (st.drop n)) 8) ((FV mi (st.take n).reverse h).bind fun h => evL rest la (st.drop n) h) none
      | [3, mi, n, _] => cond (Nat.ble n st.length && Nat.ble (csum (st.drop n)) 8) ((FL mi (st.take n).reverse h).bind fun p => evL rest la (.long p.1 :: st.drop n) p.2) none
      | [4, _] => match st with
        | .int n :: .int dp :: .ref d :: .int sp :: .ref s :: st => if ((tg h s).1 = 100 ∧ (tg h d).1 = 100) ∧ (¬ sp < 0 ∧ ¬ dp < 0 ∧ ¬ n < 0) ∧ sp.toNatClampNeg + n.toNatClampNeg ≤ (tg h s).2 ∧ dp.toNatClampNeg + n.toNatClampNeg ≤ (tg h d).2 then cond (Nat.ble (csum st) 8) (evL rest la st (cpI h s sp.toNatClampNeg d dp.toNatClampNeg n.toNatClampNeg)) none else none
        | _ => none
      | [5, _] => match st with
        | .int y :: .int x :: st => cond (Nat.ble (csum st) 8) (evL rest la (.int (if x < y then y else x) :: st) h) none
        | _ => none
      | _ => none
    | .invokevirtual _ => match pl with
      | [1, mi, n, ci, _] => match st.drop (n - 1) with
        | .ref a :: st' => if (tg h a).1 = ci then cond (Nat.ble (csum st') 8) ((FI mi (.ref a :: (st.take (n - 1)).reverse) h).bind fun p => evL rest la (.int p.1 :: st') p.2) none else none
        | _ => none
      | [2, mi, n, ci, _] => match st.drop (n - 1) with
        | .ref a :: st' => if (tg h a).1 = ci then cond (Nat.ble (csum st') 8) ((FV mi (.ref a :: (st.take (n - 1)).reverse) h).bind fun h => evL rest la st' h) none else none
        | _ => none
      | [3, mi, n, ci, _] => match st.drop (n - 1) with
        | .ref a :: st' => if (tg h a).1 = ci then cond (Nat.ble (csum st') 8) ((FL mi (.ref a :: (st.take (n - 1)).reverse) h).bind fun p => evL rest la (.long p.1 :: st') p.2) none else none
        | _ => none
      | [5, _] => match st with
        | .retAddr k :: st => cond (Nat.ble (csum st) 8) ((SL k).bind fun x => evL rest la (.int x :: st) h) none
        | _ => none
      | [6, _] => match st with
        | .int i :: .retAddr k :: st => cond (Nat.ble (csum st) 8) ((SC k i).bind fun x => evL rest la (.int x :: st) h) none
        | _ => none
      | _ => none
    | .ireturn => match st with
      | [.int x] => rt (some (.int x)) h
      | _ => none
    | .lreturn => match st with
      | [.long x] => rt (some (.long x)) h
      | _ => none
    | .return_ => match st with
      | [] => rt none h
      | _ => none
    | i => match ar i st with
      | some st => evL rest la st h
      | none => none
end EV
