/-! ===== what a program checks of each instruction, and what follows ===== -/
def rmB (q : MI) (Rf Rl : Nat) : Bool := decide (q.2.2.2.2.1 + 1 ≤ Rf ∧ 8 + (q.2.2.1 + 11) + q.2.2.2.2.2.1 ≤ Rl)
def lnB (own : String) (idx : Nat) (y : MethodName) (pos : Nat) : Bool := okW pos (.methodLink own idx y) || (match lw_tbl[pos]? with
  | some (.methodLinkNest o i x _) => decide (o = own ∧ i = idx ∧ x = y)
  | _ => false)
theorem lnB_ok {own : String} {idx : Nat} {y : MethodName} {pos : Nat} (h : lnB own idx y pos = true) : Cond.methodLink own idx y ∈ gW ∨ ∃ host, Cond.methodLinkNest own idx y host ∈ lw_tbl := by
  unfold lnB at h
  rcases Bool.or_eq_true_iff.mp h with h | h
  · exact Or.inl (okW_mem h)
  · split at h
    · rename_i o i x host e
      obtain ⟨rfl, rfl, rfl⟩ := of_decide_eq_true h
      exact Or.inr ⟨host, List.mem_of_getElem? e⟩
    · cases h
def flB (own : String) (idx : Nat) (t : String × String × String × Bool) (pos : Nat) : Bool := okW pos (.fieldLink own idx t.1 t.2.1 t.2.2.1) || (match lw_tbl[pos]? with
  | some (.fieldLinkNest o i x n d _) => decide (o = own ∧ i = idx ∧ x = t.1 ∧ n = t.2.1 ∧ d = t.2.2.1)
  | _ => false)
theorem flB_ok {own : String} {idx : Nat} {t : String × String × String × Bool} {pos : Nat} (h : flB own idx t pos = true) : Cond.fieldLink own idx t.1 t.2.1 t.2.2.1 ∈ gW ∨ ∃ host, Cond.fieldLinkNest own idx t.1 t.2.1 t.2.2.1 host ∈ lw_tbl := by
  unfold flB at h
  rcases Bool.or_eq_true_iff.mp h with h | h
  · exact Or.inl (okW_mem h)
  · split at h
    · rename_i o i x n d host e
      obtain ⟨rfl, rfl, rfl, rfl, rfl⟩ := of_decide_eq_true h
      exact Or.inr ⟨host, List.mem_of_getElem? e⟩
    · cases h
def vB (MT : Nat → MI) (qL qC : MI) (sc : Bool) (Rf Rl nL : Nat) (own mn : String) (cc : ByteArray) (pc : Nat) (i : AI) : Bool :=
  decide (decode cc pc = .ok (i.1, i.2.1)) && (match i.1 with
  | .iconst n => decide (i.2.1 = 1 ∧ Int32.ofInt n = i.2.2.2)
  | .bipush n => decide (i.2.1 = 2 ∧ (Int8.ofInt n).toInt32 = i.2.2.2)
  | .sipush n => decide (i.2.1 = 3 ∧ (Int16.ofInt n).toInt32 = i.2.2.2)
  | .ldc idx => decide (i.2.1 = 2) && (match i.2.2.1 with
    | [k, pos] => if k = 0 then okW pos (.constant own idx i.2.2.2) else strOk own idx k
    | _ => false)
  | .ldc_w idx => decide (i.2.1 = 3) && (match i.2.2.1 with
    | [_, pos] => okW pos (.constant own idx i.2.2.2)
    | _ => false)
  | .lconst n => decide (i.2.1 = 1 ∧ Int64.ofNat (n : Nat) = i.2.2.2.toInt64)
  | .ldc2_w idx => decide (i.2.1 = 3) && (match i.2.2.1 with
    | [_, pos] => okW pos (.constantLong own idx i.2.2.2.toInt64)
    | _ => false)
  | .iload_n _ => decide (i.2.1 = 1)
  | .iload _ => decide (i.2.1 = 2)
  | .lload_n _ => decide (i.2.1 = 1)
  | .lload _ => decide (i.2.1 = 2)
  | .aload_n _ => decide (i.2.1 = 1)
  | .aload _ => decide (i.2.1 = 2)
  | .istore_n k => decide (i.2.1 = 1 ∧ (k : Nat) < nL)
  | .istore k => decide (i.2.1 = 2 ∧ k < nL)
  | .lstore_n k => decide (i.2.1 = 1 ∧ (k : Nat) + 1 < nL)
  | .lstore k => decide (i.2.1 = 2 ∧ k + 1 < nL)
  | .astore_n k => decide (i.2.1 = 1 ∧ (k : Nat) < nL)
  | .astore k => decide (i.2.1 = 2 ∧ k < nL)
  | .iinc k n => decide (i.2.1 = 3 ∧ k < nL ∧ Int32.ofInt n = i.2.2.2)
  | .goto off => decide (i.2.1 = 3 ∧ (pc : Int) + off = ((i.2.2.1.headD 0 : Nat) : Int))
  | .ifCond _ off => decide (i.2.1 = 3 ∧ (pc : Int) + off = ((i.2.2.1.headD 0 : Nat) : Int))
  | .if_icmp _ off => decide (i.2.1 = 3 ∧ (pc : Int) + off = ((i.2.2.1.headD 0 : Nat) : Int))
  | .ifnull off => decide (i.2.1 = 3 ∧ (pc : Int) + off = ((i.2.2.1.headD 0 : Nat) : Int))
  | .ifnonnull off => decide (i.2.1 = 3 ∧ (pc : Int) + off = ((i.2.2.1.headD 0 : Nat) : Int))
  | .tableswitch d lo hi offs => decide ((pc : Int) + d = ((i.2.2.1.headD 0 : Nat) : Int) ∧ i.2.2.1.length = offs.size + 1 ∧ hi - lo + 1 = (offs.size : Int)) && (List.range offs.size).all (fun j => decide ((pc : Int) + offs.getD j 0 = ((i.2.2.1.getD (j + 1) 0 : Nat) : Int)))
  | .getfield idx => decide (i.2.1 = 3) && (match i.2.2.1 with
    | [ci, k, ty, pos] => (match cls[ci]? with
      | some q => decide (k < q.2.2 ∧ fty ci k = ty) && flB own idx (q.2.1 k) pos
      | none => false)
    | _ => false)
  | .putfield idx => decide (i.2.1 = 3) && (match i.2.2.1 with
    | [ci, k, ty, pos] => (match cls[ci]? with
      | some q => decide (k < q.2.2 ∧ fty ci k = ty ∧ (ty = 0 → cty ci k = .int)) && flB own idx (q.2.1 k) pos && ((!(q.2.1 k).2.2.2) || (okW pos (.fieldLink own idx (q.2.1 k).1 (q.2.1 k).2.1 (q.2.1 k).2.2.1) && decide (mn = "<init>" ∧ (q.2.1 k).1 = own)))
      | none => false)
    | _ => false)
  | .new idx => decide (i.2.1 = 3) && (match i.2.2.1 with
    | [ci, n, pos] => (match cls[ci]? with
      | some q => decide (n = q.2.2 ∧ 0 < n) && okW pos (.classLink own idx q.1)
      | none => false)
    | _ => false)
  | .newarray a => decide (i.2.1 = 2 ∧ (i.2.2.1.headD 0 = 100 ∨ i.2.2.1.headD 0 = 101 ∨ i.2.2.1.headD 0 = 102 ∨ i.2.2.1.headD 0 = 103) ∧ a = atOf (i.2.2.1.headD 0))
  | .anewarray idx => decide (i.2.1 = 3) && okW (i.2.2.1.headD 0) (.classLink own idx RX4)
  | .arraylength => decide (i.2.1 = 1) && sc
  | .baload => decide (i.2.1 = 1 ∧ (i.2.2.1.headD 0 = 101 ∨ i.2.2.1.headD 0 = 102))
  | .bastore => decide (i.2.1 = 1 ∧ (i.2.2.1.headD 0 = 101 ∨ i.2.2.1.headD 0 = 102))
  | .aastore => decide (i.2.1 = 1 ∧ i.2.2.1.headD 0 = 3)
  | .invokespecial idx => decide (i.2.1 = 3) && (match i.2.2.1 with
    | [_, pos] => okW pos (.methodLink own idx objectInit) && decide (1 ≤ Rf ∧ 20 ≤ Rl)
    | [_, mi, n, pos] => lnB own idx (MT mi).1 pos && rmB (MT mi) Rf Rl && decide ((MT mi).2.2.2.2.2.2.1 = 2 ∧ n = (MT mi).2.2.2.2.2.2.2 + 1)
    | _ => false)
  | .invokestatic idx => decide (i.2.1 = 3) && (match i.2.2.1 with
    | [k, pos] => if k = 5 then okW pos (.methodLink own idx Lib.Math.max.name) && decide (1 ≤ Rf ∧ 30 ≤ Rl) else okW pos (.methodLink own idx arraycopyName) && decide (1 ≤ Rf ∧ 8 + (nativeFrameWords "java/lang/System" "arraycopy" 5 + 11) ≤ Rl)
    | [_, mi, n, pos] => lnB own idx (MT mi).1 pos && rmB (MT mi) Rf Rl && decide ((MT mi).2.2.2.2.2.2.1 = 0 ∧ n = (MT mi).2.2.2.2.2.2.2)
    | _ => false)
  | .invokevirtual idx => decide (i.2.1 = 3) && (match i.2.2.1 with
    | [k, pos] => if k = 5 then okW pos (.methodLink own idx qL.1) && rmB qL Rf Rl else okW pos (.methodLink own idx qC.1) && rmB qC Rf Rl
    | [_, mi, n, ci, pos] => lnB own idx (MT mi).1 pos && rmB (MT mi) Rf Rl && (match cls[ci]? with
      | some q => decide ((MT mi).2.2.2.2.2.2.1 = 1 ∧ n = (MT mi).2.2.2.2.2.2.2 + 1 ∧ q.1 = (MT mi).1.cls)
      | none => false)
    | _ => false)
  | _ => decide (i.2.1 = 1))
def isEnd (i : Instr) : Bool := match i with
  | .goto _ => true
  | .tableswitch _ _ _ _ => true
  | .ireturn => true
  | .lreturn => true
  | .return_ => true
  | _ => false
def vBL (MT : Nat → MI) (qL qC : MI) (sc : Bool) (Rf Rl nL : Nat) (own mn : String) (cc : ByteArray) (ft : Nat) : Nat → List AI → Bool
  | pc, [] => decide (pc = ft)
  | pc, i :: r => vB MT qL qC sc Rf Rl nL own mn cc pc i && (isEnd i.1 || vBL MT qL qC sc Rf Rl nL own mn cc ft (pc + i.2.1) r)
def GlobOk (qL qC : MI) : Prop := (∀ ci q, 0 < q.2.2 → cls[ci]? = some q → ClsOk ci q) ∧ (Cond.instanceMethod objectInit ∈ gW ∧ Cond.code objectInit ⟨#[0xb1]⟩ 1 none ∈ gW) ∧ (Cond.native arraycopyName ∈ gW ∧ Cond.static arraycopyName ∈ gW ∧ Cond.initialized "java/lang/System" ∈ gW) ∧ (∀ t, t = 100 ∨ t = 101 ∨ t = 102 ∨ t = 103 → Cond.arrayClass (newarray.typeOf (atOf t)) ∈ gW) ∧
  (MOk qL ∧ qL.2.2.2.2.2.2.1 = 1 ∧ qL.2.2.2.2.2.2.2 = 0 ∧ qL.1.cls = "java/lang/String") ∧ (MOk qC ∧ qC.2.2.2.2.2.2.1 = 1 ∧ qC.2.2.2.2.2.2.2 = 1 ∧ qC.1.cls = "java/lang/String") ∧ (Cond.static Lib.Math.max.name ∈ gW ∧ Cond.initialized "java/lang/Math" ∈ gW ∧ Cond.code Lib.Math.max.name Lib.Math.max.code 2 (some .int) ∈ gW)
theorem a1_inv {f : Int32 → Int32} {st st' : List Value} (h : a1 f st = some st') : ∃ x r, st = .int x :: r ∧ st' = .int (f x) :: r := by
  unfold a1 at h
  split at h
  · cases h; exact ⟨_, _, rfl, rfl⟩
  · cases h
theorem a2_inv {f : Int32 → Int32 → Int32} {st st' : List Value} (h : a2 f st = some st') : ∃ x y r, st = .int y :: .int x :: r ∧ st' = .int (f x y) :: r := by
  unfold a2 at h
  split at h
  · cases h; exact ⟨_, _, _, rfl, rfl⟩
  · cases h
theorem a2l_inv {f : Int64 → Int64 → Int64} {st st' : List Value} (h : a2l f st = some st') : ∃ x y r, st = .long y :: .long x :: r ∧ st' = .long (f x y) :: r := by
  unfold a2l at h
  split at h
  · cases h; exact ⟨_, _, _, rfl, rfl⟩
  · cases h
section MAIN
variable {p : Program} {l : Launch} {e : Env} {R : Room} {s : State} {m : MethodId} {args : Array Value} {below : List Frame} {meth : Method} {c : Code} {Q : State → Prop}
variable {cc : ByteArray} {own : String} {nL : Nat} {D : va_G} {dA : Nat → ClassId} {z : Nat} {sa : Nat → Nat} {Hz : Heap} {h0 fin : AH}
theorem s_ar (C : Cx p R s m args c cc own nL D dA z sa Hz h0 fin) {pc : Nat} {la : LA} {st st' : List Value} {h : AH} {ins : Instr} (hd : decode cc pc = .ok (ins, 1)) (ha : ar ins st = some st')
    (kk : Gw p l e R s m args below meth c Q nL D dA z sa Hz h0 fin (pc + 1) la st' h) : Gw p l e R s m args below meth c Q nL D dA z sa Hz h0 fin pc la st h := by
  obtain ⟨hx, hb, -⟩ := id C
  refine ⟨kk.1, kk.2.1, fun H locs cells slots ls hR hS hl hc hs => ?_⟩
  have K := kk.2.2 H locs cells slots ls hR hS hl hc hs
  cases ins with
  | iadd => obtain ⟨x, y, r, rfl, rfl⟩ := a2_inv ha; exact lv_iadd hx hb hd K
  | isub => obtain ⟨x, y, r, rfl, rfl⟩ := a2_inv ha; exact lv_isub hx hb hd K
  | imul => obtain ⟨x, y, r, rfl, rfl⟩ := a2_inv ha; exact lv_imul hx hb hd K
  | iand => obtain ⟨x, y, r, rfl, rfl⟩ := a2_inv ha; exact lv_iand hx hb hd K
  | ior => obtain ⟨x, y, r, rfl, rfl⟩ := a2_inv ha; exact lv_ior hx hb hd K
  | ixor => obtain ⟨x, y, r, rfl, rfl⟩ := a2_inv ha; exact lv_ixor hx hb hd K
  | ishl => obtain ⟨x, y, r, rfl, rfl⟩ := a2_inv ha; exact lv_ishl hx hb hd K
  | ishr => obtain ⟨x, y, r, rfl, rfl⟩ := a2_inv ha; exact lv_ishr hx hb hd K
  | iushr => obtain ⟨x, y, r, rfl, rfl⟩ := a2_inv ha; exact lv_iushr hx hb hd rfl K
  | i2b => obtain ⟨x, r, rfl, rfl⟩ := a1_inv ha; exact lv_i2b hx hb hd rfl K
  | ladd => obtain ⟨x, y, r, rfl, rfl⟩ := a2l_inv ha; exact lv_ladd hx hb hd K
  | lmul => obtain ⟨x, y, r, rfl, rfl⟩ := a2l_inv ha; exact lv_lmul hx hb hd K
  | i2l =>
    unfold ar at ha
    simp only at ha
    split at ha
    · cases ha; exact lv_i2l hx hb hd rfl K
    · cases ha
  | l2i =>
    unfold ar at ha
    simp only at ha
    split at ha
    · cases ha; exact lv_l2i hx hb hd rfl K
    · cases ha
  | lcmp =>
    unfold ar at ha
    simp only at ha
    split at ha
    · cases ha; exact W.lcmp hx hb hd K
    · cases ha
  | dup =>
    unfold ar at ha
    simp only at ha
    split at ha
    · cases ha; exact lv_dup hx hb hd rfl K
    · cases ha; exact lv_dup hx hb hd (cv_cat z sa (.ref _)) K
    · cases ha
  | dup2 =>
    unfold ar at ha
    simp only at ha
    split at ha
    · cases ha; exact lv_dup2_11 hx hb hd rfl (cv_cat z sa (.ref _)) K
    · cases ha
  | pop =>
    unfold ar at ha
    simp only at ha
    split at ha
    · cases ha; exact lv_pop hx hb hd rfl K
    · cases ha
  | _ => exact nomatch (show (none : Option (List Value)) = some st' from ha)
end MAIN
