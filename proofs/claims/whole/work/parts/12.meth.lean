/-! ===== a method: its stretches, its end, its contract ===== -/
def strLen (k : Nat) : Option Int32 := if 0 < k ∧ k ≤ nStr then some (Int32.ofNat (strBytes.getD k []).length) else none
def strCh (k : Nat) (i : Int32) : Option Int32 := if (0 < k ∧ k ≤ nStr) ∧ ¬ (i < 0 ∨ (strBytes.getD k []).length ≤ i.toNatClampNeg) then some ((strBytes.getD k []).getD i.toNatClampNeg 0) else none
def rtI (v : Option Value) (h : AH) : Option (Int32 × AH) := match v with
  | some (.int x) => some (x, h)
  | _ => none
def rtZ (v : Option Value) (h : AH) : Option (Int32 × AH) := match v with
  | some (.int x) => if x &&& 1 = x then some (x, h) else none
  | _ => none
def rtL (v : Option Value) (h : AH) : Option (Int64 × AH) := match v with
  | some (.long x) => some (x, h)
  | _ => none
def rtV (v : Option Value) (h : AH) : Option AH := match v with
  | none => some h
  | _ => none
def rmOf (q : MI) (h0 fin : AH) : Room := { frames := q.2.2.2.2.1, cells := nx fin - nx h0, slots := us fin - us h0, locals := q.2.2.2.2.2.1 }
/-- from this point of the method on: it returns v, with the memory fin -/
def GM (l : Launch) (D : va_G) (dA : Nat → ClassId) (z : Nat) (sa : Nat → Nat) (Hz : Heap) (q : MI) (h0 : AH) (v : Option Value) (fin : AH) (pc : Nat) (la : LA) (st : List Value) (h : AH) : Prop :=
  Mo fin h ∧ ∀ (p : Program) (e : Env) (s : State) (m : MethodId) (args : Array Value) (below : List Frame) (meth : Method) (c : Code), Cx p (rmOf q h0 fin) s m args c q.2.1 q.1.cls q.2.2.1 D dA z sa Hz h0 fin → meth.sig.returnType = q.2.2.2.1 → meth.locks = false → meth.name = q.1.name → va_S (Az z) Hz s.heap [] →
    Gw p l e (rmOf q h0 fin) s m args below meth c (MQ below (Qcc D dA z v fin) args s (nx fin - nx h0) (us fin - us h0) (Az z)) q.2.2.1 D dA z sa Hz h0 fin pc la st h
def RetOk (q : MI) (v : Option Value) : Prop := (q.2.2.2.1 = some .int ∧ ∃ x, v = some (.int x)) ∨ (q.2.2.2.1 = some .boolean ∧ ∃ x, v = some (.int x) ∧ x &&& 1 = x) ∨ (q.2.2.2.1 = some .long ∧ ∃ x, v = some (.long x)) ∨ (q.2.2.2.1 = none ∧ v = none)
section METH
variable {l : Launch} {D : va_G} {dA : Nat → ClassId} {z : Nat} {sa : Nat → Nat} {Hz : Heap} {q : MI} {h0 fin : AH} {v : Option Value}
theorem gm_fewer {pc : Nat} {la la' : LA} {st : List Value} {h : AH} (g : GM l D dA z sa Hz q h0 v fin pc la' st h) (hl : ∀ q ∈ la', q ∈ la) : GM l D dA z sa Hz q h0 v fin pc la st h :=
  ⟨g.1, fun p e s m args below meth c C r1 r2 r3 r4 => ⟨(g.2 p e s m args below meth c C r1 r2 r3 r4).1, (g.2 p e s m args below meth c C r1 r2 r3 r4).2.1, fun H locs cells slots ls hR hS hl2 hc hs => (g.2 p e s m args below meth c C r1 r2 r3 r4).2.2 H locs cells slots ls hR hS (lv_fewer hl2 (cvl_sub hl)) hc hs⟩⟩
theorem gm_ret (hret : RetOk q v) {p : Program} {e : Env} {s : State} {m : MethodId} {args : Array Value} {below : List Frame} {meth : Method} {c : Code} (C : Cx p (rmOf q h0 fin) s m args c q.2.1 q.1.cls q.2.2.1 D dA z sa Hz h0 fin) (hrt : meth.sig.returnType = q.2.2.2.1) (hlk : meth.locks = false) (hS0 : va_S (Az z) Hz s.heap []) {pc : Nat} {la : LA} {ins : Instr} (hd : decode q.2.1 pc = .ok (ins, 1))
    (hi : (ins = .ireturn ∧ ∃ x, v = some (.int x)) ∨ (ins = .lreturn ∧ ∃ x, v = some (.long x)) ∨ (ins = .return_ ∧ v = none)) :
    Gw p l e (rmOf q h0 fin) s m args below meth c (MQ below (Qcc D dA z v fin) args s (nx fin - nx h0) (us fin - us h0) (Az z)) q.2.2.1 D dA z sa Hz h0 fin pc la v.toList fin := by
  obtain ⟨hx, hb, hml, hown, hts, hG, hs0, hz0, hrc, hrs⟩ := id C
  refine ⟨Nat.le_refl _, Nat.le_refl _, fun H locs cells slots ls hR hS hl hc hs => ?_⟩
  have e1 : nx fin - nx h0 = cells := by omega
  have e2 : us fin - us h0 = slots := by omega
  rw [e1, e2]
  have hF : ∀ t : State, t.heap = H → va_F (Az z) s t := by
    intro t ht
    refine ⟨by rw [ht, hR.2.1, hs0]; omega, fun q hq hA => ?_⟩
    have hq1 : q < Hz.size := by rw [hz0]; exact Nat.lt_succ_of_le (Nat.not_lt.mp hA)
    rw [ht, hS.2.1 q hq1 hA, hS0.2.1 q hq1 hA]
  have hq9 : ∀ t : State, t.heap = H → s.WarmedH t.vm → Qcc D dA z v fin args s (.returned v) t := fun t ht _ => ⟨rfl, by rw [ht]; exact hR, hF t ht⟩
  rcases hi with ⟨rfl, x, rfl⟩ | ⟨rfl, x, rfl⟩ | ⟨rfl, rfl⟩
  · rcases hret with ⟨r1, -⟩ | ⟨r1, y, r2, r3⟩ | ⟨r1, y, r2⟩ | ⟨r1, r2⟩
    · exact W.iret hx hb (hrt.trans r1) hq9 hS.2.2 hd hlk
    · cases r2
      exact W.zret hx hb (hrt.trans r1) (by show Value.int (x &&& 1) = .int x; rw [r3]) hq9 hS.2.2 hd hlk
    · cases r2
    · cases r2
  · rcases hret with ⟨r1, y, r2⟩ | ⟨r1, y, r2, r3⟩ | ⟨r1, y, r2⟩ | ⟨r1, r2⟩
    · cases r2
    · cases r2
    · exact W.lret hx hb (hrt.trans r1) hq9 hS.2.2 hd hlk
    · cases r2
  · rcases hret with ⟨r1, y, r2⟩ | ⟨r1, y, r2, r3⟩ | ⟨r1, y, r2⟩ | ⟨r1, r2⟩
    · cases r2
    · cases r2
    · cases r2
    · exact W.vret hx hb (hrt.trans r1) hq9 hS.2.2 hd hlk
theorem lg_len (vs : List Value) : (lg_sl vs).length = (vs.map (fun v => if v.category = 2 then 2 else 1)).sum := by
  induction vs with
  | nil => rfl
  | cons v r ih =>
    unfold lg_sl at ih ⊢
    rw [List.flatMap_cons, List.length_append, ih, List.map_cons, List.sum_cons]
    by_cases e : v.category = 2
    · rw [if_pos e, if_pos e]; rfl
    · rw [if_neg e, if_neg e]; rfl
theorem lg_len_cv (As : List Value) : (lg_sl (As.map (cv z sa))).length = (lg_sl As).length := by
  rw [lg_len, lg_len, List.map_map]
  congr 2
  funext v
  show (if (cv z sa v).category = 2 then 2 else 1) = _
  rw [cv_cat]
theorem args_cv (As : List Value) : ∀ i : Nat, lv_args i (As.map (cv z sa)) = cvl z sa (lv_args i As) := by
  induction As with
  | nil => intro i; rfl
  | cons v r ih =>
    intro i
    show (i, cv z sa v) :: lv_args (if (cv z sa v).category = 2 then i + 2 else i + 1) (r.map (cv z sa)) = _
    rw [cv_cat, ih]
    rfl
theorem calOf (hp : plainName q.1.cls = true) {As : List Value} (hlen : (lg_sl As).length ≤ q.2.2.1) (g : GM l D dA z sa Hz q h0 v fin 0 (lv_args 0 As) [] h0) : CalOK l D dA z sa Hz q As h0 v fin := by
  refine ⟨g.1.1, g.1.2, Met.ofW (cc := q.2.1) (maxL := q.2.2.1) (ret := q.2.2.2.1) hp rfl ?_⟩
  intro p e s m args below meth c s₁ B hml hv
  obtain ⟨rfl, hR, hG, hS, hz0⟩ := hv
  have hts : ∀ w ∈ gW, w.before (As.map (cv z sa)).toArray s = true := fun w hw => atoms_spec (ws := wsM q) B.pre w (List.mem_cons_of_mem _ hw)
  have hown : s.vm.findClass q.1.cls = some m.cls := findClass_of_methodNamed B.named
  have C : Cx p (rmOf q h0 fin) s m (As.map (cv z sa)).toArray c q.2.1 q.1.cls q.2.2.1 D dA z sa Hz h0 fin :=
    ⟨B.exec, B.bytes, hml, hown, hts, hG, hR.2.1, hz0, by show nx fin ≤ nx fin - nx h0 + nx h0; have := g.1.1; omega, by show us fin ≤ us fin - us h0 + us h0; have := g.1.2; omega⟩
  have K := (g.2 p e s m _ below meth c C B.returns B.notSynchronized (name_of_methodNamed B.named B.method).1 hS).2.2 s.heap [] 0 0 ((lg_sl (As.map (cv z sa)) ++ List.replicate (q.2.2.1 - (lg_sl (As.map (cv z sa))).length) Slot.unset).toArray) hR hS
    (by rw [← args_cv]; exact lv_entry (As.map (cv z sa)) (by rw [lg_len_cv]; exact hlen)) (by omega) (by omega)
  rw [lg_entry_eq]
  exact K
end METH
