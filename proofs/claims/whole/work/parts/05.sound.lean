/-! ===== what the pure interpreter says, the machine does ===== -/
/-- a method: name, code, locals, what it returns, frames and words of locals that it needs, its kind (0 static, 1 of an object, 2 a constructor), how many parameters -/
abbrev MI : Type := MethodName × ByteArray × Nat × Option FieldType × Nat × Nat × Nat × Nat
def isNest (w : Cond) : Bool := match w with
  | .fieldLinkNest _ _ _ _ _ _ => true
  | .methodLinkNest _ _ _ _ => true
  | _ => false
def okN (pos : Nat) (w : Cond) : Bool := decide (lw_tbl[pos]? = some w) && isNest w
theorem okN_mem {pos : Nat} {w : Cond} (h : okN pos w = true) : w ∈ lw_tbl ∧ isNest w = true := by
  unfold okN at h
  rw [Bool.and_eq_true, decide_eq_true_eq] at h
  exact ⟨List.mem_of_getElem? h.1, h.2⟩
def strOk (own : String) (idx k : Nat) : Bool := strTab.any (fun q => decide (q.1 = own ∧ q.2.1 = idx ∧ q.2.2.2 = k))
def tysOf (dA : Nat → ClassId) : List (ClassId × FieldType) := [(dA 100, .int), (dA 101, .byte), (dA 102, .boolean), (dA 103, .long), (dA 104, .object RX4)]
def isCD (w : Cond) : Bool := match w with
  | .castable _ _ => true
  | .declares _ => true
  | _ => false
/-- static fields of the JDK, and words of casts -/
def Gx (z : Nat) (Hz : Heap) (U : State) : Prop := (∀ w ∈ lw_tbl, isCD w = true → va_Nw w U) ∧ va_Z "java/lang/String" "COMPACT_STRINGS" "Z" (.int 1) (Az z) U Hz ∧ va_Zq "jdk/internal/util/Preconditions" "SIOOBE_FORMATTER" "Ljava/util/function/BiFunction;" (Az z) U Hz ∧ vx_Zq Bundle.tN "UNASSIGNED_STACK" Bundle.steD (Az z) U Hz ∧ vx_Zq Bundle.tN "SUPPRESSED_SENTINEL" Bundle.listD (Az z) U Hz
theorem Gx.warm {z : Nat} {Hz : Heap} {s U : State} (hW : s.WarmedH U.vm) (g : Gx z Hz s) : Gx z Hz U := by
  obtain ⟨g1, g2, g3, g4, g5⟩ := g
  refine ⟨fun w hw hn => ?_, g2.moved hW.alike, g3.moved hW.alike, g4.moved hW.alike, g5.moved hW.alike⟩
  have h := g1 w hw hn
  cases w <;> first | exact va_Nw.warmC hW h | exact va_Nw.warmD hW h | (simp [isCD] at hn; done)
/-- what holds of the tables, of the script's cell and of the constant texts at every state of the run -/
def Gs (D : va_G) (dA : Nat → ClassId) (z : Nat) (sa : Nat → Nat) (Hz : Heap) (U : State) : Prop :=
  va_K D cls (tysOf dA) U ∧ (∀ w ∈ lw_tbl, isNest w = true → va_Nw w U) ∧ (∀ q ∈ strTab, vk_R q.1 q.2.1 q.2.2.1 (sa q.2.2.2) U) ∧ va_AO RX4 U ∧
  (∀ k, 0 < k → k ≤ nStr → ∃ adV, va_O "java/lang/String" (sa k) (Az z) U Hz ∧ va_OF "java/lang/String" "coder" "B" (.int 0) (sa k) (Az z) U Hz ∧ va_OF "java/lang/String" "value" "[B" (.ref adV) (sa k) (Az z) U Hz ∧ va_T .byte adV (strBytes.getD k []).length (fun j => .int ((strBytes.getD k []).getD j 0)) (Az z) U Hz) ∧ Gx z Hz U
theorem Gs.warm {D : va_G} {dA : Nat → ClassId} {z : Nat} {sa : Nat → Nat} {Hz : Heap} {s U : State} (hW : s.WarmedH U.vm) (g : Gs D dA z sa Hz s) : Gs D dA z sa Hz U := by
  obtain ⟨g1, g2, g3, g4, g5, g6⟩ := g
  refine ⟨g1.moved hW.alike, fun w hw hn => ?_, fun q hq => (g3 q hq).warm hW, g4.moved hW.alike, fun k h1 h2 => ?_, g6.warm hW⟩
  · have h := g2 w hw hn
    cases w <;> first | exact va_Nw.warmF hW h | exact va_Nw.warmM hW h | (simp [isNest] at hn; done)
  · obtain ⟨v, a1, a2, a3, a4⟩ := g5 k h1 h2
    exact ⟨v, a1.moved hW.alike, a2.moved hW.alike, a3.moved hW.alike, a4.moved hW.alike⟩
theorem Gs.same {D : va_G} {dA : Nat → ClassId} {z : Nat} {sa : Nat → Nat} {Hz : Heap} {s U : State} (hv : U.vm = s.vm) (g : Gs D dA z sa Hz s) : Gs D dA z sa Hz U := g.warm (by rw [hv]; exact State.WarmedH.refl s)
def wsM (q : MI) : List Cond := Cond.code q.1 q.2.1 q.2.2.1 q.2.2.2.1 :: gW
def MOk (q : MI) : Prop := Cond.code q.1 q.2.1 q.2.2.1 q.2.2.2.1 ∈ gW ∧ Cond.initialized q.1.cls ∈ gW ∧ (q.1.cls ≠ "java/lang/invoke/MethodHandle" ∧ q.1.cls ≠ "java/lang/invoke/VarHandle") ∧ (parseMethodDescriptor q.1.desc).map (fun d => d.parameters.length) = some q.2.2.2.2.2.2.2 ∧
  (q.2.2.2.2.2.2.1 = 0 → Cond.static q.1 ∈ gW) ∧ (q.2.2.2.2.2.2.1 = 1 → Cond.instanceMethod q.1 ∈ gW ∧ Cond.selects q.1.cls q.1 q.1 ∈ gW) ∧ (q.2.2.2.2.2.2.1 = 2 → q.1.name = "<init>" ∧ Cond.instanceMethod q.1 ∈ gW ∧ q.2.2.2.1 = none)
def Pcc (D : va_G) (dA : Nat → ClassId) (z : Nat) (sa : Nat → Nat) (Hz : Heap) (As : List Value) (h : AH) : Array Value → State → Prop := fun v U => v = (As.map (cv z sa)).toArray ∧ Rel D dA z h U.heap ∧ Gs D dA z sa Hz U ∧ va_S (Az z) Hz U.heap [] ∧ Hz.size = z + 1
def Qcc (D : va_G) (dA : Nat → ClassId) (z : Nat) (v : Option Value) (h : AH) : Array Value → State → Outcome → State → Prop := fun _ st oc t => oc = .returned v ∧ Rel D dA z h t.heap ∧ va_F (Az z) st t
/-- a call's contract, for one run of the pure side -/
def CalOK (l : Launch) (D : va_G) (dA : Nat → ClassId) (z : Nat) (sa : Nat → Nat) (Hz : Heap) (q : MI) (As : List Value) (h : AH) (v : Option Value) (h' : AH) : Prop :=
  nx h ≤ nx h' ∧ us h ≤ us h' ∧ Met l q.1 (wsM q) { frames := q.2.2.2.2.1, cells := nx h' - nx h, slots := us h' - us h, locals := q.2.2.2.2.2.1 } (Pcc D dA z sa Hz As h) (Qcc D dA z v h') (nx h' - nx h) (us h' - us h) (Az z)
section SND
variable {p : Program} {l : Launch} {e : Env} {R : Room} {s : State} {m : MethodId} {args : Array Value} {below : List Frame} {meth : Method} {c : Code} {Q : State → Prop}
variable {cc : ByteArray} {own : String} {nL : Nat} {D : va_G} {dA : Nat → ClassId} {z : Nat} {sa : Nat → Nat} {Hz : Heap} {h0 fin : AH}
/-- the method that is walked -/
def Cx (p : Program) (R : Room) (s : State) (m : MethodId) (args : Array Value) (c : Code) (cc : ByteArray) (own : String) (nL : Nat) (D : va_G) (dA : Nat → ClassId) (z : Nat) (sa : Nat → Nat) (Hz : Heap) (h0 fin : AH) : Prop :=
  p.tables.exec = Jvm.exec ∧ c.code = cc ∧ c.maxLocals = nL ∧ s.vm.findClass own = some m.cls ∧ (∀ w ∈ gW, w.before args s = true) ∧ Gs D dA z sa Hz s ∧ s.heap.size = z + nx h0 ∧ Hz.size = z + 1 ∧ nx fin ≤ R.cells + nx h0 ∧ us fin ≤ R.slots + us h0
/-- from here on the machine comes to Q -/
def Gw (p : Program) (l : Launch) (e : Env) (R : Room) (s : State) (m : MethodId) (args : Array Value) (below : List Frame) (meth : Method) (c : Code) (Q : State → Prop) (nL : Nat) (D : va_G) (dA : Nat → ClassId) (z : Nat) (sa : Nat → Nat) (Hz : Heap) (h0 fin : AH) (pc : Nat) (la : LA) (st : List Value) (h : AH) : Prop :=
  nx h ≤ nx fin ∧ us h ≤ us fin ∧ ∀ (H : Heap) (locs : List Loc) (cells slots : Nat) (ls : Array Slot), Rel D dA z h H → va_S (Az z) Hz H locs → lv_has ls nL (cvl z sa la) → cells + nx h0 = nx h → slots + us h0 = us h → W p l e R s m args below meth c H locs cells slots Q (F0 m pc ls (st.map (cv z sa)))
theorem W_size {H : Heap} {locs : List Loc} {cells slots : Nat} {g : JFrame} (k : H.size ≤ s.heap.size + cells → W p l e R s m args below meth c H locs cells slots Q g) : W p l e R s m args below meth c H locs cells slots Q g :=
  fun T hT X => k (by rw [← hT]; exact X.heapSize) T hT X
/-- behind a write -/
theorem Gw.wrote (C : Cx p R s m args c cc own nL D dA z sa Hz h0 fin) {pc : Nat} {la : LA} {st : List Value} {h h' : AH} (k : Gw p l e R s m args below meth c Q nL D dA z sa Hz h0 fin pc la st h') (hn : nx h' = nx h) (hu : us h' = us h) (h2 : 2 ≤ nx h) (hw : Wf h')
    {H1 : Heap} {locs1 : List Loc} {cells slots : Nat} {ls : Array Slot} (hP : va_P D cls (wsOf dA z h') H1) (hS : va_S (Az z) Hz H1 locs1) (hl : lv_has ls nL (cvl z sa la)) (hc : cells + nx h0 = nx h) (hs : slots + us h0 = us h) :
    W p l e R s m args below meth c H1 locs1 cells slots Q (F0 m pc ls (st.map (cv z sa))) := by
  refine W_size fun hsz => ?_
  have h3 := size_of_P hP (by rw [hn]; exact h2)
  have h4 := C.2.2.2.2.2.2.1
  exact k.2.2 H1 locs1 cells slots ls ⟨hw, by omega, hP⟩ hS hl (by omega) (by omega)
-- the rows
theorem s_const (C : Cx p R s m args c cc own nL D dA z sa Hz h0 fin) {pc len : Nat} {la : LA} {st : List Value} {h : AH} {v : Value} (hv : cv z sa v = v)
    (row : ∀ {H : Heap} {locs : List Loc} {cells slots : Nat} {ls : Array Slot} {rest : List Value}, W p l e R s m args below meth c H locs cells slots Q (F0 m (pc + len) ls (v :: rest)) → W p l e R s m args below meth c H locs cells slots Q (F0 m pc ls rest))
    (k : Gw p l e R s m args below meth c Q nL D dA z sa Hz h0 fin (pc + len) la (v :: st) h) : Gw p l e R s m args below meth c Q nL D dA z sa Hz h0 fin pc la st h := by
  refine ⟨k.1, k.2.1, fun H locs cells slots ls hR hS hl hc hs => row ?_⟩
  have := k.2.2 H locs cells slots ls hR hS hl hc hs
  rw [List.map_cons, hv] at this
  exact this
theorem s_get (C : Cx p R s m args c cc own nL D dA z sa Hz h0 fin) {pc a ci k idx : Nat} {la : LA} {st : List Value} {h : AH} {q : vw_C} (hci : cls[ci]? = some q) (hin : ∀ w ∈ u_ws q.1 q.2.1 q.2.2, w ∈ gW) (hk : k < q.2.2) (ht : (tg h a).1 = ci)
    (hlink : Cond.fieldLink own idx (q.2.1 k).1 (q.2.1 k).2.1 (q.2.1 k).2.2.1 ∈ gW ∨ ∃ host, Cond.fieldLinkNest own idx (q.2.1 k).1 (q.2.1 k).2.1 (q.2.1 k).2.2.1 host ∈ lw_tbl) (hd : decode cc pc = .ok (.getfield idx, 3)) {v : Value} (hv : cv z sa v = fv z h a ci k)
    (kk : Gw p l e R s m args below meth c Q nL D dA z sa Hz h0 fin (pc + 3) la (v :: st) h) : Gw p l e R s m args below meth c Q nL D dA z sa Hz h0 fin pc la (.ref a :: st) h := by
  obtain ⟨hx, hb, hml, hown, hts, hG, -⟩ := id C
  refine ⟨kk.1, kk.2.1, fun H locs cells slots ls hR hS hl hc hs => ?_⟩
  have K := kk.2.2 H locs cells slots ls hR hS hl hc hs
  have h9 : ci < 10 := (List.getElem?_eq_some_iff.mp hci).1
  have hlt := hR.1.lt (by omega : ci ≠ 999) ht
  have he := hR.at (by omega : ci ≠ 999) ht
  rw [cell_ob (by omega) ht] at he
  obtain ⟨q', e1, e2⟩ := hR.1.2.2 a (by omega)
  rw [ht] at e1
  cases Option.some.inj (e1.symm.trans hci)
  rw [List.map_cons, show cv z sa (.ref a) = .ref (z + a) from cvr_pos hlt.1]
  rw [List.map_cons, hv] at K
  have hvv : ((List.range (tg h a).2).map (fv z h a ci))[k]? = some (fv z h a ci k) := by rw [List.getElem?_map, List.getElem?_range (by omega)]; rfl
  obtain ⟨Cn, T, N⟩ := q
  rcases hlink with hlink | ⟨host, hlink⟩
  · exact va_get hx hb hts hin hown hG.1 hR.2.2 (a - 1) he hci k hk (hts _ hlink) (fun x hx => hx) hvv hd K
  · exact va_getN hx hb hts hin hown hG.1 hR.2.2 (a - 1) he hci k hk (va_Nw.use rfl (hG.2.1 _ hlink rfl)) (fun x hx => hx) hvv hd K
end SND
