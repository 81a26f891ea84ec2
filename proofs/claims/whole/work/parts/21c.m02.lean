/-! ===== methods 50 to 74 ===== -/
def I_X7_answer_0 : List AI := [(.aload_n 0, 1, [], 0), (.iconst 0, 1, [], 0), (.putfield 74, 3, [6, 11, 0, 365], 0), (.iload_n 1, 1, [], 0), (.ireturn, 1, [], 0)]
theorem ok_X7_answer_0 : vBL MT qLen qCh false q_X7_answer.2.2.2.2.1 q_X7_answer.2.2.2.2.2.1 q_X7_answer.2.2.1 q_X7_answer.1.cls q_X7_answer.1.name q_X7_answer.2.1 0 0 I_X7_answer_0 = true := by decide +kernel
def p_X7_answer (a0 : Nat) (x1 : Int32) (h : AH) : Option (Int32 × AH) :=
  if (tg h a0).1 = 6 then (let h101 := wI h a0 11 ((0 : Int32))
  some (x1, h101)) else none
set_option maxRecDepth 100000 in
theorem e_X7_answer_0 {l : Launch} {D : va_G} {dA : Nat → ClassId} {z : Nat} {sa : Nat → Nat} {Hz : Heap} (E : StrOK qLen qCh l D dA z sa Hz) {h0 fin : AH} {x : Int32}  : ∀ (a0 : Nat) (x1 : Int32) (h : AH), p_X7_answer a0 x1 h = some (x, fin) → GM l D dA z sa Hz q_X7_answer h0 (some (.int x)) fin 0 [(0, .ref a0), (1, .int x1)] [] h := by
  intro a0 x1 h hd
  exact step E (is := I_X7_answer_0) (pc := 0) (K := k0) (FI := fI0) (FV := fV0) (FL := fL0) (rt := rtI) (ft := 0) (by exact hd) ok_X7_answer_0 k0_ok (fI0_ok E) (fV0_ok E) (fL0_ok E) (rtI_ok rfl)
theorem c_X7_answer {l : Launch} {D : va_G} {dA : Nat → ClassId} {z : Nat} {sa : Nat → Nat} {Hz : Heap} (E : StrOK qLen qCh l D dA z sa Hz) {a0 : Nat} {x1 : Int32} {h fin : AH} {x : Int32} (hd : p_X7_answer a0 x1 h = some (x, fin)) : CalOK l D dA z sa Hz q_X7_answer [.ref a0, .int x1] h (some (.int x)) fin := calOf (by decide +kernel) (Nat.le_of_ble_eq_true rfl) (e_X7_answer_0 E a0 x1 h hd)
def FI_X7_machine : Nat → List Value → AH → Option (Int32 × AH) := (cx 9 (fun As h => sR As fun a0 As => sI As fun x1 As => sE As (p_X7_refuse a0 x1 h)) (cx 43 (fun As h => sR As fun a0 As => sI As fun x1 As => sR As fun a2 As => sE As (p_X5_reads a0 x1 a2 h)) (cx 50 (fun As h => sR As fun a0 As => sI As fun x1 As => sE As (p_X7_answer a0 x1 h)) fI0)))
theorem FI_X7_machine_ok {l : Launch} {D : va_G} {dA : Nat → ClassId} {z : Nat} {sa : Nat → Nat} {Hz : Heap} (E : StrOK qLen qCh l D dA z sa Hz) : ∀ mi As h x h', FI_X7_machine mi As h = some (x, h') → CalOK l D dA z sa Hz (MT mi) As h (some (.int x)) h' := (cxI_ok (fun As h x h2 e => by obtain ⟨_, _, rfl, e0⟩ := sR_inv e; obtain ⟨_, _, rfl, e1⟩ := sI_inv e0; obtain ⟨rfl, ez⟩ := sE_inv e1; exact c_X7_refuse E ez) ((cxI_ok (fun As h x h2 e => by obtain ⟨_, _, rfl, e0⟩ := sR_inv e; obtain ⟨_, _, rfl, e1⟩ := sI_inv e0; obtain ⟨_, _, rfl, e2⟩ := sR_inv e1; obtain ⟨rfl, ez⟩ := sE_inv e2; exact c_X5_reads E ez) ((cxI_ok (fun As h x h2 e => by obtain ⟨_, _, rfl, e0⟩ := sR_inv e; obtain ⟨_, _, rfl, e1⟩ := sI_inv e0; obtain ⟨rfl, ez⟩ := sE_inv e1; exact c_X7_answer E ez) (fI0_ok E))))))
def FV_X7_machine : Nat → List Value → AH → Option (AH) := (cx 49 (fun As h => sR As fun a0 As => sE As (p_X7_begin a0 h)) fV0)
theorem FV_X7_machine_ok {l : Launch} {D : va_G} {dA : Nat → ClassId} {z : Nat} {sa : Nat → Nat} {Hz : Heap} (E : StrOK qLen qCh l D dA z sa Hz) : ∀ mi As h h', FV_X7_machine mi As h = some h' → CalOK l D dA z sa Hz (MT mi) As h none h' := (cxV_ok (fun As h h2 e => by obtain ⟨_, _, rfl, e0⟩ := sR_inv e; obtain ⟨rfl, ez⟩ := sE_inv e0; exact c_X7_begin E ez) (fV0_ok E))
def I_X7_machine_15 : List AI := [(.aload_n 0, 1, [], 0), (.iconst 2, 1, [], 2), (.invokevirtual 54, 3, [1, 9, 2, 6, 403], 0), (.ireturn, 1, [], 0)]
theorem ok_X7_machine_15 : vBL MT qLen qCh false q_X7_machine.2.2.2.2.1 q_X7_machine.2.2.2.2.2.1 q_X7_machine.2.2.1 q_X7_machine.1.cls q_X7_machine.1.name q_X7_machine.2.1 0 15 I_X7_machine_15 = true := by decide +kernel
def p_X7_machine_15 (a0 : Nat) (h : AH) : Option (Int32 × AH) :=
  if (tg h a0).1 = 6 then ((p_X7_refuse a0 ((2 : Int32)) h).bind fun q101 =>
  some (q101.1, q101.2)) else none
set_option maxRecDepth 100000 in
theorem e_X7_machine_15 {l : Launch} {D : va_G} {dA : Nat → ClassId} {z : Nat} {sa : Nat → Nat} {Hz : Heap} (E : StrOK qLen qCh l D dA z sa Hz) {h0 fin : AH} {x : Int32}  : ∀ (a0 : Nat) (h : AH), p_X7_machine_15 a0 h = some (x, fin) → GM l D dA z sa Hz q_X7_machine h0 (some (.int x)) fin 15 [(0, .ref a0)] [] h := by
  intro a0 h hd
  exact step E (is := I_X7_machine_15) (pc := 15) (K := k0) (FI := FI_X7_machine) (FV := FV_X7_machine) (FL := fL0) (rt := rtI) (ft := 0) (by exact hd) ok_X7_machine_15 k0_ok (FI_X7_machine_ok E) (FV_X7_machine_ok E) (fL0_ok E) (rtI_ok rfl)
def I_X7_machine_42 : List AI := [(.aload_n 0, 1, [], 0), (.getfield 23, 3, [6, 2, 2, 356], 0), (.astore_n 2, 1, [], 0), (.aload_n 0, 1, [], 0), (.aload_n 0, 1, [], 0), (.getfield 19, 3, [6, 1, 2, 355], 0), (.putfield 23, 3, [6, 2, 2, 356], 0), (.aload_n 0, 1, [], 0), (.aload_n 2, 1, [], 0), (.putfield 19, 3, [6, 1, 2, 355], 0), (.aload_n 0, 1, [], 0), (.invokevirtual 62, 3, [2, 49, 1, 6, 606], 0), (.aload_n 0, 1, [], 0), (.aload_n 0, 1, [], 0), (.getfield 19, 3, [6, 1, 2, 355], 0), (.getfield 65, 3, [5, 1, 0, 214], 0), (.invokevirtual 68, 3, [1, 50, 2, 6, 633], 0), (.ireturn, 1, [], 0)]
theorem ok_X7_machine_42 : vBL MT qLen qCh false q_X7_machine.2.2.2.2.1 q_X7_machine.2.2.2.2.2.1 q_X7_machine.2.2.1 q_X7_machine.1.cls q_X7_machine.1.name q_X7_machine.2.1 0 42 I_X7_machine_42 = true := by decide +kernel
def p_X7_machine_42 (a0 : Nat) (h : AH) : Option (Int32 × AH) :=
  if (tg h a0).1 = 6 then (let a102 := rR h a0 2
  if (tg h a0).1 = 6 then (if (tg h a0).1 = 6 then (let h103 := wR h a0 2 (rR h a0 1)
  if (tg h103 a0).1 = 6 then (let h104 := wR h103 a0 1 a102
  if (tg h104 a0).1 = 6 then ((p_X7_begin a0 h104).bind fun h105 =>
  if (tg h105 a0).1 = 6 then (if (tg h105 (rR h105 a0 1)).1 = 5 then (if (tg h105 a0).1 = 6 then ((p_X7_answer a0 (rI h105 (rR h105 a0 1) 1) h105).bind fun q106 =>
  some (q106.1, q106.2)) else none) else none) else none) else none) else none) else none) else none) else none
set_option maxRecDepth 100000 in
theorem e_X7_machine_42 {l : Launch} {D : va_G} {dA : Nat → ClassId} {z : Nat} {sa : Nat → Nat} {Hz : Heap} (E : StrOK qLen qCh l D dA z sa Hz) {h0 fin : AH} {x : Int32}  : ∀ (a0 : Nat) (h : AH), p_X7_machine_42 a0 h = some (x, fin) → GM l D dA z sa Hz q_X7_machine h0 (some (.int x)) fin 42 [(0, .ref a0)] [] h := by
  intro a0 h hd
  exact step E (is := I_X7_machine_42) (pc := 42) (K := k0) (FI := FI_X7_machine) (FV := FV_X7_machine) (FL := fL0) (rt := rtI) (ft := 0) (by exact hd) ok_X7_machine_42 k0_ok (FI_X7_machine_ok E) (FV_X7_machine_ok E) (fL0_ok E) (rtI_ok rfl)
def I_X7_machine_21 : List AI := [(.aload_n 0, 1, [], 0), (.getfield 10, 3, [6, 0, 2, 354], 0), (.iload_n 1, 1, [], 0), (.aload_n 0, 1, [], 0), (.getfield 23, 3, [6, 2, 2, 356], 0), (.invokevirtual 58, 3, [1, 43, 3, 4, 407], 0), (.ifCond .ne 9, 3, [42], 0), (.aload_n 0, 1, [], 0), (.iconst 4, 1, [], 4), (.invokevirtual 54, 3, [1, 9, 2, 6, 403], 0), (.ireturn, 1, [], 0)]
theorem ok_X7_machine_21 : vBL MT qLen qCh false q_X7_machine.2.2.2.2.1 q_X7_machine.2.2.2.2.2.1 q_X7_machine.2.2.1 q_X7_machine.1.cls q_X7_machine.1.name q_X7_machine.2.1 0 21 I_X7_machine_21 = true := by decide +kernel
def p_X7_machine_21 (a0 : Nat) (x1 : Int32) (h : AH) : Option (Int32 × AH) :=
  if (tg h a0).1 = 6 then (if (tg h a0).1 = 6 then (if (tg h (rR h a0 0)).1 = 4 then ((p_X5_reads (rR h a0 0) x1 (rR h a0 2) h).bind fun q107 =>
  if q107.1 = 0 then (if (tg q107.2 a0).1 = 6 then ((p_X7_refuse a0 ((4 : Int32)) q107.2).bind fun q113 =>
  some (q113.1, q113.2)) else none)
  else
  if (tg q107.2 a0).1 = 6 then (let a108 := rR q107.2 a0 2
  if (tg q107.2 a0).1 = 6 then (if (tg q107.2 a0).1 = 6 then (let h109 := wR q107.2 a0 2 (rR q107.2 a0 1)
  if (tg h109 a0).1 = 6 then (let h110 := wR h109 a0 1 a108
  if (tg h110 a0).1 = 6 then ((p_X7_begin a0 h110).bind fun h111 =>
  if (tg h111 a0).1 = 6 then (if (tg h111 (rR h111 a0 1)).1 = 5 then (if (tg h111 a0).1 = 6 then ((p_X7_answer a0 (rI h111 (rR h111 a0 1) 1) h111).bind fun q112 =>
  some (q112.1, q112.2)) else none) else none) else none) else none) else none) else none) else none) else none) else none) else none) else none
set_option maxRecDepth 100000 in
theorem e_X7_machine_21 {l : Launch} {D : va_G} {dA : Nat → ClassId} {z : Nat} {sa : Nat → Nat} {Hz : Heap} (E : StrOK qLen qCh l D dA z sa Hz) {h0 fin : AH} {x : Int32}  : ∀ (a0 : Nat) (x1 : Int32) (h : AH), p_X7_machine_21 a0 x1 h = some (x, fin) → GM l D dA z sa Hz q_X7_machine h0 (some (.int x)) fin 21 [(0, .ref a0), (1, .int x1)] [] h := by
  intro a0 x1 h hd
  exact step E (is := I_X7_machine_21) (pc := 21) (K := (kx 42 (fun la st h => gR la 0 fun a0 => sE st (p_X7_machine_42 a0 h)) k0)) (FI := FI_X7_machine) (FV := FV_X7_machine) (FL := fL0) (rt := rtI) (ft := 0) (by exact hd) ok_X7_machine_21 (kx_ok (fun la st h e => by obtain ⟨a0, m_a0, e1⟩ := gR_inv e; obtain ⟨rfl, ez⟩ := sE_inv e1; exact gm_fewer (e_X7_machine_42 E  a0 h ez) (mem_cons m_a0 mem_nil)) k0_ok) (FI_X7_machine_ok E) (FV_X7_machine_ok E) (fL0_ok E) (rtI_ok rfl)
def I_X7_machine_0 : List AI := [(.iload_n 1, 1, [], 0), (.ifCond .lt 14, 3, [15], 0), (.iload_n 1, 1, [], 0), (.aload_n 0, 1, [], 0), (.getfield 10, 3, [6, 0, 2, 354], 0), (.getfield 46, 3, [4, 1, 0, 146], 0), (.if_icmp .le 9, 3, [21], 0)]
theorem ok_X7_machine_0 : vBL MT qLen qCh false q_X7_machine.2.2.2.2.1 q_X7_machine.2.2.2.2.2.1 q_X7_machine.2.2.1 q_X7_machine.1.cls q_X7_machine.1.name q_X7_machine.2.1 15 0 I_X7_machine_0 = true := by decide +kernel
def p_X7_machine (a0 : Nat) (x1 : Int32) (h : AH) : Option (Int32 × AH) :=
  if x1 < 0 then (p_X7_machine_15 a0 h)
  else
  if (tg h a0).1 = 6 then (if (tg h (rR h a0 0)).1 = 4 then (if (rI h (rR h a0 0) 1) < x1 then (p_X7_machine_15 a0 h)
  else
  if (tg h a0).1 = 6 then (if (tg h a0).1 = 6 then (if (tg h (rR h a0 0)).1 = 4 then ((p_X5_reads (rR h a0 0) x1 (rR h a0 2) h).bind fun q114 =>
  if q114.1 = 0 then (if (tg q114.2 a0).1 = 6 then ((p_X7_refuse a0 ((4 : Int32)) q114.2).bind fun q120 =>
  some (q120.1, q120.2)) else none)
  else
  if (tg q114.2 a0).1 = 6 then (let a115 := rR q114.2 a0 2
  if (tg q114.2 a0).1 = 6 then (if (tg q114.2 a0).1 = 6 then (let h116 := wR q114.2 a0 2 (rR q114.2 a0 1)
  if (tg h116 a0).1 = 6 then (let h117 := wR h116 a0 1 a115
  if (tg h117 a0).1 = 6 then ((p_X7_begin a0 h117).bind fun h118 =>
  if (tg h118 a0).1 = 6 then (if (tg h118 (rR h118 a0 1)).1 = 5 then (if (tg h118 a0).1 = 6 then ((p_X7_answer a0 (rI h118 (rR h118 a0 1) 1) h118).bind fun q119 =>
  some (q119.1, q119.2)) else none) else none) else none) else none) else none) else none) else none) else none) else none) else none) else none) else none) else none
set_option maxRecDepth 100000 in
theorem e_X7_machine_0 {l : Launch} {D : va_G} {dA : Nat → ClassId} {z : Nat} {sa : Nat → Nat} {Hz : Heap} (E : StrOK qLen qCh l D dA z sa Hz) {h0 fin : AH} {x : Int32}  : ∀ (a0 : Nat) (x1 : Int32) (h : AH), p_X7_machine a0 x1 h = some (x, fin) → GM l D dA z sa Hz q_X7_machine h0 (some (.int x)) fin 0 [(0, .ref a0), (1, .int x1)] [] h := by
  intro a0 x1 h hd
  exact step E (is := I_X7_machine_0) (pc := 0) (K := (kx 15 (fun la st h => gR la 0 fun a0 => sE st (p_X7_machine_15 a0 h)) (kx 21 (fun la st h => gR la 0 fun a0 => gI la 1 fun x1 => sE st (p_X7_machine_21 a0 x1 h)) k0))) (FI := FI_X7_machine) (FV := FV_X7_machine) (FL := fL0) (rt := rtI) (ft := 15) (by exact hd) ok_X7_machine_0 (kx_ok (fun la st h e => by obtain ⟨a0, m_a0, e1⟩ := gR_inv e; obtain ⟨rfl, ez⟩ := sE_inv e1; exact gm_fewer (e_X7_machine_15 E  a0 h ez) (mem_cons m_a0 mem_nil)) (kx_ok (fun la st h e => by obtain ⟨a0, m_a0, e1⟩ := gR_inv e; obtain ⟨x1, m_x1, e2⟩ := gI_inv e1; obtain ⟨rfl, ez⟩ := sE_inv e2; exact gm_fewer (e_X7_machine_21 E  a0 x1 h ez) (mem_cons m_a0 (mem_cons m_x1 mem_nil))) k0_ok)) (FI_X7_machine_ok E) (FV_X7_machine_ok E) (fL0_ok E) (rtI_ok rfl)
theorem c_X7_machine {l : Launch} {D : va_G} {dA : Nat → ClassId} {z : Nat} {sa : Nat → Nat} {Hz : Heap} (E : StrOK qLen qCh l D dA z sa Hz) {a0 : Nat} {x1 : Int32} {h fin : AH} {x : Int32} (hd : p_X7_machine a0 x1 h = some (x, fin)) : CalOK l D dA z sa Hz q_X7_machine [.ref a0, .int x1] h (some (.int x)) fin := calOf (by decide +kernel) (Nat.le_of_ble_eq_true rfl) (e_X7_machine_0 E a0 x1 h hd)
def I_X7_fault_0 : List AI := [(.aload_n 0, 1, [], 0), (.getfield 10, 3, [6, 0, 2, 354], 0), (.getfield 71, 3, [4, 7, 0, 154], 0), (.ireturn, 1, [], 0)]
theorem ok_X7_fault_0 : vBL MT qLen qCh false q_X7_fault.2.2.2.2.1 q_X7_fault.2.2.2.2.2.1 q_X7_fault.2.2.1 q_X7_fault.1.cls q_X7_fault.1.name q_X7_fault.2.1 0 0 I_X7_fault_0 = true := by decide +kernel
def p_X7_fault (a0 : Nat) (h : AH) : Option (Int32 × AH) :=
  if (tg h a0).1 = 6 then (if (tg h (rR h a0 0)).1 = 4 then (some ((rI h (rR h a0 0) 7), h)) else none) else none
set_option maxRecDepth 100000 in
theorem e_X7_fault_0 {l : Launch} {D : va_G} {dA : Nat → ClassId} {z : Nat} {sa : Nat → Nat} {Hz : Heap} (E : StrOK qLen qCh l D dA z sa Hz) {h0 fin : AH} {x : Int32}  : ∀ (a0 : Nat) (h : AH), p_X7_fault a0 h = some (x, fin) → GM l D dA z sa Hz q_X7_fault h0 (some (.int x)) fin 0 [(0, .ref a0)] [] h := by
  intro a0 h hd
  exact step E (is := I_X7_fault_0) (pc := 0) (K := k0) (FI := fI0) (FV := fV0) (FL := fL0) (rt := rtI) (ft := 0) (by exact hd) ok_X7_fault_0 k0_ok (fI0_ok E) (fV0_ok E) (fL0_ok E) (rtI_ok rfl)
theorem c_X7_fault {l : Launch} {D : va_G} {dA : Nat → ClassId} {z : Nat} {sa : Nat → Nat} {Hz : Heap} (E : StrOK qLen qCh l D dA z sa Hz) {a0 : Nat} {h fin : AH} {x : Int32} (hd : p_X7_fault a0 h = some (x, fin)) : CalOK l D dA z sa Hz q_X7_fault [.ref a0] h (some (.int x)) fin := calOf (by decide +kernel) (Nat.le_of_ble_eq_true rfl) (e_X7_fault_0 E a0 h hd)
def I_X7_where_19 : List AI := [(.ireturn, 1, [], 0)]
theorem ok_X7_where_19 : vBL MT qLen qCh false q_X7_where.2.2.2.2.1 q_X7_where.2.2.2.2.2.1 q_X7_where.2.2.1 q_X7_where.1.cls q_X7_where.1.name q_X7_where.2.1 0 19 I_X7_where_19 = true := by decide +kernel
def p_X7_where_19 (y0 : Int32) (h : AH) : Option (Int32 × AH) :=
  some (y0, h)
set_option maxRecDepth 100000 in
theorem e_X7_where_19 {l : Launch} {D : va_G} {dA : Nat → ClassId} {z : Nat} {sa : Nat → Nat} {Hz : Heap} (E : StrOK qLen qCh l D dA z sa Hz) {h0 fin : AH} {x : Int32}  : ∀ (y0 : Int32) (h : AH), p_X7_where_19 y0 h = some (x, fin) → GM l D dA z sa Hz q_X7_where h0 (some (.int x)) fin 19 [] [.int y0] h := by
  intro y0 h hd
  exact step E (is := I_X7_where_19) (pc := 19) (K := k0) (FI := fI0) (FV := fV0) (FL := fL0) (rt := rtI) (ft := 0) (by exact hd) ok_X7_where_19 k0_ok (fI0_ok E) (fV0_ok E) (fL0_ok E) (rtI_ok rfl)
def I_X7_where_18 : List AI := [(.iconst (-1), 1, [], (-1))]
theorem ok_X7_where_18 : vBL MT qLen qCh false q_X7_where.2.2.2.2.1 q_X7_where.2.2.2.2.2.1 q_X7_where.2.2.1 q_X7_where.1.cls q_X7_where.1.name q_X7_where.2.1 19 18 I_X7_where_18 = true := by decide +kernel
def p_X7_where_18 (h : AH) : Option (Int32 × AH) :=
  p_X7_where_19 ((-1 : Int32)) h
set_option maxRecDepth 100000 in
theorem e_X7_where_18 {l : Launch} {D : va_G} {dA : Nat → ClassId} {z : Nat} {sa : Nat → Nat} {Hz : Heap} (E : StrOK qLen qCh l D dA z sa Hz) {h0 fin : AH} {x : Int32}  : ∀  (h : AH), p_X7_where_18 h = some (x, fin) → GM l D dA z sa Hz q_X7_where h0 (some (.int x)) fin 18 [] [] h := by
  intro h hd
  exact step E (is := I_X7_where_18) (pc := 18) (K := (kx 19 (fun la st h => sI st fun y0 st => sE st (p_X7_where_19 y0 h)) k0)) (FI := fI0) (FV := fV0) (FL := fL0) (rt := rtI) (ft := 19) (by exact hd) ok_X7_where_18 (kx_ok (fun la st h e => by obtain ⟨y0, _, rfl, e1⟩ := sI_inv e; obtain ⟨rfl, ez⟩ := sE_inv e1; exact gm_fewer (e_X7_where_19 E  y0 h ez) mem_nil) k0_ok) (fI0_ok E) (fV0_ok E) (fL0_ok E) (rtI_ok rfl)
def I_X7_where_0 : List AI := [(.aload_n 0, 1, [], 0), (.getfield 74, 3, [6, 11, 0, 365], 0), (.iconst 4, 1, [], 4), (.if_icmp .ne 13, 3, [18], 0), (.aload_n 0, 1, [], 0), (.getfield 10, 3, [6, 0, 2, 354], 0), (.getfield 77, 3, [4, 8, 0, 156], 0), (.goto 4, 3, [19], 0)]
theorem ok_X7_where_0 : vBL MT qLen qCh false q_X7_where.2.2.2.2.1 q_X7_where.2.2.2.2.2.1 q_X7_where.2.2.1 q_X7_where.1.cls q_X7_where.1.name q_X7_where.2.1 0 0 I_X7_where_0 = true := by decide +kernel
def p_X7_where (a0 : Nat) (h : AH) : Option (Int32 × AH) :=
  if (tg h a0).1 = 6 then (if (rI h a0 11) = ((4 : Int32)) then (if (tg h a0).1 = 6 then (if (tg h (rR h a0 0)).1 = 4 then (p_X7_where_19 (rI h (rR h a0 0) 8) h) else none) else none)
  else
  p_X7_where_19 ((-1 : Int32)) h) else none
set_option maxRecDepth 100000 in
theorem e_X7_where_0 {l : Launch} {D : va_G} {dA : Nat → ClassId} {z : Nat} {sa : Nat → Nat} {Hz : Heap} (E : StrOK qLen qCh l D dA z sa Hz) {h0 fin : AH} {x : Int32}  : ∀ (a0 : Nat) (h : AH), p_X7_where a0 h = some (x, fin) → GM l D dA z sa Hz q_X7_where h0 (some (.int x)) fin 0 [(0, .ref a0)] [] h := by
  intro a0 h hd
  exact step E (is := I_X7_where_0) (pc := 0) (K := (kx 18 (fun la st h => sE st (p_X7_where_18 h)) (kx 19 (fun la st h => sI st fun y0 st => sE st (p_X7_where_19 y0 h)) k0))) (FI := fI0) (FV := fV0) (FL := fL0) (rt := rtI) (ft := 0) (by exact hd) ok_X7_where_0 (kx_ok (fun la st h e => by obtain ⟨rfl, ez⟩ := sE_inv e; exact gm_fewer (e_X7_where_18 E   h ez) mem_nil) (kx_ok (fun la st h e => by obtain ⟨y0, _, rfl, e1⟩ := sI_inv e; obtain ⟨rfl, ez⟩ := sE_inv e1; exact gm_fewer (e_X7_where_19 E  y0 h ez) mem_nil) k0_ok)) (fI0_ok E) (fV0_ok E) (fL0_ok E) (rtI_ok rfl)
theorem c_X7_where {l : Launch} {D : va_G} {dA : Nat → ClassId} {z : Nat} {sa : Nat → Nat} {Hz : Heap} (E : StrOK qLen qCh l D dA z sa Hz) {a0 : Nat} {h fin : AH} {x : Int32} (hd : p_X7_where a0 h = some (x, fin)) : CalOK l D dA z sa Hz q_X7_where [.ref a0] h (some (.int x)) fin := calOf (by decide +kernel) (Nat.le_of_ble_eq_true rfl) (e_X7_where_0 E a0 h hd)
def I_X7_isFrame_22 : List AI := [(.ireturn, 1, [], 0)]
theorem ok_X7_isFrame_22 : vBL MT qLen qCh false q_X7_isFrame.2.2.2.2.1 q_X7_isFrame.2.2.2.2.2.1 q_X7_isFrame.2.2.1 q_X7_isFrame.1.cls q_X7_isFrame.1.name q_X7_isFrame.2.1 0 22 I_X7_isFrame_22 = true := by decide +kernel
def p_X7_isFrame_22 (y0 : Int32) (h : AH) : Option (Int32 × AH) :=
  if y0 &&& 1 = y0 then some (y0, h) else none
set_option maxRecDepth 100000 in
theorem e_X7_isFrame_22 {l : Launch} {D : va_G} {dA : Nat → ClassId} {z : Nat} {sa : Nat → Nat} {Hz : Heap} (E : StrOK qLen qCh l D dA z sa Hz) {h0 fin : AH} {x : Int32}  : ∀ (y0 : Int32) (h : AH), p_X7_isFrame_22 y0 h = some (x, fin) → GM l D dA z sa Hz q_X7_isFrame h0 (some (.int x)) fin 22 [] [.int y0] h := by
  intro y0 h hd
  exact step E (is := I_X7_isFrame_22) (pc := 22) (K := k0) (FI := fI0) (FV := fV0) (FL := fL0) (rt := rtZ) (ft := 0) (by exact hd) ok_X7_isFrame_22 k0_ok (fI0_ok E) (fV0_ok E) (fL0_ok E) (rtZ_ok rfl)
def I_X7_isFrame_21 : List AI := [(.iconst 0, 1, [], 0)]
theorem ok_X7_isFrame_21 : vBL MT qLen qCh false q_X7_isFrame.2.2.2.2.1 q_X7_isFrame.2.2.2.2.2.1 q_X7_isFrame.2.2.1 q_X7_isFrame.1.cls q_X7_isFrame.1.name q_X7_isFrame.2.1 22 21 I_X7_isFrame_21 = true := by decide +kernel
def p_X7_isFrame_21 (h : AH) : Option (Int32 × AH) :=
  p_X7_isFrame_22 ((0 : Int32)) h
set_option maxRecDepth 100000 in
theorem e_X7_isFrame_21 {l : Launch} {D : va_G} {dA : Nat → ClassId} {z : Nat} {sa : Nat → Nat} {Hz : Heap} (E : StrOK qLen qCh l D dA z sa Hz) {h0 fin : AH} {x : Int32}  : ∀  (h : AH), p_X7_isFrame_21 h = some (x, fin) → GM l D dA z sa Hz q_X7_isFrame h0 (some (.int x)) fin 21 [] [] h := by
  intro h hd
  exact step E (is := I_X7_isFrame_21) (pc := 21) (K := (kx 22 (fun la st h => sI st fun y0 st => sE st (p_X7_isFrame_22 y0 h)) k0)) (FI := fI0) (FV := fV0) (FL := fL0) (rt := rtZ) (ft := 22) (by exact hd) ok_X7_isFrame_21 (kx_ok (fun la st h e => by obtain ⟨y0, _, rfl, e1⟩ := sI_inv e; obtain ⟨rfl, ez⟩ := sE_inv e1; exact gm_fewer (e_X7_isFrame_22 E  y0 h ez) mem_nil) k0_ok) (fI0_ok E) (fV0_ok E) (fL0_ok E) (rtZ_ok rfl)
def I_X7_isFrame_0 : List AI := [(.aload_n 0, 1, [], 0), (.getfield 107, 3, [6, 3, 3, 357], 0), (.ifCond .eq 17, 3, [21], 0), (.iload_n 1, 1, [], 0), (.ifCond .lt 13, 3, [21], 0), (.iload_n 1, 1, [], 0), (.bipush 16, 2, [], 16), (.if_icmp .ge 7, 3, [21], 0), (.iconst 1, 1, [], 1), (.goto 4, 3, [22], 0)]
theorem ok_X7_isFrame_0 : vBL MT qLen qCh false q_X7_isFrame.2.2.2.2.1 q_X7_isFrame.2.2.2.2.2.1 q_X7_isFrame.2.2.1 q_X7_isFrame.1.cls q_X7_isFrame.1.name q_X7_isFrame.2.1 0 0 I_X7_isFrame_0 = true := by decide +kernel
def p_X7_isFrame (a0 : Nat) (x1 : Int32) (h : AH) : Option (Int32 × AH) :=
  if (tg h a0).1 = 6 then (if (rI h a0 3) = 0 then (p_X7_isFrame_21 h)
  else
  if x1 < 0 then (p_X7_isFrame_21 h)
  else
  if x1 < ((16 : Int32)) then (p_X7_isFrame_22 ((1 : Int32)) h)
  else
  p_X7_isFrame_21 h) else none
set_option maxRecDepth 100000 in
theorem e_X7_isFrame_0 {l : Launch} {D : va_G} {dA : Nat → ClassId} {z : Nat} {sa : Nat → Nat} {Hz : Heap} (E : StrOK qLen qCh l D dA z sa Hz) {h0 fin : AH} {x : Int32}  : ∀ (a0 : Nat) (x1 : Int32) (h : AH), p_X7_isFrame a0 x1 h = some (x, fin) → GM l D dA z sa Hz q_X7_isFrame h0 (some (.int x)) fin 0 [(0, .ref a0), (1, .int x1)] [] h := by
  intro a0 x1 h hd
  exact step E (is := I_X7_isFrame_0) (pc := 0) (K := (kx 21 (fun la st h => sE st (p_X7_isFrame_21 h)) (kx 22 (fun la st h => sI st fun y0 st => sE st (p_X7_isFrame_22 y0 h)) k0))) (FI := fI0) (FV := fV0) (FL := fL0) (rt := rtZ) (ft := 0) (by exact hd) ok_X7_isFrame_0 (kx_ok (fun la st h e => by obtain ⟨rfl, ez⟩ := sE_inv e; exact gm_fewer (e_X7_isFrame_21 E   h ez) mem_nil) (kx_ok (fun la st h e => by obtain ⟨y0, _, rfl, e1⟩ := sI_inv e; obtain ⟨rfl, ez⟩ := sE_inv e1; exact gm_fewer (e_X7_isFrame_22 E  y0 h ez) mem_nil) k0_ok)) (fI0_ok E) (fV0_ok E) (fL0_ok E) (rtZ_ok rfl)
theorem c_X7_isFrame {l : Launch} {D : va_G} {dA : Nat → ClassId} {z : Nat} {sa : Nat → Nat} {Hz : Heap} (E : StrOK qLen qCh l D dA z sa Hz) {a0 : Nat} {x1 : Int32} {h fin : AH} {x : Int32} (hd : p_X7_isFrame a0 x1 h = some (x, fin)) : CalOK l D dA z sa Hz q_X7_isFrame [.ref a0, .int x1] h (some (.int x)) fin := calOf (by decide +kernel) (Nat.le_of_ble_eq_true rfl) (e_X7_isFrame_0 E a0 x1 h hd)
def I_X7_isPlace_15 : List AI := [(.ireturn, 1, [], 0)]
theorem ok_X7_isPlace_15 : vBL MT qLen qCh false q_X7_isPlace.2.2.2.2.1 q_X7_isPlace.2.2.2.2.2.1 q_X7_isPlace.2.2.1 q_X7_isPlace.1.cls q_X7_isPlace.1.name q_X7_isPlace.2.1 0 15 I_X7_isPlace_15 = true := by decide +kernel
def p_X7_isPlace_15 (y0 : Int32) (h : AH) : Option (Int32 × AH) :=
  if y0 &&& 1 = y0 then some (y0, h) else none
set_option maxRecDepth 100000 in
theorem e_X7_isPlace_15 {l : Launch} {D : va_G} {dA : Nat → ClassId} {z : Nat} {sa : Nat → Nat} {Hz : Heap} (E : StrOK qLen qCh l D dA z sa Hz) {h0 fin : AH} {x : Int32}  : ∀ (y0 : Int32) (h : AH), p_X7_isPlace_15 y0 h = some (x, fin) → GM l D dA z sa Hz q_X7_isPlace h0 (some (.int x)) fin 15 [] [.int y0] h := by
  intro y0 h hd
  exact step E (is := I_X7_isPlace_15) (pc := 15) (K := k0) (FI := fI0) (FV := fV0) (FL := fL0) (rt := rtZ) (ft := 0) (by exact hd) ok_X7_isPlace_15 k0_ok (fI0_ok E) (fV0_ok E) (fL0_ok E) (rtZ_ok rfl)
def I_X7_isPlace_14 : List AI := [(.iconst 0, 1, [], 0)]
theorem ok_X7_isPlace_14 : vBL MT qLen qCh false q_X7_isPlace.2.2.2.2.1 q_X7_isPlace.2.2.2.2.2.1 q_X7_isPlace.2.2.1 q_X7_isPlace.1.cls q_X7_isPlace.1.name q_X7_isPlace.2.1 15 14 I_X7_isPlace_14 = true := by decide +kernel
def p_X7_isPlace_14 (h : AH) : Option (Int32 × AH) :=
  p_X7_isPlace_15 ((0 : Int32)) h
set_option maxRecDepth 100000 in
theorem e_X7_isPlace_14 {l : Launch} {D : va_G} {dA : Nat → ClassId} {z : Nat} {sa : Nat → Nat} {Hz : Heap} (E : StrOK qLen qCh l D dA z sa Hz) {h0 fin : AH} {x : Int32}  : ∀  (h : AH), p_X7_isPlace_14 h = some (x, fin) → GM l D dA z sa Hz q_X7_isPlace h0 (some (.int x)) fin 14 [] [] h := by
  intro h hd
  exact step E (is := I_X7_isPlace_14) (pc := 14) (K := (kx 15 (fun la st h => sI st fun y0 st => sE st (p_X7_isPlace_15 y0 h)) k0)) (FI := fI0) (FV := fV0) (FL := fL0) (rt := rtZ) (ft := 15) (by exact hd) ok_X7_isPlace_14 (kx_ok (fun la st h e => by obtain ⟨y0, _, rfl, e1⟩ := sI_inv e; obtain ⟨rfl, ez⟩ := sE_inv e1; exact gm_fewer (e_X7_isPlace_15 E  y0 h ez) mem_nil) k0_ok) (fI0_ok E) (fV0_ok E) (fL0_ok E) (rtZ_ok rfl)
def I_X7_isPlace_0 : List AI := [(.iload_n 0, 1, [], 0), (.ifCond .lt 13, 3, [14], 0), (.iload_n 0, 1, [], 0), (.bipush 8, 2, [], 8), (.if_icmp .ge 7, 3, [14], 0), (.iconst 1, 1, [], 1), (.goto 4, 3, [15], 0)]
theorem ok_X7_isPlace_0 : vBL MT qLen qCh false q_X7_isPlace.2.2.2.2.1 q_X7_isPlace.2.2.2.2.2.1 q_X7_isPlace.2.2.1 q_X7_isPlace.1.cls q_X7_isPlace.1.name q_X7_isPlace.2.1 0 0 I_X7_isPlace_0 = true := by decide +kernel
def p_X7_isPlace (x0 : Int32) (h : AH) : Option (Int32 × AH) :=
  if x0 < 0 then (p_X7_isPlace_14 h)
  else
  if x0 < ((8 : Int32)) then (p_X7_isPlace_15 ((1 : Int32)) h)
  else
  p_X7_isPlace_14 h
set_option maxRecDepth 100000 in
theorem e_X7_isPlace_0 {l : Launch} {D : va_G} {dA : Nat → ClassId} {z : Nat} {sa : Nat → Nat} {Hz : Heap} (E : StrOK qLen qCh l D dA z sa Hz) {h0 fin : AH} {x : Int32}  : ∀ (x0 : Int32) (h : AH), p_X7_isPlace x0 h = some (x, fin) → GM l D dA z sa Hz q_X7_isPlace h0 (some (.int x)) fin 0 [(0, .int x0)] [] h := by
  intro x0 h hd
  exact step E (is := I_X7_isPlace_0) (pc := 0) (K := (kx 14 (fun la st h => sE st (p_X7_isPlace_14 h)) (kx 15 (fun la st h => sI st fun y0 st => sE st (p_X7_isPlace_15 y0 h)) k0))) (FI := fI0) (FV := fV0) (FL := fL0) (rt := rtZ) (ft := 0) (by exact hd) ok_X7_isPlace_0 (kx_ok (fun la st h e => by obtain ⟨rfl, ez⟩ := sE_inv e; exact gm_fewer (e_X7_isPlace_14 E   h ez) mem_nil) (kx_ok (fun la st h e => by obtain ⟨y0, _, rfl, e1⟩ := sI_inv e; obtain ⟨rfl, ez⟩ := sE_inv e1; exact gm_fewer (e_X7_isPlace_15 E  y0 h ez) mem_nil) k0_ok)) (fI0_ok E) (fV0_ok E) (fL0_ok E) (rtZ_ok rfl)
theorem c_X7_isPlace {l : Launch} {D : va_G} {dA : Nat → ClassId} {z : Nat} {sa : Nat → Nat} {Hz : Heap} (E : StrOK qLen qCh l D dA z sa Hz) {x0 : Int32} {h fin : AH} {x : Int32} (hd : p_X7_isPlace x0 h = some (x, fin)) : CalOK l D dA z sa Hz q_X7_isPlace [.int x0] h (some (.int x)) fin := calOf (by decide +kernel) (Nat.le_of_ble_eq_true rfl) (e_X7_isPlace_0 E x0 h hd)
def I_X1_wordAt_0 : List AI := [(.aload_n 0, 1, [], 0), (.getfield 9, 3, [0, 0, 2, 189], 0), (.iload_n 1, 1, [], 0), (.bipush 15, 2, [], 15), (.iand, 1, [], 0), (.bipush 8, 2, [], 8), (.imul, 1, [], 0), (.iload_n 2, 1, [], 0), (.bipush 7, 2, [], 7), (.iand, 1, [], 0), (.iadd, 1, [], 0), (.iaload, 1, [], 0), (.ireturn, 1, [], 0)]
theorem ok_X1_wordAt_0 : vBL MT qLen qCh false q_X1_wordAt.2.2.2.2.1 q_X1_wordAt.2.2.2.2.2.1 q_X1_wordAt.2.2.1 q_X1_wordAt.1.cls q_X1_wordAt.1.name q_X1_wordAt.2.1 0 0 I_X1_wordAt_0 = true := by decide +kernel
def p_X1_wordAt (a0 : Nat) (x1 : Int32) (x2 : Int32) (h : AH) : Option (Int32 × AH) :=
  if (tg h a0).1 = 0 then (if inB h (rR h a0 0) 100 (((x1 &&& ((15 : Int32))) * ((8 : Int32))) + (x2 &&& ((7 : Int32)))) then (some ((rI h (rR h a0 0) (((x1 &&& ((15 : Int32))) * ((8 : Int32))) + (x2 &&& ((7 : Int32)))).toNatClampNeg), h)) else none) else none
set_option maxRecDepth 100000 in
theorem e_X1_wordAt_0 {l : Launch} {D : va_G} {dA : Nat → ClassId} {z : Nat} {sa : Nat → Nat} {Hz : Heap} (E : StrOK qLen qCh l D dA z sa Hz) {h0 fin : AH} {x : Int32}  : ∀ (a0 : Nat) (x1 : Int32) (x2 : Int32) (h : AH), p_X1_wordAt a0 x1 x2 h = some (x, fin) → GM l D dA z sa Hz q_X1_wordAt h0 (some (.int x)) fin 0 [(0, .ref a0), (1, .int x1), (2, .int x2)] [] h := by
  intro a0 x1 x2 h hd
  exact step E (is := I_X1_wordAt_0) (pc := 0) (K := k0) (FI := fI0) (FV := fV0) (FL := fL0) (rt := rtI) (ft := 0) (by exact hd) ok_X1_wordAt_0 k0_ok (fI0_ok E) (fV0_ok E) (fL0_ok E) (rtI_ok rfl)
theorem c_X1_wordAt {l : Launch} {D : va_G} {dA : Nat → ClassId} {z : Nat} {sa : Nat → Nat} {Hz : Heap} (E : StrOK qLen qCh l D dA z sa Hz) {a0 : Nat} {x1 : Int32} {x2 : Int32} {h fin : AH} {x : Int32} (hd : p_X1_wordAt a0 x1 x2 h = some (x, fin)) : CalOK l D dA z sa Hz q_X1_wordAt [.ref a0, .int x1, .int x2] h (some (.int x)) fin := calOf (by decide +kernel) (Nat.le_of_ble_eq_true rfl) (e_X1_wordAt_0 E a0 x1 x2 h hd)
def FI_X7_word : Nat → List Value → AH → Option (Int32 × AH) := (cx 54 (fun As h => sR As fun a0 As => sI As fun x1 As => sE As (p_X7_isFrame a0 x1 h)) (cx 55 (fun As h => sI As fun x0 As => sE As (p_X7_isPlace x0 h)) (cx 9 (fun As h => sR As fun a0 As => sI As fun x1 As => sE As (p_X7_refuse a0 x1 h)) (cx 56 (fun As h => sR As fun a0 As => sI As fun x1 As => sI As fun x2 As => sE As (p_X1_wordAt a0 x1 x2 h)) (cx 50 (fun As h => sR As fun a0 As => sI As fun x1 As => sE As (p_X7_answer a0 x1 h)) fI0)))))
theorem FI_X7_word_ok {l : Launch} {D : va_G} {dA : Nat → ClassId} {z : Nat} {sa : Nat → Nat} {Hz : Heap} (E : StrOK qLen qCh l D dA z sa Hz) : ∀ mi As h x h', FI_X7_word mi As h = some (x, h') → CalOK l D dA z sa Hz (MT mi) As h (some (.int x)) h' := (cxI_ok (fun As h x h2 e => by obtain ⟨_, _, rfl, e0⟩ := sR_inv e; obtain ⟨_, _, rfl, e1⟩ := sI_inv e0; obtain ⟨rfl, ez⟩ := sE_inv e1; exact c_X7_isFrame E ez) ((cxI_ok (fun As h x h2 e => by obtain ⟨_, _, rfl, e0⟩ := sI_inv e; obtain ⟨rfl, ez⟩ := sE_inv e0; exact c_X7_isPlace E ez) ((cxI_ok (fun As h x h2 e => by obtain ⟨_, _, rfl, e0⟩ := sR_inv e; obtain ⟨_, _, rfl, e1⟩ := sI_inv e0; obtain ⟨rfl, ez⟩ := sE_inv e1; exact c_X7_refuse E ez) ((cxI_ok (fun As h x h2 e => by obtain ⟨_, _, rfl, e0⟩ := sR_inv e; obtain ⟨_, _, rfl, e1⟩ := sI_inv e0; obtain ⟨_, _, rfl, e2⟩ := sI_inv e1; obtain ⟨rfl, ez⟩ := sE_inv e2; exact c_X1_wordAt E ez) ((cxI_ok (fun As h x h2 e => by obtain ⟨_, _, rfl, e0⟩ := sR_inv e; obtain ⟨_, _, rfl, e1⟩ := sI_inv e0; obtain ⟨rfl, ez⟩ := sE_inv e1; exact c_X7_answer E ez) (fI0_ok E))))))))))
def I_X7_word_15 : List AI := [(.aload_n 0, 1, [], 0), (.iconst 1, 1, [], 1), (.invokevirtual 54, 3, [1, 9, 2, 6, 403], 0), (.ireturn, 1, [], 0)]
theorem ok_X7_word_15 : vBL MT qLen qCh false q_X7_word.2.2.2.2.1 q_X7_word.2.2.2.2.2.1 q_X7_word.2.2.1 q_X7_word.1.cls q_X7_word.1.name q_X7_word.2.1 0 15 I_X7_word_15 = true := by decide +kernel
def p_X7_word_15 (a0 : Nat) (h : AH) : Option (Int32 × AH) :=
  if (tg h a0).1 = 6 then ((p_X7_refuse a0 ((1 : Int32)) h).bind fun q101 =>
  some (q101.1, q101.2)) else none
set_option maxRecDepth 100000 in
theorem e_X7_word_15 {l : Launch} {D : va_G} {dA : Nat → ClassId} {z : Nat} {sa : Nat → Nat} {Hz : Heap} (E : StrOK qLen qCh l D dA z sa Hz) {h0 fin : AH} {x : Int32}  : ∀ (a0 : Nat) (h : AH), p_X7_word_15 a0 h = some (x, fin) → GM l D dA z sa Hz q_X7_word h0 (some (.int x)) fin 15 [(0, .ref a0)] [] h := by
  intro a0 h hd
  exact step E (is := I_X7_word_15) (pc := 15) (K := k0) (FI := FI_X7_word) (FV := fV0) (FL := fL0) (rt := rtI) (ft := 0) (by exact hd) ok_X7_word_15 k0_ok (FI_X7_word_ok E) (fV0_ok E) (fL0_ok E) (rtI_ok rfl)
def I_X7_word_21 : List AI := [(.aload_n 0, 1, [], 0), (.aload_n 0, 1, [], 0), (.getfield 29, 3, [6, 4, 2, 358], 0), (.getfield 87, 3, [1, 1, 2, 321], 0), (.iload_n 1, 1, [], 0), (.iload_n 2, 1, [], 0), (.invokevirtual 91, 3, [1, 56, 3, 0, 656], 0), (.invokevirtual 68, 3, [1, 50, 2, 6, 633], 0), (.ireturn, 1, [], 0)]
theorem ok_X7_word_21 : vBL MT qLen qCh false q_X7_word.2.2.2.2.1 q_X7_word.2.2.2.2.2.1 q_X7_word.2.2.1 q_X7_word.1.cls q_X7_word.1.name q_X7_word.2.1 0 21 I_X7_word_21 = true := by decide +kernel
def p_X7_word_21 (a0 : Nat) (x1 : Int32) (x2 : Int32) (h : AH) : Option (Int32 × AH) :=
  if (tg h a0).1 = 6 then (if (tg h (rR h a0 4)).1 = 1 then (if (tg h (rR h (rR h a0 4) 1)).1 = 0 then ((p_X1_wordAt (rR h (rR h a0 4) 1) x1 x2 h).bind fun q102 =>
  if (tg q102.2 a0).1 = 6 then ((p_X7_answer a0 q102.1 q102.2).bind fun q103 =>
  some (q103.1, q103.2)) else none) else none) else none) else none
set_option maxRecDepth 100000 in
theorem e_X7_word_21 {l : Launch} {D : va_G} {dA : Nat → ClassId} {z : Nat} {sa : Nat → Nat} {Hz : Heap} (E : StrOK qLen qCh l D dA z sa Hz) {h0 fin : AH} {x : Int32}  : ∀ (a0 : Nat) (x1 : Int32) (x2 : Int32) (h : AH), p_X7_word_21 a0 x1 x2 h = some (x, fin) → GM l D dA z sa Hz q_X7_word h0 (some (.int x)) fin 21 [(0, .ref a0), (1, .int x1), (2, .int x2)] [] h := by
  intro a0 x1 x2 h hd
  exact step E (is := I_X7_word_21) (pc := 21) (K := k0) (FI := FI_X7_word) (FV := fV0) (FL := fL0) (rt := rtI) (ft := 0) (by exact hd) ok_X7_word_21 k0_ok (FI_X7_word_ok E) (fV0_ok E) (fL0_ok E) (rtI_ok rfl)
def I_X7_word_0 : List AI := [(.aload_n 0, 1, [], 0), (.iload_n 1, 1, [], 0), (.invokevirtual 80, 3, [1, 54, 2, 6, 649], 0), (.ifCond .eq 10, 3, [15], 0), (.iload_n 2, 1, [], 0), (.invokestatic 84, 3, [1, 55, 1, 653], 0), (.ifCond .ne 9, 3, [21], 0)]
theorem ok_X7_word_0 : vBL MT qLen qCh false q_X7_word.2.2.2.2.1 q_X7_word.2.2.2.2.2.1 q_X7_word.2.2.1 q_X7_word.1.cls q_X7_word.1.name q_X7_word.2.1 15 0 I_X7_word_0 = true := by decide +kernel
def p_X7_word (a0 : Nat) (x1 : Int32) (x2 : Int32) (h : AH) : Option (Int32 × AH) :=
  if (tg h a0).1 = 6 then ((p_X7_isFrame a0 x1 h).bind fun q104 =>
  if q104.1 = 0 then (p_X7_word_15 a0 q104.2)
  else
  (p_X7_isPlace x2 q104.2).bind fun q105 =>
  if q105.1 = 0 then (p_X7_word_15 a0 q105.2)
  else
  if (tg q105.2 a0).1 = 6 then (if (tg q105.2 (rR q105.2 a0 4)).1 = 1 then (if (tg q105.2 (rR q105.2 (rR q105.2 a0 4) 1)).1 = 0 then ((p_X1_wordAt (rR q105.2 (rR q105.2 a0 4) 1) x1 x2 q105.2).bind fun q106 =>
  if (tg q106.2 a0).1 = 6 then ((p_X7_answer a0 q106.1 q106.2).bind fun q107 =>
  some (q107.1, q107.2)) else none) else none) else none) else none) else none
set_option maxRecDepth 100000 in
theorem e_X7_word_0 {l : Launch} {D : va_G} {dA : Nat → ClassId} {z : Nat} {sa : Nat → Nat} {Hz : Heap} (E : StrOK qLen qCh l D dA z sa Hz) {h0 fin : AH} {x : Int32}  : ∀ (a0 : Nat) (x1 : Int32) (x2 : Int32) (h : AH), p_X7_word a0 x1 x2 h = some (x, fin) → GM l D dA z sa Hz q_X7_word h0 (some (.int x)) fin 0 [(0, .ref a0), (1, .int x1), (2, .int x2)] [] h := by
  intro a0 x1 x2 h hd
  exact step E (is := I_X7_word_0) (pc := 0) (K := (kx 15 (fun la st h => gR la 0 fun a0 => sE st (p_X7_word_15 a0 h)) (kx 21 (fun la st h => gR la 0 fun a0 => gI la 1 fun x1 => gI la 2 fun x2 => sE st (p_X7_word_21 a0 x1 x2 h)) k0))) (FI := FI_X7_word) (FV := fV0) (FL := fL0) (rt := rtI) (ft := 15) (by exact hd) ok_X7_word_0 (kx_ok (fun la st h e => by obtain ⟨a0, m_a0, e1⟩ := gR_inv e; obtain ⟨rfl, ez⟩ := sE_inv e1; exact gm_fewer (e_X7_word_15 E  a0 h ez) (mem_cons m_a0 mem_nil)) (kx_ok (fun la st h e => by obtain ⟨a0, m_a0, e1⟩ := gR_inv e; obtain ⟨x1, m_x1, e2⟩ := gI_inv e1; obtain ⟨x2, m_x2, e3⟩ := gI_inv e2; obtain ⟨rfl, ez⟩ := sE_inv e3; exact gm_fewer (e_X7_word_21 E  a0 x1 x2 h ez) (mem_cons m_a0 (mem_cons m_x1 (mem_cons m_x2 mem_nil)))) k0_ok)) (FI_X7_word_ok E) (fV0_ok E) (fL0_ok E) (rtI_ok rfl)
theorem c_X7_word {l : Launch} {D : va_G} {dA : Nat → ClassId} {z : Nat} {sa : Nat → Nat} {Hz : Heap} (E : StrOK qLen qCh l D dA z sa Hz) {a0 : Nat} {x1 : Int32} {x2 : Int32} {h fin : AH} {x : Int32} (hd : p_X7_word a0 x1 x2 h = some (x, fin)) : CalOK l D dA z sa Hz q_X7_word [.ref a0, .int x1, .int x2] h (some (.int x)) fin := calOf (by decide +kernel) (Nat.le_of_ble_eq_true rfl) (e_X7_word_0 E a0 x1 x2 h hd)
def I_X1_hostOf_0 : List AI := [(.aload_n 0, 1, [], 0), (.getfield 15, 3, [0, 1, 2, 190], 0), (.iload_n 1, 1, [], 0), (.bipush 15, 2, [], 15), (.iand, 1, [], 0), (.iaload, 1, [], 0), (.ireturn, 1, [], 0)]
theorem ok_X1_hostOf_0 : vBL MT qLen qCh false q_X1_hostOf.2.2.2.2.1 q_X1_hostOf.2.2.2.2.2.1 q_X1_hostOf.2.2.1 q_X1_hostOf.1.cls q_X1_hostOf.1.name q_X1_hostOf.2.1 0 0 I_X1_hostOf_0 = true := by decide +kernel
def p_X1_hostOf (a0 : Nat) (x1 : Int32) (h : AH) : Option (Int32 × AH) :=
  if (tg h a0).1 = 0 then (if inB h (rR h a0 1) 100 (x1 &&& ((15 : Int32))) then (some ((rI h (rR h a0 1) (x1 &&& ((15 : Int32))).toNatClampNeg), h)) else none) else none
set_option maxRecDepth 100000 in
theorem e_X1_hostOf_0 {l : Launch} {D : va_G} {dA : Nat → ClassId} {z : Nat} {sa : Nat → Nat} {Hz : Heap} (E : StrOK qLen qCh l D dA z sa Hz) {h0 fin : AH} {x : Int32}  : ∀ (a0 : Nat) (x1 : Int32) (h : AH), p_X1_hostOf a0 x1 h = some (x, fin) → GM l D dA z sa Hz q_X1_hostOf h0 (some (.int x)) fin 0 [(0, .ref a0), (1, .int x1)] [] h := by
  intro a0 x1 h hd
  exact step E (is := I_X1_hostOf_0) (pc := 0) (K := k0) (FI := fI0) (FV := fV0) (FL := fL0) (rt := rtI) (ft := 0) (by exact hd) ok_X1_hostOf_0 k0_ok (fI0_ok E) (fV0_ok E) (fL0_ok E) (rtI_ok rfl)
theorem c_X1_hostOf {l : Launch} {D : va_G} {dA : Nat → ClassId} {z : Nat} {sa : Nat → Nat} {Hz : Heap} (E : StrOK qLen qCh l D dA z sa Hz) {a0 : Nat} {x1 : Int32} {h fin : AH} {x : Int32} (hd : p_X1_hostOf a0 x1 h = some (x, fin)) : CalOK l D dA z sa Hz q_X1_hostOf [.ref a0, .int x1] h (some (.int x)) fin := calOf (by decide +kernel) (Nat.le_of_ble_eq_true rfl) (e_X1_hostOf_0 E a0 x1 h hd)
def FI_X7_backing : Nat → List Value → AH → Option (Int32 × AH) := (cx 54 (fun As h => sR As fun a0 As => sI As fun x1 As => sE As (p_X7_isFrame a0 x1 h)) (cx 9 (fun As h => sR As fun a0 As => sI As fun x1 As => sE As (p_X7_refuse a0 x1 h)) (cx 58 (fun As h => sR As fun a0 As => sI As fun x1 As => sE As (p_X1_hostOf a0 x1 h)) (cx 50 (fun As h => sR As fun a0 As => sI As fun x1 As => sE As (p_X7_answer a0 x1 h)) fI0))))
theorem FI_X7_backing_ok {l : Launch} {D : va_G} {dA : Nat → ClassId} {z : Nat} {sa : Nat → Nat} {Hz : Heap} (E : StrOK qLen qCh l D dA z sa Hz) : ∀ mi As h x h', FI_X7_backing mi As h = some (x, h') → CalOK l D dA z sa Hz (MT mi) As h (some (.int x)) h' := (cxI_ok (fun As h x h2 e => by obtain ⟨_, _, rfl, e0⟩ := sR_inv e; obtain ⟨_, _, rfl, e1⟩ := sI_inv e0; obtain ⟨rfl, ez⟩ := sE_inv e1; exact c_X7_isFrame E ez) ((cxI_ok (fun As h x h2 e => by obtain ⟨_, _, rfl, e0⟩ := sR_inv e; obtain ⟨_, _, rfl, e1⟩ := sI_inv e0; obtain ⟨rfl, ez⟩ := sE_inv e1; exact c_X7_refuse E ez) ((cxI_ok (fun As h x h2 e => by obtain ⟨_, _, rfl, e0⟩ := sR_inv e; obtain ⟨_, _, rfl, e1⟩ := sI_inv e0; obtain ⟨rfl, ez⟩ := sE_inv e1; exact c_X1_hostOf E ez) ((cxI_ok (fun As h x h2 e => by obtain ⟨_, _, rfl, e0⟩ := sR_inv e; obtain ⟨_, _, rfl, e1⟩ := sI_inv e0; obtain ⟨rfl, ez⟩ := sE_inv e1; exact c_X7_answer E ez) (fI0_ok E))))))))
def I_X7_backing_14 : List AI := [(.aload_n 0, 1, [], 0), (.aload_n 0, 1, [], 0), (.getfield 29, 3, [6, 4, 2, 358], 0), (.getfield 87, 3, [1, 1, 2, 321], 0), (.iload_n 1, 1, [], 0), (.invokevirtual 97, 3, [1, 58, 2, 0, 664], 0), (.invokevirtual 68, 3, [1, 50, 2, 6, 633], 0), (.ireturn, 1, [], 0)]
theorem ok_X7_backing_14 : vBL MT qLen qCh false q_X7_backing.2.2.2.2.1 q_X7_backing.2.2.2.2.2.1 q_X7_backing.2.2.1 q_X7_backing.1.cls q_X7_backing.1.name q_X7_backing.2.1 0 14 I_X7_backing_14 = true := by decide +kernel
def p_X7_backing_14 (a0 : Nat) (x1 : Int32) (h : AH) : Option (Int32 × AH) :=
  if (tg h a0).1 = 6 then (if (tg h (rR h a0 4)).1 = 1 then (if (tg h (rR h (rR h a0 4) 1)).1 = 0 then ((p_X1_hostOf (rR h (rR h a0 4) 1) x1 h).bind fun q101 =>
  if (tg q101.2 a0).1 = 6 then ((p_X7_answer a0 q101.1 q101.2).bind fun q102 =>
  some (q102.1, q102.2)) else none) else none) else none) else none
set_option maxRecDepth 100000 in
theorem e_X7_backing_14 {l : Launch} {D : va_G} {dA : Nat → ClassId} {z : Nat} {sa : Nat → Nat} {Hz : Heap} (E : StrOK qLen qCh l D dA z sa Hz) {h0 fin : AH} {x : Int32}  : ∀ (a0 : Nat) (x1 : Int32) (h : AH), p_X7_backing_14 a0 x1 h = some (x, fin) → GM l D dA z sa Hz q_X7_backing h0 (some (.int x)) fin 14 [(0, .ref a0), (1, .int x1)] [] h := by
  intro a0 x1 h hd
  exact step E (is := I_X7_backing_14) (pc := 14) (K := k0) (FI := FI_X7_backing) (FV := fV0) (FL := fL0) (rt := rtI) (ft := 0) (by exact hd) ok_X7_backing_14 k0_ok (FI_X7_backing_ok E) (fV0_ok E) (fL0_ok E) (rtI_ok rfl)
def I_X7_backing_0 : List AI := [(.aload_n 0, 1, [], 0), (.iload_n 1, 1, [], 0), (.invokevirtual 80, 3, [1, 54, 2, 6, 649], 0), (.ifCond .ne 9, 3, [14], 0), (.aload_n 0, 1, [], 0), (.iconst 1, 1, [], 1), (.invokevirtual 54, 3, [1, 9, 2, 6, 403], 0), (.ireturn, 1, [], 0)]
theorem ok_X7_backing_0 : vBL MT qLen qCh false q_X7_backing.2.2.2.2.1 q_X7_backing.2.2.2.2.2.1 q_X7_backing.2.2.1 q_X7_backing.1.cls q_X7_backing.1.name q_X7_backing.2.1 0 0 I_X7_backing_0 = true := by decide +kernel
def p_X7_backing (a0 : Nat) (x1 : Int32) (h : AH) : Option (Int32 × AH) :=
  if (tg h a0).1 = 6 then ((p_X7_isFrame a0 x1 h).bind fun q103 =>
  if q103.1 = 0 then (if (tg q103.2 a0).1 = 6 then ((p_X7_refuse a0 ((1 : Int32)) q103.2).bind fun q106 =>
  some (q106.1, q106.2)) else none)
  else
  if (tg q103.2 a0).1 = 6 then (if (tg q103.2 (rR q103.2 a0 4)).1 = 1 then (if (tg q103.2 (rR q103.2 (rR q103.2 a0 4) 1)).1 = 0 then ((p_X1_hostOf (rR q103.2 (rR q103.2 a0 4) 1) x1 q103.2).bind fun q104 =>
  if (tg q104.2 a0).1 = 6 then ((p_X7_answer a0 q104.1 q104.2).bind fun q105 =>
  some (q105.1, q105.2)) else none) else none) else none) else none) else none
set_option maxRecDepth 100000 in
theorem e_X7_backing_0 {l : Launch} {D : va_G} {dA : Nat → ClassId} {z : Nat} {sa : Nat → Nat} {Hz : Heap} (E : StrOK qLen qCh l D dA z sa Hz) {h0 fin : AH} {x : Int32}  : ∀ (a0 : Nat) (x1 : Int32) (h : AH), p_X7_backing a0 x1 h = some (x, fin) → GM l D dA z sa Hz q_X7_backing h0 (some (.int x)) fin 0 [(0, .ref a0), (1, .int x1)] [] h := by
  intro a0 x1 h hd
  exact step E (is := I_X7_backing_0) (pc := 0) (K := (kx 14 (fun la st h => gR la 0 fun a0 => gI la 1 fun x1 => sE st (p_X7_backing_14 a0 x1 h)) k0)) (FI := FI_X7_backing) (FV := fV0) (FL := fL0) (rt := rtI) (ft := 0) (by exact hd) ok_X7_backing_0 (kx_ok (fun la st h e => by obtain ⟨a0, m_a0, e1⟩ := gR_inv e; obtain ⟨x1, m_x1, e2⟩ := gI_inv e1; obtain ⟨rfl, ez⟩ := sE_inv e2; exact gm_fewer (e_X7_backing_14 E  a0 x1 h ez) (mem_cons m_a0 (mem_cons m_x1 mem_nil))) k0_ok) (FI_X7_backing_ok E) (fV0_ok E) (fL0_ok E) (rtI_ok rfl)
theorem c_X7_backing {l : Launch} {D : va_G} {dA : Nat → ClassId} {z : Nat} {sa : Nat → Nat} {Hz : Heap} (E : StrOK qLen qCh l D dA z sa Hz) {a0 : Nat} {x1 : Int32} {h fin : AH} {x : Int32} (hd : p_X7_backing a0 x1 h = some (x, fin)) : CalOK l D dA z sa Hz q_X7_backing [.ref a0, .int x1] h (some (.int x)) fin := calOf (by decide +kernel) (Nat.le_of_ble_eq_true rfl) (e_X7_backing_0 E a0 x1 h hd)
def I_X7_has_12 : List AI := [(.ireturn, 1, [], 0)]
theorem ok_X7_has_12 : vBL MT qLen qCh false q_X7_has.2.2.2.2.1 q_X7_has.2.2.2.2.2.1 q_X7_has.2.2.1 q_X7_has.1.cls q_X7_has.1.name q_X7_has.2.1 0 12 I_X7_has_12 = true := by decide +kernel
def p_X7_has_12 (y0 : Int32) (h : AH) : Option (Int32 × AH) :=
  if y0 &&& 1 = y0 then some (y0, h) else none
set_option maxRecDepth 100000 in
theorem e_X7_has_12 {l : Launch} {D : va_G} {dA : Nat → ClassId} {z : Nat} {sa : Nat → Nat} {Hz : Heap} (E : StrOK qLen qCh l D dA z sa Hz) {h0 fin : AH} {x : Int32}  : ∀ (y0 : Int32) (h : AH), p_X7_has_12 y0 h = some (x, fin) → GM l D dA z sa Hz q_X7_has h0 (some (.int x)) fin 12 [] [.int y0] h := by
  intro y0 h hd
  exact step E (is := I_X7_has_12) (pc := 12) (K := k0) (FI := fI0) (FV := fV0) (FL := fL0) (rt := rtZ) (ft := 0) (by exact hd) ok_X7_has_12 k0_ok (fI0_ok E) (fV0_ok E) (fL0_ok E) (rtZ_ok rfl)
def I_X7_has_11 : List AI := [(.iconst 0, 1, [], 0)]
theorem ok_X7_has_11 : vBL MT qLen qCh false q_X7_has.2.2.2.2.1 q_X7_has.2.2.2.2.2.1 q_X7_has.2.2.1 q_X7_has.1.cls q_X7_has.1.name q_X7_has.2.1 12 11 I_X7_has_11 = true := by decide +kernel
def p_X7_has_11 (h : AH) : Option (Int32 × AH) :=
  p_X7_has_12 ((0 : Int32)) h
set_option maxRecDepth 100000 in
theorem e_X7_has_11 {l : Launch} {D : va_G} {dA : Nat → ClassId} {z : Nat} {sa : Nat → Nat} {Hz : Heap} (E : StrOK qLen qCh l D dA z sa Hz) {h0 fin : AH} {x : Int32}  : ∀  (h : AH), p_X7_has_11 h = some (x, fin) → GM l D dA z sa Hz q_X7_has h0 (some (.int x)) fin 11 [] [] h := by
  intro h hd
  exact step E (is := I_X7_has_11) (pc := 11) (K := (kx 12 (fun la st h => sI st fun y0 st => sE st (p_X7_has_12 y0 h)) k0)) (FI := fI0) (FV := fV0) (FL := fL0) (rt := rtZ) (ft := 12) (by exact hd) ok_X7_has_11 (kx_ok (fun la st h e => by obtain ⟨y0, _, rfl, e1⟩ := sI_inv e; obtain ⟨rfl, ez⟩ := sE_inv e1; exact gm_fewer (e_X7_has_12 E  y0 h ez) mem_nil) k0_ok) (fI0_ok E) (fV0_ok E) (fL0_ok E) (rtZ_ok rfl)
def I_X7_has_0 : List AI := [(.iload_n 0, 1, [], 0), (.iload_n 1, 1, [], 0), (.iand, 1, [], 0), (.iload_n 1, 1, [], 0), (.if_icmp .ne 7, 3, [11], 0), (.iconst 1, 1, [], 1), (.goto 4, 3, [12], 0)]
theorem ok_X7_has_0 : vBL MT qLen qCh false q_X7_has.2.2.2.2.1 q_X7_has.2.2.2.2.2.1 q_X7_has.2.2.1 q_X7_has.1.cls q_X7_has.1.name q_X7_has.2.1 0 0 I_X7_has_0 = true := by decide +kernel
def p_X7_has (x0 : Int32) (x1 : Int32) (h : AH) : Option (Int32 × AH) :=
  if (x0 &&& x1) = x1 then (p_X7_has_12 ((1 : Int32)) h)
  else
  p_X7_has_12 ((0 : Int32)) h
set_option maxRecDepth 100000 in
theorem e_X7_has_0 {l : Launch} {D : va_G} {dA : Nat → ClassId} {z : Nat} {sa : Nat → Nat} {Hz : Heap} (E : StrOK qLen qCh l D dA z sa Hz) {h0 fin : AH} {x : Int32}  : ∀ (x0 : Int32) (x1 : Int32) (h : AH), p_X7_has x0 x1 h = some (x, fin) → GM l D dA z sa Hz q_X7_has h0 (some (.int x)) fin 0 [(0, .int x0), (1, .int x1)] [] h := by
  intro x0 x1 h hd
  exact step E (is := I_X7_has_0) (pc := 0) (K := (kx 11 (fun la st h => sE st (p_X7_has_11 h)) (kx 12 (fun la st h => sI st fun y0 st => sE st (p_X7_has_12 y0 h)) k0))) (FI := fI0) (FV := fV0) (FL := fL0) (rt := rtZ) (ft := 0) (by exact hd) ok_X7_has_0 (kx_ok (fun la st h e => by obtain ⟨rfl, ez⟩ := sE_inv e; exact gm_fewer (e_X7_has_11 E   h ez) mem_nil) (kx_ok (fun la st h e => by obtain ⟨y0, _, rfl, e1⟩ := sI_inv e; obtain ⟨rfl, ez⟩ := sE_inv e1; exact gm_fewer (e_X7_has_12 E  y0 h ez) mem_nil) k0_ok)) (fI0_ok E) (fV0_ok E) (fL0_ok E) (rtZ_ok rfl)
theorem c_X7_has {l : Launch} {D : va_G} {dA : Nat → ClassId} {z : Nat} {sa : Nat → Nat} {Hz : Heap} (E : StrOK qLen qCh l D dA z sa Hz) {x0 : Int32} {x1 : Int32} {h fin : AH} {x : Int32} (hd : p_X7_has x0 x1 h = some (x, fin)) : CalOK l D dA z sa Hz q_X7_has [.int x0, .int x1] h (some (.int x)) fin := calOf (by decide +kernel) (Nat.le_of_ble_eq_true rfl) (e_X7_has_0 E x0 x1 h hd)
def FI_X1_isWritable : Nat → List Value → AH → Option (Int32 × AH) := (cx 22 (fun As h => sR As fun a0 As => sI As fun x1 As => sE As (p_X1_isBacked a0 x1 h)) (cx 60 (fun As h => sI As fun x0 As => sI As fun x1 As => sE As (p_X7_has x0 x1 h)) fI0))
theorem FI_X1_isWritable_ok {l : Launch} {D : va_G} {dA : Nat → ClassId} {z : Nat} {sa : Nat → Nat} {Hz : Heap} (E : StrOK qLen qCh l D dA z sa Hz) : ∀ mi As h x h', FI_X1_isWritable mi As h = some (x, h') → CalOK l D dA z sa Hz (MT mi) As h (some (.int x)) h' := (cxI_ok (fun As h x h2 e => by obtain ⟨_, _, rfl, e0⟩ := sR_inv e; obtain ⟨_, _, rfl, e1⟩ := sI_inv e0; obtain ⟨rfl, ez⟩ := sE_inv e1; exact c_X1_isBacked E ez) ((cxI_ok (fun As h x h2 e => by obtain ⟨_, _, rfl, e0⟩ := sI_inv e; obtain ⟨_, _, rfl, e1⟩ := sI_inv e0; obtain ⟨rfl, ez⟩ := sE_inv e1; exact c_X7_has E ez) (fI0_ok E))))
def I_X1_isWritable_26 : List AI := [(.ireturn, 1, [], 0)]
theorem ok_X1_isWritable_26 : vBL MT qLen qCh false q_X1_isWritable.2.2.2.2.1 q_X1_isWritable.2.2.2.2.2.1 q_X1_isWritable.2.2.1 q_X1_isWritable.1.cls q_X1_isWritable.1.name q_X1_isWritable.2.1 0 26 I_X1_isWritable_26 = true := by decide +kernel
def p_X1_isWritable_26 (y0 : Int32) (h : AH) : Option (Int32 × AH) :=
  if y0 &&& 1 = y0 then some (y0, h) else none
set_option maxRecDepth 100000 in
theorem e_X1_isWritable_26 {l : Launch} {D : va_G} {dA : Nat → ClassId} {z : Nat} {sa : Nat → Nat} {Hz : Heap} (E : StrOK qLen qCh l D dA z sa Hz) {h0 fin : AH} {x : Int32}  : ∀ (y0 : Int32) (h : AH), p_X1_isWritable_26 y0 h = some (x, fin) → GM l D dA z sa Hz q_X1_isWritable h0 (some (.int x)) fin 26 [] [.int y0] h := by
  intro y0 h hd
  exact step E (is := I_X1_isWritable_26) (pc := 26) (K := k0) (FI := FI_X1_isWritable) (FV := fV0) (FL := fL0) (rt := rtZ) (ft := 0) (by exact hd) ok_X1_isWritable_26 k0_ok (FI_X1_isWritable_ok E) (fV0_ok E) (fL0_ok E) (rtZ_ok rfl)
def I_X1_isWritable_25 : List AI := [(.iconst 0, 1, [], 0)]
theorem ok_X1_isWritable_25 : vBL MT qLen qCh false q_X1_isWritable.2.2.2.2.1 q_X1_isWritable.2.2.2.2.2.1 q_X1_isWritable.2.2.1 q_X1_isWritable.1.cls q_X1_isWritable.1.name q_X1_isWritable.2.1 26 25 I_X1_isWritable_25 = true := by decide +kernel
def p_X1_isWritable_25 (h : AH) : Option (Int32 × AH) :=
  p_X1_isWritable_26 ((0 : Int32)) h
set_option maxRecDepth 100000 in
theorem e_X1_isWritable_25 {l : Launch} {D : va_G} {dA : Nat → ClassId} {z : Nat} {sa : Nat → Nat} {Hz : Heap} (E : StrOK qLen qCh l D dA z sa Hz) {h0 fin : AH} {x : Int32}  : ∀  (h : AH), p_X1_isWritable_25 h = some (x, fin) → GM l D dA z sa Hz q_X1_isWritable h0 (some (.int x)) fin 25 [] [] h := by
  intro h hd
  exact step E (is := I_X1_isWritable_25) (pc := 25) (K := (kx 26 (fun la st h => sI st fun y0 st => sE st (p_X1_isWritable_26 y0 h)) k0)) (FI := FI_X1_isWritable) (FV := fV0) (FL := fL0) (rt := rtZ) (ft := 26) (by exact hd) ok_X1_isWritable_25 (kx_ok (fun la st h e => by obtain ⟨y0, _, rfl, e1⟩ := sI_inv e; obtain ⟨rfl, ez⟩ := sE_inv e1; exact gm_fewer (e_X1_isWritable_26 E  y0 h ez) mem_nil) k0_ok) (FI_X1_isWritable_ok E) (fV0_ok E) (fL0_ok E) (rtZ_ok rfl)
def I_X1_isWritable_0 : List AI := [(.aload_n 0, 1, [], 0), (.iload_n 1, 1, [], 0), (.invokevirtual 38, 3, [1, 22, 2, 0, 676], 0), (.ifCond .eq 20, 3, [25], 0), (.aload_n 0, 1, [], 0), (.getfield 18, 3, [0, 2, 0, 191], 0), (.iconst 1, 1, [], 1), (.iload_n 1, 1, [], 0), (.ishl, 1, [], 0), (.invokestatic 42, 3, [1, 60, 2, 677], 0), (.ifCond .eq 7, 3, [25], 0), (.iconst 1, 1, [], 1), (.goto 4, 3, [26], 0)]
theorem ok_X1_isWritable_0 : vBL MT qLen qCh false q_X1_isWritable.2.2.2.2.1 q_X1_isWritable.2.2.2.2.2.1 q_X1_isWritable.2.2.1 q_X1_isWritable.1.cls q_X1_isWritable.1.name q_X1_isWritable.2.1 0 0 I_X1_isWritable_0 = true := by decide +kernel
def p_X1_isWritable (a0 : Nat) (x1 : Int32) (h : AH) : Option (Int32 × AH) :=
  if (tg h a0).1 = 0 then ((p_X1_isBacked a0 x1 h).bind fun q101 =>
  if q101.1 = 0 then (p_X1_isWritable_25 q101.2)
  else
  if (tg q101.2 a0).1 = 0 then ((p_X7_has (rI q101.2 a0 2) (((1 : Int32)) <<< (x1 &&& 31)) q101.2).bind fun q102 =>
  if q102.1 = 0 then (p_X1_isWritable_25 q102.2)
  else
  p_X1_isWritable_26 ((1 : Int32)) q102.2) else none) else none
set_option maxRecDepth 100000 in
theorem e_X1_isWritable_0 {l : Launch} {D : va_G} {dA : Nat → ClassId} {z : Nat} {sa : Nat → Nat} {Hz : Heap} (E : StrOK qLen qCh l D dA z sa Hz) {h0 fin : AH} {x : Int32}  : ∀ (a0 : Nat) (x1 : Int32) (h : AH), p_X1_isWritable a0 x1 h = some (x, fin) → GM l D dA z sa Hz q_X1_isWritable h0 (some (.int x)) fin 0 [(0, .ref a0), (1, .int x1)] [] h := by
  intro a0 x1 h hd
  exact step E (is := I_X1_isWritable_0) (pc := 0) (K := (kx 25 (fun la st h => sE st (p_X1_isWritable_25 h)) (kx 26 (fun la st h => sI st fun y0 st => sE st (p_X1_isWritable_26 y0 h)) k0))) (FI := FI_X1_isWritable) (FV := fV0) (FL := fL0) (rt := rtZ) (ft := 0) (by exact hd) ok_X1_isWritable_0 (kx_ok (fun la st h e => by obtain ⟨rfl, ez⟩ := sE_inv e; exact gm_fewer (e_X1_isWritable_25 E   h ez) mem_nil) (kx_ok (fun la st h e => by obtain ⟨y0, _, rfl, e1⟩ := sI_inv e; obtain ⟨rfl, ez⟩ := sE_inv e1; exact gm_fewer (e_X1_isWritable_26 E  y0 h ez) mem_nil) k0_ok)) (FI_X1_isWritable_ok E) (fV0_ok E) (fL0_ok E) (rtZ_ok rfl)
theorem c_X1_isWritable {l : Launch} {D : va_G} {dA : Nat → ClassId} {z : Nat} {sa : Nat → Nat} {Hz : Heap} (E : StrOK qLen qCh l D dA z sa Hz) {a0 : Nat} {x1 : Int32} {h fin : AH} {x : Int32} (hd : p_X1_isWritable a0 x1 h = some (x, fin)) : CalOK l D dA z sa Hz q_X1_isWritable [.ref a0, .int x1] h (some (.int x)) fin := calOf (by decide +kernel) (Nat.le_of_ble_eq_true rfl) (e_X1_isWritable_0 E a0 x1 h hd)
def I_X7_bit_9 : List AI := [(.ireturn, 1, [], 0)]
theorem ok_X7_bit_9 : vBL MT qLen qCh false q_X7_bit.2.2.2.2.1 q_X7_bit.2.2.2.2.2.1 q_X7_bit.2.2.1 q_X7_bit.1.cls q_X7_bit.1.name q_X7_bit.2.1 0 9 I_X7_bit_9 = true := by decide +kernel
def p_X7_bit_9 (y0 : Int32) (h : AH) : Option (Int32 × AH) :=
  some (y0, h)
set_option maxRecDepth 100000 in
theorem e_X7_bit_9 {l : Launch} {D : va_G} {dA : Nat → ClassId} {z : Nat} {sa : Nat → Nat} {Hz : Heap} (E : StrOK qLen qCh l D dA z sa Hz) {h0 fin : AH} {x : Int32}  : ∀ (y0 : Int32) (h : AH), p_X7_bit_9 y0 h = some (x, fin) → GM l D dA z sa Hz q_X7_bit h0 (some (.int x)) fin 9 [] [.int y0] h := by
  intro y0 h hd
  exact step E (is := I_X7_bit_9) (pc := 9) (K := k0) (FI := fI0) (FV := fV0) (FL := fL0) (rt := rtI) (ft := 0) (by exact hd) ok_X7_bit_9 k0_ok (fI0_ok E) (fV0_ok E) (fL0_ok E) (rtI_ok rfl)
def I_X7_bit_8 : List AI := [(.iconst 0, 1, [], 0)]
theorem ok_X7_bit_8 : vBL MT qLen qCh false q_X7_bit.2.2.2.2.1 q_X7_bit.2.2.2.2.2.1 q_X7_bit.2.2.1 q_X7_bit.1.cls q_X7_bit.1.name q_X7_bit.2.1 9 8 I_X7_bit_8 = true := by decide +kernel
def p_X7_bit_8 (h : AH) : Option (Int32 × AH) :=
  p_X7_bit_9 ((0 : Int32)) h
set_option maxRecDepth 100000 in
theorem e_X7_bit_8 {l : Launch} {D : va_G} {dA : Nat → ClassId} {z : Nat} {sa : Nat → Nat} {Hz : Heap} (E : StrOK qLen qCh l D dA z sa Hz) {h0 fin : AH} {x : Int32}  : ∀  (h : AH), p_X7_bit_8 h = some (x, fin) → GM l D dA z sa Hz q_X7_bit h0 (some (.int x)) fin 8 [] [] h := by
  intro h hd
  exact step E (is := I_X7_bit_8) (pc := 8) (K := (kx 9 (fun la st h => sI st fun y0 st => sE st (p_X7_bit_9 y0 h)) k0)) (FI := fI0) (FV := fV0) (FL := fL0) (rt := rtI) (ft := 9) (by exact hd) ok_X7_bit_8 (kx_ok (fun la st h e => by obtain ⟨y0, _, rfl, e1⟩ := sI_inv e; obtain ⟨rfl, ez⟩ := sE_inv e1; exact gm_fewer (e_X7_bit_9 E  y0 h ez) mem_nil) k0_ok) (fI0_ok E) (fV0_ok E) (fL0_ok E) (rtI_ok rfl)
def I_X7_bit_0 : List AI := [(.iload_n 0, 1, [], 0), (.ifCond .eq 7, 3, [8], 0), (.iconst 1, 1, [], 1), (.goto 4, 3, [9], 0)]
theorem ok_X7_bit_0 : vBL MT qLen qCh false q_X7_bit.2.2.2.2.1 q_X7_bit.2.2.2.2.2.1 q_X7_bit.2.2.1 q_X7_bit.1.cls q_X7_bit.1.name q_X7_bit.2.1 0 0 I_X7_bit_0 = true := by decide +kernel
def p_X7_bit (x0 : Int32) (h : AH) : Option (Int32 × AH) :=
  if x0 = 0 then (p_X7_bit_9 ((0 : Int32)) h)
  else
  p_X7_bit_9 ((1 : Int32)) h
set_option maxRecDepth 100000 in
theorem e_X7_bit_0 {l : Launch} {D : va_G} {dA : Nat → ClassId} {z : Nat} {sa : Nat → Nat} {Hz : Heap} (E : StrOK qLen qCh l D dA z sa Hz) {h0 fin : AH} {x : Int32}  : ∀ (x0 : Int32) (h : AH), p_X7_bit x0 h = some (x, fin) → GM l D dA z sa Hz q_X7_bit h0 (some (.int x)) fin 0 [(0, .int x0)] [] h := by
  intro x0 h hd
  exact step E (is := I_X7_bit_0) (pc := 0) (K := (kx 8 (fun la st h => sE st (p_X7_bit_8 h)) (kx 9 (fun la st h => sI st fun y0 st => sE st (p_X7_bit_9 y0 h)) k0))) (FI := fI0) (FV := fV0) (FL := fL0) (rt := rtI) (ft := 0) (by exact hd) ok_X7_bit_0 (kx_ok (fun la st h e => by obtain ⟨rfl, ez⟩ := sE_inv e; exact gm_fewer (e_X7_bit_8 E   h ez) mem_nil) (kx_ok (fun la st h e => by obtain ⟨y0, _, rfl, e1⟩ := sI_inv e; obtain ⟨rfl, ez⟩ := sE_inv e1; exact gm_fewer (e_X7_bit_9 E  y0 h ez) mem_nil) k0_ok)) (fI0_ok E) (fV0_ok E) (fL0_ok E) (rtI_ok rfl)
theorem c_X7_bit {l : Launch} {D : va_G} {dA : Nat → ClassId} {z : Nat} {sa : Nat → Nat} {Hz : Heap} (E : StrOK qLen qCh l D dA z sa Hz) {x0 : Int32} {h fin : AH} {x : Int32} (hd : p_X7_bit x0 h = some (x, fin)) : CalOK l D dA z sa Hz q_X7_bit [.int x0] h (some (.int x)) fin := calOf (by decide +kernel) (Nat.le_of_ble_eq_true rfl) (e_X7_bit_0 E x0 h hd)
def FI_X7_writes : Nat → List Value → AH → Option (Int32 × AH) := (cx 54 (fun As h => sR As fun a0 As => sI As fun x1 As => sE As (p_X7_isFrame a0 x1 h)) (cx 9 (fun As h => sR As fun a0 As => sI As fun x1 As => sE As (p_X7_refuse a0 x1 h)) (cx 61 (fun As h => sR As fun a0 As => sI As fun x1 As => sE As (p_X1_isWritable a0 x1 h)) (cx 62 (fun As h => sI As fun x0 As => sE As (p_X7_bit x0 h)) (cx 50 (fun As h => sR As fun a0 As => sI As fun x1 As => sE As (p_X7_answer a0 x1 h)) fI0)))))
theorem FI_X7_writes_ok {l : Launch} {D : va_G} {dA : Nat → ClassId} {z : Nat} {sa : Nat → Nat} {Hz : Heap} (E : StrOK qLen qCh l D dA z sa Hz) : ∀ mi As h x h', FI_X7_writes mi As h = some (x, h') → CalOK l D dA z sa Hz (MT mi) As h (some (.int x)) h' := (cxI_ok (fun As h x h2 e => by obtain ⟨_, _, rfl, e0⟩ := sR_inv e; obtain ⟨_, _, rfl, e1⟩ := sI_inv e0; obtain ⟨rfl, ez⟩ := sE_inv e1; exact c_X7_isFrame E ez) ((cxI_ok (fun As h x h2 e => by obtain ⟨_, _, rfl, e0⟩ := sR_inv e; obtain ⟨_, _, rfl, e1⟩ := sI_inv e0; obtain ⟨rfl, ez⟩ := sE_inv e1; exact c_X7_refuse E ez) ((cxI_ok (fun As h x h2 e => by obtain ⟨_, _, rfl, e0⟩ := sR_inv e; obtain ⟨_, _, rfl, e1⟩ := sI_inv e0; obtain ⟨rfl, ez⟩ := sE_inv e1; exact c_X1_isWritable E ez) ((cxI_ok (fun As h x h2 e => by obtain ⟨_, _, rfl, e0⟩ := sI_inv e; obtain ⟨rfl, ez⟩ := sE_inv e0; exact c_X7_bit E ez) ((cxI_ok (fun As h x h2 e => by obtain ⟨_, _, rfl, e0⟩ := sR_inv e; obtain ⟨_, _, rfl, e1⟩ := sI_inv e0; obtain ⟨rfl, ez⟩ := sE_inv e1; exact c_X7_answer E ez) (fI0_ok E))))))))))
def I_X7_writes_14 : List AI := [(.aload_n 0, 1, [], 0), (.aload_n 0, 1, [], 0), (.getfield 29, 3, [6, 4, 2, 358], 0), (.getfield 87, 3, [1, 1, 2, 321], 0), (.iload_n 1, 1, [], 0), (.invokevirtual 100, 3, [1, 61, 2, 0, 672], 0), (.invokestatic 103, 3, [1, 62, 1, 680], 0), (.invokevirtual 68, 3, [1, 50, 2, 6, 633], 0), (.ireturn, 1, [], 0)]
theorem ok_X7_writes_14 : vBL MT qLen qCh false q_X7_writes.2.2.2.2.1 q_X7_writes.2.2.2.2.2.1 q_X7_writes.2.2.1 q_X7_writes.1.cls q_X7_writes.1.name q_X7_writes.2.1 0 14 I_X7_writes_14 = true := by decide +kernel
def p_X7_writes_14 (a0 : Nat) (x1 : Int32) (h : AH) : Option (Int32 × AH) :=
  if (tg h a0).1 = 6 then (if (tg h (rR h a0 4)).1 = 1 then (if (tg h (rR h (rR h a0 4) 1)).1 = 0 then ((p_X1_isWritable (rR h (rR h a0 4) 1) x1 h).bind fun q101 =>
  (p_X7_bit q101.1 q101.2).bind fun q102 =>
  if (tg q102.2 a0).1 = 6 then ((p_X7_answer a0 q102.1 q102.2).bind fun q103 =>
  some (q103.1, q103.2)) else none) else none) else none) else none
set_option maxRecDepth 100000 in
theorem e_X7_writes_14 {l : Launch} {D : va_G} {dA : Nat → ClassId} {z : Nat} {sa : Nat → Nat} {Hz : Heap} (E : StrOK qLen qCh l D dA z sa Hz) {h0 fin : AH} {x : Int32}  : ∀ (a0 : Nat) (x1 : Int32) (h : AH), p_X7_writes_14 a0 x1 h = some (x, fin) → GM l D dA z sa Hz q_X7_writes h0 (some (.int x)) fin 14 [(0, .ref a0), (1, .int x1)] [] h := by
  intro a0 x1 h hd
  exact step E (is := I_X7_writes_14) (pc := 14) (K := k0) (FI := FI_X7_writes) (FV := fV0) (FL := fL0) (rt := rtI) (ft := 0) (by exact hd) ok_X7_writes_14 k0_ok (FI_X7_writes_ok E) (fV0_ok E) (fL0_ok E) (rtI_ok rfl)
def I_X7_writes_0 : List AI := [(.aload_n 0, 1, [], 0), (.iload_n 1, 1, [], 0), (.invokevirtual 80, 3, [1, 54, 2, 6, 649], 0), (.ifCond .ne 9, 3, [14], 0), (.aload_n 0, 1, [], 0), (.iconst 1, 1, [], 1), (.invokevirtual 54, 3, [1, 9, 2, 6, 403], 0), (.ireturn, 1, [], 0)]
theorem ok_X7_writes_0 : vBL MT qLen qCh false q_X7_writes.2.2.2.2.1 q_X7_writes.2.2.2.2.2.1 q_X7_writes.2.2.1 q_X7_writes.1.cls q_X7_writes.1.name q_X7_writes.2.1 0 0 I_X7_writes_0 = true := by decide +kernel
def p_X7_writes (a0 : Nat) (x1 : Int32) (h : AH) : Option (Int32 × AH) :=
  if (tg h a0).1 = 6 then ((p_X7_isFrame a0 x1 h).bind fun q104 =>
  if q104.1 = 0 then (if (tg q104.2 a0).1 = 6 then ((p_X7_refuse a0 ((1 : Int32)) q104.2).bind fun q108 =>
  some (q108.1, q108.2)) else none)
  else
  if (tg q104.2 a0).1 = 6 then (if (tg q104.2 (rR q104.2 a0 4)).1 = 1 then (if (tg q104.2 (rR q104.2 (rR q104.2 a0 4) 1)).1 = 0 then ((p_X1_isWritable (rR q104.2 (rR q104.2 a0 4) 1) x1 q104.2).bind fun q105 =>
  (p_X7_bit q105.1 q105.2).bind fun q106 =>
  if (tg q106.2 a0).1 = 6 then ((p_X7_answer a0 q106.1 q106.2).bind fun q107 =>
  some (q107.1, q107.2)) else none) else none) else none) else none) else none
set_option maxRecDepth 100000 in
theorem e_X7_writes_0 {l : Launch} {D : va_G} {dA : Nat → ClassId} {z : Nat} {sa : Nat → Nat} {Hz : Heap} (E : StrOK qLen qCh l D dA z sa Hz) {h0 fin : AH} {x : Int32}  : ∀ (a0 : Nat) (x1 : Int32) (h : AH), p_X7_writes a0 x1 h = some (x, fin) → GM l D dA z sa Hz q_X7_writes h0 (some (.int x)) fin 0 [(0, .ref a0), (1, .int x1)] [] h := by
  intro a0 x1 h hd
  exact step E (is := I_X7_writes_0) (pc := 0) (K := (kx 14 (fun la st h => gR la 0 fun a0 => gI la 1 fun x1 => sE st (p_X7_writes_14 a0 x1 h)) k0)) (FI := FI_X7_writes) (FV := fV0) (FL := fL0) (rt := rtI) (ft := 0) (by exact hd) ok_X7_writes_0 (kx_ok (fun la st h e => by obtain ⟨a0, m_a0, e1⟩ := gR_inv e; obtain ⟨x1, m_x1, e2⟩ := gI_inv e1; obtain ⟨rfl, ez⟩ := sE_inv e2; exact gm_fewer (e_X7_writes_14 E  a0 x1 h ez) (mem_cons m_a0 (mem_cons m_x1 mem_nil))) k0_ok) (FI_X7_writes_ok E) (fV0_ok E) (fL0_ok E) (rtI_ok rfl)
theorem c_X7_writes {l : Launch} {D : va_G} {dA : Nat → ClassId} {z : Nat} {sa : Nat → Nat} {Hz : Heap} (E : StrOK qLen qCh l D dA z sa Hz) {a0 : Nat} {x1 : Int32} {h fin : AH} {x : Int32} (hd : p_X7_writes a0 x1 h = some (x, fin)) : CalOK l D dA z sa Hz q_X7_writes [.ref a0, .int x1] h (some (.int x)) fin := calOf (by decide +kernel) (Nat.le_of_ble_eq_true rfl) (e_X7_writes_0 E a0 x1 h hd)
def FI_X7_root : Nat → List Value → AH → Option (Int32 × AH) := (cx 50 (fun As h => sR As fun a0 As => sI As fun x1 As => sE As (p_X7_answer a0 x1 h)) (cx 9 (fun As h => sR As fun a0 As => sI As fun x1 As => sE As (p_X7_refuse a0 x1 h)) fI0))
theorem FI_X7_root_ok {l : Launch} {D : va_G} {dA : Nat → ClassId} {z : Nat} {sa : Nat → Nat} {Hz : Heap} (E : StrOK qLen qCh l D dA z sa Hz) : ∀ mi As h x h', FI_X7_root mi As h = some (x, h') → CalOK l D dA z sa Hz (MT mi) As h (some (.int x)) h' := (cxI_ok (fun As h x h2 e => by obtain ⟨_, _, rfl, e0⟩ := sR_inv e; obtain ⟨_, _, rfl, e1⟩ := sI_inv e0; obtain ⟨rfl, ez⟩ := sE_inv e1; exact c_X7_answer E ez) ((cxI_ok (fun As h x h2 e => by obtain ⟨_, _, rfl, e0⟩ := sR_inv e; obtain ⟨_, _, rfl, e1⟩ := sI_inv e0; obtain ⟨rfl, ez⟩ := sE_inv e1; exact c_X7_refuse E ez) (fI0_ok E))))
def I_X7_root_29 : List AI := [(.ireturn, 1, [], 0)]
theorem ok_X7_root_29 : vBL MT qLen qCh false q_X7_root.2.2.2.2.1 q_X7_root.2.2.2.2.2.1 q_X7_root.2.2.1 q_X7_root.1.cls q_X7_root.1.name q_X7_root.2.1 0 29 I_X7_root_29 = true := by decide +kernel
def p_X7_root_29 (y0 : Int32) (h : AH) : Option (Int32 × AH) :=
  some (y0, h)
set_option maxRecDepth 100000 in
theorem e_X7_root_29 {l : Launch} {D : va_G} {dA : Nat → ClassId} {z : Nat} {sa : Nat → Nat} {Hz : Heap} (E : StrOK qLen qCh l D dA z sa Hz) {h0 fin : AH} {x : Int32}  : ∀ (y0 : Int32) (h : AH), p_X7_root_29 y0 h = some (x, fin) → GM l D dA z sa Hz q_X7_root h0 (some (.int x)) fin 29 [] [.int y0] h := by
  intro y0 h hd
  exact step E (is := I_X7_root_29) (pc := 29) (K := k0) (FI := FI_X7_root) (FV := fV0) (FL := fL0) (rt := rtI) (ft := 0) (by exact hd) ok_X7_root_29 k0_ok (FI_X7_root_ok E) (fV0_ok E) (fL0_ok E) (rtI_ok rfl)
def I_X7_root_24 : List AI := [(.aload_n 0, 1, [], 0), (.iconst 1, 1, [], 1), (.invokevirtual 54, 3, [1, 9, 2, 6, 403], 0)]
theorem ok_X7_root_24 : vBL MT qLen qCh false q_X7_root.2.2.2.2.1 q_X7_root.2.2.2.2.2.1 q_X7_root.2.2.1 q_X7_root.1.cls q_X7_root.1.name q_X7_root.2.1 29 24 I_X7_root_24 = true := by decide +kernel
def p_X7_root_24 (a0 : Nat) (h : AH) : Option (Int32 × AH) :=
  if (tg h a0).1 = 6 then ((p_X7_refuse a0 ((1 : Int32)) h).bind fun q101 =>
  p_X7_root_29 q101.1 q101.2) else none
set_option maxRecDepth 100000 in
theorem e_X7_root_24 {l : Launch} {D : va_G} {dA : Nat → ClassId} {z : Nat} {sa : Nat → Nat} {Hz : Heap} (E : StrOK qLen qCh l D dA z sa Hz) {h0 fin : AH} {x : Int32}  : ∀ (a0 : Nat) (h : AH), p_X7_root_24 a0 h = some (x, fin) → GM l D dA z sa Hz q_X7_root h0 (some (.int x)) fin 24 [(0, .ref a0)] [] h := by
  intro a0 h hd
  exact step E (is := I_X7_root_24) (pc := 24) (K := (kx 29 (fun la st h => sI st fun y0 st => sE st (p_X7_root_29 y0 h)) k0)) (FI := FI_X7_root) (FV := fV0) (FL := fL0) (rt := rtI) (ft := 29) (by exact hd) ok_X7_root_24 (kx_ok (fun la st h e => by obtain ⟨y0, _, rfl, e1⟩ := sI_inv e; obtain ⟨rfl, ez⟩ := sE_inv e1; exact gm_fewer (e_X7_root_29 E  y0 h ez) mem_nil) k0_ok) (FI_X7_root_ok E) (fV0_ok E) (fL0_ok E) (rtI_ok rfl)
def I_X7_root_0 : List AI := [(.aload_n 0, 1, [], 0), (.getfield 107, 3, [6, 3, 3, 357], 0), (.ifCond .eq 20, 3, [24], 0), (.aload_n 0, 1, [], 0), (.aload_n 0, 1, [], 0), (.getfield 29, 3, [6, 4, 2, 358], 0), (.getfield 87, 3, [1, 1, 2, 321], 0), (.getfield 111, 3, [0, 4, 0, 196], 0), (.invokevirtual 68, 3, [1, 50, 2, 6, 633], 0), (.goto 8, 3, [29], 0)]
theorem ok_X7_root_0 : vBL MT qLen qCh false q_X7_root.2.2.2.2.1 q_X7_root.2.2.2.2.2.1 q_X7_root.2.2.1 q_X7_root.1.cls q_X7_root.1.name q_X7_root.2.1 0 0 I_X7_root_0 = true := by decide +kernel
def p_X7_root (a0 : Nat) (h : AH) : Option (Int32 × AH) :=
  if (tg h a0).1 = 6 then (if (rI h a0 3) = 0 then (if (tg h a0).1 = 6 then ((p_X7_refuse a0 ((1 : Int32)) h).bind fun q102 =>
  p_X7_root_29 q102.1 q102.2) else none)
  else
  if (tg h a0).1 = 6 then (if (tg h (rR h a0 4)).1 = 1 then (if (tg h (rR h (rR h a0 4) 1)).1 = 0 then (if (tg h a0).1 = 6 then ((p_X7_answer a0 (rI h (rR h (rR h a0 4) 1) 4) h).bind fun q103 =>
  p_X7_root_29 q103.1 q103.2) else none) else none) else none) else none) else none
set_option maxRecDepth 100000 in
theorem e_X7_root_0 {l : Launch} {D : va_G} {dA : Nat → ClassId} {z : Nat} {sa : Nat → Nat} {Hz : Heap} (E : StrOK qLen qCh l D dA z sa Hz) {h0 fin : AH} {x : Int32}  : ∀ (a0 : Nat) (h : AH), p_X7_root a0 h = some (x, fin) → GM l D dA z sa Hz q_X7_root h0 (some (.int x)) fin 0 [(0, .ref a0)] [] h := by
  intro a0 h hd
  exact step E (is := I_X7_root_0) (pc := 0) (K := (kx 24 (fun la st h => gR la 0 fun a0 => sE st (p_X7_root_24 a0 h)) (kx 29 (fun la st h => sI st fun y0 st => sE st (p_X7_root_29 y0 h)) k0))) (FI := FI_X7_root) (FV := fV0) (FL := fL0) (rt := rtI) (ft := 0) (by exact hd) ok_X7_root_0 (kx_ok (fun la st h e => by obtain ⟨a0, m_a0, e1⟩ := gR_inv e; obtain ⟨rfl, ez⟩ := sE_inv e1; exact gm_fewer (e_X7_root_24 E  a0 h ez) (mem_cons m_a0 mem_nil)) (kx_ok (fun la st h e => by obtain ⟨y0, _, rfl, e1⟩ := sI_inv e; obtain ⟨rfl, ez⟩ := sE_inv e1; exact gm_fewer (e_X7_root_29 E  y0 h ez) mem_nil) k0_ok)) (FI_X7_root_ok E) (fV0_ok E) (fL0_ok E) (rtI_ok rfl)
theorem c_X7_root {l : Launch} {D : va_G} {dA : Nat → ClassId} {z : Nat} {sa : Nat → Nat} {Hz : Heap} (E : StrOK qLen qCh l D dA z sa Hz) {a0 : Nat} {h fin : AH} {x : Int32} (hd : p_X7_root a0 h = some (x, fin)) : CalOK l D dA z sa Hz q_X7_root [.ref a0] h (some (.int x)) fin := calOf (by decide +kernel) (Nat.le_of_ble_eq_true rfl) (e_X7_root_0 E a0 h hd)
def FI_X7_marks : Nat → List Value → AH → Option (Int32 × AH) := (cx 50 (fun As h => sR As fun a0 As => sI As fun x1 As => sE As (p_X7_answer a0 x1 h)) (cx 9 (fun As h => sR As fun a0 As => sI As fun x1 As => sE As (p_X7_refuse a0 x1 h)) fI0))
theorem FI_X7_marks_ok {l : Launch} {D : va_G} {dA : Nat → ClassId} {z : Nat} {sa : Nat → Nat} {Hz : Heap} (E : StrOK qLen qCh l D dA z sa Hz) : ∀ mi As h x h', FI_X7_marks mi As h = some (x, h') → CalOK l D dA z sa Hz (MT mi) As h (some (.int x)) h' := (cxI_ok (fun As h x h2 e => by obtain ⟨_, _, rfl, e0⟩ := sR_inv e; obtain ⟨_, _, rfl, e1⟩ := sI_inv e0; obtain ⟨rfl, ez⟩ := sE_inv e1; exact c_X7_answer E ez) ((cxI_ok (fun As h x h2 e => by obtain ⟨_, _, rfl, e0⟩ := sR_inv e; obtain ⟨_, _, rfl, e1⟩ := sI_inv e0; obtain ⟨rfl, ez⟩ := sE_inv e1; exact c_X7_refuse E ez) (fI0_ok E))))
def I_X7_marks_29 : List AI := [(.ireturn, 1, [], 0)]
theorem ok_X7_marks_29 : vBL MT qLen qCh false q_X7_marks.2.2.2.2.1 q_X7_marks.2.2.2.2.2.1 q_X7_marks.2.2.1 q_X7_marks.1.cls q_X7_marks.1.name q_X7_marks.2.1 0 29 I_X7_marks_29 = true := by decide +kernel
def p_X7_marks_29 (y0 : Int32) (h : AH) : Option (Int32 × AH) :=
  some (y0, h)
set_option maxRecDepth 100000 in
theorem e_X7_marks_29 {l : Launch} {D : va_G} {dA : Nat → ClassId} {z : Nat} {sa : Nat → Nat} {Hz : Heap} (E : StrOK qLen qCh l D dA z sa Hz) {h0 fin : AH} {x : Int32}  : ∀ (y0 : Int32) (h : AH), p_X7_marks_29 y0 h = some (x, fin) → GM l D dA z sa Hz q_X7_marks h0 (some (.int x)) fin 29 [] [.int y0] h := by
  intro y0 h hd
  exact step E (is := I_X7_marks_29) (pc := 29) (K := k0) (FI := FI_X7_marks) (FV := fV0) (FL := fL0) (rt := rtI) (ft := 0) (by exact hd) ok_X7_marks_29 k0_ok (FI_X7_marks_ok E) (fV0_ok E) (fL0_ok E) (rtI_ok rfl)
def I_X7_marks_24 : List AI := [(.aload_n 0, 1, [], 0), (.iconst 1, 1, [], 1), (.invokevirtual 54, 3, [1, 9, 2, 6, 403], 0)]
theorem ok_X7_marks_24 : vBL MT qLen qCh false q_X7_marks.2.2.2.2.1 q_X7_marks.2.2.2.2.2.1 q_X7_marks.2.2.1 q_X7_marks.1.cls q_X7_marks.1.name q_X7_marks.2.1 29 24 I_X7_marks_24 = true := by decide +kernel
def p_X7_marks_24 (a0 : Nat) (h : AH) : Option (Int32 × AH) :=
  if (tg h a0).1 = 6 then ((p_X7_refuse a0 ((1 : Int32)) h).bind fun q101 =>
  p_X7_marks_29 q101.1 q101.2) else none
set_option maxRecDepth 100000 in
theorem e_X7_marks_24 {l : Launch} {D : va_G} {dA : Nat → ClassId} {z : Nat} {sa : Nat → Nat} {Hz : Heap} (E : StrOK qLen qCh l D dA z sa Hz) {h0 fin : AH} {x : Int32}  : ∀ (a0 : Nat) (h : AH), p_X7_marks_24 a0 h = some (x, fin) → GM l D dA z sa Hz q_X7_marks h0 (some (.int x)) fin 24 [(0, .ref a0)] [] h := by
  intro a0 h hd
  exact step E (is := I_X7_marks_24) (pc := 24) (K := (kx 29 (fun la st h => sI st fun y0 st => sE st (p_X7_marks_29 y0 h)) k0)) (FI := FI_X7_marks) (FV := fV0) (FL := fL0) (rt := rtI) (ft := 29) (by exact hd) ok_X7_marks_24 (kx_ok (fun la st h e => by obtain ⟨y0, _, rfl, e1⟩ := sI_inv e; obtain ⟨rfl, ez⟩ := sE_inv e1; exact gm_fewer (e_X7_marks_29 E  y0 h ez) mem_nil) k0_ok) (FI_X7_marks_ok E) (fV0_ok E) (fL0_ok E) (rtI_ok rfl)
def I_X7_marks_0 : List AI := [(.aload_n 0, 1, [], 0), (.getfield 107, 3, [6, 3, 3, 357], 0), (.ifCond .eq 20, 3, [24], 0), (.aload_n 0, 1, [], 0), (.aload_n 0, 1, [], 0), (.getfield 29, 3, [6, 4, 2, 358], 0), (.getfield 87, 3, [1, 1, 2, 321], 0), (.getfield 114, 3, [0, 3, 0, 193], 0), (.invokevirtual 68, 3, [1, 50, 2, 6, 633], 0), (.goto 8, 3, [29], 0)]
theorem ok_X7_marks_0 : vBL MT qLen qCh false q_X7_marks.2.2.2.2.1 q_X7_marks.2.2.2.2.2.1 q_X7_marks.2.2.1 q_X7_marks.1.cls q_X7_marks.1.name q_X7_marks.2.1 0 0 I_X7_marks_0 = true := by decide +kernel
def p_X7_marks (a0 : Nat) (h : AH) : Option (Int32 × AH) :=
  if (tg h a0).1 = 6 then (if (rI h a0 3) = 0 then (if (tg h a0).1 = 6 then ((p_X7_refuse a0 ((1 : Int32)) h).bind fun q102 =>
  p_X7_marks_29 q102.1 q102.2) else none)
  else
  if (tg h a0).1 = 6 then (if (tg h (rR h a0 4)).1 = 1 then (if (tg h (rR h (rR h a0 4) 1)).1 = 0 then (if (tg h a0).1 = 6 then ((p_X7_answer a0 (rI h (rR h (rR h a0 4) 1) 3) h).bind fun q103 =>
  p_X7_marks_29 q103.1 q103.2) else none) else none) else none) else none) else none
set_option maxRecDepth 100000 in
theorem e_X7_marks_0 {l : Launch} {D : va_G} {dA : Nat → ClassId} {z : Nat} {sa : Nat → Nat} {Hz : Heap} (E : StrOK qLen qCh l D dA z sa Hz) {h0 fin : AH} {x : Int32}  : ∀ (a0 : Nat) (h : AH), p_X7_marks a0 h = some (x, fin) → GM l D dA z sa Hz q_X7_marks h0 (some (.int x)) fin 0 [(0, .ref a0)] [] h := by
  intro a0 h hd
  exact step E (is := I_X7_marks_0) (pc := 0) (K := (kx 24 (fun la st h => gR la 0 fun a0 => sE st (p_X7_marks_24 a0 h)) (kx 29 (fun la st h => sI st fun y0 st => sE st (p_X7_marks_29 y0 h)) k0))) (FI := FI_X7_marks) (FV := fV0) (FL := fL0) (rt := rtI) (ft := 0) (by exact hd) ok_X7_marks_0 (kx_ok (fun la st h e => by obtain ⟨a0, m_a0, e1⟩ := gR_inv e; obtain ⟨rfl, ez⟩ := sE_inv e1; exact gm_fewer (e_X7_marks_24 E  a0 h ez) (mem_cons m_a0 mem_nil)) (kx_ok (fun la st h e => by obtain ⟨y0, _, rfl, e1⟩ := sI_inv e; obtain ⟨rfl, ez⟩ := sE_inv e1; exact gm_fewer (e_X7_marks_29 E  y0 h ez) mem_nil) k0_ok)) (FI_X7_marks_ok E) (fV0_ok E) (fL0_ok E) (rtI_ok rfl)
theorem c_X7_marks {l : Launch} {D : va_G} {dA : Nat → ClassId} {z : Nat} {sa : Nat → Nat} {Hz : Heap} (E : StrOK qLen qCh l D dA z sa Hz) {a0 : Nat} {h fin : AH} {x : Int32} (hd : p_X7_marks a0 h = some (x, fin)) : CalOK l D dA z sa Hz q_X7_marks [.ref a0] h (some (.int x)) fin := calOf (by decide +kernel) (Nat.le_of_ble_eq_true rfl) (e_X7_marks_0 E a0 h hd)
def FI_X1_placesWith : Nat → List Value → AH → Option (Int32 × AH) := (cx 56 (fun As h => sR As fun a0 As => sI As fun x1 As => sI As fun x2 As => sE As (p_X1_wordAt a0 x1 x2 h)) (cx 60 (fun As h => sI As fun x0 As => sI As fun x1 As => sE As (p_X7_has x0 x1 h)) fI0))
theorem FI_X1_placesWith_ok {l : Launch} {D : va_G} {dA : Nat → ClassId} {z : Nat} {sa : Nat → Nat} {Hz : Heap} (E : StrOK qLen qCh l D dA z sa Hz) : ∀ mi As h x h', FI_X1_placesWith mi As h = some (x, h') → CalOK l D dA z sa Hz (MT mi) As h (some (.int x)) h' := (cxI_ok (fun As h x h2 e => by obtain ⟨_, _, rfl, e0⟩ := sR_inv e; obtain ⟨_, _, rfl, e1⟩ := sI_inv e0; obtain ⟨_, _, rfl, e2⟩ := sI_inv e1; obtain ⟨rfl, ez⟩ := sE_inv e2; exact c_X1_wordAt E ez) ((cxI_ok (fun As h x h2 e => by obtain ⟨_, _, rfl, e0⟩ := sI_inv e; obtain ⟨_, _, rfl, e1⟩ := sI_inv e0; obtain ⟨rfl, ez⟩ := sE_inv e1; exact c_X7_has E ez) (fI0_ok E))))
def I_X1_placesWith_39 : List AI := [(.iload_n 3, 1, [], 0), (.ireturn, 1, [], 0)]
theorem ok_X1_placesWith_39 : vBL MT qLen qCh false q_X1_placesWith.2.2.2.2.1 q_X1_placesWith.2.2.2.2.2.1 q_X1_placesWith.2.2.1 q_X1_placesWith.1.cls q_X1_placesWith.1.name q_X1_placesWith.2.1 0 39 I_X1_placesWith_39 = true := by decide +kernel
def p_X1_placesWith_39 (x3 : Int32) (h : AH) : Option (Int32 × AH) :=
  some (x3, h)
set_option maxRecDepth 100000 in
theorem e_X1_placesWith_39 {l : Launch} {D : va_G} {dA : Nat → ClassId} {z : Nat} {sa : Nat → Nat} {Hz : Heap} (E : StrOK qLen qCh l D dA z sa Hz) {h0 fin : AH} {x : Int32}  : ∀ (x3 : Int32) (h : AH), p_X1_placesWith_39 x3 h = some (x, fin) → GM l D dA z sa Hz q_X1_placesWith h0 (some (.int x)) fin 39 [(3, .int x3)] [] h := by
  intro x3 h hd
  exact step E (is := I_X1_placesWith_39) (pc := 39) (K := k0) (FI := FI_X1_placesWith) (FV := fV0) (FL := fL0) (rt := rtI) (ft := 0) (by exact hd) ok_X1_placesWith_39 k0_ok (FI_X1_placesWith_ok E) (fV0_ok E) (fL0_ok E) (rtI_ok rfl)
def I_X1_placesWith_33 : List AI := [(.iinc 4 1, 3, [], 1), (.goto (-31), 3, [5], 0)]
theorem ok_X1_placesWith_33 : vBL MT qLen qCh false q_X1_placesWith.2.2.2.2.1 q_X1_placesWith.2.2.2.2.2.1 q_X1_placesWith.2.2.1 q_X1_placesWith.1.cls q_X1_placesWith.1.name q_X1_placesWith.2.1 0 33 I_X1_placesWith_33 = true := by decide +kernel
def p_X1_placesWith_33 (k5 : Nat → Int32 → Int32 → Int32 → Int32 → AH → Option (Int32 × AH)) (a0 : Nat) (x1 : Int32) (x2 : Int32) (x3 : Int32) (x4 : Int32) (h : AH) : Option (Int32 × AH) :=
  k5 a0 x1 x2 x3 (x4 + (1 : Int32)) h
set_option maxRecDepth 100000 in
theorem e_X1_placesWith_33 {l : Launch} {D : va_G} {dA : Nat → ClassId} {z : Nat} {sa : Nat → Nat} {Hz : Heap} (E : StrOK qLen qCh l D dA z sa Hz) {h0 fin : AH} {x : Int32}  {k5 : Nat → Int32 → Int32 → Int32 → Int32 → AH → Option (Int32 × AH)} (hk5 : ∀ (a0 : Nat) (x1 : Int32) (x2 : Int32) (x3 : Int32) (x4 : Int32) (h : AH), k5 a0 x1 x2 x3 x4 h = some (x, fin) → GM l D dA z sa Hz q_X1_placesWith h0 (some (.int x)) fin 5 [(0, .ref a0), (1, .int x1), (2, .int x2), (3, .int x3), (4, .int x4)] [] h) : ∀ (a0 : Nat) (x1 : Int32) (x2 : Int32) (x3 : Int32) (x4 : Int32) (h : AH), p_X1_placesWith_33 k5 a0 x1 x2 x3 x4 h = some (x, fin) → GM l D dA z sa Hz q_X1_placesWith h0 (some (.int x)) fin 33 [(0, .ref a0), (1, .int x1), (2, .int x2), (3, .int x3), (4, .int x4)] [] h := by
  intro a0 x1 x2 x3 x4 h hd
  exact step E (is := I_X1_placesWith_33) (pc := 33) (K := (kx 5 (fun la st h => gR la 0 fun a0 => gI la 1 fun x1 => gI la 2 fun x2 => gI la 3 fun x3 => gI la 4 fun x4 => sE st (k5 a0 x1 x2 x3 x4 h)) k0)) (FI := FI_X1_placesWith) (FV := fV0) (FL := fL0) (rt := rtI) (ft := 0) (by exact hd) ok_X1_placesWith_33 (kx_ok (fun la st h e => by obtain ⟨a0, m_a0, e1⟩ := gR_inv e; obtain ⟨x1, m_x1, e2⟩ := gI_inv e1; obtain ⟨x2, m_x2, e3⟩ := gI_inv e2; obtain ⟨x3, m_x3, e4⟩ := gI_inv e3; obtain ⟨x4, m_x4, e5⟩ := gI_inv e4; obtain ⟨rfl, ez⟩ := sE_inv e5; exact gm_fewer (hk5 a0 x1 x2 x3 x4 h ez) (mem_cons m_a0 (mem_cons m_x1 (mem_cons m_x2 (mem_cons m_x3 (mem_cons m_x4 mem_nil)))))) k0_ok) (FI_X1_placesWith_ok E) (fV0_ok E) (fL0_ok E) (rtI_ok rfl)
def I_X1_placesWith_5 : List AI := [(.iload 4, 2, [], 0), (.bipush 8, 2, [], 8), (.if_icmp .ge 30, 3, [39], 0), (.aload_n 0, 1, [], 0), (.iload_n 1, 1, [], 0), (.iload 4, 2, [], 0), (.invokevirtual 50, 3, [1, 56, 3, 0, 699], 0), (.iload_n 2, 1, [], 0), (.invokestatic 42, 3, [1, 60, 2, 677], 0), (.ifCond .eq 10, 3, [33], 0), (.iload_n 3, 1, [], 0), (.iconst 1, 1, [], 1), (.iload 4, 2, [], 0), (.ishl, 1, [], 0), (.ior, 1, [], 0), (.istore_n 3, 1, [], 0)]
theorem ok_X1_placesWith_5 : vBL MT qLen qCh false q_X1_placesWith.2.2.2.2.1 q_X1_placesWith.2.2.2.2.2.1 q_X1_placesWith.2.2.1 q_X1_placesWith.1.cls q_X1_placesWith.1.name q_X1_placesWith.2.1 33 5 I_X1_placesWith_5 = true := by decide +kernel
def p_X1_placesWith_5 : Nat → Nat → Int32 → Int32 → Int32 → Int32 → AH → Option (Int32 × AH)
  | 0, _, _, _, _, _, _ => none
  | n + 1, a0, x1, x2, x3, x4, h => if x4 < ((8 : Int32)) then (if (tg h a0).1 = 0 then ((p_X1_wordAt a0 x1 x4 h).bind fun q101 =>
    (p_X7_has q101.1 x2 q101.2).bind fun q102 =>
    if q102.1 = 0 then (p_X1_placesWith_33 (p_X1_placesWith_5 n) a0 x1 x2 x3 x4 q102.2)
    else
    let x103 := x3 ||| (((1 : Int32)) <<< (x4 &&& 31))
    p_X1_placesWith_33 (p_X1_placesWith_5 n) a0 x1 x2 x103 x4 q102.2) else none)
    else
    some (x3, h)
set_option maxRecDepth 100000 in
theorem e_X1_placesWith_5 {l : Launch} {D : va_G} {dA : Nat → ClassId} {z : Nat} {sa : Nat → Nat} {Hz : Heap} (E : StrOK qLen qCh l D dA z sa Hz) {h0 fin : AH} {x : Int32}  : ∀ (n : Nat) (a0 : Nat) (x1 : Int32) (x2 : Int32) (x3 : Int32) (x4 : Int32) (h : AH), p_X1_placesWith_5 n a0 x1 x2 x3 x4 h = some (x, fin) → GM l D dA z sa Hz q_X1_placesWith h0 (some (.int x)) fin 5 [(0, .ref a0), (1, .int x1), (2, .int x2), (3, .int x3), (4, .int x4)] [] h := by
  intro n
  induction n with
  | zero => intro a0 x1 x2 x3 x4 h hd; exact nomatch hd
  | succ n ih =>
    intro a0 x1 x2 x3 x4 h hd
    exact step E (is := I_X1_placesWith_5) (pc := 5) (K := (kx 39 (fun la st h => gI la 3 fun x3 => sE st (p_X1_placesWith_39 x3 h)) (kx 33 (fun la st h => gR la 0 fun a0 => gI la 1 fun x1 => gI la 2 fun x2 => gI la 3 fun x3 => gI la 4 fun x4 => sE st (p_X1_placesWith_33 (p_X1_placesWith_5 n) a0 x1 x2 x3 x4 h)) k0))) (FI := FI_X1_placesWith) (FV := fV0) (FL := fL0) (rt := rtI) (ft := 33) (by exact hd) ok_X1_placesWith_5 (kx_ok (fun la st h e => by obtain ⟨x3, m_x3, e1⟩ := gI_inv e; obtain ⟨rfl, ez⟩ := sE_inv e1; exact gm_fewer (e_X1_placesWith_39 E  x3 h ez) (mem_cons m_x3 mem_nil)) (kx_ok (fun la st h e => by obtain ⟨a0, m_a0, e1⟩ := gR_inv e; obtain ⟨x1, m_x1, e2⟩ := gI_inv e1; obtain ⟨x2, m_x2, e3⟩ := gI_inv e2; obtain ⟨x3, m_x3, e4⟩ := gI_inv e3; obtain ⟨x4, m_x4, e5⟩ := gI_inv e4; obtain ⟨rfl, ez⟩ := sE_inv e5; exact gm_fewer (e_X1_placesWith_33 E ih a0 x1 x2 x3 x4 h ez) (mem_cons m_a0 (mem_cons m_x1 (mem_cons m_x2 (mem_cons m_x3 (mem_cons m_x4 mem_nil)))))) k0_ok)) (FI_X1_placesWith_ok E) (fV0_ok E) (fL0_ok E) (rtI_ok rfl)
def I_X1_placesWith_0 : List AI := [(.iconst 0, 1, [], 0), (.istore_n 3, 1, [], 0), (.iconst 0, 1, [], 0), (.istore 4, 2, [], 0)]
theorem ok_X1_placesWith_0 : vBL MT qLen qCh false q_X1_placesWith.2.2.2.2.1 q_X1_placesWith.2.2.2.2.2.1 q_X1_placesWith.2.2.1 q_X1_placesWith.1.cls q_X1_placesWith.1.name q_X1_placesWith.2.1 5 0 I_X1_placesWith_0 = true := by decide +kernel
def p_X1_placesWith (a0 : Nat) (x1 : Int32) (x2 : Int32) (h : AH) : Option (Int32 × AH) :=
  p_X1_placesWith_5 FU a0 x1 x2 ((0 : Int32)) ((0 : Int32)) h
set_option maxRecDepth 100000 in
theorem e_X1_placesWith_0 {l : Launch} {D : va_G} {dA : Nat → ClassId} {z : Nat} {sa : Nat → Nat} {Hz : Heap} (E : StrOK qLen qCh l D dA z sa Hz) {h0 fin : AH} {x : Int32}  : ∀ (a0 : Nat) (x1 : Int32) (x2 : Int32) (h : AH), p_X1_placesWith a0 x1 x2 h = some (x, fin) → GM l D dA z sa Hz q_X1_placesWith h0 (some (.int x)) fin 0 [(0, .ref a0), (1, .int x1), (2, .int x2)] [] h := by
  intro a0 x1 x2 h hd
  exact step E (is := I_X1_placesWith_0) (pc := 0) (K := (kx 5 (fun la st h => gR la 0 fun a0 => gI la 1 fun x1 => gI la 2 fun x2 => gI la 3 fun x3 => gI la 4 fun x4 => sE st (p_X1_placesWith_5 FU a0 x1 x2 x3 x4 h)) k0)) (FI := FI_X1_placesWith) (FV := fV0) (FL := fL0) (rt := rtI) (ft := 5) (by exact hd) ok_X1_placesWith_0 (kx_ok (fun la st h e => by obtain ⟨a0, m_a0, e1⟩ := gR_inv e; obtain ⟨x1, m_x1, e2⟩ := gI_inv e1; obtain ⟨x2, m_x2, e3⟩ := gI_inv e2; obtain ⟨x3, m_x3, e4⟩ := gI_inv e3; obtain ⟨x4, m_x4, e5⟩ := gI_inv e4; obtain ⟨rfl, ez⟩ := sE_inv e5; exact gm_fewer (e_X1_placesWith_5 E  FU a0 x1 x2 x3 x4 h ez) (mem_cons m_a0 (mem_cons m_x1 (mem_cons m_x2 (mem_cons m_x3 (mem_cons m_x4 mem_nil)))))) k0_ok) (FI_X1_placesWith_ok E) (fV0_ok E) (fL0_ok E) (rtI_ok rfl)
theorem c_X1_placesWith {l : Launch} {D : va_G} {dA : Nat → ClassId} {z : Nat} {sa : Nat → Nat} {Hz : Heap} (E : StrOK qLen qCh l D dA z sa Hz) {a0 : Nat} {x1 : Int32} {x2 : Int32} {h fin : AH} {x : Int32} (hd : p_X1_placesWith a0 x1 x2 h = some (x, fin)) : CalOK l D dA z sa Hz q_X1_placesWith [.ref a0, .int x1, .int x2] h (some (.int x)) fin := calOf (by decide +kernel) (Nat.le_of_ble_eq_true rfl) (e_X1_placesWith_0 E a0 x1 x2 h hd)
def FI_X7_wordsWith : Nat → List Value → AH → Option (Int32 × AH) := (cx 54 (fun As h => sR As fun a0 As => sI As fun x1 As => sE As (p_X7_isFrame a0 x1 h)) (cx 9 (fun As h => sR As fun a0 As => sI As fun x1 As => sE As (p_X7_refuse a0 x1 h)) (cx 66 (fun As h => sR As fun a0 As => sI As fun x1 As => sI As fun x2 As => sE As (p_X1_placesWith a0 x1 x2 h)) (cx 50 (fun As h => sR As fun a0 As => sI As fun x1 As => sE As (p_X7_answer a0 x1 h)) fI0))))
theorem FI_X7_wordsWith_ok {l : Launch} {D : va_G} {dA : Nat → ClassId} {z : Nat} {sa : Nat → Nat} {Hz : Heap} (E : StrOK qLen qCh l D dA z sa Hz) : ∀ mi As h x h', FI_X7_wordsWith mi As h = some (x, h') → CalOK l D dA z sa Hz (MT mi) As h (some (.int x)) h' := (cxI_ok (fun As h x h2 e => by obtain ⟨_, _, rfl, e0⟩ := sR_inv e; obtain ⟨_, _, rfl, e1⟩ := sI_inv e0; obtain ⟨rfl, ez⟩ := sE_inv e1; exact c_X7_isFrame E ez) ((cxI_ok (fun As h x h2 e => by obtain ⟨_, _, rfl, e0⟩ := sR_inv e; obtain ⟨_, _, rfl, e1⟩ := sI_inv e0; obtain ⟨rfl, ez⟩ := sE_inv e1; exact c_X7_refuse E ez) ((cxI_ok (fun As h x h2 e => by obtain ⟨_, _, rfl, e0⟩ := sR_inv e; obtain ⟨_, _, rfl, e1⟩ := sI_inv e0; obtain ⟨_, _, rfl, e2⟩ := sI_inv e1; obtain ⟨rfl, ez⟩ := sE_inv e2; exact c_X1_placesWith E ez) ((cxI_ok (fun As h x h2 e => by obtain ⟨_, _, rfl, e0⟩ := sR_inv e; obtain ⟨_, _, rfl, e1⟩ := sI_inv e0; obtain ⟨rfl, ez⟩ := sE_inv e1; exact c_X7_answer E ez) (fI0_ok E))))))))
def I_X7_wordsWith_25 : List AI := [(.aload_n 0, 1, [], 0), (.iconst 2, 1, [], 2), (.invokevirtual 54, 3, [1, 9, 2, 6, 403], 0), (.ireturn, 1, [], 0)]
theorem ok_X7_wordsWith_25 : vBL MT qLen qCh false q_X7_wordsWith.2.2.2.2.1 q_X7_wordsWith.2.2.2.2.2.1 q_X7_wordsWith.2.2.1 q_X7_wordsWith.1.cls q_X7_wordsWith.1.name q_X7_wordsWith.2.1 0 25 I_X7_wordsWith_25 = true := by decide +kernel
def p_X7_wordsWith_25 (a0 : Nat) (h : AH) : Option (Int32 × AH) :=
  if (tg h a0).1 = 6 then ((p_X7_refuse a0 ((2 : Int32)) h).bind fun q101 =>
  some (q101.1, q101.2)) else none
set_option maxRecDepth 100000 in
theorem e_X7_wordsWith_25 {l : Launch} {D : va_G} {dA : Nat → ClassId} {z : Nat} {sa : Nat → Nat} {Hz : Heap} (E : StrOK qLen qCh l D dA z sa Hz) {h0 fin : AH} {x : Int32}  : ∀ (a0 : Nat) (h : AH), p_X7_wordsWith_25 a0 h = some (x, fin) → GM l D dA z sa Hz q_X7_wordsWith h0 (some (.int x)) fin 25 [(0, .ref a0)] [] h := by
  intro a0 h hd
  exact step E (is := I_X7_wordsWith_25) (pc := 25) (K := k0) (FI := FI_X7_wordsWith) (FV := fV0) (FL := fL0) (rt := rtI) (ft := 0) (by exact hd) ok_X7_wordsWith_25 k0_ok (FI_X7_wordsWith_ok E) (fV0_ok E) (fL0_ok E) (rtI_ok rfl)
def I_X7_wordsWith_31 : List AI := [(.aload_n 0, 1, [], 0), (.aload_n 0, 1, [], 0), (.getfield 29, 3, [6, 4, 2, 358], 0), (.getfield 87, 3, [1, 1, 2, 321], 0), (.iload_n 1, 1, [], 0), (.iload_n 2, 1, [], 0), (.invokevirtual 117, 3, [1, 66, 3, 0, 695], 0), (.invokevirtual 68, 3, [1, 50, 2, 6, 633], 0), (.ireturn, 1, [], 0)]
theorem ok_X7_wordsWith_31 : vBL MT qLen qCh false q_X7_wordsWith.2.2.2.2.1 q_X7_wordsWith.2.2.2.2.2.1 q_X7_wordsWith.2.2.1 q_X7_wordsWith.1.cls q_X7_wordsWith.1.name q_X7_wordsWith.2.1 0 31 I_X7_wordsWith_31 = true := by decide +kernel
def p_X7_wordsWith_31 (a0 : Nat) (x1 : Int32) (x2 : Int32) (h : AH) : Option (Int32 × AH) :=
  if (tg h a0).1 = 6 then (if (tg h (rR h a0 4)).1 = 1 then (if (tg h (rR h (rR h a0 4) 1)).1 = 0 then ((p_X1_placesWith (rR h (rR h a0 4) 1) x1 x2 h).bind fun q102 =>
  if (tg q102.2 a0).1 = 6 then ((p_X7_answer a0 q102.1 q102.2).bind fun q103 =>
  some (q103.1, q103.2)) else none) else none) else none) else none
set_option maxRecDepth 100000 in
theorem e_X7_wordsWith_31 {l : Launch} {D : va_G} {dA : Nat → ClassId} {z : Nat} {sa : Nat → Nat} {Hz : Heap} (E : StrOK qLen qCh l D dA z sa Hz) {h0 fin : AH} {x : Int32}  : ∀ (a0 : Nat) (x1 : Int32) (x2 : Int32) (h : AH), p_X7_wordsWith_31 a0 x1 x2 h = some (x, fin) → GM l D dA z sa Hz q_X7_wordsWith h0 (some (.int x)) fin 31 [(0, .ref a0), (1, .int x1), (2, .int x2)] [] h := by
  intro a0 x1 x2 h hd
  exact step E (is := I_X7_wordsWith_31) (pc := 31) (K := k0) (FI := FI_X7_wordsWith) (FV := fV0) (FL := fL0) (rt := rtI) (ft := 0) (by exact hd) ok_X7_wordsWith_31 k0_ok (FI_X7_wordsWith_ok E) (fV0_ok E) (fL0_ok E) (rtI_ok rfl)
def I_X7_wordsWith_14 : List AI := [(.iload_n 2, 1, [], 0), (.iconst 1, 1, [], 1), (.if_icmp .lt 9, 3, [25], 0), (.iload_n 2, 1, [], 0), (.bipush 63, 2, [], 63), (.if_icmp .le 9, 3, [31], 0)]
theorem ok_X7_wordsWith_14 : vBL MT qLen qCh false q_X7_wordsWith.2.2.2.2.1 q_X7_wordsWith.2.2.2.2.2.1 q_X7_wordsWith.2.2.1 q_X7_wordsWith.1.cls q_X7_wordsWith.1.name q_X7_wordsWith.2.1 25 14 I_X7_wordsWith_14 = true := by decide +kernel
def p_X7_wordsWith_14 (a0 : Nat) (x1 : Int32) (x2 : Int32) (h : AH) : Option (Int32 × AH) :=
  if x2 < ((1 : Int32)) then (p_X7_wordsWith_25 a0 h)
  else
  if ((63 : Int32)) < x2 then (p_X7_wordsWith_25 a0 h)
  else
  if (tg h a0).1 = 6 then (if (tg h (rR h a0 4)).1 = 1 then (if (tg h (rR h (rR h a0 4) 1)).1 = 0 then ((p_X1_placesWith (rR h (rR h a0 4) 1) x1 x2 h).bind fun q104 =>
  if (tg q104.2 a0).1 = 6 then ((p_X7_answer a0 q104.1 q104.2).bind fun q105 =>
  some (q105.1, q105.2)) else none) else none) else none) else none
set_option maxRecDepth 100000 in
theorem e_X7_wordsWith_14 {l : Launch} {D : va_G} {dA : Nat → ClassId} {z : Nat} {sa : Nat → Nat} {Hz : Heap} (E : StrOK qLen qCh l D dA z sa Hz) {h0 fin : AH} {x : Int32}  : ∀ (a0 : Nat) (x1 : Int32) (x2 : Int32) (h : AH), p_X7_wordsWith_14 a0 x1 x2 h = some (x, fin) → GM l D dA z sa Hz q_X7_wordsWith h0 (some (.int x)) fin 14 [(0, .ref a0), (1, .int x1), (2, .int x2)] [] h := by
  intro a0 x1 x2 h hd
  exact step E (is := I_X7_wordsWith_14) (pc := 14) (K := (kx 25 (fun la st h => gR la 0 fun a0 => sE st (p_X7_wordsWith_25 a0 h)) (kx 31 (fun la st h => gR la 0 fun a0 => gI la 1 fun x1 => gI la 2 fun x2 => sE st (p_X7_wordsWith_31 a0 x1 x2 h)) k0))) (FI := FI_X7_wordsWith) (FV := fV0) (FL := fL0) (rt := rtI) (ft := 25) (by exact hd) ok_X7_wordsWith_14 (kx_ok (fun la st h e => by obtain ⟨a0, m_a0, e1⟩ := gR_inv e; obtain ⟨rfl, ez⟩ := sE_inv e1; exact gm_fewer (e_X7_wordsWith_25 E  a0 h ez) (mem_cons m_a0 mem_nil)) (kx_ok (fun la st h e => by obtain ⟨a0, m_a0, e1⟩ := gR_inv e; obtain ⟨x1, m_x1, e2⟩ := gI_inv e1; obtain ⟨x2, m_x2, e3⟩ := gI_inv e2; obtain ⟨rfl, ez⟩ := sE_inv e3; exact gm_fewer (e_X7_wordsWith_31 E  a0 x1 x2 h ez) (mem_cons m_a0 (mem_cons m_x1 (mem_cons m_x2 mem_nil)))) k0_ok)) (FI_X7_wordsWith_ok E) (fV0_ok E) (fL0_ok E) (rtI_ok rfl)
def I_X7_wordsWith_0 : List AI := [(.aload_n 0, 1, [], 0), (.iload_n 1, 1, [], 0), (.invokevirtual 80, 3, [1, 54, 2, 6, 649], 0), (.ifCond .ne 9, 3, [14], 0), (.aload_n 0, 1, [], 0), (.iconst 1, 1, [], 1), (.invokevirtual 54, 3, [1, 9, 2, 6, 403], 0), (.ireturn, 1, [], 0)]
theorem ok_X7_wordsWith_0 : vBL MT qLen qCh false q_X7_wordsWith.2.2.2.2.1 q_X7_wordsWith.2.2.2.2.2.1 q_X7_wordsWith.2.2.1 q_X7_wordsWith.1.cls q_X7_wordsWith.1.name q_X7_wordsWith.2.1 0 0 I_X7_wordsWith_0 = true := by decide +kernel
def p_X7_wordsWith (a0 : Nat) (x1 : Int32) (x2 : Int32) (h : AH) : Option (Int32 × AH) :=
  if (tg h a0).1 = 6 then ((p_X7_isFrame a0 x1 h).bind fun q106 =>
  if q106.1 = 0 then (if (tg q106.2 a0).1 = 6 then ((p_X7_refuse a0 ((1 : Int32)) q106.2).bind fun q109 =>
  some (q109.1, q109.2)) else none)
  else
  if x2 < ((1 : Int32)) then (p_X7_wordsWith_25 a0 q106.2)
  else
  if ((63 : Int32)) < x2 then (p_X7_wordsWith_25 a0 q106.2)
  else
  if (tg q106.2 a0).1 = 6 then (if (tg q106.2 (rR q106.2 a0 4)).1 = 1 then (if (tg q106.2 (rR q106.2 (rR q106.2 a0 4) 1)).1 = 0 then ((p_X1_placesWith (rR q106.2 (rR q106.2 a0 4) 1) x1 x2 q106.2).bind fun q107 =>
  if (tg q107.2 a0).1 = 6 then ((p_X7_answer a0 q107.1 q107.2).bind fun q108 =>
  some (q108.1, q108.2)) else none) else none) else none) else none) else none
set_option maxRecDepth 100000 in
theorem e_X7_wordsWith_0 {l : Launch} {D : va_G} {dA : Nat → ClassId} {z : Nat} {sa : Nat → Nat} {Hz : Heap} (E : StrOK qLen qCh l D dA z sa Hz) {h0 fin : AH} {x : Int32}  : ∀ (a0 : Nat) (x1 : Int32) (x2 : Int32) (h : AH), p_X7_wordsWith a0 x1 x2 h = some (x, fin) → GM l D dA z sa Hz q_X7_wordsWith h0 (some (.int x)) fin 0 [(0, .ref a0), (1, .int x1), (2, .int x2)] [] h := by
  intro a0 x1 x2 h hd
  exact step E (is := I_X7_wordsWith_0) (pc := 0) (K := (kx 14 (fun la st h => gR la 0 fun a0 => gI la 1 fun x1 => gI la 2 fun x2 => sE st (p_X7_wordsWith_14 a0 x1 x2 h)) k0)) (FI := FI_X7_wordsWith) (FV := fV0) (FL := fL0) (rt := rtI) (ft := 0) (by exact hd) ok_X7_wordsWith_0 (kx_ok (fun la st h e => by obtain ⟨a0, m_a0, e1⟩ := gR_inv e; obtain ⟨x1, m_x1, e2⟩ := gI_inv e1; obtain ⟨x2, m_x2, e3⟩ := gI_inv e2; obtain ⟨rfl, ez⟩ := sE_inv e3; exact gm_fewer (e_X7_wordsWith_14 E  a0 x1 x2 h ez) (mem_cons m_a0 (mem_cons m_x1 (mem_cons m_x2 mem_nil)))) k0_ok) (FI_X7_wordsWith_ok E) (fV0_ok E) (fL0_ok E) (rtI_ok rfl)
theorem c_X7_wordsWith {l : Launch} {D : va_G} {dA : Nat → ClassId} {z : Nat} {sa : Nat → Nat} {Hz : Heap} (E : StrOK qLen qCh l D dA z sa Hz) {a0 : Nat} {x1 : Int32} {x2 : Int32} {h fin : AH} {x : Int32} (hd : p_X7_wordsWith a0 x1 x2 h = some (x, fin)) : CalOK l D dA z sa Hz q_X7_wordsWith [.ref a0, .int x1, .int x2] h (some (.int x)) fin := calOf (by decide +kernel) (Nat.le_of_ble_eq_true rfl) (e_X7_wordsWith_0 E a0 x1 x2 h hd)
def I_X7_isPage_22 : List AI := [(.ireturn, 1, [], 0)]
theorem ok_X7_isPage_22 : vBL MT qLen qCh false q_X7_isPage.2.2.2.2.1 q_X7_isPage.2.2.2.2.2.1 q_X7_isPage.2.2.1 q_X7_isPage.1.cls q_X7_isPage.1.name q_X7_isPage.2.1 0 22 I_X7_isPage_22 = true := by decide +kernel
def p_X7_isPage_22 (y0 : Int32) (h : AH) : Option (Int32 × AH) :=
  if y0 &&& 1 = y0 then some (y0, h) else none
set_option maxRecDepth 100000 in
theorem e_X7_isPage_22 {l : Launch} {D : va_G} {dA : Nat → ClassId} {z : Nat} {sa : Nat → Nat} {Hz : Heap} (E : StrOK qLen qCh l D dA z sa Hz) {h0 fin : AH} {x : Int32}  : ∀ (y0 : Int32) (h : AH), p_X7_isPage_22 y0 h = some (x, fin) → GM l D dA z sa Hz q_X7_isPage h0 (some (.int x)) fin 22 [] [.int y0] h := by
  intro y0 h hd
  exact step E (is := I_X7_isPage_22) (pc := 22) (K := k0) (FI := fI0) (FV := fV0) (FL := fL0) (rt := rtZ) (ft := 0) (by exact hd) ok_X7_isPage_22 k0_ok (fI0_ok E) (fV0_ok E) (fL0_ok E) (rtZ_ok rfl)
def I_X7_isPage_21 : List AI := [(.iconst 0, 1, [], 0)]
theorem ok_X7_isPage_21 : vBL MT qLen qCh false q_X7_isPage.2.2.2.2.1 q_X7_isPage.2.2.2.2.2.1 q_X7_isPage.2.2.1 q_X7_isPage.1.cls q_X7_isPage.1.name q_X7_isPage.2.1 22 21 I_X7_isPage_21 = true := by decide +kernel
def p_X7_isPage_21 (h : AH) : Option (Int32 × AH) :=
  p_X7_isPage_22 ((0 : Int32)) h
set_option maxRecDepth 100000 in
theorem e_X7_isPage_21 {l : Launch} {D : va_G} {dA : Nat → ClassId} {z : Nat} {sa : Nat → Nat} {Hz : Heap} (E : StrOK qLen qCh l D dA z sa Hz) {h0 fin : AH} {x : Int32}  : ∀  (h : AH), p_X7_isPage_21 h = some (x, fin) → GM l D dA z sa Hz q_X7_isPage h0 (some (.int x)) fin 21 [] [] h := by
  intro h hd
  exact step E (is := I_X7_isPage_21) (pc := 21) (K := (kx 22 (fun la st h => sI st fun y0 st => sE st (p_X7_isPage_22 y0 h)) k0)) (FI := fI0) (FV := fV0) (FL := fL0) (rt := rtZ) (ft := 22) (by exact hd) ok_X7_isPage_21 (kx_ok (fun la st h e => by obtain ⟨y0, _, rfl, e1⟩ := sI_inv e; obtain ⟨rfl, ez⟩ := sE_inv e1; exact gm_fewer (e_X7_isPage_22 E  y0 h ez) mem_nil) k0_ok) (fI0_ok E) (fV0_ok E) (fL0_ok E) (rtZ_ok rfl)
def I_X7_isPage_0 : List AI := [(.aload_n 0, 1, [], 0), (.getfield 107, 3, [6, 3, 3, 357], 0), (.ifCond .eq 17, 3, [21], 0), (.iload_n 1, 1, [], 0), (.ifCond .lt 13, 3, [21], 0), (.iload_n 1, 1, [], 0), (.bipush 64, 2, [], 64), (.if_icmp .ge 7, 3, [21], 0), (.iconst 1, 1, [], 1), (.goto 4, 3, [22], 0)]
theorem ok_X7_isPage_0 : vBL MT qLen qCh false q_X7_isPage.2.2.2.2.1 q_X7_isPage.2.2.2.2.2.1 q_X7_isPage.2.2.1 q_X7_isPage.1.cls q_X7_isPage.1.name q_X7_isPage.2.1 0 0 I_X7_isPage_0 = true := by decide +kernel
def p_X7_isPage (a0 : Nat) (x1 : Int32) (h : AH) : Option (Int32 × AH) :=
  if (tg h a0).1 = 6 then (if (rI h a0 3) = 0 then (p_X7_isPage_21 h)
  else
  if x1 < 0 then (p_X7_isPage_21 h)
  else
  if x1 < ((64 : Int32)) then (p_X7_isPage_22 ((1 : Int32)) h)
  else
  p_X7_isPage_21 h) else none
set_option maxRecDepth 100000 in
theorem e_X7_isPage_0 {l : Launch} {D : va_G} {dA : Nat → ClassId} {z : Nat} {sa : Nat → Nat} {Hz : Heap} (E : StrOK qLen qCh l D dA z sa Hz) {h0 fin : AH} {x : Int32}  : ∀ (a0 : Nat) (x1 : Int32) (h : AH), p_X7_isPage a0 x1 h = some (x, fin) → GM l D dA z sa Hz q_X7_isPage h0 (some (.int x)) fin 0 [(0, .ref a0), (1, .int x1)] [] h := by
  intro a0 x1 h hd
  exact step E (is := I_X7_isPage_0) (pc := 0) (K := (kx 21 (fun la st h => sE st (p_X7_isPage_21 h)) (kx 22 (fun la st h => sI st fun y0 st => sE st (p_X7_isPage_22 y0 h)) k0))) (FI := fI0) (FV := fV0) (FL := fL0) (rt := rtZ) (ft := 0) (by exact hd) ok_X7_isPage_0 (kx_ok (fun la st h e => by obtain ⟨rfl, ez⟩ := sE_inv e; exact gm_fewer (e_X7_isPage_21 E   h ez) mem_nil) (kx_ok (fun la st h e => by obtain ⟨y0, _, rfl, e1⟩ := sI_inv e; obtain ⟨rfl, ez⟩ := sE_inv e1; exact gm_fewer (e_X7_isPage_22 E  y0 h ez) mem_nil) k0_ok)) (fI0_ok E) (fV0_ok E) (fL0_ok E) (rtZ_ok rfl)
theorem c_X7_isPage {l : Launch} {D : va_G} {dA : Nat → ClassId} {z : Nat} {sa : Nat → Nat} {Hz : Heap} (E : StrOK qLen qCh l D dA z sa Hz) {a0 : Nat} {x1 : Int32} {h fin : AH} {x : Int32} (hd : p_X7_isPage a0 x1 h = some (x, fin)) : CalOK l D dA z sa Hz q_X7_isPage [.ref a0, .int x1] h (some (.int x)) fin := calOf (by decide +kernel) (Nat.le_of_ble_eq_true rfl) (e_X7_isPage_0 E a0 x1 h hd)
def I_X7_mode_18 : List AI := [(.iadd, 1, [], 0), (.ireturn, 1, [], 0)]
theorem ok_X7_mode_18 : vBL MT qLen qCh false q_X7_mode.2.2.2.2.1 q_X7_mode.2.2.2.2.2.1 q_X7_mode.2.2.1 q_X7_mode.1.cls q_X7_mode.1.name q_X7_mode.2.1 0 18 I_X7_mode_18 = true := by decide +kernel
def p_X7_mode_18 (y0 : Int32) (y1 : Int32) (h : AH) : Option (Int32 × AH) :=
  some ((y1 + y0), h)
set_option maxRecDepth 100000 in
theorem e_X7_mode_18 {l : Launch} {D : va_G} {dA : Nat → ClassId} {z : Nat} {sa : Nat → Nat} {Hz : Heap} (E : StrOK qLen qCh l D dA z sa Hz) {h0 fin : AH} {x : Int32}  : ∀ (y0 : Int32) (y1 : Int32) (h : AH), p_X7_mode_18 y0 y1 h = some (x, fin) → GM l D dA z sa Hz q_X7_mode h0 (some (.int x)) fin 18 [] [.int y0, .int y1] h := by
  intro y0 y1 h hd
  exact step E (is := I_X7_mode_18) (pc := 18) (K := k0) (FI := fI0) (FV := fV0) (FL := fL0) (rt := rtI) (ft := 0) (by exact hd) ok_X7_mode_18 k0_ok (fI0_ok E) (fV0_ok E) (fL0_ok E) (rtI_ok rfl)
def I_X7_mode_17 : List AI := [(.iconst 0, 1, [], 0)]
theorem ok_X7_mode_17 : vBL MT qLen qCh false q_X7_mode.2.2.2.2.1 q_X7_mode.2.2.2.2.2.1 q_X7_mode.2.2.1 q_X7_mode.1.cls q_X7_mode.1.name q_X7_mode.2.1 18 17 I_X7_mode_17 = true := by decide +kernel
def p_X7_mode_17 (y0 : Int32) (h : AH) : Option (Int32 × AH) :=
  p_X7_mode_18 ((0 : Int32)) y0 h
set_option maxRecDepth 100000 in
theorem e_X7_mode_17 {l : Launch} {D : va_G} {dA : Nat → ClassId} {z : Nat} {sa : Nat → Nat} {Hz : Heap} (E : StrOK qLen qCh l D dA z sa Hz) {h0 fin : AH} {x : Int32}  : ∀ (y0 : Int32) (h : AH), p_X7_mode_17 y0 h = some (x, fin) → GM l D dA z sa Hz q_X7_mode h0 (some (.int x)) fin 17 [] [.int y0] h := by
  intro y0 h hd
  exact step E (is := I_X7_mode_17) (pc := 17) (K := (kx 18 (fun la st h => sI st fun y0 st => sI st fun y1 st => sE st (p_X7_mode_18 y0 y1 h)) k0)) (FI := fI0) (FV := fV0) (FL := fL0) (rt := rtI) (ft := 18) (by exact hd) ok_X7_mode_17 (kx_ok (fun la st h e => by obtain ⟨y0, _, rfl, e1⟩ := sI_inv e; obtain ⟨y1, _, rfl, e2⟩ := sI_inv e1; obtain ⟨rfl, ez⟩ := sE_inv e2; exact gm_fewer (e_X7_mode_18 E  y0 y1 h ez) mem_nil) k0_ok) (fI0_ok E) (fV0_ok E) (fL0_ok E) (rtI_ok rfl)
def I_X7_mode_9 : List AI := [(.iload_n 1, 1, [], 0), (.ifCond .eq 7, 3, [17], 0), (.iconst 2, 1, [], 2), (.goto 4, 3, [18], 0)]
theorem ok_X7_mode_9 : vBL MT qLen qCh false q_X7_mode.2.2.2.2.1 q_X7_mode.2.2.2.2.2.1 q_X7_mode.2.2.1 q_X7_mode.1.cls q_X7_mode.1.name q_X7_mode.2.1 0 9 I_X7_mode_9 = true := by decide +kernel
def p_X7_mode_9 (x1 : Int32) (y0 : Int32) (h : AH) : Option (Int32 × AH) :=
  if x1 = 0 then (p_X7_mode_18 ((0 : Int32)) y0 h)
  else
  p_X7_mode_18 ((2 : Int32)) y0 h
set_option maxRecDepth 100000 in
theorem e_X7_mode_9 {l : Launch} {D : va_G} {dA : Nat → ClassId} {z : Nat} {sa : Nat → Nat} {Hz : Heap} (E : StrOK qLen qCh l D dA z sa Hz) {h0 fin : AH} {x : Int32}  : ∀ (x1 : Int32) (y0 : Int32) (h : AH), p_X7_mode_9 x1 y0 h = some (x, fin) → GM l D dA z sa Hz q_X7_mode h0 (some (.int x)) fin 9 [(1, .int x1)] [.int y0] h := by
  intro x1 y0 h hd
  exact step E (is := I_X7_mode_9) (pc := 9) (K := (kx 17 (fun la st h => sI st fun y0 st => sE st (p_X7_mode_17 y0 h)) (kx 18 (fun la st h => sI st fun y0 st => sI st fun y1 st => sE st (p_X7_mode_18 y0 y1 h)) k0))) (FI := fI0) (FV := fV0) (FL := fL0) (rt := rtI) (ft := 0) (by exact hd) ok_X7_mode_9 (kx_ok (fun la st h e => by obtain ⟨y0, _, rfl, e1⟩ := sI_inv e; obtain ⟨rfl, ez⟩ := sE_inv e1; exact gm_fewer (e_X7_mode_17 E  y0 h ez) mem_nil) (kx_ok (fun la st h e => by obtain ⟨y0, _, rfl, e1⟩ := sI_inv e; obtain ⟨y1, _, rfl, e2⟩ := sI_inv e1; obtain ⟨rfl, ez⟩ := sE_inv e2; exact gm_fewer (e_X7_mode_18 E  y0 y1 h ez) mem_nil) k0_ok)) (fI0_ok E) (fV0_ok E) (fL0_ok E) (rtI_ok rfl)
def I_X7_mode_8 : List AI := [(.iconst 0, 1, [], 0)]
theorem ok_X7_mode_8 : vBL MT qLen qCh false q_X7_mode.2.2.2.2.1 q_X7_mode.2.2.2.2.2.1 q_X7_mode.2.2.1 q_X7_mode.1.cls q_X7_mode.1.name q_X7_mode.2.1 9 8 I_X7_mode_8 = true := by decide +kernel
def p_X7_mode_8 (x1 : Int32) (h : AH) : Option (Int32 × AH) :=
  p_X7_mode_9 x1 ((0 : Int32)) h
set_option maxRecDepth 100000 in
theorem e_X7_mode_8 {l : Launch} {D : va_G} {dA : Nat → ClassId} {z : Nat} {sa : Nat → Nat} {Hz : Heap} (E : StrOK qLen qCh l D dA z sa Hz) {h0 fin : AH} {x : Int32}  : ∀ (x1 : Int32) (h : AH), p_X7_mode_8 x1 h = some (x, fin) → GM l D dA z sa Hz q_X7_mode h0 (some (.int x)) fin 8 [(1, .int x1)] [] h := by
  intro x1 h hd
  exact step E (is := I_X7_mode_8) (pc := 8) (K := (kx 9 (fun la st h => gI la 1 fun x1 => sI st fun y0 st => sE st (p_X7_mode_9 x1 y0 h)) k0)) (FI := fI0) (FV := fV0) (FL := fL0) (rt := rtI) (ft := 9) (by exact hd) ok_X7_mode_8 (kx_ok (fun la st h e => by obtain ⟨x1, m_x1, e1⟩ := gI_inv e; obtain ⟨y0, _, rfl, e2⟩ := sI_inv e1; obtain ⟨rfl, ez⟩ := sE_inv e2; exact gm_fewer (e_X7_mode_9 E  x1 y0 h ez) (mem_cons m_x1 mem_nil)) k0_ok) (fI0_ok E) (fV0_ok E) (fL0_ok E) (rtI_ok rfl)
def I_X7_mode_0 : List AI := [(.iload_n 0, 1, [], 0), (.ifCond .eq 7, 3, [8], 0), (.iconst 1, 1, [], 1), (.goto 4, 3, [9], 0)]
theorem ok_X7_mode_0 : vBL MT qLen qCh false q_X7_mode.2.2.2.2.1 q_X7_mode.2.2.2.2.2.1 q_X7_mode.2.2.1 q_X7_mode.1.cls q_X7_mode.1.name q_X7_mode.2.1 0 0 I_X7_mode_0 = true := by decide +kernel
def p_X7_mode (x0 : Int32) (x1 : Int32) (h : AH) : Option (Int32 × AH) :=
  if x0 = 0 then (p_X7_mode_9 x1 ((0 : Int32)) h)
  else
  p_X7_mode_9 x1 ((1 : Int32)) h
set_option maxRecDepth 100000 in
theorem e_X7_mode_0 {l : Launch} {D : va_G} {dA : Nat → ClassId} {z : Nat} {sa : Nat → Nat} {Hz : Heap} (E : StrOK qLen qCh l D dA z sa Hz) {h0 fin : AH} {x : Int32}  : ∀ (x0 : Int32) (x1 : Int32) (h : AH), p_X7_mode x0 x1 h = some (x, fin) → GM l D dA z sa Hz q_X7_mode h0 (some (.int x)) fin 0 [(0, .int x0), (1, .int x1)] [] h := by
  intro x0 x1 h hd
  exact step E (is := I_X7_mode_0) (pc := 0) (K := (kx 8 (fun la st h => gI la 1 fun x1 => sE st (p_X7_mode_8 x1 h)) (kx 9 (fun la st h => gI la 1 fun x1 => sI st fun y0 st => sE st (p_X7_mode_9 x1 y0 h)) k0))) (FI := fI0) (FV := fV0) (FL := fL0) (rt := rtI) (ft := 0) (by exact hd) ok_X7_mode_0 (kx_ok (fun la st h e => by obtain ⟨x1, m_x1, e1⟩ := gI_inv e; obtain ⟨rfl, ez⟩ := sE_inv e1; exact gm_fewer (e_X7_mode_8 E  x1 h ez) (mem_cons m_x1 mem_nil)) (kx_ok (fun la st h e => by obtain ⟨x1, m_x1, e1⟩ := gI_inv e; obtain ⟨y0, _, rfl, e2⟩ := sI_inv e1; obtain ⟨rfl, ez⟩ := sE_inv e2; exact gm_fewer (e_X7_mode_9 E  x1 y0 h ez) (mem_cons m_x1 mem_nil)) k0_ok)) (fI0_ok E) (fV0_ok E) (fL0_ok E) (rtI_ok rfl)
theorem c_X7_mode {l : Launch} {D : va_G} {dA : Nat → ClassId} {z : Nat} {sa : Nat → Nat} {Hz : Heap} (E : StrOK qLen qCh l D dA z sa Hz) {x0 : Int32} {x1 : Int32} {h fin : AH} {x : Int32} (hd : p_X7_mode x0 x1 h = some (x, fin)) : CalOK l D dA z sa Hz q_X7_mode [.int x0, .int x1] h (some (.int x)) fin := calOf (by decide +kernel) (Nat.le_of_ble_eq_true rfl) (e_X7_mode_0 E x0 x1 h hd)
def FI_X1_upperWord : Nat → List Value → AH → Option (Int32 × AH) := (cx 56 (fun As h => sR As fun a0 As => sI As fun x1 As => sI As fun x2 As => sE As (p_X1_wordAt a0 x1 x2 h)) fI0)
theorem FI_X1_upperWord_ok {l : Launch} {D : va_G} {dA : Nat → ClassId} {z : Nat} {sa : Nat → Nat} {Hz : Heap} (E : StrOK qLen qCh l D dA z sa Hz) : ∀ mi As h x h', FI_X1_upperWord mi As h = some (x, h') → CalOK l D dA z sa Hz (MT mi) As h (some (.int x)) h' := (cxI_ok (fun As h x h2 e => by obtain ⟨_, _, rfl, e0⟩ := sR_inv e; obtain ⟨_, _, rfl, e1⟩ := sI_inv e0; obtain ⟨_, _, rfl, e2⟩ := sI_inv e1; obtain ⟨rfl, ez⟩ := sE_inv e2; exact c_X1_wordAt E ez) (fI0_ok E))
def I_X1_upperWord_0 : List AI := [(.aload_n 0, 1, [], 0), (.aload_n 0, 1, [], 0), (.getfield 25, 3, [0, 4, 0, 194], 0), (.iload_n 1, 1, [], 0), (.bipush 8, 2, [], 8), (.idiv, 1, [], 0), (.invokevirtual 50, 3, [1, 56, 3, 0, 699], 0), (.ireturn, 1, [], 0)]
theorem ok_X1_upperWord_0 : vBL MT qLen qCh false q_X1_upperWord.2.2.2.2.1 q_X1_upperWord.2.2.2.2.2.1 q_X1_upperWord.2.2.1 q_X1_upperWord.1.cls q_X1_upperWord.1.name q_X1_upperWord.2.1 0 0 I_X1_upperWord_0 = true := by decide +kernel
def p_X1_upperWord (a0 : Nat) (x1 : Int32) (h : AH) : Option (Int32 × AH) :=
  if (tg h a0).1 = 0 then (if ((8 : Int32)) = 0 then none else
  if (tg h a0).1 = 0 then ((p_X1_wordAt a0 (rI h a0 4) (x1 / ((8 : Int32))) h).bind fun q101 =>
  some (q101.1, q101.2)) else none) else none
set_option maxRecDepth 100000 in
theorem e_X1_upperWord_0 {l : Launch} {D : va_G} {dA : Nat → ClassId} {z : Nat} {sa : Nat → Nat} {Hz : Heap} (E : StrOK qLen qCh l D dA z sa Hz) {h0 fin : AH} {x : Int32}  : ∀ (a0 : Nat) (x1 : Int32) (h : AH), p_X1_upperWord a0 x1 h = some (x, fin) → GM l D dA z sa Hz q_X1_upperWord h0 (some (.int x)) fin 0 [(0, .ref a0), (1, .int x1)] [] h := by
  intro a0 x1 h hd
  exact step E (is := I_X1_upperWord_0) (pc := 0) (K := k0) (FI := FI_X1_upperWord) (FV := fV0) (FL := fL0) (rt := rtI) (ft := 0) (by exact hd) ok_X1_upperWord_0 k0_ok (FI_X1_upperWord_ok E) (fV0_ok E) (fL0_ok E) (rtI_ok rfl)
theorem c_X1_upperWord {l : Launch} {D : va_G} {dA : Nat → ClassId} {z : Nat} {sa : Nat → Nat} {Hz : Heap} (E : StrOK qLen qCh l D dA z sa Hz) {a0 : Nat} {x1 : Int32} {h fin : AH} {x : Int32} (hd : p_X1_upperWord a0 x1 h = some (x, fin)) : CalOK l D dA z sa Hz q_X1_upperWord [.ref a0, .int x1] h (some (.int x)) fin := calOf (by decide +kernel) (Nat.le_of_ble_eq_true rfl) (e_X1_upperWord_0 E a0 x1 h hd)
def FI_X1_barOf : Nat → List Value → AH → Option (Int32 × AH) := (cx 60 (fun As h => sI As fun x0 As => sI As fun x1 As => sE As (p_X7_has x0 x1 h)) fI0)
theorem FI_X1_barOf_ok {l : Launch} {D : va_G} {dA : Nat → ClassId} {z : Nat} {sa : Nat → Nat} {Hz : Heap} (E : StrOK qLen qCh l D dA z sa Hz) : ∀ mi As h x h', FI_X1_barOf mi As h = some (x, h') → CalOK l D dA z sa Hz (MT mi) As h (some (.int x)) h' := (cxI_ok (fun As h x h2 e => by obtain ⟨_, _, rfl, e0⟩ := sI_inv e; obtain ⟨_, _, rfl, e1⟩ := sI_inv e0; obtain ⟨rfl, ez⟩ := sE_inv e1; exact c_X7_has E ez) (fI0_ok E))
def I_X1_barOf_49 : List AI := [(.iconst 0, 1, [], 0), (.ireturn, 1, [], 0)]
theorem ok_X1_barOf_49 : vBL MT qLen qCh false q_X1_barOf.2.2.2.2.1 q_X1_barOf.2.2.2.2.2.1 q_X1_barOf.2.2.1 q_X1_barOf.1.cls q_X1_barOf.1.name q_X1_barOf.2.1 0 49 I_X1_barOf_49 = true := by decide +kernel
def p_X1_barOf_49 (h : AH) : Option (Int32 × AH) :=
  some (((0 : Int32)), h)
set_option maxRecDepth 100000 in
theorem e_X1_barOf_49 {l : Launch} {D : va_G} {dA : Nat → ClassId} {z : Nat} {sa : Nat → Nat} {Hz : Heap} (E : StrOK qLen qCh l D dA z sa Hz) {h0 fin : AH} {x : Int32}  : ∀  (h : AH), p_X1_barOf_49 h = some (x, fin) → GM l D dA z sa Hz q_X1_barOf h0 (some (.int x)) fin 49 [] [] h := by
  intro h hd
  exact step E (is := I_X1_barOf_49) (pc := 49) (K := k0) (FI := FI_X1_barOf) (FV := fV0) (FL := fL0) (rt := rtI) (ft := 0) (by exact hd) ok_X1_barOf_49 k0_ok (FI_X1_barOf_ok E) (fV0_ok E) (fL0_ok E) (rtI_ok rfl)
def I_X1_barOf_30 : List AI := [(.iload_n 1, 1, [], 0), (.iconst 2, 1, [], 2), (.invokestatic 42, 3, [1, 60, 2, 677], 0), (.ifCond .eq 14, 3, [49], 0), (.iload_n 0, 1, [], 0), (.iconst 4, 1, [], 4), (.invokestatic 42, 3, [1, 60, 2, 677], 0), (.ifCond .ne 6, 3, [49], 0), (.bipush (-3), 2, [], (-3)), (.ireturn, 1, [], 0)]
theorem ok_X1_barOf_30 : vBL MT qLen qCh false q_X1_barOf.2.2.2.2.1 q_X1_barOf.2.2.2.2.2.1 q_X1_barOf.2.2.1 q_X1_barOf.1.cls q_X1_barOf.1.name q_X1_barOf.2.1 0 30 I_X1_barOf_30 = true := by decide +kernel
def p_X1_barOf_30 (x0 : Int32) (x1 : Int32) (h : AH) : Option (Int32 × AH) :=
  (p_X7_has x1 ((2 : Int32)) h).bind fun q101 =>
  if q101.1 = 0 then (p_X1_barOf_49 q101.2)
  else
  (p_X7_has x0 ((4 : Int32)) q101.2).bind fun q102 =>
  if q102.1 = 0 then (some (((-3 : Int32)), q102.2))
  else
  p_X1_barOf_49 q102.2
set_option maxRecDepth 100000 in
theorem e_X1_barOf_30 {l : Launch} {D : va_G} {dA : Nat → ClassId} {z : Nat} {sa : Nat → Nat} {Hz : Heap} (E : StrOK qLen qCh l D dA z sa Hz) {h0 fin : AH} {x : Int32}  : ∀ (x0 : Int32) (x1 : Int32) (h : AH), p_X1_barOf_30 x0 x1 h = some (x, fin) → GM l D dA z sa Hz q_X1_barOf h0 (some (.int x)) fin 30 [(0, .int x0), (1, .int x1)] [] h := by
  intro x0 x1 h hd
  exact step E (is := I_X1_barOf_30) (pc := 30) (K := (kx 49 (fun la st h => sE st (p_X1_barOf_49 h)) k0)) (FI := FI_X1_barOf) (FV := fV0) (FL := fL0) (rt := rtI) (ft := 0) (by exact hd) ok_X1_barOf_30 (kx_ok (fun la st h e => by obtain ⟨rfl, ez⟩ := sE_inv e; exact gm_fewer (e_X1_barOf_49 E   h ez) mem_nil) k0_ok) (FI_X1_barOf_ok E) (fV0_ok E) (fL0_ok E) (rtI_ok rfl)
def I_X1_barOf_11 : List AI := [(.iload_n 1, 1, [], 0), (.iconst 1, 1, [], 1), (.invokestatic 42, 3, [1, 60, 2, 677], 0), (.ifCond .eq 14, 3, [30], 0), (.iload_n 0, 1, [], 0), (.iconst 2, 1, [], 2), (.invokestatic 42, 3, [1, 60, 2, 677], 0), (.ifCond .ne 6, 3, [30], 0), (.bipush (-3), 2, [], (-3)), (.ireturn, 1, [], 0)]
theorem ok_X1_barOf_11 : vBL MT qLen qCh false q_X1_barOf.2.2.2.2.1 q_X1_barOf.2.2.2.2.2.1 q_X1_barOf.2.2.1 q_X1_barOf.1.cls q_X1_barOf.1.name q_X1_barOf.2.1 0 11 I_X1_barOf_11 = true := by decide +kernel
def p_X1_barOf_11 (x0 : Int32) (x1 : Int32) (h : AH) : Option (Int32 × AH) :=
  (p_X7_has x1 ((1 : Int32)) h).bind fun q103 =>
  if q103.1 = 0 then (p_X1_barOf_30 x0 x1 q103.2)
  else
  (p_X7_has x0 ((2 : Int32)) q103.2).bind fun q104 =>
  if q104.1 = 0 then (some (((-3 : Int32)), q104.2))
  else
  p_X1_barOf_30 x0 x1 q104.2
set_option maxRecDepth 100000 in
theorem e_X1_barOf_11 {l : Launch} {D : va_G} {dA : Nat → ClassId} {z : Nat} {sa : Nat → Nat} {Hz : Heap} (E : StrOK qLen qCh l D dA z sa Hz) {h0 fin : AH} {x : Int32}  : ∀ (x0 : Int32) (x1 : Int32) (h : AH), p_X1_barOf_11 x0 x1 h = some (x, fin) → GM l D dA z sa Hz q_X1_barOf h0 (some (.int x)) fin 11 [(0, .int x0), (1, .int x1)] [] h := by
  intro x0 x1 h hd
  exact step E (is := I_X1_barOf_11) (pc := 11) (K := (kx 30 (fun la st h => gI la 0 fun x0 => gI la 1 fun x1 => sE st (p_X1_barOf_30 x0 x1 h)) k0)) (FI := FI_X1_barOf) (FV := fV0) (FL := fL0) (rt := rtI) (ft := 0) (by exact hd) ok_X1_barOf_11 (kx_ok (fun la st h e => by obtain ⟨x0, m_x0, e1⟩ := gI_inv e; obtain ⟨x1, m_x1, e2⟩ := gI_inv e1; obtain ⟨rfl, ez⟩ := sE_inv e2; exact gm_fewer (e_X1_barOf_30 E  x0 x1 h ez) (mem_cons m_x0 (mem_cons m_x1 mem_nil))) k0_ok) (FI_X1_barOf_ok E) (fV0_ok E) (fL0_ok E) (rtI_ok rfl)
def I_X1_barOf_0 : List AI := [(.iload_n 0, 1, [], 0), (.iconst 1, 1, [], 1), (.invokestatic 42, 3, [1, 60, 2, 677], 0), (.ifCond .ne 6, 3, [11], 0), (.bipush (-2), 2, [], (-2)), (.ireturn, 1, [], 0)]
theorem ok_X1_barOf_0 : vBL MT qLen qCh false q_X1_barOf.2.2.2.2.1 q_X1_barOf.2.2.2.2.2.1 q_X1_barOf.2.2.1 q_X1_barOf.1.cls q_X1_barOf.1.name q_X1_barOf.2.1 0 0 I_X1_barOf_0 = true := by decide +kernel
def p_X1_barOf (x0 : Int32) (x1 : Int32) (h : AH) : Option (Int32 × AH) :=
  (p_X7_has x0 ((1 : Int32)) h).bind fun q105 =>
  if q105.1 = 0 then (some (((-2 : Int32)), q105.2))
  else
  (p_X7_has x1 ((1 : Int32)) q105.2).bind fun q106 =>
  if q106.1 = 0 then (p_X1_barOf_30 x0 x1 q106.2)
  else
  (p_X7_has x0 ((2 : Int32)) q106.2).bind fun q107 =>
  if q107.1 = 0 then (some (((-3 : Int32)), q107.2))
  else
  p_X1_barOf_30 x0 x1 q107.2
set_option maxRecDepth 100000 in
theorem e_X1_barOf_0 {l : Launch} {D : va_G} {dA : Nat → ClassId} {z : Nat} {sa : Nat → Nat} {Hz : Heap} (E : StrOK qLen qCh l D dA z sa Hz) {h0 fin : AH} {x : Int32}  : ∀ (x0 : Int32) (x1 : Int32) (h : AH), p_X1_barOf x0 x1 h = some (x, fin) → GM l D dA z sa Hz q_X1_barOf h0 (some (.int x)) fin 0 [(0, .int x0), (1, .int x1)] [] h := by
  intro x0 x1 h hd
  exact step E (is := I_X1_barOf_0) (pc := 0) (K := (kx 11 (fun la st h => gI la 0 fun x0 => gI la 1 fun x1 => sE st (p_X1_barOf_11 x0 x1 h)) k0)) (FI := FI_X1_barOf) (FV := fV0) (FL := fL0) (rt := rtI) (ft := 0) (by exact hd) ok_X1_barOf_0 (kx_ok (fun la st h e => by obtain ⟨x0, m_x0, e1⟩ := gI_inv e; obtain ⟨x1, m_x1, e2⟩ := gI_inv e1; obtain ⟨rfl, ez⟩ := sE_inv e2; exact gm_fewer (e_X1_barOf_11 E  x0 x1 h ez) (mem_cons m_x0 (mem_cons m_x1 mem_nil))) k0_ok) (FI_X1_barOf_ok E) (fV0_ok E) (fL0_ok E) (rtI_ok rfl)
theorem c_X1_barOf {l : Launch} {D : va_G} {dA : Nat → ClassId} {z : Nat} {sa : Nat → Nat} {Hz : Heap} (E : StrOK qLen qCh l D dA z sa Hz) {x0 : Int32} {x1 : Int32} {h fin : AH} {x : Int32} (hd : p_X1_barOf x0 x1 h = some (x, fin)) : CalOK l D dA z sa Hz q_X1_barOf [.int x0, .int x1] h (some (.int x)) fin := calOf (by decide +kernel) (Nat.le_of_ble_eq_true rfl) (e_X1_barOf_0 E x0 x1 h hd)
def I_X7_frameIn_0 : List AI := [(.iload_n 0, 1, [], 0), (.bipush 8, 2, [], 8), (.ishr, 1, [], 0), (.bipush 15, 2, [], 15), (.iand, 1, [], 0), (.ireturn, 1, [], 0)]
theorem ok_X7_frameIn_0 : vBL MT qLen qCh false q_X7_frameIn.2.2.2.2.1 q_X7_frameIn.2.2.2.2.2.1 q_X7_frameIn.2.2.1 q_X7_frameIn.1.cls q_X7_frameIn.1.name q_X7_frameIn.2.1 0 0 I_X7_frameIn_0 = true := by decide +kernel
def p_X7_frameIn (x0 : Int32) (h : AH) : Option (Int32 × AH) :=
  some (((x0 >>> (((8 : Int32)) &&& 31)) &&& ((15 : Int32))), h)
set_option maxRecDepth 100000 in
theorem e_X7_frameIn_0 {l : Launch} {D : va_G} {dA : Nat → ClassId} {z : Nat} {sa : Nat → Nat} {Hz : Heap} (E : StrOK qLen qCh l D dA z sa Hz) {h0 fin : AH} {x : Int32}  : ∀ (x0 : Int32) (h : AH), p_X7_frameIn x0 h = some (x, fin) → GM l D dA z sa Hz q_X7_frameIn h0 (some (.int x)) fin 0 [(0, .int x0)] [] h := by
  intro x0 h hd
  exact step E (is := I_X7_frameIn_0) (pc := 0) (K := k0) (FI := fI0) (FV := fV0) (FL := fL0) (rt := rtI) (ft := 0) (by exact hd) ok_X7_frameIn_0 k0_ok (fI0_ok E) (fV0_ok E) (fL0_ok E) (rtI_ok rfl)
theorem c_X7_frameIn {l : Launch} {D : va_G} {dA : Nat → ClassId} {z : Nat} {sa : Nat → Nat} {Hz : Heap} (E : StrOK qLen qCh l D dA z sa Hz) {x0 : Int32} {h fin : AH} {x : Int32} (hd : p_X7_frameIn x0 h = some (x, fin)) : CalOK l D dA z sa Hz q_X7_frameIn [.int x0] h (some (.int x)) fin := calOf (by decide +kernel) (Nat.le_of_ble_eq_true rfl) (e_X7_frameIn_0 E x0 h hd)
def FI_X1_lastWord : Nat → List Value → AH → Option (Int32 × AH) := (cx 56 (fun As h => sR As fun a0 As => sI As fun x1 As => sI As fun x2 As => sE As (p_X1_wordAt a0 x1 x2 h)) (cx 60 (fun As h => sI As fun x0 As => sI As fun x1 As => sE As (p_X7_has x0 x1 h)) (cx 72 (fun As h => sI As fun x0 As => sE As (p_X7_frameIn x0 h)) fI0)))
theorem FI_X1_lastWord_ok {l : Launch} {D : va_G} {dA : Nat → ClassId} {z : Nat} {sa : Nat → Nat} {Hz : Heap} (E : StrOK qLen qCh l D dA z sa Hz) : ∀ mi As h x h', FI_X1_lastWord mi As h = some (x, h') → CalOK l D dA z sa Hz (MT mi) As h (some (.int x)) h' := (cxI_ok (fun As h x h2 e => by obtain ⟨_, _, rfl, e0⟩ := sR_inv e; obtain ⟨_, _, rfl, e1⟩ := sI_inv e0; obtain ⟨_, _, rfl, e2⟩ := sI_inv e1; obtain ⟨rfl, ez⟩ := sE_inv e2; exact c_X1_wordAt E ez) ((cxI_ok (fun As h x h2 e => by obtain ⟨_, _, rfl, e0⟩ := sI_inv e; obtain ⟨_, _, rfl, e1⟩ := sI_inv e0; obtain ⟨rfl, ez⟩ := sE_inv e1; exact c_X7_has E ez) ((cxI_ok (fun As h x h2 e => by obtain ⟨_, _, rfl, e0⟩ := sI_inv e; obtain ⟨rfl, ez⟩ := sE_inv e0; exact c_X7_frameIn E ez) (fI0_ok E))))))
def I_X1_lastWord_35 : List AI := [(.ireturn, 1, [], 0)]
theorem ok_X1_lastWord_35 : vBL MT qLen qCh false q_X1_lastWord.2.2.2.2.1 q_X1_lastWord.2.2.2.2.2.1 q_X1_lastWord.2.2.1 q_X1_lastWord.1.cls q_X1_lastWord.1.name q_X1_lastWord.2.1 0 35 I_X1_lastWord_35 = true := by decide +kernel
def p_X1_lastWord_35 (y0 : Int32) (h : AH) : Option (Int32 × AH) :=
  some (y0, h)
set_option maxRecDepth 100000 in
theorem e_X1_lastWord_35 {l : Launch} {D : va_G} {dA : Nat → ClassId} {z : Nat} {sa : Nat → Nat} {Hz : Heap} (E : StrOK qLen qCh l D dA z sa Hz) {h0 fin : AH} {x : Int32}  : ∀ (y0 : Int32) (h : AH), p_X1_lastWord_35 y0 h = some (x, fin) → GM l D dA z sa Hz q_X1_lastWord h0 (some (.int x)) fin 35 [] [.int y0] h := by
  intro y0 h hd
  exact step E (is := I_X1_lastWord_35) (pc := 35) (K := k0) (FI := FI_X1_lastWord) (FV := fV0) (FL := fL0) (rt := rtI) (ft := 0) (by exact hd) ok_X1_lastWord_35 k0_ok (FI_X1_lastWord_ok E) (fV0_ok E) (fL0_ok E) (rtI_ok rfl)
def I_X1_lastWord_26 : List AI := [(.aload_n 0, 1, [], 0), (.iload_n 2, 1, [], 0), (.invokestatic 53, 3, [1, 72, 1, 726], 0), (.iload_n 1, 1, [], 0), (.invokevirtual 50, 3, [1, 56, 3, 0, 699], 0)]
theorem ok_X1_lastWord_26 : vBL MT qLen qCh false q_X1_lastWord.2.2.2.2.1 q_X1_lastWord.2.2.2.2.2.1 q_X1_lastWord.2.2.1 q_X1_lastWord.1.cls q_X1_lastWord.1.name q_X1_lastWord.2.1 35 26 I_X1_lastWord_26 = true := by decide +kernel
def p_X1_lastWord_26 (a0 : Nat) (x1 : Int32) (x2 : Int32) (h : AH) : Option (Int32 × AH) :=
  (p_X7_frameIn x2 h).bind fun q101 =>
  if (tg q101.2 a0).1 = 0 then ((p_X1_wordAt a0 q101.1 x1 q101.2).bind fun q102 =>
  p_X1_lastWord_35 q102.1 q102.2) else none
set_option maxRecDepth 100000 in
theorem e_X1_lastWord_26 {l : Launch} {D : va_G} {dA : Nat → ClassId} {z : Nat} {sa : Nat → Nat} {Hz : Heap} (E : StrOK qLen qCh l D dA z sa Hz) {h0 fin : AH} {x : Int32}  : ∀ (a0 : Nat) (x1 : Int32) (x2 : Int32) (h : AH), p_X1_lastWord_26 a0 x1 x2 h = some (x, fin) → GM l D dA z sa Hz q_X1_lastWord h0 (some (.int x)) fin 26 [(0, .ref a0), (1, .int x1), (2, .int x2)] [] h := by
  intro a0 x1 x2 h hd
  exact step E (is := I_X1_lastWord_26) (pc := 26) (K := (kx 35 (fun la st h => sI st fun y0 st => sE st (p_X1_lastWord_35 y0 h)) k0)) (FI := FI_X1_lastWord) (FV := fV0) (FL := fL0) (rt := rtI) (ft := 35) (by exact hd) ok_X1_lastWord_26 (kx_ok (fun la st h e => by obtain ⟨y0, _, rfl, e1⟩ := sI_inv e; obtain ⟨rfl, ez⟩ := sE_inv e1; exact gm_fewer (e_X1_lastWord_35 E  y0 h ez) mem_nil) k0_ok) (FI_X1_lastWord_ok E) (fV0_ok E) (fL0_ok E) (rtI_ok rfl)
def I_X1_lastWord_0 : List AI := [(.aload_n 0, 1, [], 0), (.aload_n 0, 1, [], 0), (.getfield 25, 3, [0, 4, 0, 194], 0), (.iload_n 1, 1, [], 0), (.bipush 8, 2, [], 8), (.idiv, 1, [], 0), (.invokevirtual 50, 3, [1, 56, 3, 0, 699], 0), (.istore_n 2, 1, [], 0), (.iload_n 2, 1, [], 0), (.bipush 32, 2, [], 32), (.invokestatic 42, 3, [1, 60, 2, 677], 0), (.ifCond .eq 7, 3, [26], 0), (.iload_n 2, 1, [], 0), (.goto 12, 3, [35], 0)]
theorem ok_X1_lastWord_0 : vBL MT qLen qCh false q_X1_lastWord.2.2.2.2.1 q_X1_lastWord.2.2.2.2.2.1 q_X1_lastWord.2.2.1 q_X1_lastWord.1.cls q_X1_lastWord.1.name q_X1_lastWord.2.1 0 0 I_X1_lastWord_0 = true := by decide +kernel
def p_X1_lastWord (a0 : Nat) (x1 : Int32) (h : AH) : Option (Int32 × AH) :=
  if (tg h a0).1 = 0 then (if ((8 : Int32)) = 0 then none else
  if (tg h a0).1 = 0 then ((p_X1_wordAt a0 (rI h a0 4) (x1 / ((8 : Int32))) h).bind fun q103 =>
  (p_X7_has q103.1 ((32 : Int32)) q103.2).bind fun q104 =>
  if q104.1 = 0 then ((p_X7_frameIn q103.1 q104.2).bind fun q105 =>
  if (tg q105.2 a0).1 = 0 then ((p_X1_wordAt a0 q105.1 x1 q105.2).bind fun q106 =>
  p_X1_lastWord_35 q106.1 q106.2) else none)
  else
  p_X1_lastWord_35 q103.1 q104.2) else none) else none
set_option maxRecDepth 100000 in
theorem e_X1_lastWord_0 {l : Launch} {D : va_G} {dA : Nat → ClassId} {z : Nat} {sa : Nat → Nat} {Hz : Heap} (E : StrOK qLen qCh l D dA z sa Hz) {h0 fin : AH} {x : Int32}  : ∀ (a0 : Nat) (x1 : Int32) (h : AH), p_X1_lastWord a0 x1 h = some (x, fin) → GM l D dA z sa Hz q_X1_lastWord h0 (some (.int x)) fin 0 [(0, .ref a0), (1, .int x1)] [] h := by
  intro a0 x1 h hd
  exact step E (is := I_X1_lastWord_0) (pc := 0) (K := (kx 26 (fun la st h => gR la 0 fun a0 => gI la 1 fun x1 => gI la 2 fun x2 => sE st (p_X1_lastWord_26 a0 x1 x2 h)) (kx 35 (fun la st h => sI st fun y0 st => sE st (p_X1_lastWord_35 y0 h)) k0))) (FI := FI_X1_lastWord) (FV := fV0) (FL := fL0) (rt := rtI) (ft := 0) (by exact hd) ok_X1_lastWord_0 (kx_ok (fun la st h e => by obtain ⟨a0, m_a0, e1⟩ := gR_inv e; obtain ⟨x1, m_x1, e2⟩ := gI_inv e1; obtain ⟨x2, m_x2, e3⟩ := gI_inv e2; obtain ⟨rfl, ez⟩ := sE_inv e3; exact gm_fewer (e_X1_lastWord_26 E  a0 x1 x2 h ez) (mem_cons m_a0 (mem_cons m_x1 (mem_cons m_x2 mem_nil)))) (kx_ok (fun la st h e => by obtain ⟨y0, _, rfl, e1⟩ := sI_inv e; obtain ⟨rfl, ez⟩ := sE_inv e1; exact gm_fewer (e_X1_lastWord_35 E  y0 h ez) mem_nil) k0_ok)) (FI_X1_lastWord_ok E) (fV0_ok E) (fL0_ok E) (rtI_ok rfl)
theorem c_X1_lastWord {l : Launch} {D : va_G} {dA : Nat → ClassId} {z : Nat} {sa : Nat → Nat} {Hz : Heap} (E : StrOK qLen qCh l D dA z sa Hz) {a0 : Nat} {x1 : Int32} {h fin : AH} {x : Int32} (hd : p_X1_lastWord a0 x1 h = some (x, fin)) : CalOK l D dA z sa Hz q_X1_lastWord [.ref a0, .int x1] h (some (.int x)) fin := calOf (by decide +kernel) (Nat.le_of_ble_eq_true rfl) (e_X1_lastWord_0 E a0 x1 h hd)
def I_X1_firstOfLarge_0 : List AI := [(.iload_n 0, 1, [], 0), (.bipush 8, 2, [], 8), (.ishr, 1, [], 0), (.bipush 8, 2, [], 8), (.iand, 1, [], 0), (.ireturn, 1, [], 0)]
theorem ok_X1_firstOfLarge_0 : vBL MT qLen qCh false q_X1_firstOfLarge.2.2.2.2.1 q_X1_firstOfLarge.2.2.2.2.2.1 q_X1_firstOfLarge.2.2.1 q_X1_firstOfLarge.1.cls q_X1_firstOfLarge.1.name q_X1_firstOfLarge.2.1 0 0 I_X1_firstOfLarge_0 = true := by decide +kernel
def p_X1_firstOfLarge (x0 : Int32) (h : AH) : Option (Int32 × AH) :=
  some (((x0 >>> (((8 : Int32)) &&& 31)) &&& ((8 : Int32))), h)
set_option maxRecDepth 100000 in
theorem e_X1_firstOfLarge_0 {l : Launch} {D : va_G} {dA : Nat → ClassId} {z : Nat} {sa : Nat → Nat} {Hz : Heap} (E : StrOK qLen qCh l D dA z sa Hz) {h0 fin : AH} {x : Int32}  : ∀ (x0 : Int32) (h : AH), p_X1_firstOfLarge x0 h = some (x, fin) → GM l D dA z sa Hz q_X1_firstOfLarge h0 (some (.int x)) fin 0 [(0, .int x0)] [] h := by
  intro x0 h hd
  exact step E (is := I_X1_firstOfLarge_0) (pc := 0) (K := k0) (FI := fI0) (FV := fV0) (FL := fL0) (rt := rtI) (ft := 0) (by exact hd) ok_X1_firstOfLarge_0 k0_ok (fI0_ok E) (fV0_ok E) (fL0_ok E) (rtI_ok rfl)
theorem c_X1_firstOfLarge {l : Launch} {D : va_G} {dA : Nat → ClassId} {z : Nat} {sa : Nat → Nat} {Hz : Heap} (E : StrOK qLen qCh l D dA z sa Hz) {x0 : Int32} {h fin : AH} {x : Int32} (hd : p_X1_firstOfLarge x0 h = some (x, fin)) : CalOK l D dA z sa Hz q_X1_firstOfLarge [.int x0] h (some (.int x)) fin := calOf (by decide +kernel) (Nat.le_of_ble_eq_true rfl) (e_X1_firstOfLarge_0 E x0 h hd)
