/-! ===== methods 100 to 124 ===== -/
def I_X7_isTable_27 : List AI := [(.ireturn, 1, [], 0)]
theorem ok_X7_isTable_27 : vBL MT qLen qCh false q_X7_isTable.2.2.2.2.1 q_X7_isTable.2.2.2.2.2.1 q_X7_isTable.2.2.1 q_X7_isTable.1.cls q_X7_isTable.1.name q_X7_isTable.2.1 0 27 I_X7_isTable_27 = true := by decide +kernel
def p_X7_isTable_27 (y0 : Int32) (h : AH) : Option (Int32 × AH) :=
  if y0 &&& 1 = y0 then some (y0, h) else none
set_option maxRecDepth 100000 in
theorem e_X7_isTable_27 {l : Launch} {D : va_G} {dA : Nat → ClassId} {z : Nat} {sa : Nat → Nat} {Hz : Heap} (E : StrOK qLen qCh l D dA z sa Hz) {h0 fin : AH} {x : Int32}  : ∀ (y0 : Int32) (h : AH), p_X7_isTable_27 y0 h = some (x, fin) → GM l D dA z sa Hz q_X7_isTable h0 (some (.int x)) fin 27 [] [.int y0] h := by
  intro y0 h hd
  exact step E (is := I_X7_isTable_27) (pc := 27) (K := k0) (FI := fI0) (FV := fV0) (FL := fL0) (rt := rtZ) (ft := 0) (by exact hd) ok_X7_isTable_27 k0_ok (fI0_ok E) (fV0_ok E) (fL0_ok E) (rtZ_ok rfl)
def I_X7_isTable_26 : List AI := [(.iconst 0, 1, [], 0)]
theorem ok_X7_isTable_26 : vBL MT qLen qCh false q_X7_isTable.2.2.2.2.1 q_X7_isTable.2.2.2.2.2.1 q_X7_isTable.2.2.1 q_X7_isTable.1.cls q_X7_isTable.1.name q_X7_isTable.2.1 27 26 I_X7_isTable_26 = true := by decide +kernel
def p_X7_isTable_26 (h : AH) : Option (Int32 × AH) :=
  p_X7_isTable_27 ((0 : Int32)) h
set_option maxRecDepth 100000 in
theorem e_X7_isTable_26 {l : Launch} {D : va_G} {dA : Nat → ClassId} {z : Nat} {sa : Nat → Nat} {Hz : Heap} (E : StrOK qLen qCh l D dA z sa Hz) {h0 fin : AH} {x : Int32}  : ∀  (h : AH), p_X7_isTable_26 h = some (x, fin) → GM l D dA z sa Hz q_X7_isTable h0 (some (.int x)) fin 26 [] [] h := by
  intro h hd
  exact step E (is := I_X7_isTable_26) (pc := 26) (K := (kx 27 (fun la st h => sI st fun y0 st => sE st (p_X7_isTable_27 y0 h)) k0)) (FI := fI0) (FV := fV0) (FL := fL0) (rt := rtZ) (ft := 27) (by exact hd) ok_X7_isTable_26 (kx_ok (fun la st h e => by obtain ⟨y0, _, rfl, e1⟩ := sI_inv e; obtain ⟨rfl, ez⟩ := sE_inv e1; exact gm_fewer (e_X7_isTable_27 E  y0 h ez) mem_nil) k0_ok) (fI0_ok E) (fV0_ok E) (fL0_ok E) (rtZ_ok rfl)
def I_X7_isTable_0 : List AI := [(.aload_n 0, 1, [], 0), (.getfield 107, 3, [6, 3, 3, 357], 0), (.ifCond .eq 22, 3, [26], 0), (.iload_n 1, 1, [], 0), (.ifCond .lt 18, 3, [26], 0), (.iload_n 1, 1, [], 0), (.aload_n 0, 1, [], 0), (.getfield 19, 3, [6, 1, 2, 355], 0), (.getfield 65, 3, [5, 1, 0, 214], 0), (.if_icmp .ge 7, 3, [26], 0), (.iconst 1, 1, [], 1), (.goto 4, 3, [27], 0)]
theorem ok_X7_isTable_0 : vBL MT qLen qCh false q_X7_isTable.2.2.2.2.1 q_X7_isTable.2.2.2.2.2.1 q_X7_isTable.2.2.1 q_X7_isTable.1.cls q_X7_isTable.1.name q_X7_isTable.2.1 0 0 I_X7_isTable_0 = true := by decide +kernel
def p_X7_isTable (a0 : Nat) (x1 : Int32) (h : AH) : Option (Int32 × AH) :=
  if (tg h a0).1 = 6 then (if (rI h a0 3) = 0 then (p_X7_isTable_26 h)
  else
  if x1 < 0 then (p_X7_isTable_26 h)
  else
  if (tg h a0).1 = 6 then (if (tg h (rR h a0 1)).1 = 5 then (if x1 < (rI h (rR h a0 1) 1) then (p_X7_isTable_27 ((1 : Int32)) h)
  else
  p_X7_isTable_26 h) else none) else none) else none
set_option maxRecDepth 100000 in
theorem e_X7_isTable_0 {l : Launch} {D : va_G} {dA : Nat → ClassId} {z : Nat} {sa : Nat → Nat} {Hz : Heap} (E : StrOK qLen qCh l D dA z sa Hz) {h0 fin : AH} {x : Int32}  : ∀ (a0 : Nat) (x1 : Int32) (h : AH), p_X7_isTable a0 x1 h = some (x, fin) → GM l D dA z sa Hz q_X7_isTable h0 (some (.int x)) fin 0 [(0, .ref a0), (1, .int x1)] [] h := by
  intro a0 x1 h hd
  exact step E (is := I_X7_isTable_0) (pc := 0) (K := (kx 26 (fun la st h => sE st (p_X7_isTable_26 h)) (kx 27 (fun la st h => sI st fun y0 st => sE st (p_X7_isTable_27 y0 h)) k0))) (FI := fI0) (FV := fV0) (FL := fL0) (rt := rtZ) (ft := 0) (by exact hd) ok_X7_isTable_0 (kx_ok (fun la st h e => by obtain ⟨rfl, ez⟩ := sE_inv e; exact gm_fewer (e_X7_isTable_26 E   h ez) mem_nil) (kx_ok (fun la st h e => by obtain ⟨y0, _, rfl, e1⟩ := sI_inv e; obtain ⟨rfl, ez⟩ := sE_inv e1; exact gm_fewer (e_X7_isTable_27 E  y0 h ez) mem_nil) k0_ok)) (fI0_ok E) (fV0_ok E) (fL0_ok E) (rtZ_ok rfl)
theorem c_X7_isTable {l : Launch} {D : va_G} {dA : Nat → ClassId} {z : Nat} {sa : Nat → Nat} {Hz : Heap} (E : StrOK qLen qCh l D dA z sa Hz) {a0 : Nat} {x1 : Int32} {h fin : AH} {x : Int32} (hd : p_X7_isTable a0 x1 h = some (x, fin)) : CalOK l D dA z sa Hz q_X7_isTable [.ref a0, .int x1] h (some (.int x)) fin := calOf (by decide +kernel) (Nat.le_of_ble_eq_true rfl) (e_X7_isTable_0 E a0 x1 h hd)
def I_X3_kindOf_0 : List AI := [(.aload_n 0, 1, [], 0), (.getfield 9, 3, [2, 0, 2, 285], 0), (.iload_n 1, 1, [], 0), (.bipush 7, 2, [], 7), (.iand, 1, [], 0), (.iaload, 1, [], 0), (.ireturn, 1, [], 0)]
theorem ok_X3_kindOf_0 : vBL MT qLen qCh false q_X3_kindOf.2.2.2.2.1 q_X3_kindOf.2.2.2.2.2.1 q_X3_kindOf.2.2.1 q_X3_kindOf.1.cls q_X3_kindOf.1.name q_X3_kindOf.2.1 0 0 I_X3_kindOf_0 = true := by decide +kernel
def p_X3_kindOf (a0 : Nat) (x1 : Int32) (h : AH) : Option (Int32 × AH) :=
  if (tg h a0).1 = 2 then (if inB h (rR h a0 0) 100 (x1 &&& ((7 : Int32))) then (some ((rI h (rR h a0 0) (x1 &&& ((7 : Int32))).toNatClampNeg), h)) else none) else none
set_option maxRecDepth 100000 in
theorem e_X3_kindOf_0 {l : Launch} {D : va_G} {dA : Nat → ClassId} {z : Nat} {sa : Nat → Nat} {Hz : Heap} (E : StrOK qLen qCh l D dA z sa Hz) {h0 fin : AH} {x : Int32}  : ∀ (a0 : Nat) (x1 : Int32) (h : AH), p_X3_kindOf a0 x1 h = some (x, fin) → GM l D dA z sa Hz q_X3_kindOf h0 (some (.int x)) fin 0 [(0, .ref a0), (1, .int x1)] [] h := by
  intro a0 x1 h hd
  exact step E (is := I_X3_kindOf_0) (pc := 0) (K := k0) (FI := fI0) (FV := fV0) (FL := fL0) (rt := rtI) (ft := 0) (by exact hd) ok_X3_kindOf_0 k0_ok (fI0_ok E) (fV0_ok E) (fL0_ok E) (rtI_ok rfl)
theorem c_X3_kindOf {l : Launch} {D : va_G} {dA : Nat → ClassId} {z : Nat} {sa : Nat → Nat} {Hz : Heap} (E : StrOK qLen qCh l D dA z sa Hz) {a0 : Nat} {x1 : Int32} {h fin : AH} {x : Int32} (hd : p_X3_kindOf a0 x1 h = some (x, fin)) : CalOK l D dA z sa Hz q_X3_kindOf [.ref a0, .int x1] h (some (.int x)) fin := calOf (by decide +kernel) (Nat.le_of_ble_eq_true rfl) (e_X3_kindOf_0 E a0 x1 h hd)
def I_X3_ownerOf_0 : List AI := [(.aload_n 0, 1, [], 0), (.getfield 15, 3, [2, 1, 2, 286], 0), (.iload_n 1, 1, [], 0), (.bipush 7, 2, [], 7), (.iand, 1, [], 0), (.iaload, 1, [], 0), (.ireturn, 1, [], 0)]
theorem ok_X3_ownerOf_0 : vBL MT qLen qCh false q_X3_ownerOf.2.2.2.2.1 q_X3_ownerOf.2.2.2.2.2.1 q_X3_ownerOf.2.2.1 q_X3_ownerOf.1.cls q_X3_ownerOf.1.name q_X3_ownerOf.2.1 0 0 I_X3_ownerOf_0 = true := by decide +kernel
def p_X3_ownerOf (a0 : Nat) (x1 : Int32) (h : AH) : Option (Int32 × AH) :=
  if (tg h a0).1 = 2 then (if inB h (rR h a0 1) 100 (x1 &&& ((7 : Int32))) then (some ((rI h (rR h a0 1) (x1 &&& ((7 : Int32))).toNatClampNeg), h)) else none) else none
set_option maxRecDepth 100000 in
theorem e_X3_ownerOf_0 {l : Launch} {D : va_G} {dA : Nat → ClassId} {z : Nat} {sa : Nat → Nat} {Hz : Heap} (E : StrOK qLen qCh l D dA z sa Hz) {h0 fin : AH} {x : Int32}  : ∀ (a0 : Nat) (x1 : Int32) (h : AH), p_X3_ownerOf a0 x1 h = some (x, fin) → GM l D dA z sa Hz q_X3_ownerOf h0 (some (.int x)) fin 0 [(0, .ref a0), (1, .int x1)] [] h := by
  intro a0 x1 h hd
  exact step E (is := I_X3_ownerOf_0) (pc := 0) (K := k0) (FI := fI0) (FV := fV0) (FL := fL0) (rt := rtI) (ft := 0) (by exact hd) ok_X3_ownerOf_0 k0_ok (fI0_ok E) (fV0_ok E) (fL0_ok E) (rtI_ok rfl)
theorem c_X3_ownerOf {l : Launch} {D : va_G} {dA : Nat → ClassId} {z : Nat} {sa : Nat → Nat} {Hz : Heap} (E : StrOK qLen qCh l D dA z sa Hz) {a0 : Nat} {x1 : Int32} {h fin : AH} {x : Int32} (hd : p_X3_ownerOf a0 x1 h = some (x, fin)) : CalOK l D dA z sa Hz q_X3_ownerOf [.ref a0, .int x1] h (some (.int x)) fin := calOf (by decide +kernel) (Nat.le_of_ble_eq_true rfl) (e_X3_ownerOf_0 E a0 x1 h hd)
def FI_X3_isAstray : Nat → List Value → AH → Option (Int32 × AH) := (cx 60 (fun As h => sI As fun x0 As => sI As fun x1 As => sE As (p_X7_has x0 x1 h)) fI0)
theorem FI_X3_isAstray_ok {l : Launch} {D : va_G} {dA : Nat → ClassId} {z : Nat} {sa : Nat → Nat} {Hz : Heap} (E : StrOK qLen qCh l D dA z sa Hz) : ∀ mi As h x h', FI_X3_isAstray mi As h = some (x, h') → CalOK l D dA z sa Hz (MT mi) As h (some (.int x)) h' := (cxI_ok (fun As h x h2 e => by obtain ⟨_, _, rfl, e0⟩ := sI_inv e; obtain ⟨_, _, rfl, e1⟩ := sI_inv e0; obtain ⟨rfl, ez⟩ := sE_inv e1; exact c_X7_has E ez) (fI0_ok E))
def I_X3_isAstray_0 : List AI := [(.aload_n 0, 1, [], 0), (.getfield 41, 3, [2, 4, 0, 289], 0), (.iconst 1, 1, [], 1), (.iload_n 1, 1, [], 0), (.ishl, 1, [], 0), (.invokestatic 44, 3, [1, 60, 2, 803], 0), (.ireturn, 1, [], 0)]
theorem ok_X3_isAstray_0 : vBL MT qLen qCh false q_X3_isAstray.2.2.2.2.1 q_X3_isAstray.2.2.2.2.2.1 q_X3_isAstray.2.2.1 q_X3_isAstray.1.cls q_X3_isAstray.1.name q_X3_isAstray.2.1 0 0 I_X3_isAstray_0 = true := by decide +kernel
def p_X3_isAstray (a0 : Nat) (x1 : Int32) (h : AH) : Option (Int32 × AH) :=
  if (tg h a0).1 = 2 then ((p_X7_has (rI h a0 4) (((1 : Int32)) <<< (x1 &&& 31)) h).bind fun q101 =>
  if q101.1 &&& 1 = q101.1 then some (q101.1, q101.2) else none) else none
set_option maxRecDepth 100000 in
theorem e_X3_isAstray_0 {l : Launch} {D : va_G} {dA : Nat → ClassId} {z : Nat} {sa : Nat → Nat} {Hz : Heap} (E : StrOK qLen qCh l D dA z sa Hz) {h0 fin : AH} {x : Int32}  : ∀ (a0 : Nat) (x1 : Int32) (h : AH), p_X3_isAstray a0 x1 h = some (x, fin) → GM l D dA z sa Hz q_X3_isAstray h0 (some (.int x)) fin 0 [(0, .ref a0), (1, .int x1)] [] h := by
  intro a0 x1 h hd
  exact step E (is := I_X3_isAstray_0) (pc := 0) (K := k0) (FI := FI_X3_isAstray) (FV := fV0) (FL := fL0) (rt := rtZ) (ft := 0) (by exact hd) ok_X3_isAstray_0 k0_ok (FI_X3_isAstray_ok E) (fV0_ok E) (fL0_ok E) (rtZ_ok rfl)
theorem c_X3_isAstray {l : Launch} {D : va_G} {dA : Nat → ClassId} {z : Nat} {sa : Nat → Nat} {Hz : Heap} (E : StrOK qLen qCh l D dA z sa Hz) {a0 : Nat} {x1 : Int32} {h fin : AH} {x : Int32} (hd : p_X3_isAstray a0 x1 h = some (x, fin)) : CalOK l D dA z sa Hz q_X3_isAstray [.ref a0, .int x1] h (some (.int x)) fin := calOf (by decide +kernel) (Nat.le_of_ble_eq_true rfl) (e_X3_isAstray_0 E a0 x1 h hd)
def FI_X3_entriesThere : Nat → List Value → AH → Option (Int32 × AH) := (cx 88 (fun As h => sR As fun a0 As => sI As fun x1 As => sI As fun x2 As => sE As (p_X3_entryAt a0 x1 x2 h)) fI0)
theorem FI_X3_entriesThere_ok {l : Launch} {D : va_G} {dA : Nat → ClassId} {z : Nat} {sa : Nat → Nat} {Hz : Heap} (E : StrOK qLen qCh l D dA z sa Hz) : ∀ mi As h x h', FI_X3_entriesThere mi As h = some (x, h') → CalOK l D dA z sa Hz (MT mi) As h (some (.int x)) h' := (cxI_ok (fun As h x h2 e => by obtain ⟨_, _, rfl, e0⟩ := sR_inv e; obtain ⟨_, _, rfl, e1⟩ := sI_inv e0; obtain ⟨_, _, rfl, e2⟩ := sI_inv e1; obtain ⟨rfl, ez⟩ := sE_inv e2; exact c_X3_entryAt E ez) (fI0_ok E))
def I_X3_entriesThere_31 : List AI := [(.iload_n 2, 1, [], 0), (.ireturn, 1, [], 0)]
theorem ok_X3_entriesThere_31 : vBL MT qLen qCh false q_X3_entriesThere.2.2.2.2.1 q_X3_entriesThere.2.2.2.2.2.1 q_X3_entriesThere.2.2.1 q_X3_entriesThere.1.cls q_X3_entriesThere.1.name q_X3_entriesThere.2.1 0 31 I_X3_entriesThere_31 = true := by decide +kernel
def p_X3_entriesThere_31 (x2 : Int32) (h : AH) : Option (Int32 × AH) :=
  some (x2, h)
set_option maxRecDepth 100000 in
theorem e_X3_entriesThere_31 {l : Launch} {D : va_G} {dA : Nat → ClassId} {z : Nat} {sa : Nat → Nat} {Hz : Heap} (E : StrOK qLen qCh l D dA z sa Hz) {h0 fin : AH} {x : Int32}  : ∀ (x2 : Int32) (h : AH), p_X3_entriesThere_31 x2 h = some (x, fin) → GM l D dA z sa Hz q_X3_entriesThere h0 (some (.int x)) fin 31 [(2, .int x2)] [] h := by
  intro x2 h hd
  exact step E (is := I_X3_entriesThere_31) (pc := 31) (K := k0) (FI := FI_X3_entriesThere) (FV := fV0) (FL := fL0) (rt := rtI) (ft := 0) (by exact hd) ok_X3_entriesThere_31 k0_ok (FI_X3_entriesThere_ok E) (fV0_ok E) (fL0_ok E) (rtI_ok rfl)
def I_X3_entriesThere_25 : List AI := [(.iinc 3 1, 3, [], 1), (.goto (-24), 3, [4], 0)]
theorem ok_X3_entriesThere_25 : vBL MT qLen qCh false q_X3_entriesThere.2.2.2.2.1 q_X3_entriesThere.2.2.2.2.2.1 q_X3_entriesThere.2.2.1 q_X3_entriesThere.1.cls q_X3_entriesThere.1.name q_X3_entriesThere.2.1 0 25 I_X3_entriesThere_25 = true := by decide +kernel
def p_X3_entriesThere_25 (k4 : Nat → Int32 → Int32 → Int32 → AH → Option (Int32 × AH)) (a0 : Nat) (x1 : Int32) (x2 : Int32) (x3 : Int32) (h : AH) : Option (Int32 × AH) :=
  k4 a0 x1 x2 (x3 + (1 : Int32)) h
set_option maxRecDepth 100000 in
theorem e_X3_entriesThere_25 {l : Launch} {D : va_G} {dA : Nat → ClassId} {z : Nat} {sa : Nat → Nat} {Hz : Heap} (E : StrOK qLen qCh l D dA z sa Hz) {h0 fin : AH} {x : Int32}  {k4 : Nat → Int32 → Int32 → Int32 → AH → Option (Int32 × AH)} (hk4 : ∀ (a0 : Nat) (x1 : Int32) (x2 : Int32) (x3 : Int32) (h : AH), k4 a0 x1 x2 x3 h = some (x, fin) → GM l D dA z sa Hz q_X3_entriesThere h0 (some (.int x)) fin 4 [(0, .ref a0), (1, .int x1), (2, .int x2), (3, .int x3)] [] h) : ∀ (a0 : Nat) (x1 : Int32) (x2 : Int32) (x3 : Int32) (h : AH), p_X3_entriesThere_25 k4 a0 x1 x2 x3 h = some (x, fin) → GM l D dA z sa Hz q_X3_entriesThere h0 (some (.int x)) fin 25 [(0, .ref a0), (1, .int x1), (2, .int x2), (3, .int x3)] [] h := by
  intro a0 x1 x2 x3 h hd
  exact step E (is := I_X3_entriesThere_25) (pc := 25) (K := (kx 4 (fun la st h => gR la 0 fun a0 => gI la 1 fun x1 => gI la 2 fun x2 => gI la 3 fun x3 => sE st (k4 a0 x1 x2 x3 h)) k0)) (FI := FI_X3_entriesThere) (FV := fV0) (FL := fL0) (rt := rtI) (ft := 0) (by exact hd) ok_X3_entriesThere_25 (kx_ok (fun la st h e => by obtain ⟨a0, m_a0, e1⟩ := gR_inv e; obtain ⟨x1, m_x1, e2⟩ := gI_inv e1; obtain ⟨x2, m_x2, e3⟩ := gI_inv e2; obtain ⟨x3, m_x3, e4⟩ := gI_inv e3; obtain ⟨rfl, ez⟩ := sE_inv e4; exact gm_fewer (hk4 a0 x1 x2 x3 h ez) (mem_cons m_a0 (mem_cons m_x1 (mem_cons m_x2 (mem_cons m_x3 mem_nil))))) k0_ok) (FI_X3_entriesThere_ok E) (fV0_ok E) (fL0_ok E) (rtI_ok rfl)
def I_X3_entriesThere_4 : List AI := [(.iload_n 3, 1, [], 0), (.bipush 8, 2, [], 8), (.if_icmp .ge 24, 3, [31], 0), (.aload_n 0, 1, [], 0), (.iload_n 1, 1, [], 0), (.iload_n 3, 1, [], 0), (.invokevirtual 69, 3, [1, 88, 3, 2, 799], 0), (.ifCond .lt 9, 3, [25], 0), (.iload_n 2, 1, [], 0), (.iconst 1, 1, [], 1), (.iload_n 3, 1, [], 0), (.ishl, 1, [], 0), (.ior, 1, [], 0), (.istore_n 2, 1, [], 0)]
theorem ok_X3_entriesThere_4 : vBL MT qLen qCh false q_X3_entriesThere.2.2.2.2.1 q_X3_entriesThere.2.2.2.2.2.1 q_X3_entriesThere.2.2.1 q_X3_entriesThere.1.cls q_X3_entriesThere.1.name q_X3_entriesThere.2.1 25 4 I_X3_entriesThere_4 = true := by decide +kernel
def p_X3_entriesThere_4 : Nat → Nat → Int32 → Int32 → Int32 → AH → Option (Int32 × AH)
  | 0, _, _, _, _, _ => none
  | n + 1, a0, x1, x2, x3, h => if x3 < ((8 : Int32)) then (if (tg h a0).1 = 2 then ((p_X3_entryAt a0 x1 x3 h).bind fun q101 =>
    if q101.1 < 0 then (p_X3_entriesThere_25 (p_X3_entriesThere_4 n) a0 x1 x2 x3 q101.2)
    else
    let x102 := x2 ||| (((1 : Int32)) <<< (x3 &&& 31))
    p_X3_entriesThere_25 (p_X3_entriesThere_4 n) a0 x1 x102 x3 q101.2) else none)
    else
    some (x2, h)
set_option maxRecDepth 100000 in
theorem e_X3_entriesThere_4 {l : Launch} {D : va_G} {dA : Nat → ClassId} {z : Nat} {sa : Nat → Nat} {Hz : Heap} (E : StrOK qLen qCh l D dA z sa Hz) {h0 fin : AH} {x : Int32}  : ∀ (n : Nat) (a0 : Nat) (x1 : Int32) (x2 : Int32) (x3 : Int32) (h : AH), p_X3_entriesThere_4 n a0 x1 x2 x3 h = some (x, fin) → GM l D dA z sa Hz q_X3_entriesThere h0 (some (.int x)) fin 4 [(0, .ref a0), (1, .int x1), (2, .int x2), (3, .int x3)] [] h := by
  intro n
  induction n with
  | zero => intro a0 x1 x2 x3 h hd; exact nomatch hd
  | succ n ih =>
    intro a0 x1 x2 x3 h hd
    exact step E (is := I_X3_entriesThere_4) (pc := 4) (K := (kx 31 (fun la st h => gI la 2 fun x2 => sE st (p_X3_entriesThere_31 x2 h)) (kx 25 (fun la st h => gR la 0 fun a0 => gI la 1 fun x1 => gI la 2 fun x2 => gI la 3 fun x3 => sE st (p_X3_entriesThere_25 (p_X3_entriesThere_4 n) a0 x1 x2 x3 h)) k0))) (FI := FI_X3_entriesThere) (FV := fV0) (FL := fL0) (rt := rtI) (ft := 25) (by exact hd) ok_X3_entriesThere_4 (kx_ok (fun la st h e => by obtain ⟨x2, m_x2, e1⟩ := gI_inv e; obtain ⟨rfl, ez⟩ := sE_inv e1; exact gm_fewer (e_X3_entriesThere_31 E  x2 h ez) (mem_cons m_x2 mem_nil)) (kx_ok (fun la st h e => by obtain ⟨a0, m_a0, e1⟩ := gR_inv e; obtain ⟨x1, m_x1, e2⟩ := gI_inv e1; obtain ⟨x2, m_x2, e3⟩ := gI_inv e2; obtain ⟨x3, m_x3, e4⟩ := gI_inv e3; obtain ⟨rfl, ez⟩ := sE_inv e4; exact gm_fewer (e_X3_entriesThere_25 E ih a0 x1 x2 x3 h ez) (mem_cons m_a0 (mem_cons m_x1 (mem_cons m_x2 (mem_cons m_x3 mem_nil))))) k0_ok)) (FI_X3_entriesThere_ok E) (fV0_ok E) (fL0_ok E) (rtI_ok rfl)
def I_X3_entriesThere_0 : List AI := [(.iconst 0, 1, [], 0), (.istore_n 2, 1, [], 0), (.iconst 0, 1, [], 0), (.istore_n 3, 1, [], 0)]
theorem ok_X3_entriesThere_0 : vBL MT qLen qCh false q_X3_entriesThere.2.2.2.2.1 q_X3_entriesThere.2.2.2.2.2.1 q_X3_entriesThere.2.2.1 q_X3_entriesThere.1.cls q_X3_entriesThere.1.name q_X3_entriesThere.2.1 4 0 I_X3_entriesThere_0 = true := by decide +kernel
def p_X3_entriesThere (a0 : Nat) (x1 : Int32) (h : AH) : Option (Int32 × AH) :=
  p_X3_entriesThere_4 FU a0 x1 ((0 : Int32)) ((0 : Int32)) h
set_option maxRecDepth 100000 in
theorem e_X3_entriesThere_0 {l : Launch} {D : va_G} {dA : Nat → ClassId} {z : Nat} {sa : Nat → Nat} {Hz : Heap} (E : StrOK qLen qCh l D dA z sa Hz) {h0 fin : AH} {x : Int32}  : ∀ (a0 : Nat) (x1 : Int32) (h : AH), p_X3_entriesThere a0 x1 h = some (x, fin) → GM l D dA z sa Hz q_X3_entriesThere h0 (some (.int x)) fin 0 [(0, .ref a0), (1, .int x1)] [] h := by
  intro a0 x1 h hd
  exact step E (is := I_X3_entriesThere_0) (pc := 0) (K := (kx 4 (fun la st h => gR la 0 fun a0 => gI la 1 fun x1 => gI la 2 fun x2 => gI la 3 fun x3 => sE st (p_X3_entriesThere_4 FU a0 x1 x2 x3 h)) k0)) (FI := FI_X3_entriesThere) (FV := fV0) (FL := fL0) (rt := rtI) (ft := 4) (by exact hd) ok_X3_entriesThere_0 (kx_ok (fun la st h e => by obtain ⟨a0, m_a0, e1⟩ := gR_inv e; obtain ⟨x1, m_x1, e2⟩ := gI_inv e1; obtain ⟨x2, m_x2, e3⟩ := gI_inv e2; obtain ⟨x3, m_x3, e4⟩ := gI_inv e3; obtain ⟨rfl, ez⟩ := sE_inv e4; exact gm_fewer (e_X3_entriesThere_4 E  FU a0 x1 x2 x3 h ez) (mem_cons m_a0 (mem_cons m_x1 (mem_cons m_x2 (mem_cons m_x3 mem_nil))))) k0_ok) (FI_X3_entriesThere_ok E) (fV0_ok E) (fL0_ok E) (rtI_ok rfl)
theorem c_X3_entriesThere {l : Launch} {D : va_G} {dA : Nat → ClassId} {z : Nat} {sa : Nat → Nat} {Hz : Heap} (E : StrOK qLen qCh l D dA z sa Hz) {a0 : Nat} {x1 : Int32} {h fin : AH} {x : Int32} (hd : p_X3_entriesThere a0 x1 h = some (x, fin)) : CalOK l D dA z sa Hz q_X3_entriesThere [.ref a0, .int x1] h (some (.int x)) fin := calOf (by decide +kernel) (Nat.le_of_ble_eq_true rfl) (e_X3_entriesThere_0 E a0 x1 h hd)
def FI_X3_madeAhead : Nat → List Value → AH → Option (Int32 × AH) := (cx 62 (fun As h => sI As fun x0 As => sE As (p_X7_bit x0 h)) fI0)
theorem FI_X3_madeAhead_ok {l : Launch} {D : va_G} {dA : Nat → ClassId} {z : Nat} {sa : Nat → Nat} {Hz : Heap} (E : StrOK qLen qCh l D dA z sa Hz) : ∀ mi As h x h', FI_X3_madeAhead mi As h = some (x, h') → CalOK l D dA z sa Hz (MT mi) As h (some (.int x)) h' := (cxI_ok (fun As h x h2 e => by obtain ⟨_, _, rfl, e0⟩ := sI_inv e; obtain ⟨rfl, ez⟩ := sE_inv e0; exact c_X7_bit E ez) (fI0_ok E))
def I_X3_madeAhead_62 : List AI := [(.iload_n 3, 1, [], 0), (.ireturn, 1, [], 0)]
theorem ok_X3_madeAhead_62 : vBL MT qLen qCh false q_X3_madeAhead.2.2.2.2.1 q_X3_madeAhead.2.2.2.2.2.1 q_X3_madeAhead.2.2.1 q_X3_madeAhead.1.cls q_X3_madeAhead.1.name q_X3_madeAhead.2.1 0 62 I_X3_madeAhead_62 = true := by decide +kernel
def p_X3_madeAhead_62 (x3 : Int32) (h : AH) : Option (Int32 × AH) :=
  some (x3, h)
set_option maxRecDepth 100000 in
theorem e_X3_madeAhead_62 {l : Launch} {D : va_G} {dA : Nat → ClassId} {z : Nat} {sa : Nat → Nat} {Hz : Heap} (E : StrOK qLen qCh l D dA z sa Hz) {h0 fin : AH} {x : Int32}  : ∀ (x3 : Int32) (h : AH), p_X3_madeAhead_62 x3 h = some (x, fin) → GM l D dA z sa Hz q_X3_madeAhead h0 (some (.int x)) fin 62 [(3, .int x3)] [] h := by
  intro x3 h hd
  exact step E (is := I_X3_madeAhead_62) (pc := 62) (K := k0) (FI := FI_X3_madeAhead) (FV := fV0) (FL := fL0) (rt := rtI) (ft := 0) (by exact hd) ok_X3_madeAhead_62 k0_ok (FI_X3_madeAhead_ok E) (fV0_ok E) (fL0_ok E) (rtI_ok rfl)
def I_X3_madeAhead_51 : List AI := [(.invokestatic 52, 3, [1, 62, 1, 860], 0), (.iadd, 1, [], 0), (.istore_n 3, 1, [], 0), (.iinc 4 1, 3, [], 1), (.goto (-44), 3, [15], 0)]
theorem ok_X3_madeAhead_51 : vBL MT qLen qCh false q_X3_madeAhead.2.2.2.2.1 q_X3_madeAhead.2.2.2.2.2.1 q_X3_madeAhead.2.2.1 q_X3_madeAhead.1.cls q_X3_madeAhead.1.name q_X3_madeAhead.2.1 0 51 I_X3_madeAhead_51 = true := by decide +kernel
def p_X3_madeAhead_51 (k15 : Nat → Int32 → Int32 → Int32 → AH → Option (Int32 × AH)) (a0 : Nat) (x2 : Int32) (x4 : Int32) (y0 : Int32) (y1 : Int32) (h : AH) : Option (Int32 × AH) :=
  (p_X7_bit y0 h).bind fun q101 =>
  let x102 := y1 + q101.1
  k15 a0 x2 x102 (x4 + (1 : Int32)) q101.2
set_option maxRecDepth 100000 in
theorem e_X3_madeAhead_51 {l : Launch} {D : va_G} {dA : Nat → ClassId} {z : Nat} {sa : Nat → Nat} {Hz : Heap} (E : StrOK qLen qCh l D dA z sa Hz) {h0 fin : AH} {x : Int32}  {k15 : Nat → Int32 → Int32 → Int32 → AH → Option (Int32 × AH)} (hk15 : ∀ (a0 : Nat) (x2 : Int32) (x3 : Int32) (x4 : Int32) (h : AH), k15 a0 x2 x3 x4 h = some (x, fin) → GM l D dA z sa Hz q_X3_madeAhead h0 (some (.int x)) fin 15 [(0, .ref a0), (2, .int x2), (3, .int x3), (4, .int x4)] [] h) : ∀ (a0 : Nat) (x2 : Int32) (x4 : Int32) (y0 : Int32) (y1 : Int32) (h : AH), p_X3_madeAhead_51 k15 a0 x2 x4 y0 y1 h = some (x, fin) → GM l D dA z sa Hz q_X3_madeAhead h0 (some (.int x)) fin 51 [(0, .ref a0), (2, .int x2), (4, .int x4)] [.int y0, .int y1] h := by
  intro a0 x2 x4 y0 y1 h hd
  exact step E (is := I_X3_madeAhead_51) (pc := 51) (K := (kx 15 (fun la st h => gR la 0 fun a0 => gI la 2 fun x2 => gI la 3 fun x3 => gI la 4 fun x4 => sE st (k15 a0 x2 x3 x4 h)) k0)) (FI := FI_X3_madeAhead) (FV := fV0) (FL := fL0) (rt := rtI) (ft := 0) (by exact hd) ok_X3_madeAhead_51 (kx_ok (fun la st h e => by obtain ⟨a0, m_a0, e1⟩ := gR_inv e; obtain ⟨x2, m_x2, e2⟩ := gI_inv e1; obtain ⟨x3, m_x3, e3⟩ := gI_inv e2; obtain ⟨x4, m_x4, e4⟩ := gI_inv e3; obtain ⟨rfl, ez⟩ := sE_inv e4; exact gm_fewer (hk15 a0 x2 x3 x4 h ez) (mem_cons m_a0 (mem_cons m_x2 (mem_cons m_x3 (mem_cons m_x4 mem_nil))))) k0_ok) (FI_X3_madeAhead_ok E) (fV0_ok E) (fL0_ok E) (rtI_ok rfl)
def I_X3_madeAhead_50 : List AI := [(.iconst 0, 1, [], 0)]
theorem ok_X3_madeAhead_50 : vBL MT qLen qCh false q_X3_madeAhead.2.2.2.2.1 q_X3_madeAhead.2.2.2.2.2.1 q_X3_madeAhead.2.2.1 q_X3_madeAhead.1.cls q_X3_madeAhead.1.name q_X3_madeAhead.2.1 51 50 I_X3_madeAhead_50 = true := by decide +kernel
def p_X3_madeAhead_50 (k15 : Nat → Int32 → Int32 → Int32 → AH → Option (Int32 × AH)) (a0 : Nat) (x2 : Int32) (x4 : Int32) (y0 : Int32) (h : AH) : Option (Int32 × AH) :=
  p_X3_madeAhead_51 k15 a0 x2 x4 ((0 : Int32)) y0 h
set_option maxRecDepth 100000 in
theorem e_X3_madeAhead_50 {l : Launch} {D : va_G} {dA : Nat → ClassId} {z : Nat} {sa : Nat → Nat} {Hz : Heap} (E : StrOK qLen qCh l D dA z sa Hz) {h0 fin : AH} {x : Int32}  {k15 : Nat → Int32 → Int32 → Int32 → AH → Option (Int32 × AH)} (hk15 : ∀ (a0 : Nat) (x2 : Int32) (x3 : Int32) (x4 : Int32) (h : AH), k15 a0 x2 x3 x4 h = some (x, fin) → GM l D dA z sa Hz q_X3_madeAhead h0 (some (.int x)) fin 15 [(0, .ref a0), (2, .int x2), (3, .int x3), (4, .int x4)] [] h) : ∀ (a0 : Nat) (x2 : Int32) (x4 : Int32) (y0 : Int32) (h : AH), p_X3_madeAhead_50 k15 a0 x2 x4 y0 h = some (x, fin) → GM l D dA z sa Hz q_X3_madeAhead h0 (some (.int x)) fin 50 [(0, .ref a0), (2, .int x2), (4, .int x4)] [.int y0] h := by
  intro a0 x2 x4 y0 h hd
  exact step E (is := I_X3_madeAhead_50) (pc := 50) (K := (kx 51 (fun la st h => gR la 0 fun a0 => gI la 2 fun x2 => gI la 4 fun x4 => sI st fun y0 st => sI st fun y1 st => sE st (p_X3_madeAhead_51 k15 a0 x2 x4 y0 y1 h)) k0)) (FI := FI_X3_madeAhead) (FV := fV0) (FL := fL0) (rt := rtI) (ft := 51) (by exact hd) ok_X3_madeAhead_50 (kx_ok (fun la st h e => by obtain ⟨a0, m_a0, e1⟩ := gR_inv e; obtain ⟨x2, m_x2, e2⟩ := gI_inv e1; obtain ⟨x4, m_x4, e3⟩ := gI_inv e2; obtain ⟨y0, _, rfl, e4⟩ := sI_inv e3; obtain ⟨y1, _, rfl, e5⟩ := sI_inv e4; obtain ⟨rfl, ez⟩ := sE_inv e5; exact gm_fewer (e_X3_madeAhead_51 E hk15 a0 x2 x4 y0 y1 h ez) (mem_cons m_a0 (mem_cons m_x2 (mem_cons m_x4 mem_nil)))) k0_ok) (FI_X3_madeAhead_ok E) (fV0_ok E) (fL0_ok E) (rtI_ok rfl)
def I_X3_madeAhead_15 : List AI := [(.iload 4, 2, [], 0), (.bipush 8, 2, [], 8), (.if_icmp .ge 43, 3, [62], 0), (.iload_n 3, 1, [], 0), (.aload_n 0, 1, [], 0), (.getfield 9, 3, [2, 0, 2, 285], 0), (.iload 4, 2, [], 0), (.iaload, 1, [], 0), (.bipush (-2), 2, [], (-2)), (.if_icmp .eq 18, 3, [50], 0), (.aload_n 0, 1, [], 0), (.getfield 18, 3, [2, 2, 2, 287], 0), (.iload 4, 2, [], 0), (.iaload, 1, [], 0), (.iload_n 2, 1, [], 0), (.if_icmp .ge 7, 3, [50], 0), (.iconst 1, 1, [], 1), (.goto 4, 3, [51], 0)]
theorem ok_X3_madeAhead_15 : vBL MT qLen qCh false q_X3_madeAhead.2.2.2.2.1 q_X3_madeAhead.2.2.2.2.2.1 q_X3_madeAhead.2.2.1 q_X3_madeAhead.1.cls q_X3_madeAhead.1.name q_X3_madeAhead.2.1 0 15 I_X3_madeAhead_15 = true := by decide +kernel
def p_X3_madeAhead_15 : Nat → Nat → Int32 → Int32 → Int32 → AH → Option (Int32 × AH)
  | 0, _, _, _, _, _ => none
  | n + 1, a0, x2, x3, x4, h => if x4 < ((8 : Int32)) then (if (tg h a0).1 = 2 then (if inB h (rR h a0 0) 100 x4 then (if (rI h (rR h a0 0) x4.toNatClampNeg) = ((-2 : Int32)) then (p_X3_madeAhead_50 (p_X3_madeAhead_15 n) a0 x2 x4 x3 h)
    else
    if (tg h a0).1 = 2 then (if inB h (rR h a0 2) 100 x4 then (if (rI h (rR h a0 2) x4.toNatClampNeg) < x2 then (p_X3_madeAhead_51 (p_X3_madeAhead_15 n) a0 x2 x4 ((1 : Int32)) x3 h)
    else
    p_X3_madeAhead_50 (p_X3_madeAhead_15 n) a0 x2 x4 x3 h) else none) else none) else none) else none)
    else
    some (x3, h)
set_option maxRecDepth 100000 in
theorem e_X3_madeAhead_15 {l : Launch} {D : va_G} {dA : Nat → ClassId} {z : Nat} {sa : Nat → Nat} {Hz : Heap} (E : StrOK qLen qCh l D dA z sa Hz) {h0 fin : AH} {x : Int32}  : ∀ (n : Nat) (a0 : Nat) (x2 : Int32) (x3 : Int32) (x4 : Int32) (h : AH), p_X3_madeAhead_15 n a0 x2 x3 x4 h = some (x, fin) → GM l D dA z sa Hz q_X3_madeAhead h0 (some (.int x)) fin 15 [(0, .ref a0), (2, .int x2), (3, .int x3), (4, .int x4)] [] h := by
  intro n
  induction n with
  | zero => intro a0 x2 x3 x4 h hd; exact nomatch hd
  | succ n ih =>
    intro a0 x2 x3 x4 h hd
    exact step E (is := I_X3_madeAhead_15) (pc := 15) (K := (kx 62 (fun la st h => gI la 3 fun x3 => sE st (p_X3_madeAhead_62 x3 h)) (kx 50 (fun la st h => gR la 0 fun a0 => gI la 2 fun x2 => gI la 4 fun x4 => sI st fun y0 st => sE st (p_X3_madeAhead_50 (p_X3_madeAhead_15 n) a0 x2 x4 y0 h)) (kx 51 (fun la st h => gR la 0 fun a0 => gI la 2 fun x2 => gI la 4 fun x4 => sI st fun y0 st => sI st fun y1 st => sE st (p_X3_madeAhead_51 (p_X3_madeAhead_15 n) a0 x2 x4 y0 y1 h)) k0)))) (FI := FI_X3_madeAhead) (FV := fV0) (FL := fL0) (rt := rtI) (ft := 0) (by exact hd) ok_X3_madeAhead_15 (kx_ok (fun la st h e => by obtain ⟨x3, m_x3, e1⟩ := gI_inv e; obtain ⟨rfl, ez⟩ := sE_inv e1; exact gm_fewer (e_X3_madeAhead_62 E  x3 h ez) (mem_cons m_x3 mem_nil)) (kx_ok (fun la st h e => by obtain ⟨a0, m_a0, e1⟩ := gR_inv e; obtain ⟨x2, m_x2, e2⟩ := gI_inv e1; obtain ⟨x4, m_x4, e3⟩ := gI_inv e2; obtain ⟨y0, _, rfl, e4⟩ := sI_inv e3; obtain ⟨rfl, ez⟩ := sE_inv e4; exact gm_fewer (e_X3_madeAhead_50 E ih a0 x2 x4 y0 h ez) (mem_cons m_a0 (mem_cons m_x2 (mem_cons m_x4 mem_nil)))) (kx_ok (fun la st h e => by obtain ⟨a0, m_a0, e1⟩ := gR_inv e; obtain ⟨x2, m_x2, e2⟩ := gI_inv e1; obtain ⟨x4, m_x4, e3⟩ := gI_inv e2; obtain ⟨y0, _, rfl, e4⟩ := sI_inv e3; obtain ⟨y1, _, rfl, e5⟩ := sI_inv e4; obtain ⟨rfl, ez⟩ := sE_inv e5; exact gm_fewer (e_X3_madeAhead_51 E ih a0 x2 x4 y0 y1 h ez) (mem_cons m_a0 (mem_cons m_x2 (mem_cons m_x4 mem_nil)))) k0_ok))) (FI_X3_madeAhead_ok E) (fV0_ok E) (fL0_ok E) (rtI_ok rfl)
def I_X3_madeAhead_0 : List AI := [(.aload_n 0, 1, [], 0), (.getfield 18, 3, [2, 2, 2, 287], 0), (.iload_n 1, 1, [], 0), (.bipush 7, 2, [], 7), (.iand, 1, [], 0), (.iaload, 1, [], 0), (.istore_n 2, 1, [], 0), (.iconst 0, 1, [], 0), (.istore_n 3, 1, [], 0), (.iconst 0, 1, [], 0), (.istore 4, 2, [], 0)]
theorem ok_X3_madeAhead_0 : vBL MT qLen qCh false q_X3_madeAhead.2.2.2.2.1 q_X3_madeAhead.2.2.2.2.2.1 q_X3_madeAhead.2.2.1 q_X3_madeAhead.1.cls q_X3_madeAhead.1.name q_X3_madeAhead.2.1 15 0 I_X3_madeAhead_0 = true := by decide +kernel
def p_X3_madeAhead (a0 : Nat) (x1 : Int32) (h : AH) : Option (Int32 × AH) :=
  if (tg h a0).1 = 2 then (if inB h (rR h a0 2) 100 (x1 &&& ((7 : Int32))) then (let x103 := rI h (rR h a0 2) (x1 &&& ((7 : Int32))).toNatClampNeg
  p_X3_madeAhead_15 FU a0 x103 ((0 : Int32)) ((0 : Int32)) h) else none) else none
set_option maxRecDepth 100000 in
theorem e_X3_madeAhead_0 {l : Launch} {D : va_G} {dA : Nat → ClassId} {z : Nat} {sa : Nat → Nat} {Hz : Heap} (E : StrOK qLen qCh l D dA z sa Hz) {h0 fin : AH} {x : Int32}  : ∀ (a0 : Nat) (x1 : Int32) (h : AH), p_X3_madeAhead a0 x1 h = some (x, fin) → GM l D dA z sa Hz q_X3_madeAhead h0 (some (.int x)) fin 0 [(0, .ref a0), (1, .int x1)] [] h := by
  intro a0 x1 h hd
  exact step E (is := I_X3_madeAhead_0) (pc := 0) (K := (kx 15 (fun la st h => gR la 0 fun a0 => gI la 2 fun x2 => gI la 3 fun x3 => gI la 4 fun x4 => sE st (p_X3_madeAhead_15 FU a0 x2 x3 x4 h)) k0)) (FI := FI_X3_madeAhead) (FV := fV0) (FL := fL0) (rt := rtI) (ft := 15) (by exact hd) ok_X3_madeAhead_0 (kx_ok (fun la st h e => by obtain ⟨a0, m_a0, e1⟩ := gR_inv e; obtain ⟨x2, m_x2, e2⟩ := gI_inv e1; obtain ⟨x3, m_x3, e3⟩ := gI_inv e2; obtain ⟨x4, m_x4, e4⟩ := gI_inv e3; obtain ⟨rfl, ez⟩ := sE_inv e4; exact gm_fewer (e_X3_madeAhead_15 E  FU a0 x2 x3 x4 h ez) (mem_cons m_a0 (mem_cons m_x2 (mem_cons m_x3 (mem_cons m_x4 mem_nil))))) k0_ok) (FI_X3_madeAhead_ok E) (fV0_ok E) (fL0_ok E) (rtI_ok rfl)
theorem c_X3_madeAhead {l : Launch} {D : va_G} {dA : Nat → ClassId} {z : Nat} {sa : Nat → Nat} {Hz : Heap} (E : StrOK qLen qCh l D dA z sa Hz) {a0 : Nat} {x1 : Int32} {h fin : AH} {x : Int32} (hd : p_X3_madeAhead a0 x1 h = some (x, fin)) : CalOK l D dA z sa Hz q_X3_madeAhead [.ref a0, .int x1] h (some (.int x)) fin := calOf (by decide +kernel) (Nat.le_of_ble_eq_true rfl) (e_X3_madeAhead_0 E a0 x1 h hd)
def I_X3_isRootEntry_35 : List AI := [(.ireturn, 1, [], 0)]
theorem ok_X3_isRootEntry_35 : vBL MT qLen qCh false q_X3_isRootEntry.2.2.2.2.1 q_X3_isRootEntry.2.2.2.2.2.1 q_X3_isRootEntry.2.2.1 q_X3_isRootEntry.1.cls q_X3_isRootEntry.1.name q_X3_isRootEntry.2.1 0 35 I_X3_isRootEntry_35 = true := by decide +kernel
def p_X3_isRootEntry_35 (y0 : Int32) (h : AH) : Option (Int32 × AH) :=
  if y0 &&& 1 = y0 then some (y0, h) else none
set_option maxRecDepth 100000 in
theorem e_X3_isRootEntry_35 {l : Launch} {D : va_G} {dA : Nat → ClassId} {z : Nat} {sa : Nat → Nat} {Hz : Heap} (E : StrOK qLen qCh l D dA z sa Hz) {h0 fin : AH} {x : Int32}  : ∀ (y0 : Int32) (h : AH), p_X3_isRootEntry_35 y0 h = some (x, fin) → GM l D dA z sa Hz q_X3_isRootEntry h0 (some (.int x)) fin 35 [] [.int y0] h := by
  intro y0 h hd
  exact step E (is := I_X3_isRootEntry_35) (pc := 35) (K := k0) (FI := fI0) (FV := fV0) (FL := fL0) (rt := rtZ) (ft := 0) (by exact hd) ok_X3_isRootEntry_35 k0_ok (fI0_ok E) (fV0_ok E) (fL0_ok E) (rtZ_ok rfl)
def I_X3_isRootEntry_34 : List AI := [(.iconst 0, 1, [], 0)]
theorem ok_X3_isRootEntry_34 : vBL MT qLen qCh false q_X3_isRootEntry.2.2.2.2.1 q_X3_isRootEntry.2.2.2.2.2.1 q_X3_isRootEntry.2.2.1 q_X3_isRootEntry.1.cls q_X3_isRootEntry.1.name q_X3_isRootEntry.2.1 35 34 I_X3_isRootEntry_34 = true := by decide +kernel
def p_X3_isRootEntry_34 (h : AH) : Option (Int32 × AH) :=
  p_X3_isRootEntry_35 ((0 : Int32)) h
set_option maxRecDepth 100000 in
theorem e_X3_isRootEntry_34 {l : Launch} {D : va_G} {dA : Nat → ClassId} {z : Nat} {sa : Nat → Nat} {Hz : Heap} (E : StrOK qLen qCh l D dA z sa Hz) {h0 fin : AH} {x : Int32}  : ∀  (h : AH), p_X3_isRootEntry_34 h = some (x, fin) → GM l D dA z sa Hz q_X3_isRootEntry h0 (some (.int x)) fin 34 [] [] h := by
  intro h hd
  exact step E (is := I_X3_isRootEntry_34) (pc := 34) (K := (kx 35 (fun la st h => sI st fun y0 st => sE st (p_X3_isRootEntry_35 y0 h)) k0)) (FI := fI0) (FV := fV0) (FL := fL0) (rt := rtZ) (ft := 35) (by exact hd) ok_X3_isRootEntry_34 (kx_ok (fun la st h e => by obtain ⟨y0, _, rfl, e1⟩ := sI_inv e; obtain ⟨rfl, ez⟩ := sE_inv e1; exact gm_fewer (e_X3_isRootEntry_35 E  y0 h ez) mem_nil) k0_ok) (fI0_ok E) (fV0_ok E) (fL0_ok E) (rtZ_ok rfl)
def I_X3_isRootEntry_0 : List AI := [(.aload_n 0, 1, [], 0), (.getfield 9, 3, [2, 0, 2, 285], 0), (.iload_n 1, 1, [], 0), (.bipush 8, 2, [], 8), (.idiv, 1, [], 0), (.bipush 7, 2, [], 7), (.iand, 1, [], 0), (.iaload, 1, [], 0), (.ifCond .ne 22, 3, [34], 0), (.aload_n 0, 1, [], 0), (.getfield 21, 3, [2, 3, 2, 288], 0), (.iload_n 1, 1, [], 0), (.bipush 63, 2, [], 63), (.iand, 1, [], 0), (.iaload, 1, [], 0), (.iconst 2, 1, [], 2), (.ishr, 1, [], 0), (.iload_n 2, 1, [], 0), (.if_icmp .ne 7, 3, [34], 0), (.iconst 1, 1, [], 1), (.goto 4, 3, [35], 0)]
theorem ok_X3_isRootEntry_0 : vBL MT qLen qCh false q_X3_isRootEntry.2.2.2.2.1 q_X3_isRootEntry.2.2.2.2.2.1 q_X3_isRootEntry.2.2.1 q_X3_isRootEntry.1.cls q_X3_isRootEntry.1.name q_X3_isRootEntry.2.1 0 0 I_X3_isRootEntry_0 = true := by decide +kernel
def p_X3_isRootEntry (a0 : Nat) (x1 : Int32) (x2 : Int32) (h : AH) : Option (Int32 × AH) :=
  if (tg h a0).1 = 2 then (if ((8 : Int32)) = 0 then none else
  if inB h (rR h a0 0) 100 ((x1 / ((8 : Int32))) &&& ((7 : Int32))) then (if (rI h (rR h a0 0) ((x1 / ((8 : Int32))) &&& ((7 : Int32))).toNatClampNeg) = 0 then (if (tg h a0).1 = 2 then (if inB h (rR h a0 3) 100 (x1 &&& ((63 : Int32))) then (if ((rI h (rR h a0 3) (x1 &&& ((63 : Int32))).toNatClampNeg) >>> (((2 : Int32)) &&& 31)) = x2 then (p_X3_isRootEntry_35 ((1 : Int32)) h)
  else
  p_X3_isRootEntry_34 h) else none) else none)
  else
  p_X3_isRootEntry_34 h) else none) else none
set_option maxRecDepth 100000 in
theorem e_X3_isRootEntry_0 {l : Launch} {D : va_G} {dA : Nat → ClassId} {z : Nat} {sa : Nat → Nat} {Hz : Heap} (E : StrOK qLen qCh l D dA z sa Hz) {h0 fin : AH} {x : Int32}  : ∀ (a0 : Nat) (x1 : Int32) (x2 : Int32) (h : AH), p_X3_isRootEntry a0 x1 x2 h = some (x, fin) → GM l D dA z sa Hz q_X3_isRootEntry h0 (some (.int x)) fin 0 [(0, .ref a0), (1, .int x1), (2, .int x2)] [] h := by
  intro a0 x1 x2 h hd
  exact step E (is := I_X3_isRootEntry_0) (pc := 0) (K := (kx 34 (fun la st h => sE st (p_X3_isRootEntry_34 h)) (kx 35 (fun la st h => sI st fun y0 st => sE st (p_X3_isRootEntry_35 y0 h)) k0))) (FI := fI0) (FV := fV0) (FL := fL0) (rt := rtZ) (ft := 0) (by exact hd) ok_X3_isRootEntry_0 (kx_ok (fun la st h e => by obtain ⟨rfl, ez⟩ := sE_inv e; exact gm_fewer (e_X3_isRootEntry_34 E   h ez) mem_nil) (kx_ok (fun la st h e => by obtain ⟨y0, _, rfl, e1⟩ := sI_inv e; obtain ⟨rfl, ez⟩ := sE_inv e1; exact gm_fewer (e_X3_isRootEntry_35 E  y0 h ez) mem_nil) k0_ok)) (fI0_ok E) (fV0_ok E) (fL0_ok E) (rtZ_ok rfl)
theorem c_X3_isRootEntry {l : Launch} {D : va_G} {dA : Nat → ClassId} {z : Nat} {sa : Nat → Nat} {Hz : Heap} (E : StrOK qLen qCh l D dA z sa Hz) {a0 : Nat} {x1 : Int32} {x2 : Int32} {h fin : AH} {x : Int32} (hd : p_X3_isRootEntry a0 x1 x2 h = some (x, fin)) : CalOK l D dA z sa Hz q_X3_isRootEntry [.ref a0, .int x1, .int x2] h (some (.int x)) fin := calOf (by decide +kernel) (Nat.le_of_ble_eq_true rfl) (e_X3_isRootEntry_0 E a0 x1 x2 h hd)
def FI_X3_toldByRoots : Nat → List Value → AH → Option (Int32 × AH) := (cx 106 (fun As h => sR As fun a0 As => sI As fun x1 As => sI As fun x2 As => sE As (p_X3_isRootEntry a0 x1 x2 h)) (cx 62 (fun As h => sI As fun x0 As => sE As (p_X7_bit x0 h)) fI0))
theorem FI_X3_toldByRoots_ok {l : Launch} {D : va_G} {dA : Nat → ClassId} {z : Nat} {sa : Nat → Nat} {Hz : Heap} (E : StrOK qLen qCh l D dA z sa Hz) : ∀ mi As h x h', FI_X3_toldByRoots mi As h = some (x, h') → CalOK l D dA z sa Hz (MT mi) As h (some (.int x)) h' := (cxI_ok (fun As h x h2 e => by obtain ⟨_, _, rfl, e0⟩ := sR_inv e; obtain ⟨_, _, rfl, e1⟩ := sI_inv e0; obtain ⟨_, _, rfl, e2⟩ := sI_inv e1; obtain ⟨rfl, ez⟩ := sE_inv e2; exact c_X3_isRootEntry E ez) ((cxI_ok (fun As h x h2 e => by obtain ⟨_, _, rfl, e0⟩ := sI_inv e; obtain ⟨rfl, ez⟩ := sE_inv e0; exact c_X7_bit E ez) (fI0_ok E))))
def I_X3_toldByRoots_28 : List AI := [(.iload_n 2, 1, [], 0), (.ireturn, 1, [], 0)]
theorem ok_X3_toldByRoots_28 : vBL MT qLen qCh false q_X3_toldByRoots.2.2.2.2.1 q_X3_toldByRoots.2.2.2.2.2.1 q_X3_toldByRoots.2.2.1 q_X3_toldByRoots.1.cls q_X3_toldByRoots.1.name q_X3_toldByRoots.2.1 0 28 I_X3_toldByRoots_28 = true := by decide +kernel
def p_X3_toldByRoots_28 (x2 : Int32) (h : AH) : Option (Int32 × AH) :=
  some (x2, h)
set_option maxRecDepth 100000 in
theorem e_X3_toldByRoots_28 {l : Launch} {D : va_G} {dA : Nat → ClassId} {z : Nat} {sa : Nat → Nat} {Hz : Heap} (E : StrOK qLen qCh l D dA z sa Hz) {h0 fin : AH} {x : Int32}  : ∀ (x2 : Int32) (h : AH), p_X3_toldByRoots_28 x2 h = some (x, fin) → GM l D dA z sa Hz q_X3_toldByRoots h0 (some (.int x)) fin 28 [(2, .int x2)] [] h := by
  intro x2 h hd
  exact step E (is := I_X3_toldByRoots_28) (pc := 28) (K := k0) (FI := FI_X3_toldByRoots) (FV := fV0) (FL := fL0) (rt := rtI) (ft := 0) (by exact hd) ok_X3_toldByRoots_28 k0_ok (FI_X3_toldByRoots_ok E) (fV0_ok E) (fL0_ok E) (rtI_ok rfl)
def I_X3_toldByRoots_4 : List AI := [(.iload_n 3, 1, [], 0), (.bipush 64, 2, [], 64), (.if_icmp .ge 21, 3, [28], 0), (.iload_n 2, 1, [], 0), (.aload_n 0, 1, [], 0), (.iload_n 3, 1, [], 0), (.iload_n 1, 1, [], 0), (.invokevirtual 63, 3, [1, 106, 3, 2, 873], 0), (.invokestatic 52, 3, [1, 62, 1, 860], 0), (.iadd, 1, [], 0), (.istore_n 2, 1, [], 0), (.iinc 3 1, 3, [], 1), (.goto (-21), 3, [4], 0)]
theorem ok_X3_toldByRoots_4 : vBL MT qLen qCh false q_X3_toldByRoots.2.2.2.2.1 q_X3_toldByRoots.2.2.2.2.2.1 q_X3_toldByRoots.2.2.1 q_X3_toldByRoots.1.cls q_X3_toldByRoots.1.name q_X3_toldByRoots.2.1 0 4 I_X3_toldByRoots_4 = true := by decide +kernel
def p_X3_toldByRoots_4 : Nat → Nat → Int32 → Int32 → Int32 → AH → Option (Int32 × AH)
  | 0, _, _, _, _, _ => none
  | n + 1, a0, x1, x2, x3, h => if x3 < ((64 : Int32)) then (if (tg h a0).1 = 2 then ((p_X3_isRootEntry a0 x3 x1 h).bind fun q101 =>
    (p_X7_bit q101.1 q101.2).bind fun q102 =>
    let x103 := x2 + q102.1
    p_X3_toldByRoots_4 n a0 x1 x103 (x3 + (1 : Int32)) q102.2) else none)
    else
    some (x2, h)
set_option maxRecDepth 100000 in
theorem e_X3_toldByRoots_4 {l : Launch} {D : va_G} {dA : Nat → ClassId} {z : Nat} {sa : Nat → Nat} {Hz : Heap} (E : StrOK qLen qCh l D dA z sa Hz) {h0 fin : AH} {x : Int32}  : ∀ (n : Nat) (a0 : Nat) (x1 : Int32) (x2 : Int32) (x3 : Int32) (h : AH), p_X3_toldByRoots_4 n a0 x1 x2 x3 h = some (x, fin) → GM l D dA z sa Hz q_X3_toldByRoots h0 (some (.int x)) fin 4 [(0, .ref a0), (1, .int x1), (2, .int x2), (3, .int x3)] [] h := by
  intro n
  induction n with
  | zero => intro a0 x1 x2 x3 h hd; exact nomatch hd
  | succ n ih =>
    intro a0 x1 x2 x3 h hd
    exact step E (is := I_X3_toldByRoots_4) (pc := 4) (K := (kx 28 (fun la st h => gI la 2 fun x2 => sE st (p_X3_toldByRoots_28 x2 h)) (kx 4 (fun la st h => gR la 0 fun a0 => gI la 1 fun x1 => gI la 2 fun x2 => gI la 3 fun x3 => sE st (p_X3_toldByRoots_4 n a0 x1 x2 x3 h)) k0))) (FI := FI_X3_toldByRoots) (FV := fV0) (FL := fL0) (rt := rtI) (ft := 0) (by exact hd) ok_X3_toldByRoots_4 (kx_ok (fun la st h e => by obtain ⟨x2, m_x2, e1⟩ := gI_inv e; obtain ⟨rfl, ez⟩ := sE_inv e1; exact gm_fewer (e_X3_toldByRoots_28 E  x2 h ez) (mem_cons m_x2 mem_nil)) (kx_ok (fun la st h e => by obtain ⟨a0, m_a0, e1⟩ := gR_inv e; obtain ⟨x1, m_x1, e2⟩ := gI_inv e1; obtain ⟨x2, m_x2, e3⟩ := gI_inv e2; obtain ⟨x3, m_x3, e4⟩ := gI_inv e3; obtain ⟨rfl, ez⟩ := sE_inv e4; exact gm_fewer (ih a0 x1 x2 x3 h ez) (mem_cons m_a0 (mem_cons m_x1 (mem_cons m_x2 (mem_cons m_x3 mem_nil))))) k0_ok)) (FI_X3_toldByRoots_ok E) (fV0_ok E) (fL0_ok E) (rtI_ok rfl)
def I_X3_toldByRoots_0 : List AI := [(.iconst 0, 1, [], 0), (.istore_n 2, 1, [], 0), (.iconst 0, 1, [], 0), (.istore_n 3, 1, [], 0)]
theorem ok_X3_toldByRoots_0 : vBL MT qLen qCh false q_X3_toldByRoots.2.2.2.2.1 q_X3_toldByRoots.2.2.2.2.2.1 q_X3_toldByRoots.2.2.1 q_X3_toldByRoots.1.cls q_X3_toldByRoots.1.name q_X3_toldByRoots.2.1 4 0 I_X3_toldByRoots_0 = true := by decide +kernel
def p_X3_toldByRoots (a0 : Nat) (x1 : Int32) (h : AH) : Option (Int32 × AH) :=
  p_X3_toldByRoots_4 FU a0 x1 ((0 : Int32)) ((0 : Int32)) h
set_option maxRecDepth 100000 in
theorem e_X3_toldByRoots_0 {l : Launch} {D : va_G} {dA : Nat → ClassId} {z : Nat} {sa : Nat → Nat} {Hz : Heap} (E : StrOK qLen qCh l D dA z sa Hz) {h0 fin : AH} {x : Int32}  : ∀ (a0 : Nat) (x1 : Int32) (h : AH), p_X3_toldByRoots a0 x1 h = some (x, fin) → GM l D dA z sa Hz q_X3_toldByRoots h0 (some (.int x)) fin 0 [(0, .ref a0), (1, .int x1)] [] h := by
  intro a0 x1 h hd
  exact step E (is := I_X3_toldByRoots_0) (pc := 0) (K := (kx 4 (fun la st h => gR la 0 fun a0 => gI la 1 fun x1 => gI la 2 fun x2 => gI la 3 fun x3 => sE st (p_X3_toldByRoots_4 FU a0 x1 x2 x3 h)) k0)) (FI := FI_X3_toldByRoots) (FV := fV0) (FL := fL0) (rt := rtI) (ft := 4) (by exact hd) ok_X3_toldByRoots_0 (kx_ok (fun la st h e => by obtain ⟨a0, m_a0, e1⟩ := gR_inv e; obtain ⟨x1, m_x1, e2⟩ := gI_inv e1; obtain ⟨x2, m_x2, e3⟩ := gI_inv e2; obtain ⟨x3, m_x3, e4⟩ := gI_inv e3; obtain ⟨rfl, ez⟩ := sE_inv e4; exact gm_fewer (e_X3_toldByRoots_4 E  FU a0 x1 x2 x3 h ez) (mem_cons m_a0 (mem_cons m_x1 (mem_cons m_x2 (mem_cons m_x3 mem_nil))))) k0_ok) (FI_X3_toldByRoots_ok E) (fV0_ok E) (fL0_ok E) (rtI_ok rfl)
theorem c_X3_toldByRoots {l : Launch} {D : va_G} {dA : Nat → ClassId} {z : Nat} {sa : Nat → Nat} {Hz : Heap} (E : StrOK qLen qCh l D dA z sa Hz) {a0 : Nat} {x1 : Int32} {h fin : AH} {x : Int32} (hd : p_X3_toldByRoots a0 x1 h = some (x, fin)) : CalOK l D dA z sa Hz q_X3_toldByRoots [.ref a0, .int x1] h (some (.int x)) fin := calOf (by decide +kernel) (Nat.le_of_ble_eq_true rfl) (e_X3_toldByRoots_0 E a0 x1 h hd)
def FI_X3_property : Nat → List Value → AH → Option (Int32 × AH) := (cx 101 (fun As h => sR As fun a0 As => sI As fun x1 As => sE As (p_X3_kindOf a0 x1 h)) (cx 102 (fun As h => sR As fun a0 As => sI As fun x1 As => sE As (p_X3_ownerOf a0 x1 h)) (cx 103 (fun As h => sR As fun a0 As => sI As fun x1 As => sE As (p_X3_isAstray a0 x1 h)) (cx 62 (fun As h => sI As fun x0 As => sE As (p_X7_bit x0 h)) (cx 104 (fun As h => sR As fun a0 As => sI As fun x1 As => sE As (p_X3_entriesThere a0 x1 h)) (cx 105 (fun As h => sR As fun a0 As => sI As fun x1 As => sE As (p_X3_madeAhead a0 x1 h)) (cx 107 (fun As h => sR As fun a0 As => sI As fun x1 As => sE As (p_X3_toldByRoots a0 x1 h)) fI0)))))))
theorem FI_X3_property_ok {l : Launch} {D : va_G} {dA : Nat → ClassId} {z : Nat} {sa : Nat → Nat} {Hz : Heap} (E : StrOK qLen qCh l D dA z sa Hz) : ∀ mi As h x h', FI_X3_property mi As h = some (x, h') → CalOK l D dA z sa Hz (MT mi) As h (some (.int x)) h' := (cxI_ok (fun As h x h2 e => by obtain ⟨_, _, rfl, e0⟩ := sR_inv e; obtain ⟨_, _, rfl, e1⟩ := sI_inv e0; obtain ⟨rfl, ez⟩ := sE_inv e1; exact c_X3_kindOf E ez) ((cxI_ok (fun As h x h2 e => by obtain ⟨_, _, rfl, e0⟩ := sR_inv e; obtain ⟨_, _, rfl, e1⟩ := sI_inv e0; obtain ⟨rfl, ez⟩ := sE_inv e1; exact c_X3_ownerOf E ez) ((cxI_ok (fun As h x h2 e => by obtain ⟨_, _, rfl, e0⟩ := sR_inv e; obtain ⟨_, _, rfl, e1⟩ := sI_inv e0; obtain ⟨rfl, ez⟩ := sE_inv e1; exact c_X3_isAstray E ez) ((cxI_ok (fun As h x h2 e => by obtain ⟨_, _, rfl, e0⟩ := sI_inv e; obtain ⟨rfl, ez⟩ := sE_inv e0; exact c_X7_bit E ez) ((cxI_ok (fun As h x h2 e => by obtain ⟨_, _, rfl, e0⟩ := sR_inv e; obtain ⟨_, _, rfl, e1⟩ := sI_inv e0; obtain ⟨rfl, ez⟩ := sE_inv e1; exact c_X3_entriesThere E ez) ((cxI_ok (fun As h x h2 e => by obtain ⟨_, _, rfl, e0⟩ := sR_inv e; obtain ⟨_, _, rfl, e1⟩ := sI_inv e0; obtain ⟨rfl, ez⟩ := sE_inv e1; exact c_X3_madeAhead E ez) ((cxI_ok (fun As h x h2 e => by obtain ⟨_, _, rfl, e0⟩ := sR_inv e; obtain ⟨_, _, rfl, e1⟩ := sI_inv e0; obtain ⟨rfl, ez⟩ := sE_inv e1; exact c_X3_toldByRoots E ez) (fI0_ok E))))))))))))))
def I_X3_property_69 : List AI := [(.aload_n 0, 1, [], 0), (.iload_n 1, 1, [], 0), (.invokevirtual 91, 3, [1, 107, 2, 2, 869], 0), (.ireturn, 1, [], 0)]
theorem ok_X3_property_69 : vBL MT qLen qCh false q_X3_property.2.2.2.2.1 q_X3_property.2.2.2.2.2.1 q_X3_property.2.2.1 q_X3_property.1.cls q_X3_property.1.name q_X3_property.2.1 0 69 I_X3_property_69 = true := by decide +kernel
def p_X3_property_69 (a0 : Nat) (x1 : Int32) (h : AH) : Option (Int32 × AH) :=
  if (tg h a0).1 = 2 then ((p_X3_toldByRoots a0 x1 h).bind fun q101 =>
  some (q101.1, q101.2)) else none
set_option maxRecDepth 100000 in
theorem e_X3_property_69 {l : Launch} {D : va_G} {dA : Nat → ClassId} {z : Nat} {sa : Nat → Nat} {Hz : Heap} (E : StrOK qLen qCh l D dA z sa Hz) {h0 fin : AH} {x : Int32}  : ∀ (a0 : Nat) (x1 : Int32) (h : AH), p_X3_property_69 a0 x1 h = some (x, fin) → GM l D dA z sa Hz q_X3_property h0 (some (.int x)) fin 69 [(0, .ref a0), (1, .int x1)] [] h := by
  intro a0 x1 h hd
  exact step E (is := I_X3_property_69) (pc := 69) (K := k0) (FI := FI_X3_property) (FV := fV0) (FL := fL0) (rt := rtI) (ft := 0) (by exact hd) ok_X3_property_69 k0_ok (FI_X3_property_ok E) (fV0_ok E) (fL0_ok E) (rtI_ok rfl)
def I_X3_property_36 : List AI := [(.aload_n 0, 1, [], 0), (.iload_n 1, 1, [], 0), (.invokevirtual 78, 3, [1, 101, 2, 2, 848], 0), (.ireturn, 1, [], 0)]
theorem ok_X3_property_36 : vBL MT qLen qCh false q_X3_property.2.2.2.2.1 q_X3_property.2.2.2.2.2.1 q_X3_property.2.2.1 q_X3_property.1.cls q_X3_property.1.name q_X3_property.2.1 0 36 I_X3_property_36 = true := by decide +kernel
def p_X3_property_36 (a0 : Nat) (x1 : Int32) (h : AH) : Option (Int32 × AH) :=
  if (tg h a0).1 = 2 then ((p_X3_kindOf a0 x1 h).bind fun q102 =>
  some (q102.1, q102.2)) else none
set_option maxRecDepth 100000 in
theorem e_X3_property_36 {l : Launch} {D : va_G} {dA : Nat → ClassId} {z : Nat} {sa : Nat → Nat} {Hz : Heap} (E : StrOK qLen qCh l D dA z sa Hz) {h0 fin : AH} {x : Int32}  : ∀ (a0 : Nat) (x1 : Int32) (h : AH), p_X3_property_36 a0 x1 h = some (x, fin) → GM l D dA z sa Hz q_X3_property h0 (some (.int x)) fin 36 [(0, .ref a0), (1, .int x1)] [] h := by
  intro a0 x1 h hd
  exact step E (is := I_X3_property_36) (pc := 36) (K := k0) (FI := FI_X3_property) (FV := fV0) (FL := fL0) (rt := rtI) (ft := 0) (by exact hd) ok_X3_property_36 k0_ok (FI_X3_property_ok E) (fV0_ok E) (fL0_ok E) (rtI_ok rfl)
def I_X3_property_42 : List AI := [(.aload_n 0, 1, [], 0), (.iload_n 1, 1, [], 0), (.invokevirtual 82, 3, [1, 102, 2, 2, 852], 0), (.ireturn, 1, [], 0)]
theorem ok_X3_property_42 : vBL MT qLen qCh false q_X3_property.2.2.2.2.1 q_X3_property.2.2.2.2.2.1 q_X3_property.2.2.1 q_X3_property.1.cls q_X3_property.1.name q_X3_property.2.1 0 42 I_X3_property_42 = true := by decide +kernel
def p_X3_property_42 (a0 : Nat) (x1 : Int32) (h : AH) : Option (Int32 × AH) :=
  if (tg h a0).1 = 2 then ((p_X3_ownerOf a0 x1 h).bind fun q103 =>
  some (q103.1, q103.2)) else none
set_option maxRecDepth 100000 in
theorem e_X3_property_42 {l : Launch} {D : va_G} {dA : Nat → ClassId} {z : Nat} {sa : Nat → Nat} {Hz : Heap} (E : StrOK qLen qCh l D dA z sa Hz) {h0 fin : AH} {x : Int32}  : ∀ (a0 : Nat) (x1 : Int32) (h : AH), p_X3_property_42 a0 x1 h = some (x, fin) → GM l D dA z sa Hz q_X3_property h0 (some (.int x)) fin 42 [(0, .ref a0), (1, .int x1)] [] h := by
  intro a0 x1 h hd
  exact step E (is := I_X3_property_42) (pc := 42) (K := k0) (FI := FI_X3_property) (FV := fV0) (FL := fL0) (rt := rtI) (ft := 0) (by exact hd) ok_X3_property_42 k0_ok (FI_X3_property_ok E) (fV0_ok E) (fL0_ok E) (rtI_ok rfl)
def I_X3_property_48 : List AI := [(.aload_n 0, 1, [], 0), (.iload_n 1, 1, [], 0), (.invokevirtual 59, 3, [1, 103, 2, 2, 856], 0), (.invokestatic 52, 3, [1, 62, 1, 860], 0), (.ireturn, 1, [], 0)]
theorem ok_X3_property_48 : vBL MT qLen qCh false q_X3_property.2.2.2.2.1 q_X3_property.2.2.2.2.2.1 q_X3_property.2.2.1 q_X3_property.1.cls q_X3_property.1.name q_X3_property.2.1 0 48 I_X3_property_48 = true := by decide +kernel
def p_X3_property_48 (a0 : Nat) (x1 : Int32) (h : AH) : Option (Int32 × AH) :=
  if (tg h a0).1 = 2 then ((p_X3_isAstray a0 x1 h).bind fun q104 =>
  (p_X7_bit q104.1 q104.2).bind fun q105 =>
  some (q105.1, q105.2)) else none
set_option maxRecDepth 100000 in
theorem e_X3_property_48 {l : Launch} {D : va_G} {dA : Nat → ClassId} {z : Nat} {sa : Nat → Nat} {Hz : Heap} (E : StrOK qLen qCh l D dA z sa Hz) {h0 fin : AH} {x : Int32}  : ∀ (a0 : Nat) (x1 : Int32) (h : AH), p_X3_property_48 a0 x1 h = some (x, fin) → GM l D dA z sa Hz q_X3_property h0 (some (.int x)) fin 48 [(0, .ref a0), (1, .int x1)] [] h := by
  intro a0 x1 h hd
  exact step E (is := I_X3_property_48) (pc := 48) (K := k0) (FI := FI_X3_property) (FV := fV0) (FL := fL0) (rt := rtI) (ft := 0) (by exact hd) ok_X3_property_48 k0_ok (FI_X3_property_ok E) (fV0_ok E) (fL0_ok E) (rtI_ok rfl)
def I_X3_property_57 : List AI := [(.aload_n 0, 1, [], 0), (.iload_n 1, 1, [], 0), (.invokevirtual 85, 3, [1, 104, 2, 2, 861], 0), (.ireturn, 1, [], 0)]
theorem ok_X3_property_57 : vBL MT qLen qCh false q_X3_property.2.2.2.2.1 q_X3_property.2.2.2.2.2.1 q_X3_property.2.2.1 q_X3_property.1.cls q_X3_property.1.name q_X3_property.2.1 0 57 I_X3_property_57 = true := by decide +kernel
def p_X3_property_57 (a0 : Nat) (x1 : Int32) (h : AH) : Option (Int32 × AH) :=
  if (tg h a0).1 = 2 then ((p_X3_entriesThere a0 x1 h).bind fun q106 =>
  some (q106.1, q106.2)) else none
set_option maxRecDepth 100000 in
theorem e_X3_property_57 {l : Launch} {D : va_G} {dA : Nat → ClassId} {z : Nat} {sa : Nat → Nat} {Hz : Heap} (E : StrOK qLen qCh l D dA z sa Hz) {h0 fin : AH} {x : Int32}  : ∀ (a0 : Nat) (x1 : Int32) (h : AH), p_X3_property_57 a0 x1 h = some (x, fin) → GM l D dA z sa Hz q_X3_property h0 (some (.int x)) fin 57 [(0, .ref a0), (1, .int x1)] [] h := by
  intro a0 x1 h hd
  exact step E (is := I_X3_property_57) (pc := 57) (K := k0) (FI := FI_X3_property) (FV := fV0) (FL := fL0) (rt := rtI) (ft := 0) (by exact hd) ok_X3_property_57 k0_ok (FI_X3_property_ok E) (fV0_ok E) (fL0_ok E) (rtI_ok rfl)
def I_X3_property_63 : List AI := [(.aload_n 0, 1, [], 0), (.iload_n 1, 1, [], 0), (.invokevirtual 88, 3, [1, 105, 2, 2, 865], 0), (.ireturn, 1, [], 0)]
theorem ok_X3_property_63 : vBL MT qLen qCh false q_X3_property.2.2.2.2.1 q_X3_property.2.2.2.2.2.1 q_X3_property.2.2.1 q_X3_property.1.cls q_X3_property.1.name q_X3_property.2.1 0 63 I_X3_property_63 = true := by decide +kernel
def p_X3_property_63 (a0 : Nat) (x1 : Int32) (h : AH) : Option (Int32 × AH) :=
  if (tg h a0).1 = 2 then ((p_X3_madeAhead a0 x1 h).bind fun q107 =>
  some (q107.1, q107.2)) else none
set_option maxRecDepth 100000 in
theorem e_X3_property_63 {l : Launch} {D : va_G} {dA : Nat → ClassId} {z : Nat} {sa : Nat → Nat} {Hz : Heap} (E : StrOK qLen qCh l D dA z sa Hz) {h0 fin : AH} {x : Int32}  : ∀ (a0 : Nat) (x1 : Int32) (h : AH), p_X3_property_63 a0 x1 h = some (x, fin) → GM l D dA z sa Hz q_X3_property h0 (some (.int x)) fin 63 [(0, .ref a0), (1, .int x1)] [] h := by
  intro a0 x1 h hd
  exact step E (is := I_X3_property_63) (pc := 63) (K := k0) (FI := FI_X3_property) (FV := fV0) (FL := fL0) (rt := rtI) (ft := 0) (by exact hd) ok_X3_property_63 k0_ok (FI_X3_property_ok E) (fV0_ok E) (fL0_ok E) (rtI_ok rfl)
def I_X3_property_0 : List AI := [(.iload_n 2, 1, [], 0), (.tableswitch 68 0 4 #[35, 41, 47, 56, 62], 35, [69, 36, 42, 48, 57, 63], 0)]
theorem ok_X3_property_0 : vBL MT qLen qCh false q_X3_property.2.2.2.2.1 q_X3_property.2.2.2.2.2.1 q_X3_property.2.2.1 q_X3_property.1.cls q_X3_property.1.name q_X3_property.2.1 0 0 I_X3_property_0 = true := by decide +kernel
def p_X3_property (a0 : Nat) (x1 : Int32) (x2 : Int32) (h : AH) : Option (Int32 × AH) :=
  if swT 0 4 [69, 36, 42, 48, 57, 63] x2 = 69 then (if (tg h a0).1 = 2 then ((p_X3_toldByRoots a0 x1 h).bind fun q114 =>
  some (q114.1, q114.2)) else none)
  else
  if swT 0 4 [69, 36, 42, 48, 57, 63] x2 = 36 then (if (tg h a0).1 = 2 then ((p_X3_kindOf a0 x1 h).bind fun q113 =>
  some (q113.1, q113.2)) else none)
  else
  if swT 0 4 [69, 36, 42, 48, 57, 63] x2 = 42 then (if (tg h a0).1 = 2 then ((p_X3_ownerOf a0 x1 h).bind fun q112 =>
  some (q112.1, q112.2)) else none)
  else
  if swT 0 4 [69, 36, 42, 48, 57, 63] x2 = 48 then (if (tg h a0).1 = 2 then ((p_X3_isAstray a0 x1 h).bind fun q110 =>
  (p_X7_bit q110.1 q110.2).bind fun q111 =>
  some (q111.1, q111.2)) else none)
  else
  if swT 0 4 [69, 36, 42, 48, 57, 63] x2 = 57 then (if (tg h a0).1 = 2 then ((p_X3_entriesThere a0 x1 h).bind fun q109 =>
  some (q109.1, q109.2)) else none)
  else
  if swT 0 4 [69, 36, 42, 48, 57, 63] x2 = 63 then (if (tg h a0).1 = 2 then ((p_X3_madeAhead a0 x1 h).bind fun q108 =>
  some (q108.1, q108.2)) else none)
  else
  none
set_option maxRecDepth 100000 in
theorem e_X3_property_0 {l : Launch} {D : va_G} {dA : Nat → ClassId} {z : Nat} {sa : Nat → Nat} {Hz : Heap} (E : StrOK qLen qCh l D dA z sa Hz) {h0 fin : AH} {x : Int32}  : ∀ (a0 : Nat) (x1 : Int32) (x2 : Int32) (h : AH), p_X3_property a0 x1 x2 h = some (x, fin) → GM l D dA z sa Hz q_X3_property h0 (some (.int x)) fin 0 [(0, .ref a0), (1, .int x1), (2, .int x2)] [] h := by
  intro a0 x1 x2 h hd
  exact step E (is := I_X3_property_0) (pc := 0) (K := (kx 69 (fun la st h => gR la 0 fun a0 => gI la 1 fun x1 => sE st (p_X3_property_69 a0 x1 h)) (kx 36 (fun la st h => gR la 0 fun a0 => gI la 1 fun x1 => sE st (p_X3_property_36 a0 x1 h)) (kx 42 (fun la st h => gR la 0 fun a0 => gI la 1 fun x1 => sE st (p_X3_property_42 a0 x1 h)) (kx 48 (fun la st h => gR la 0 fun a0 => gI la 1 fun x1 => sE st (p_X3_property_48 a0 x1 h)) (kx 57 (fun la st h => gR la 0 fun a0 => gI la 1 fun x1 => sE st (p_X3_property_57 a0 x1 h)) (kx 63 (fun la st h => gR la 0 fun a0 => gI la 1 fun x1 => sE st (p_X3_property_63 a0 x1 h)) k0))))))) (FI := FI_X3_property) (FV := fV0) (FL := fL0) (rt := rtI) (ft := 0) (by exact hd) ok_X3_property_0 (kx_ok (fun la st h e => by obtain ⟨a0, m_a0, e1⟩ := gR_inv e; obtain ⟨x1, m_x1, e2⟩ := gI_inv e1; obtain ⟨rfl, ez⟩ := sE_inv e2; exact gm_fewer (e_X3_property_69 E  a0 x1 h ez) (mem_cons m_a0 (mem_cons m_x1 mem_nil))) (kx_ok (fun la st h e => by obtain ⟨a0, m_a0, e1⟩ := gR_inv e; obtain ⟨x1, m_x1, e2⟩ := gI_inv e1; obtain ⟨rfl, ez⟩ := sE_inv e2; exact gm_fewer (e_X3_property_36 E  a0 x1 h ez) (mem_cons m_a0 (mem_cons m_x1 mem_nil))) (kx_ok (fun la st h e => by obtain ⟨a0, m_a0, e1⟩ := gR_inv e; obtain ⟨x1, m_x1, e2⟩ := gI_inv e1; obtain ⟨rfl, ez⟩ := sE_inv e2; exact gm_fewer (e_X3_property_42 E  a0 x1 h ez) (mem_cons m_a0 (mem_cons m_x1 mem_nil))) (kx_ok (fun la st h e => by obtain ⟨a0, m_a0, e1⟩ := gR_inv e; obtain ⟨x1, m_x1, e2⟩ := gI_inv e1; obtain ⟨rfl, ez⟩ := sE_inv e2; exact gm_fewer (e_X3_property_48 E  a0 x1 h ez) (mem_cons m_a0 (mem_cons m_x1 mem_nil))) (kx_ok (fun la st h e => by obtain ⟨a0, m_a0, e1⟩ := gR_inv e; obtain ⟨x1, m_x1, e2⟩ := gI_inv e1; obtain ⟨rfl, ez⟩ := sE_inv e2; exact gm_fewer (e_X3_property_57 E  a0 x1 h ez) (mem_cons m_a0 (mem_cons m_x1 mem_nil))) (kx_ok (fun la st h e => by obtain ⟨a0, m_a0, e1⟩ := gR_inv e; obtain ⟨x1, m_x1, e2⟩ := gI_inv e1; obtain ⟨rfl, ez⟩ := sE_inv e2; exact gm_fewer (e_X3_property_63 E  a0 x1 h ez) (mem_cons m_a0 (mem_cons m_x1 mem_nil))) k0_ok)))))) (FI_X3_property_ok E) (fV0_ok E) (fL0_ok E) (rtI_ok rfl)
theorem c_X3_property {l : Launch} {D : va_G} {dA : Nat → ClassId} {z : Nat} {sa : Nat → Nat} {Hz : Heap} (E : StrOK qLen qCh l D dA z sa Hz) {a0 : Nat} {x1 : Int32} {x2 : Int32} {h fin : AH} {x : Int32} (hd : p_X3_property a0 x1 x2 h = some (x, fin)) : CalOK l D dA z sa Hz q_X3_property [.ref a0, .int x1, .int x2] h (some (.int x)) fin := calOf (by decide +kernel) (Nat.le_of_ble_eq_true rfl) (e_X3_property_0 E a0 x1 x2 h hd)
def FI_X7_shadow : Nat → List Value → AH → Option (Int32 × AH) := (cx 100 (fun As h => sR As fun a0 As => sI As fun x1 As => sE As (p_X7_isTable a0 x1 h)) (cx 9 (fun As h => sR As fun a0 As => sI As fun x1 As => sE As (p_X7_refuse a0 x1 h)) (cx 108 (fun As h => sR As fun a0 As => sI As fun x1 As => sI As fun x2 As => sE As (p_X3_property a0 x1 x2 h)) (cx 50 (fun As h => sR As fun a0 As => sI As fun x1 As => sE As (p_X7_answer a0 x1 h)) fI0))))
theorem FI_X7_shadow_ok {l : Launch} {D : va_G} {dA : Nat → ClassId} {z : Nat} {sa : Nat → Nat} {Hz : Heap} (E : StrOK qLen qCh l D dA z sa Hz) : ∀ mi As h x h', FI_X7_shadow mi As h = some (x, h') → CalOK l D dA z sa Hz (MT mi) As h (some (.int x)) h' := (cxI_ok (fun As h x h2 e => by obtain ⟨_, _, rfl, e0⟩ := sR_inv e; obtain ⟨_, _, rfl, e1⟩ := sI_inv e0; obtain ⟨rfl, ez⟩ := sE_inv e1; exact c_X7_isTable E ez) ((cxI_ok (fun As h x h2 e => by obtain ⟨_, _, rfl, e0⟩ := sR_inv e; obtain ⟨_, _, rfl, e1⟩ := sI_inv e0; obtain ⟨rfl, ez⟩ := sE_inv e1; exact c_X7_refuse E ez) ((cxI_ok (fun As h x h2 e => by obtain ⟨_, _, rfl, e0⟩ := sR_inv e; obtain ⟨_, _, rfl, e1⟩ := sI_inv e0; obtain ⟨_, _, rfl, e2⟩ := sI_inv e1; obtain ⟨rfl, ez⟩ := sE_inv e2; exact c_X3_property E ez) ((cxI_ok (fun As h x h2 e => by obtain ⟨_, _, rfl, e0⟩ := sR_inv e; obtain ⟨_, _, rfl, e1⟩ := sI_inv e0; obtain ⟨rfl, ez⟩ := sE_inv e1; exact c_X7_answer E ez) (fI0_ok E))))))))
def I_X7_shadow_17 : List AI := [(.aload_n 0, 1, [], 0), (.iconst 1, 1, [], 1), (.invokevirtual 54, 3, [1, 9, 2, 6, 403], 0), (.ireturn, 1, [], 0)]
theorem ok_X7_shadow_17 : vBL MT qLen qCh false q_X7_shadow.2.2.2.2.1 q_X7_shadow.2.2.2.2.2.1 q_X7_shadow.2.2.1 q_X7_shadow.1.cls q_X7_shadow.1.name q_X7_shadow.2.1 0 17 I_X7_shadow_17 = true := by decide +kernel
def p_X7_shadow_17 (a0 : Nat) (h : AH) : Option (Int32 × AH) :=
  if (tg h a0).1 = 6 then ((p_X7_refuse a0 ((1 : Int32)) h).bind fun q101 =>
  some (q101.1, q101.2)) else none
set_option maxRecDepth 100000 in
theorem e_X7_shadow_17 {l : Launch} {D : va_G} {dA : Nat → ClassId} {z : Nat} {sa : Nat → Nat} {Hz : Heap} (E : StrOK qLen qCh l D dA z sa Hz) {h0 fin : AH} {x : Int32}  : ∀ (a0 : Nat) (h : AH), p_X7_shadow_17 a0 h = some (x, fin) → GM l D dA z sa Hz q_X7_shadow h0 (some (.int x)) fin 17 [(0, .ref a0)] [] h := by
  intro a0 h hd
  exact step E (is := I_X7_shadow_17) (pc := 17) (K := k0) (FI := FI_X7_shadow) (FV := fV0) (FL := fL0) (rt := rtI) (ft := 0) (by exact hd) ok_X7_shadow_17 k0_ok (FI_X7_shadow_ok E) (fV0_ok E) (fL0_ok E) (rtI_ok rfl)
def I_X7_shadow_23 : List AI := [(.aload_n 0, 1, [], 0), (.aload_n 0, 1, [], 0), (.getfield 29, 3, [6, 4, 2, 358], 0), (.getfield 165, 3, [1, 2, 2, 323], 0), (.iload_n 1, 1, [], 0), (.iload_n 2, 1, [], 0), (.invokevirtual 168, 3, [1, 108, 3, 2, 844], 0), (.invokevirtual 68, 3, [1, 50, 2, 6, 633], 0), (.ireturn, 1, [], 0)]
theorem ok_X7_shadow_23 : vBL MT qLen qCh false q_X7_shadow.2.2.2.2.1 q_X7_shadow.2.2.2.2.2.1 q_X7_shadow.2.2.1 q_X7_shadow.1.cls q_X7_shadow.1.name q_X7_shadow.2.1 0 23 I_X7_shadow_23 = true := by decide +kernel
def p_X7_shadow_23 (a0 : Nat) (x1 : Int32) (x2 : Int32) (h : AH) : Option (Int32 × AH) :=
  if (tg h a0).1 = 6 then (if (tg h (rR h a0 4)).1 = 1 then (if (tg h (rR h (rR h a0 4) 2)).1 = 2 then ((p_X3_property (rR h (rR h a0 4) 2) x1 x2 h).bind fun q102 =>
  if (tg q102.2 a0).1 = 6 then ((p_X7_answer a0 q102.1 q102.2).bind fun q103 =>
  some (q103.1, q103.2)) else none) else none) else none) else none
set_option maxRecDepth 100000 in
theorem e_X7_shadow_23 {l : Launch} {D : va_G} {dA : Nat → ClassId} {z : Nat} {sa : Nat → Nat} {Hz : Heap} (E : StrOK qLen qCh l D dA z sa Hz) {h0 fin : AH} {x : Int32}  : ∀ (a0 : Nat) (x1 : Int32) (x2 : Int32) (h : AH), p_X7_shadow_23 a0 x1 x2 h = some (x, fin) → GM l D dA z sa Hz q_X7_shadow h0 (some (.int x)) fin 23 [(0, .ref a0), (1, .int x1), (2, .int x2)] [] h := by
  intro a0 x1 x2 h hd
  exact step E (is := I_X7_shadow_23) (pc := 23) (K := k0) (FI := FI_X7_shadow) (FV := fV0) (FL := fL0) (rt := rtI) (ft := 0) (by exact hd) ok_X7_shadow_23 k0_ok (FI_X7_shadow_ok E) (fV0_ok E) (fL0_ok E) (rtI_ok rfl)
def I_X7_shadow_0 : List AI := [(.aload_n 0, 1, [], 0), (.iload_n 1, 1, [], 0), (.invokevirtual 162, 3, [1, 100, 2, 6, 840], 0), (.ifCond .eq 12, 3, [17], 0), (.iload_n 2, 1, [], 0), (.ifCond .lt 8, 3, [17], 0), (.iload_n 2, 1, [], 0), (.iconst 5, 1, [], 5), (.if_icmp .le 9, 3, [23], 0)]
theorem ok_X7_shadow_0 : vBL MT qLen qCh false q_X7_shadow.2.2.2.2.1 q_X7_shadow.2.2.2.2.2.1 q_X7_shadow.2.2.1 q_X7_shadow.1.cls q_X7_shadow.1.name q_X7_shadow.2.1 17 0 I_X7_shadow_0 = true := by decide +kernel
def p_X7_shadow (a0 : Nat) (x1 : Int32) (x2 : Int32) (h : AH) : Option (Int32 × AH) :=
  if (tg h a0).1 = 6 then ((p_X7_isTable a0 x1 h).bind fun q104 =>
  if q104.1 = 0 then (p_X7_shadow_17 a0 q104.2)
  else
  if x2 < 0 then (p_X7_shadow_17 a0 q104.2)
  else
  if ((5 : Int32)) < x2 then (p_X7_shadow_17 a0 q104.2)
  else
  if (tg q104.2 a0).1 = 6 then (if (tg q104.2 (rR q104.2 a0 4)).1 = 1 then (if (tg q104.2 (rR q104.2 (rR q104.2 a0 4) 2)).1 = 2 then ((p_X3_property (rR q104.2 (rR q104.2 a0 4) 2) x1 x2 q104.2).bind fun q105 =>
  if (tg q105.2 a0).1 = 6 then ((p_X7_answer a0 q105.1 q105.2).bind fun q106 =>
  some (q106.1, q106.2)) else none) else none) else none) else none) else none
set_option maxRecDepth 100000 in
theorem e_X7_shadow_0 {l : Launch} {D : va_G} {dA : Nat → ClassId} {z : Nat} {sa : Nat → Nat} {Hz : Heap} (E : StrOK qLen qCh l D dA z sa Hz) {h0 fin : AH} {x : Int32}  : ∀ (a0 : Nat) (x1 : Int32) (x2 : Int32) (h : AH), p_X7_shadow a0 x1 x2 h = some (x, fin) → GM l D dA z sa Hz q_X7_shadow h0 (some (.int x)) fin 0 [(0, .ref a0), (1, .int x1), (2, .int x2)] [] h := by
  intro a0 x1 x2 h hd
  exact step E (is := I_X7_shadow_0) (pc := 0) (K := (kx 17 (fun la st h => gR la 0 fun a0 => sE st (p_X7_shadow_17 a0 h)) (kx 23 (fun la st h => gR la 0 fun a0 => gI la 1 fun x1 => gI la 2 fun x2 => sE st (p_X7_shadow_23 a0 x1 x2 h)) k0))) (FI := FI_X7_shadow) (FV := fV0) (FL := fL0) (rt := rtI) (ft := 17) (by exact hd) ok_X7_shadow_0 (kx_ok (fun la st h e => by obtain ⟨a0, m_a0, e1⟩ := gR_inv e; obtain ⟨rfl, ez⟩ := sE_inv e1; exact gm_fewer (e_X7_shadow_17 E  a0 h ez) (mem_cons m_a0 mem_nil)) (kx_ok (fun la st h e => by obtain ⟨a0, m_a0, e1⟩ := gR_inv e; obtain ⟨x1, m_x1, e2⟩ := gI_inv e1; obtain ⟨x2, m_x2, e3⟩ := gI_inv e2; obtain ⟨rfl, ez⟩ := sE_inv e3; exact gm_fewer (e_X7_shadow_23 E  a0 x1 x2 h ez) (mem_cons m_a0 (mem_cons m_x1 (mem_cons m_x2 mem_nil)))) k0_ok)) (FI_X7_shadow_ok E) (fV0_ok E) (fL0_ok E) (rtI_ok rfl)
theorem c_X7_shadow {l : Launch} {D : va_G} {dA : Nat → ClassId} {z : Nat} {sa : Nat → Nat} {Hz : Heap} (E : StrOK qLen qCh l D dA z sa Hz) {a0 : Nat} {x1 : Int32} {x2 : Int32} {h fin : AH} {x : Int32} (hd : p_X7_shadow a0 x1 x2 h = some (x, fin)) : CalOK l D dA z sa Hz q_X7_shadow [.ref a0, .int x1, .int x2] h (some (.int x)) fin := calOf (by decide +kernel) (Nat.le_of_ble_eq_true rfl) (e_X7_shadow_0 E a0 x1 x2 h hd)
def FI_X7_entry : Nat → List Value → AH → Option (Int32 × AH) := (cx 100 (fun As h => sR As fun a0 As => sI As fun x1 As => sE As (p_X7_isTable a0 x1 h)) (cx 55 (fun As h => sI As fun x0 As => sE As (p_X7_isPlace x0 h)) (cx 9 (fun As h => sR As fun a0 As => sI As fun x1 As => sE As (p_X7_refuse a0 x1 h)) (cx 88 (fun As h => sR As fun a0 As => sI As fun x1 As => sI As fun x2 As => sE As (p_X3_entryAt a0 x1 x2 h)) (cx 50 (fun As h => sR As fun a0 As => sI As fun x1 As => sE As (p_X7_answer a0 x1 h)) fI0)))))
theorem FI_X7_entry_ok {l : Launch} {D : va_G} {dA : Nat → ClassId} {z : Nat} {sa : Nat → Nat} {Hz : Heap} (E : StrOK qLen qCh l D dA z sa Hz) : ∀ mi As h x h', FI_X7_entry mi As h = some (x, h') → CalOK l D dA z sa Hz (MT mi) As h (some (.int x)) h' := (cxI_ok (fun As h x h2 e => by obtain ⟨_, _, rfl, e0⟩ := sR_inv e; obtain ⟨_, _, rfl, e1⟩ := sI_inv e0; obtain ⟨rfl, ez⟩ := sE_inv e1; exact c_X7_isTable E ez) ((cxI_ok (fun As h x h2 e => by obtain ⟨_, _, rfl, e0⟩ := sI_inv e; obtain ⟨rfl, ez⟩ := sE_inv e0; exact c_X7_isPlace E ez) ((cxI_ok (fun As h x h2 e => by obtain ⟨_, _, rfl, e0⟩ := sR_inv e; obtain ⟨_, _, rfl, e1⟩ := sI_inv e0; obtain ⟨rfl, ez⟩ := sE_inv e1; exact c_X7_refuse E ez) ((cxI_ok (fun As h x h2 e => by obtain ⟨_, _, rfl, e0⟩ := sR_inv e; obtain ⟨_, _, rfl, e1⟩ := sI_inv e0; obtain ⟨_, _, rfl, e2⟩ := sI_inv e1; obtain ⟨rfl, ez⟩ := sE_inv e2; exact c_X3_entryAt E ez) ((cxI_ok (fun As h x h2 e => by obtain ⟨_, _, rfl, e0⟩ := sR_inv e; obtain ⟨_, _, rfl, e1⟩ := sI_inv e0; obtain ⟨rfl, ez⟩ := sE_inv e1; exact c_X7_answer E ez) (fI0_ok E))))))))))
def I_X7_entry_15 : List AI := [(.aload_n 0, 1, [], 0), (.iconst 1, 1, [], 1), (.invokevirtual 54, 3, [1, 9, 2, 6, 403], 0), (.ireturn, 1, [], 0)]
theorem ok_X7_entry_15 : vBL MT qLen qCh false q_X7_entry.2.2.2.2.1 q_X7_entry.2.2.2.2.2.1 q_X7_entry.2.2.1 q_X7_entry.1.cls q_X7_entry.1.name q_X7_entry.2.1 0 15 I_X7_entry_15 = true := by decide +kernel
def p_X7_entry_15 (a0 : Nat) (h : AH) : Option (Int32 × AH) :=
  if (tg h a0).1 = 6 then ((p_X7_refuse a0 ((1 : Int32)) h).bind fun q101 =>
  some (q101.1, q101.2)) else none
set_option maxRecDepth 100000 in
theorem e_X7_entry_15 {l : Launch} {D : va_G} {dA : Nat → ClassId} {z : Nat} {sa : Nat → Nat} {Hz : Heap} (E : StrOK qLen qCh l D dA z sa Hz) {h0 fin : AH} {x : Int32}  : ∀ (a0 : Nat) (h : AH), p_X7_entry_15 a0 h = some (x, fin) → GM l D dA z sa Hz q_X7_entry h0 (some (.int x)) fin 15 [(0, .ref a0)] [] h := by
  intro a0 h hd
  exact step E (is := I_X7_entry_15) (pc := 15) (K := k0) (FI := FI_X7_entry) (FV := fV0) (FL := fL0) (rt := rtI) (ft := 0) (by exact hd) ok_X7_entry_15 k0_ok (FI_X7_entry_ok E) (fV0_ok E) (fL0_ok E) (rtI_ok rfl)
def I_X7_entry_21 : List AI := [(.aload_n 0, 1, [], 0), (.aload_n 0, 1, [], 0), (.getfield 29, 3, [6, 4, 2, 358], 0), (.getfield 165, 3, [1, 2, 2, 323], 0), (.iload_n 1, 1, [], 0), (.iload_n 2, 1, [], 0), (.invokevirtual 173, 3, [1, 88, 3, 2, 881], 0), (.invokevirtual 68, 3, [1, 50, 2, 6, 633], 0), (.ireturn, 1, [], 0)]
theorem ok_X7_entry_21 : vBL MT qLen qCh false q_X7_entry.2.2.2.2.1 q_X7_entry.2.2.2.2.2.1 q_X7_entry.2.2.1 q_X7_entry.1.cls q_X7_entry.1.name q_X7_entry.2.1 0 21 I_X7_entry_21 = true := by decide +kernel
def p_X7_entry_21 (a0 : Nat) (x1 : Int32) (x2 : Int32) (h : AH) : Option (Int32 × AH) :=
  if (tg h a0).1 = 6 then (if (tg h (rR h a0 4)).1 = 1 then (if (tg h (rR h (rR h a0 4) 2)).1 = 2 then ((p_X3_entryAt (rR h (rR h a0 4) 2) x1 x2 h).bind fun q102 =>
  if (tg q102.2 a0).1 = 6 then ((p_X7_answer a0 q102.1 q102.2).bind fun q103 =>
  some (q103.1, q103.2)) else none) else none) else none) else none
set_option maxRecDepth 100000 in
theorem e_X7_entry_21 {l : Launch} {D : va_G} {dA : Nat → ClassId} {z : Nat} {sa : Nat → Nat} {Hz : Heap} (E : StrOK qLen qCh l D dA z sa Hz) {h0 fin : AH} {x : Int32}  : ∀ (a0 : Nat) (x1 : Int32) (x2 : Int32) (h : AH), p_X7_entry_21 a0 x1 x2 h = some (x, fin) → GM l D dA z sa Hz q_X7_entry h0 (some (.int x)) fin 21 [(0, .ref a0), (1, .int x1), (2, .int x2)] [] h := by
  intro a0 x1 x2 h hd
  exact step E (is := I_X7_entry_21) (pc := 21) (K := k0) (FI := FI_X7_entry) (FV := fV0) (FL := fL0) (rt := rtI) (ft := 0) (by exact hd) ok_X7_entry_21 k0_ok (FI_X7_entry_ok E) (fV0_ok E) (fL0_ok E) (rtI_ok rfl)
def I_X7_entry_0 : List AI := [(.aload_n 0, 1, [], 0), (.iload_n 1, 1, [], 0), (.invokevirtual 162, 3, [1, 100, 2, 6, 840], 0), (.ifCond .eq 10, 3, [15], 0), (.iload_n 2, 1, [], 0), (.invokestatic 84, 3, [1, 55, 1, 653], 0), (.ifCond .ne 9, 3, [21], 0)]
theorem ok_X7_entry_0 : vBL MT qLen qCh false q_X7_entry.2.2.2.2.1 q_X7_entry.2.2.2.2.2.1 q_X7_entry.2.2.1 q_X7_entry.1.cls q_X7_entry.1.name q_X7_entry.2.1 15 0 I_X7_entry_0 = true := by decide +kernel
def p_X7_entry (a0 : Nat) (x1 : Int32) (x2 : Int32) (h : AH) : Option (Int32 × AH) :=
  if (tg h a0).1 = 6 then ((p_X7_isTable a0 x1 h).bind fun q104 =>
  if q104.1 = 0 then (p_X7_entry_15 a0 q104.2)
  else
  (p_X7_isPlace x2 q104.2).bind fun q105 =>
  if q105.1 = 0 then (p_X7_entry_15 a0 q105.2)
  else
  if (tg q105.2 a0).1 = 6 then (if (tg q105.2 (rR q105.2 a0 4)).1 = 1 then (if (tg q105.2 (rR q105.2 (rR q105.2 a0 4) 2)).1 = 2 then ((p_X3_entryAt (rR q105.2 (rR q105.2 a0 4) 2) x1 x2 q105.2).bind fun q106 =>
  if (tg q106.2 a0).1 = 6 then ((p_X7_answer a0 q106.1 q106.2).bind fun q107 =>
  some (q107.1, q107.2)) else none) else none) else none) else none) else none
set_option maxRecDepth 100000 in
theorem e_X7_entry_0 {l : Launch} {D : va_G} {dA : Nat → ClassId} {z : Nat} {sa : Nat → Nat} {Hz : Heap} (E : StrOK qLen qCh l D dA z sa Hz) {h0 fin : AH} {x : Int32}  : ∀ (a0 : Nat) (x1 : Int32) (x2 : Int32) (h : AH), p_X7_entry a0 x1 x2 h = some (x, fin) → GM l D dA z sa Hz q_X7_entry h0 (some (.int x)) fin 0 [(0, .ref a0), (1, .int x1), (2, .int x2)] [] h := by
  intro a0 x1 x2 h hd
  exact step E (is := I_X7_entry_0) (pc := 0) (K := (kx 15 (fun la st h => gR la 0 fun a0 => sE st (p_X7_entry_15 a0 h)) (kx 21 (fun la st h => gR la 0 fun a0 => gI la 1 fun x1 => gI la 2 fun x2 => sE st (p_X7_entry_21 a0 x1 x2 h)) k0))) (FI := FI_X7_entry) (FV := fV0) (FL := fL0) (rt := rtI) (ft := 15) (by exact hd) ok_X7_entry_0 (kx_ok (fun la st h e => by obtain ⟨a0, m_a0, e1⟩ := gR_inv e; obtain ⟨rfl, ez⟩ := sE_inv e1; exact gm_fewer (e_X7_entry_15 E  a0 h ez) (mem_cons m_a0 mem_nil)) (kx_ok (fun la st h e => by obtain ⟨a0, m_a0, e1⟩ := gR_inv e; obtain ⟨x1, m_x1, e2⟩ := gI_inv e1; obtain ⟨x2, m_x2, e3⟩ := gI_inv e2; obtain ⟨rfl, ez⟩ := sE_inv e3; exact gm_fewer (e_X7_entry_21 E  a0 x1 x2 h ez) (mem_cons m_a0 (mem_cons m_x1 (mem_cons m_x2 mem_nil)))) k0_ok)) (FI_X7_entry_ok E) (fV0_ok E) (fL0_ok E) (rtI_ok rfl)
theorem c_X7_entry {l : Launch} {D : va_G} {dA : Nat → ClassId} {z : Nat} {sa : Nat → Nat} {Hz : Heap} (E : StrOK qLen qCh l D dA z sa Hz) {a0 : Nat} {x1 : Int32} {x2 : Int32} {h fin : AH} {x : Int32} (hd : p_X7_entry a0 x1 x2 h = some (x, fin)) : CalOK l D dA z sa Hz q_X7_entry [.ref a0, .int x1, .int x2] h (some (.int x)) fin := calOf (by decide +kernel) (Nat.le_of_ble_eq_true rfl) (e_X7_entry_0 E a0 x1 x2 h hd)
def I_X3_isMap_43 : List AI := [(.ireturn, 1, [], 0)]
theorem ok_X3_isMap_43 : vBL MT qLen qCh false q_X3_isMap.2.2.2.2.1 q_X3_isMap.2.2.2.2.2.1 q_X3_isMap.2.2.1 q_X3_isMap.1.cls q_X3_isMap.1.name q_X3_isMap.2.1 0 43 I_X3_isMap_43 = true := by decide +kernel
def p_X3_isMap_43 (y0 : Int32) (h : AH) : Option (Int32 × AH) :=
  if y0 &&& 1 = y0 then some (y0, h) else none
set_option maxRecDepth 100000 in
theorem e_X3_isMap_43 {l : Launch} {D : va_G} {dA : Nat → ClassId} {z : Nat} {sa : Nat → Nat} {Hz : Heap} (E : StrOK qLen qCh l D dA z sa Hz) {h0 fin : AH} {x : Int32}  : ∀ (y0 : Int32) (h : AH), p_X3_isMap_43 y0 h = some (x, fin) → GM l D dA z sa Hz q_X3_isMap h0 (some (.int x)) fin 43 [] [.int y0] h := by
  intro y0 h hd
  exact step E (is := I_X3_isMap_43) (pc := 43) (K := k0) (FI := fI0) (FV := fV0) (FL := fL0) (rt := rtZ) (ft := 0) (by exact hd) ok_X3_isMap_43 k0_ok (fI0_ok E) (fV0_ok E) (fL0_ok E) (rtZ_ok rfl)
def I_X3_isMap_42 : List AI := [(.iconst 0, 1, [], 0)]
theorem ok_X3_isMap_42 : vBL MT qLen qCh false q_X3_isMap.2.2.2.2.1 q_X3_isMap.2.2.2.2.2.1 q_X3_isMap.2.2.1 q_X3_isMap.1.cls q_X3_isMap.1.name q_X3_isMap.2.1 43 42 I_X3_isMap_42 = true := by decide +kernel
def p_X3_isMap_42 (h : AH) : Option (Int32 × AH) :=
  p_X3_isMap_43 ((0 : Int32)) h
set_option maxRecDepth 100000 in
theorem e_X3_isMap_42 {l : Launch} {D : va_G} {dA : Nat → ClassId} {z : Nat} {sa : Nat → Nat} {Hz : Heap} (E : StrOK qLen qCh l D dA z sa Hz) {h0 fin : AH} {x : Int32}  : ∀  (h : AH), p_X3_isMap_42 h = some (x, fin) → GM l D dA z sa Hz q_X3_isMap h0 (some (.int x)) fin 42 [] [] h := by
  intro h hd
  exact step E (is := I_X3_isMap_42) (pc := 42) (K := (kx 43 (fun la st h => sI st fun y0 st => sE st (p_X3_isMap_43 y0 h)) k0)) (FI := fI0) (FV := fV0) (FL := fL0) (rt := rtZ) (ft := 43) (by exact hd) ok_X3_isMap_42 (kx_ok (fun la st h e => by obtain ⟨y0, _, rfl, e1⟩ := sI_inv e; obtain ⟨rfl, ez⟩ := sE_inv e1; exact gm_fewer (e_X3_isMap_43 E  y0 h ez) mem_nil) k0_ok) (fI0_ok E) (fV0_ok E) (fL0_ok E) (rtZ_ok rfl)
def I_X3_isMap_23 : List AI := [(.aload_n 0, 1, [], 0), (.getfield 21, 3, [2, 3, 2, 288], 0), (.iload_n 1, 1, [], 0), (.bipush 63, 2, [], 63), (.iand, 1, [], 0), (.iaload, 1, [], 0), (.iconst 2, 1, [], 2), (.ishr, 1, [], 0), (.iload_n 2, 1, [], 0), (.if_icmp .ne 7, 3, [42], 0), (.iconst 1, 1, [], 1), (.goto 4, 3, [43], 0)]
theorem ok_X3_isMap_23 : vBL MT qLen qCh false q_X3_isMap.2.2.2.2.1 q_X3_isMap.2.2.2.2.2.1 q_X3_isMap.2.2.1 q_X3_isMap.1.cls q_X3_isMap.1.name q_X3_isMap.2.1 0 23 I_X3_isMap_23 = true := by decide +kernel
def p_X3_isMap_23 (a0 : Nat) (x1 : Int32) (x2 : Int32) (h : AH) : Option (Int32 × AH) :=
  if (tg h a0).1 = 2 then (if inB h (rR h a0 3) 100 (x1 &&& ((63 : Int32))) then (if ((rI h (rR h a0 3) (x1 &&& ((63 : Int32))).toNatClampNeg) >>> (((2 : Int32)) &&& 31)) = x2 then (p_X3_isMap_43 ((1 : Int32)) h)
  else
  p_X3_isMap_42 h) else none) else none
set_option maxRecDepth 100000 in
theorem e_X3_isMap_23 {l : Launch} {D : va_G} {dA : Nat → ClassId} {z : Nat} {sa : Nat → Nat} {Hz : Heap} (E : StrOK qLen qCh l D dA z sa Hz) {h0 fin : AH} {x : Int32}  : ∀ (a0 : Nat) (x1 : Int32) (x2 : Int32) (h : AH), p_X3_isMap_23 a0 x1 x2 h = some (x, fin) → GM l D dA z sa Hz q_X3_isMap h0 (some (.int x)) fin 23 [(0, .ref a0), (1, .int x1), (2, .int x2)] [] h := by
  intro a0 x1 x2 h hd
  exact step E (is := I_X3_isMap_23) (pc := 23) (K := (kx 42 (fun la st h => sE st (p_X3_isMap_42 h)) (kx 43 (fun la st h => sI st fun y0 st => sE st (p_X3_isMap_43 y0 h)) k0))) (FI := fI0) (FV := fV0) (FL := fL0) (rt := rtZ) (ft := 0) (by exact hd) ok_X3_isMap_23 (kx_ok (fun la st h e => by obtain ⟨rfl, ez⟩ := sE_inv e; exact gm_fewer (e_X3_isMap_42 E   h ez) mem_nil) (kx_ok (fun la st h e => by obtain ⟨y0, _, rfl, e1⟩ := sI_inv e; obtain ⟨rfl, ez⟩ := sE_inv e1; exact gm_fewer (e_X3_isMap_43 E  y0 h ez) mem_nil) k0_ok)) (fI0_ok E) (fV0_ok E) (fL0_ok E) (rtZ_ok rfl)
def I_X3_isMap_0 : List AI := [(.aload_n 0, 1, [], 0), (.getfield 9, 3, [2, 0, 2, 285], 0), (.iload_n 1, 1, [], 0), (.bipush 8, 2, [], 8), (.idiv, 1, [], 0), (.bipush 7, 2, [], 7), (.iand, 1, [], 0), (.iaload, 1, [], 0), (.istore_n 3, 1, [], 0), (.iload_n 3, 1, [], 0), (.iconst 1, 1, [], 1), (.if_icmp .eq 8, 3, [23], 0), (.iload_n 3, 1, [], 0), (.iconst 2, 1, [], 2), (.if_icmp .ne 22, 3, [42], 0)]
theorem ok_X3_isMap_0 : vBL MT qLen qCh false q_X3_isMap.2.2.2.2.1 q_X3_isMap.2.2.2.2.2.1 q_X3_isMap.2.2.1 q_X3_isMap.1.cls q_X3_isMap.1.name q_X3_isMap.2.1 23 0 I_X3_isMap_0 = true := by decide +kernel
def p_X3_isMap (a0 : Nat) (x1 : Int32) (x2 : Int32) (h : AH) : Option (Int32 × AH) :=
  if (tg h a0).1 = 2 then (if ((8 : Int32)) = 0 then none else
  if inB h (rR h a0 0) 100 ((x1 / ((8 : Int32))) &&& ((7 : Int32))) then (let x101 := rI h (rR h a0 0) ((x1 / ((8 : Int32))) &&& ((7 : Int32))).toNatClampNeg
  if x101 = ((1 : Int32)) then (p_X3_isMap_23 a0 x1 x2 h)
  else
  if x101 = ((2 : Int32)) then (p_X3_isMap_23 a0 x1 x2 h)
  else
  p_X3_isMap_42 h) else none) else none
set_option maxRecDepth 100000 in
theorem e_X3_isMap_0 {l : Launch} {D : va_G} {dA : Nat → ClassId} {z : Nat} {sa : Nat → Nat} {Hz : Heap} (E : StrOK qLen qCh l D dA z sa Hz) {h0 fin : AH} {x : Int32}  : ∀ (a0 : Nat) (x1 : Int32) (x2 : Int32) (h : AH), p_X3_isMap a0 x1 x2 h = some (x, fin) → GM l D dA z sa Hz q_X3_isMap h0 (some (.int x)) fin 0 [(0, .ref a0), (1, .int x1), (2, .int x2)] [] h := by
  intro a0 x1 x2 h hd
  exact step E (is := I_X3_isMap_0) (pc := 0) (K := (kx 23 (fun la st h => gR la 0 fun a0 => gI la 1 fun x1 => gI la 2 fun x2 => sE st (p_X3_isMap_23 a0 x1 x2 h)) (kx 42 (fun la st h => sE st (p_X3_isMap_42 h)) k0))) (FI := fI0) (FV := fV0) (FL := fL0) (rt := rtZ) (ft := 23) (by exact hd) ok_X3_isMap_0 (kx_ok (fun la st h e => by obtain ⟨a0, m_a0, e1⟩ := gR_inv e; obtain ⟨x1, m_x1, e2⟩ := gI_inv e1; obtain ⟨x2, m_x2, e3⟩ := gI_inv e2; obtain ⟨rfl, ez⟩ := sE_inv e3; exact gm_fewer (e_X3_isMap_23 E  a0 x1 x2 h ez) (mem_cons m_a0 (mem_cons m_x1 (mem_cons m_x2 mem_nil)))) (kx_ok (fun la st h e => by obtain ⟨rfl, ez⟩ := sE_inv e; exact gm_fewer (e_X3_isMap_42 E   h ez) mem_nil) k0_ok)) (fI0_ok E) (fV0_ok E) (fL0_ok E) (rtZ_ok rfl)
theorem c_X3_isMap {l : Launch} {D : va_G} {dA : Nat → ClassId} {z : Nat} {sa : Nat → Nat} {Hz : Heap} (E : StrOK qLen qCh l D dA z sa Hz) {a0 : Nat} {x1 : Int32} {x2 : Int32} {h fin : AH} {x : Int32} (hd : p_X3_isMap a0 x1 x2 h = some (x, fin)) : CalOK l D dA z sa Hz q_X3_isMap [.ref a0, .int x1, .int x2] h (some (.int x)) fin := calOf (by decide +kernel) (Nat.le_of_ble_eq_true rfl) (e_X3_isMap_0 E a0 x1 x2 h hd)
def FI_X3_countMaps : Nat → List Value → AH → Option (Int32 × AH) := (cx 111 (fun As h => sR As fun a0 As => sI As fun x1 As => sI As fun x2 As => sE As (p_X3_isMap a0 x1 x2 h)) (cx 60 (fun As h => sI As fun x0 As => sI As fun x1 As => sE As (p_X7_has x0 x1 h)) (cx 62 (fun As h => sI As fun x0 As => sE As (p_X7_bit x0 h)) fI0)))
theorem FI_X3_countMaps_ok {l : Launch} {D : va_G} {dA : Nat → ClassId} {z : Nat} {sa : Nat → Nat} {Hz : Heap} (E : StrOK qLen qCh l D dA z sa Hz) : ∀ mi As h x h', FI_X3_countMaps mi As h = some (x, h') → CalOK l D dA z sa Hz (MT mi) As h (some (.int x)) h' := (cxI_ok (fun As h x h2 e => by obtain ⟨_, _, rfl, e0⟩ := sR_inv e; obtain ⟨_, _, rfl, e1⟩ := sI_inv e0; obtain ⟨_, _, rfl, e2⟩ := sI_inv e1; obtain ⟨rfl, ez⟩ := sE_inv e2; exact c_X3_isMap E ez) ((cxI_ok (fun As h x h2 e => by obtain ⟨_, _, rfl, e0⟩ := sI_inv e; obtain ⟨_, _, rfl, e1⟩ := sI_inv e0; obtain ⟨rfl, ez⟩ := sE_inv e1; exact c_X7_has E ez) ((cxI_ok (fun As h x h2 e => by obtain ⟨_, _, rfl, e0⟩ := sI_inv e; obtain ⟨rfl, ez⟩ := sE_inv e0; exact c_X7_bit E ez) (fI0_ok E))))))
def I_X3_countMaps_53 : List AI := [(.iload_n 3, 1, [], 0), (.ireturn, 1, [], 0)]
theorem ok_X3_countMaps_53 : vBL MT qLen qCh false q_X3_countMaps.2.2.2.2.1 q_X3_countMaps.2.2.2.2.2.1 q_X3_countMaps.2.2.1 q_X3_countMaps.1.cls q_X3_countMaps.1.name q_X3_countMaps.2.1 0 53 I_X3_countMaps_53 = true := by decide +kernel
def p_X3_countMaps_53 (x3 : Int32) (h : AH) : Option (Int32 × AH) :=
  some (x3, h)
set_option maxRecDepth 100000 in
theorem e_X3_countMaps_53 {l : Launch} {D : va_G} {dA : Nat → ClassId} {z : Nat} {sa : Nat → Nat} {Hz : Heap} (E : StrOK qLen qCh l D dA z sa Hz) {h0 fin : AH} {x : Int32}  : ∀ (x3 : Int32) (h : AH), p_X3_countMaps_53 x3 h = some (x, fin) → GM l D dA z sa Hz q_X3_countMaps h0 (some (.int x)) fin 53 [(3, .int x3)] [] h := by
  intro x3 h hd
  exact step E (is := I_X3_countMaps_53) (pc := 53) (K := k0) (FI := FI_X3_countMaps) (FV := fV0) (FL := fL0) (rt := rtI) (ft := 0) (by exact hd) ok_X3_countMaps_53 k0_ok (FI_X3_countMaps_ok E) (fV0_ok E) (fL0_ok E) (rtI_ok rfl)
def I_X3_countMaps_42 : List AI := [(.invokestatic 52, 3, [1, 62, 1, 860], 0), (.iadd, 1, [], 0), (.istore_n 3, 1, [], 0), (.iinc 4 1, 3, [], 1), (.goto (-45), 3, [5], 0)]
theorem ok_X3_countMaps_42 : vBL MT qLen qCh false q_X3_countMaps.2.2.2.2.1 q_X3_countMaps.2.2.2.2.2.1 q_X3_countMaps.2.2.1 q_X3_countMaps.1.cls q_X3_countMaps.1.name q_X3_countMaps.2.1 0 42 I_X3_countMaps_42 = true := by decide +kernel
def p_X3_countMaps_42 (k5 : Nat → Int32 → Int32 → Int32 → Int32 → AH → Option (Int32 × AH)) (a0 : Nat) (x1 : Int32) (x2 : Int32) (x4 : Int32) (y0 : Int32) (y1 : Int32) (h : AH) : Option (Int32 × AH) :=
  (p_X7_bit y0 h).bind fun q101 =>
  let x102 := y1 + q101.1
  k5 a0 x1 x2 x102 (x4 + (1 : Int32)) q101.2
set_option maxRecDepth 100000 in
theorem e_X3_countMaps_42 {l : Launch} {D : va_G} {dA : Nat → ClassId} {z : Nat} {sa : Nat → Nat} {Hz : Heap} (E : StrOK qLen qCh l D dA z sa Hz) {h0 fin : AH} {x : Int32}  {k5 : Nat → Int32 → Int32 → Int32 → Int32 → AH → Option (Int32 × AH)} (hk5 : ∀ (a0 : Nat) (x1 : Int32) (x2 : Int32) (x3 : Int32) (x4 : Int32) (h : AH), k5 a0 x1 x2 x3 x4 h = some (x, fin) → GM l D dA z sa Hz q_X3_countMaps h0 (some (.int x)) fin 5 [(0, .ref a0), (1, .int x1), (2, .int x2), (3, .int x3), (4, .int x4)] [] h) : ∀ (a0 : Nat) (x1 : Int32) (x2 : Int32) (x4 : Int32) (y0 : Int32) (y1 : Int32) (h : AH), p_X3_countMaps_42 k5 a0 x1 x2 x4 y0 y1 h = some (x, fin) → GM l D dA z sa Hz q_X3_countMaps h0 (some (.int x)) fin 42 [(0, .ref a0), (1, .int x1), (2, .int x2), (4, .int x4)] [.int y0, .int y1] h := by
  intro a0 x1 x2 x4 y0 y1 h hd
  exact step E (is := I_X3_countMaps_42) (pc := 42) (K := (kx 5 (fun la st h => gR la 0 fun a0 => gI la 1 fun x1 => gI la 2 fun x2 => gI la 3 fun x3 => gI la 4 fun x4 => sE st (k5 a0 x1 x2 x3 x4 h)) k0)) (FI := FI_X3_countMaps) (FV := fV0) (FL := fL0) (rt := rtI) (ft := 0) (by exact hd) ok_X3_countMaps_42 (kx_ok (fun la st h e => by obtain ⟨a0, m_a0, e1⟩ := gR_inv e; obtain ⟨x1, m_x1, e2⟩ := gI_inv e1; obtain ⟨x2, m_x2, e3⟩ := gI_inv e2; obtain ⟨x3, m_x3, e4⟩ := gI_inv e3; obtain ⟨x4, m_x4, e5⟩ := gI_inv e4; obtain ⟨rfl, ez⟩ := sE_inv e5; exact gm_fewer (hk5 a0 x1 x2 x3 x4 h ez) (mem_cons m_a0 (mem_cons m_x1 (mem_cons m_x2 (mem_cons m_x3 (mem_cons m_x4 mem_nil)))))) k0_ok) (FI_X3_countMaps_ok E) (fV0_ok E) (fL0_ok E) (rtI_ok rfl)
def I_X3_countMaps_41 : List AI := [(.iconst 0, 1, [], 0)]
theorem ok_X3_countMaps_41 : vBL MT qLen qCh false q_X3_countMaps.2.2.2.2.1 q_X3_countMaps.2.2.2.2.2.1 q_X3_countMaps.2.2.1 q_X3_countMaps.1.cls q_X3_countMaps.1.name q_X3_countMaps.2.1 42 41 I_X3_countMaps_41 = true := by decide +kernel
def p_X3_countMaps_41 (k5 : Nat → Int32 → Int32 → Int32 → Int32 → AH → Option (Int32 × AH)) (a0 : Nat) (x1 : Int32) (x2 : Int32) (x4 : Int32) (y0 : Int32) (h : AH) : Option (Int32 × AH) :=
  p_X3_countMaps_42 k5 a0 x1 x2 x4 ((0 : Int32)) y0 h
set_option maxRecDepth 100000 in
theorem e_X3_countMaps_41 {l : Launch} {D : va_G} {dA : Nat → ClassId} {z : Nat} {sa : Nat → Nat} {Hz : Heap} (E : StrOK qLen qCh l D dA z sa Hz) {h0 fin : AH} {x : Int32}  {k5 : Nat → Int32 → Int32 → Int32 → Int32 → AH → Option (Int32 × AH)} (hk5 : ∀ (a0 : Nat) (x1 : Int32) (x2 : Int32) (x3 : Int32) (x4 : Int32) (h : AH), k5 a0 x1 x2 x3 x4 h = some (x, fin) → GM l D dA z sa Hz q_X3_countMaps h0 (some (.int x)) fin 5 [(0, .ref a0), (1, .int x1), (2, .int x2), (3, .int x3), (4, .int x4)] [] h) : ∀ (a0 : Nat) (x1 : Int32) (x2 : Int32) (x4 : Int32) (y0 : Int32) (h : AH), p_X3_countMaps_41 k5 a0 x1 x2 x4 y0 h = some (x, fin) → GM l D dA z sa Hz q_X3_countMaps h0 (some (.int x)) fin 41 [(0, .ref a0), (1, .int x1), (2, .int x2), (4, .int x4)] [.int y0] h := by
  intro a0 x1 x2 x4 y0 h hd
  exact step E (is := I_X3_countMaps_41) (pc := 41) (K := (kx 42 (fun la st h => gR la 0 fun a0 => gI la 1 fun x1 => gI la 2 fun x2 => gI la 4 fun x4 => sI st fun y0 st => sI st fun y1 st => sE st (p_X3_countMaps_42 k5 a0 x1 x2 x4 y0 y1 h)) k0)) (FI := FI_X3_countMaps) (FV := fV0) (FL := fL0) (rt := rtI) (ft := 42) (by exact hd) ok_X3_countMaps_41 (kx_ok (fun la st h e => by obtain ⟨a0, m_a0, e1⟩ := gR_inv e; obtain ⟨x1, m_x1, e2⟩ := gI_inv e1; obtain ⟨x2, m_x2, e3⟩ := gI_inv e2; obtain ⟨x4, m_x4, e4⟩ := gI_inv e3; obtain ⟨y0, _, rfl, e5⟩ := sI_inv e4; obtain ⟨y1, _, rfl, e6⟩ := sI_inv e5; obtain ⟨rfl, ez⟩ := sE_inv e6; exact gm_fewer (e_X3_countMaps_42 E hk5 a0 x1 x2 x4 y0 y1 h ez) (mem_cons m_a0 (mem_cons m_x1 (mem_cons m_x2 (mem_cons m_x4 mem_nil))))) k0_ok) (FI_X3_countMaps_ok E) (fV0_ok E) (fL0_ok E) (rtI_ok rfl)
def I_X3_countMaps_5 : List AI := [(.iload 4, 2, [], 0), (.bipush 64, 2, [], 64), (.if_icmp .ge 44, 3, [53], 0), (.iload_n 3, 1, [], 0), (.aload_n 0, 1, [], 0), (.iload 4, 2, [], 0), (.iload_n 1, 1, [], 0), (.invokevirtual 66, 3, [1, 111, 3, 2, 890], 0), (.ifCond .eq 21, 3, [41], 0), (.aload_n 0, 1, [], 0), (.getfield 21, 3, [2, 3, 2, 288], 0), (.iload 4, 2, [], 0), (.iaload, 1, [], 0), (.iload_n 2, 1, [], 0), (.invokestatic 44, 3, [1, 60, 2, 803], 0), (.ifCond .eq 7, 3, [41], 0), (.iconst 1, 1, [], 1), (.goto 4, 3, [42], 0)]
theorem ok_X3_countMaps_5 : vBL MT qLen qCh false q_X3_countMaps.2.2.2.2.1 q_X3_countMaps.2.2.2.2.2.1 q_X3_countMaps.2.2.1 q_X3_countMaps.1.cls q_X3_countMaps.1.name q_X3_countMaps.2.1 0 5 I_X3_countMaps_5 = true := by decide +kernel
def p_X3_countMaps_5 : Nat → Nat → Int32 → Int32 → Int32 → Int32 → AH → Option (Int32 × AH)
  | 0, _, _, _, _, _, _ => none
  | n + 1, a0, x1, x2, x3, x4, h => if x4 < ((64 : Int32)) then (if (tg h a0).1 = 2 then ((p_X3_isMap a0 x4 x1 h).bind fun q103 =>
    if q103.1 = 0 then (p_X3_countMaps_41 (p_X3_countMaps_5 n) a0 x1 x2 x4 x3 q103.2)
    else
    if (tg q103.2 a0).1 = 2 then (if inB q103.2 (rR q103.2 a0 3) 100 x4 then ((p_X7_has (rI q103.2 (rR q103.2 a0 3) x4.toNatClampNeg) x2 q103.2).bind fun q104 =>
    if q104.1 = 0 then (p_X3_countMaps_41 (p_X3_countMaps_5 n) a0 x1 x2 x4 x3 q104.2)
    else
    p_X3_countMaps_42 (p_X3_countMaps_5 n) a0 x1 x2 x4 ((1 : Int32)) x3 q104.2) else none) else none) else none)
    else
    some (x3, h)
set_option maxRecDepth 100000 in
theorem e_X3_countMaps_5 {l : Launch} {D : va_G} {dA : Nat → ClassId} {z : Nat} {sa : Nat → Nat} {Hz : Heap} (E : StrOK qLen qCh l D dA z sa Hz) {h0 fin : AH} {x : Int32}  : ∀ (n : Nat) (a0 : Nat) (x1 : Int32) (x2 : Int32) (x3 : Int32) (x4 : Int32) (h : AH), p_X3_countMaps_5 n a0 x1 x2 x3 x4 h = some (x, fin) → GM l D dA z sa Hz q_X3_countMaps h0 (some (.int x)) fin 5 [(0, .ref a0), (1, .int x1), (2, .int x2), (3, .int x3), (4, .int x4)] [] h := by
  intro n
  induction n with
  | zero => intro a0 x1 x2 x3 x4 h hd; exact nomatch hd
  | succ n ih =>
    intro a0 x1 x2 x3 x4 h hd
    exact step E (is := I_X3_countMaps_5) (pc := 5) (K := (kx 53 (fun la st h => gI la 3 fun x3 => sE st (p_X3_countMaps_53 x3 h)) (kx 41 (fun la st h => gR la 0 fun a0 => gI la 1 fun x1 => gI la 2 fun x2 => gI la 4 fun x4 => sI st fun y0 st => sE st (p_X3_countMaps_41 (p_X3_countMaps_5 n) a0 x1 x2 x4 y0 h)) (kx 42 (fun la st h => gR la 0 fun a0 => gI la 1 fun x1 => gI la 2 fun x2 => gI la 4 fun x4 => sI st fun y0 st => sI st fun y1 st => sE st (p_X3_countMaps_42 (p_X3_countMaps_5 n) a0 x1 x2 x4 y0 y1 h)) k0)))) (FI := FI_X3_countMaps) (FV := fV0) (FL := fL0) (rt := rtI) (ft := 0) (by exact hd) ok_X3_countMaps_5 (kx_ok (fun la st h e => by obtain ⟨x3, m_x3, e1⟩ := gI_inv e; obtain ⟨rfl, ez⟩ := sE_inv e1; exact gm_fewer (e_X3_countMaps_53 E  x3 h ez) (mem_cons m_x3 mem_nil)) (kx_ok (fun la st h e => by obtain ⟨a0, m_a0, e1⟩ := gR_inv e; obtain ⟨x1, m_x1, e2⟩ := gI_inv e1; obtain ⟨x2, m_x2, e3⟩ := gI_inv e2; obtain ⟨x4, m_x4, e4⟩ := gI_inv e3; obtain ⟨y0, _, rfl, e5⟩ := sI_inv e4; obtain ⟨rfl, ez⟩ := sE_inv e5; exact gm_fewer (e_X3_countMaps_41 E ih a0 x1 x2 x4 y0 h ez) (mem_cons m_a0 (mem_cons m_x1 (mem_cons m_x2 (mem_cons m_x4 mem_nil))))) (kx_ok (fun la st h e => by obtain ⟨a0, m_a0, e1⟩ := gR_inv e; obtain ⟨x1, m_x1, e2⟩ := gI_inv e1; obtain ⟨x2, m_x2, e3⟩ := gI_inv e2; obtain ⟨x4, m_x4, e4⟩ := gI_inv e3; obtain ⟨y0, _, rfl, e5⟩ := sI_inv e4; obtain ⟨y1, _, rfl, e6⟩ := sI_inv e5; obtain ⟨rfl, ez⟩ := sE_inv e6; exact gm_fewer (e_X3_countMaps_42 E ih a0 x1 x2 x4 y0 y1 h ez) (mem_cons m_a0 (mem_cons m_x1 (mem_cons m_x2 (mem_cons m_x4 mem_nil))))) k0_ok))) (FI_X3_countMaps_ok E) (fV0_ok E) (fL0_ok E) (rtI_ok rfl)
def I_X3_countMaps_0 : List AI := [(.iconst 0, 1, [], 0), (.istore_n 3, 1, [], 0), (.iconst 0, 1, [], 0), (.istore 4, 2, [], 0)]
theorem ok_X3_countMaps_0 : vBL MT qLen qCh false q_X3_countMaps.2.2.2.2.1 q_X3_countMaps.2.2.2.2.2.1 q_X3_countMaps.2.2.1 q_X3_countMaps.1.cls q_X3_countMaps.1.name q_X3_countMaps.2.1 5 0 I_X3_countMaps_0 = true := by decide +kernel
def p_X3_countMaps (a0 : Nat) (x1 : Int32) (x2 : Int32) (h : AH) : Option (Int32 × AH) :=
  p_X3_countMaps_5 FU a0 x1 x2 ((0 : Int32)) ((0 : Int32)) h
set_option maxRecDepth 100000 in
theorem e_X3_countMaps_0 {l : Launch} {D : va_G} {dA : Nat → ClassId} {z : Nat} {sa : Nat → Nat} {Hz : Heap} (E : StrOK qLen qCh l D dA z sa Hz) {h0 fin : AH} {x : Int32}  : ∀ (a0 : Nat) (x1 : Int32) (x2 : Int32) (h : AH), p_X3_countMaps a0 x1 x2 h = some (x, fin) → GM l D dA z sa Hz q_X3_countMaps h0 (some (.int x)) fin 0 [(0, .ref a0), (1, .int x1), (2, .int x2)] [] h := by
  intro a0 x1 x2 h hd
  exact step E (is := I_X3_countMaps_0) (pc := 0) (K := (kx 5 (fun la st h => gR la 0 fun a0 => gI la 1 fun x1 => gI la 2 fun x2 => gI la 3 fun x3 => gI la 4 fun x4 => sE st (p_X3_countMaps_5 FU a0 x1 x2 x3 x4 h)) k0)) (FI := FI_X3_countMaps) (FV := fV0) (FL := fL0) (rt := rtI) (ft := 5) (by exact hd) ok_X3_countMaps_0 (kx_ok (fun la st h e => by obtain ⟨a0, m_a0, e1⟩ := gR_inv e; obtain ⟨x1, m_x1, e2⟩ := gI_inv e1; obtain ⟨x2, m_x2, e3⟩ := gI_inv e2; obtain ⟨x3, m_x3, e4⟩ := gI_inv e3; obtain ⟨x4, m_x4, e5⟩ := gI_inv e4; obtain ⟨rfl, ez⟩ := sE_inv e5; exact gm_fewer (e_X3_countMaps_5 E  FU a0 x1 x2 x3 x4 h ez) (mem_cons m_a0 (mem_cons m_x1 (mem_cons m_x2 (mem_cons m_x3 (mem_cons m_x4 mem_nil)))))) k0_ok) (FI_X3_countMaps_ok E) (fV0_ok E) (fL0_ok E) (rtI_ok rfl)
theorem c_X3_countMaps {l : Launch} {D : va_G} {dA : Nat → ClassId} {z : Nat} {sa : Nat → Nat} {Hz : Heap} (E : StrOK qLen qCh l D dA z sa Hz) {a0 : Nat} {x1 : Int32} {x2 : Int32} {h fin : AH} {x : Int32} (hd : p_X3_countMaps a0 x1 x2 h = some (x, fin)) : CalOK l D dA z sa Hz q_X3_countMaps [.ref a0, .int x1, .int x2] h (some (.int x)) fin := calOf (by decide +kernel) (Nat.le_of_ble_eq_true rfl) (e_X3_countMaps_0 E a0 x1 x2 h hd)
def FI_X7_maps : Nat → List Value → AH → Option (Int32 × AH) := (cx 54 (fun As h => sR As fun a0 As => sI As fun x1 As => sE As (p_X7_isFrame a0 x1 h)) (cx 9 (fun As h => sR As fun a0 As => sI As fun x1 As => sE As (p_X7_refuse a0 x1 h)) (cx 112 (fun As h => sR As fun a0 As => sI As fun x1 As => sI As fun x2 As => sE As (p_X3_countMaps a0 x1 x2 h)) (cx 50 (fun As h => sR As fun a0 As => sI As fun x1 As => sE As (p_X7_answer a0 x1 h)) fI0))))
theorem FI_X7_maps_ok {l : Launch} {D : va_G} {dA : Nat → ClassId} {z : Nat} {sa : Nat → Nat} {Hz : Heap} (E : StrOK qLen qCh l D dA z sa Hz) : ∀ mi As h x h', FI_X7_maps mi As h = some (x, h') → CalOK l D dA z sa Hz (MT mi) As h (some (.int x)) h' := (cxI_ok (fun As h x h2 e => by obtain ⟨_, _, rfl, e0⟩ := sR_inv e; obtain ⟨_, _, rfl, e1⟩ := sI_inv e0; obtain ⟨rfl, ez⟩ := sE_inv e1; exact c_X7_isFrame E ez) ((cxI_ok (fun As h x h2 e => by obtain ⟨_, _, rfl, e0⟩ := sR_inv e; obtain ⟨_, _, rfl, e1⟩ := sI_inv e0; obtain ⟨rfl, ez⟩ := sE_inv e1; exact c_X7_refuse E ez) ((cxI_ok (fun As h x h2 e => by obtain ⟨_, _, rfl, e0⟩ := sR_inv e; obtain ⟨_, _, rfl, e1⟩ := sI_inv e0; obtain ⟨_, _, rfl, e2⟩ := sI_inv e1; obtain ⟨rfl, ez⟩ := sE_inv e2; exact c_X3_countMaps E ez) ((cxI_ok (fun As h x h2 e => by obtain ⟨_, _, rfl, e0⟩ := sR_inv e; obtain ⟨_, _, rfl, e1⟩ := sI_inv e0; obtain ⟨rfl, ez⟩ := sE_inv e1; exact c_X7_answer E ez) (fI0_ok E))))))))
def I_X7_maps_14 : List AI := [(.aload_n 0, 1, [], 0), (.aload_n 0, 1, [], 0), (.getfield 29, 3, [6, 4, 2, 358], 0), (.getfield 165, 3, [1, 2, 2, 323], 0), (.iload_n 1, 1, [], 0), (.iconst 0, 1, [], 0), (.invokevirtual 176, 3, [1, 112, 3, 2, 886], 0), (.invokevirtual 68, 3, [1, 50, 2, 6, 633], 0), (.ireturn, 1, [], 0)]
theorem ok_X7_maps_14 : vBL MT qLen qCh false q_X7_maps.2.2.2.2.1 q_X7_maps.2.2.2.2.2.1 q_X7_maps.2.2.1 q_X7_maps.1.cls q_X7_maps.1.name q_X7_maps.2.1 0 14 I_X7_maps_14 = true := by decide +kernel
def p_X7_maps_14 (a0 : Nat) (x1 : Int32) (h : AH) : Option (Int32 × AH) :=
  if (tg h a0).1 = 6 then (if (tg h (rR h a0 4)).1 = 1 then (if (tg h (rR h (rR h a0 4) 2)).1 = 2 then ((p_X3_countMaps (rR h (rR h a0 4) 2) x1 ((0 : Int32)) h).bind fun q101 =>
  if (tg q101.2 a0).1 = 6 then ((p_X7_answer a0 q101.1 q101.2).bind fun q102 =>
  some (q102.1, q102.2)) else none) else none) else none) else none
set_option maxRecDepth 100000 in
theorem e_X7_maps_14 {l : Launch} {D : va_G} {dA : Nat → ClassId} {z : Nat} {sa : Nat → Nat} {Hz : Heap} (E : StrOK qLen qCh l D dA z sa Hz) {h0 fin : AH} {x : Int32}  : ∀ (a0 : Nat) (x1 : Int32) (h : AH), p_X7_maps_14 a0 x1 h = some (x, fin) → GM l D dA z sa Hz q_X7_maps h0 (some (.int x)) fin 14 [(0, .ref a0), (1, .int x1)] [] h := by
  intro a0 x1 h hd
  exact step E (is := I_X7_maps_14) (pc := 14) (K := k0) (FI := FI_X7_maps) (FV := fV0) (FL := fL0) (rt := rtI) (ft := 0) (by exact hd) ok_X7_maps_14 k0_ok (FI_X7_maps_ok E) (fV0_ok E) (fL0_ok E) (rtI_ok rfl)
def I_X7_maps_0 : List AI := [(.aload_n 0, 1, [], 0), (.iload_n 1, 1, [], 0), (.invokevirtual 80, 3, [1, 54, 2, 6, 649], 0), (.ifCond .ne 9, 3, [14], 0), (.aload_n 0, 1, [], 0), (.iconst 1, 1, [], 1), (.invokevirtual 54, 3, [1, 9, 2, 6, 403], 0), (.ireturn, 1, [], 0)]
theorem ok_X7_maps_0 : vBL MT qLen qCh false q_X7_maps.2.2.2.2.1 q_X7_maps.2.2.2.2.2.1 q_X7_maps.2.2.1 q_X7_maps.1.cls q_X7_maps.1.name q_X7_maps.2.1 0 0 I_X7_maps_0 = true := by decide +kernel
def p_X7_maps (a0 : Nat) (x1 : Int32) (h : AH) : Option (Int32 × AH) :=
  if (tg h a0).1 = 6 then ((p_X7_isFrame a0 x1 h).bind fun q103 =>
  if q103.1 = 0 then (if (tg q103.2 a0).1 = 6 then ((p_X7_refuse a0 ((1 : Int32)) q103.2).bind fun q106 =>
  some (q106.1, q106.2)) else none)
  else
  if (tg q103.2 a0).1 = 6 then (if (tg q103.2 (rR q103.2 a0 4)).1 = 1 then (if (tg q103.2 (rR q103.2 (rR q103.2 a0 4) 2)).1 = 2 then ((p_X3_countMaps (rR q103.2 (rR q103.2 a0 4) 2) x1 ((0 : Int32)) q103.2).bind fun q104 =>
  if (tg q104.2 a0).1 = 6 then ((p_X7_answer a0 q104.1 q104.2).bind fun q105 =>
  some (q105.1, q105.2)) else none) else none) else none) else none) else none
set_option maxRecDepth 100000 in
theorem e_X7_maps_0 {l : Launch} {D : va_G} {dA : Nat → ClassId} {z : Nat} {sa : Nat → Nat} {Hz : Heap} (E : StrOK qLen qCh l D dA z sa Hz) {h0 fin : AH} {x : Int32}  : ∀ (a0 : Nat) (x1 : Int32) (h : AH), p_X7_maps a0 x1 h = some (x, fin) → GM l D dA z sa Hz q_X7_maps h0 (some (.int x)) fin 0 [(0, .ref a0), (1, .int x1)] [] h := by
  intro a0 x1 h hd
  exact step E (is := I_X7_maps_0) (pc := 0) (K := (kx 14 (fun la st h => gR la 0 fun a0 => gI la 1 fun x1 => sE st (p_X7_maps_14 a0 x1 h)) k0)) (FI := FI_X7_maps) (FV := fV0) (FL := fL0) (rt := rtI) (ft := 0) (by exact hd) ok_X7_maps_0 (kx_ok (fun la st h e => by obtain ⟨a0, m_a0, e1⟩ := gR_inv e; obtain ⟨x1, m_x1, e2⟩ := gI_inv e1; obtain ⟨rfl, ez⟩ := sE_inv e2; exact gm_fewer (e_X7_maps_14 E  a0 x1 h ez) (mem_cons m_a0 (mem_cons m_x1 mem_nil))) k0_ok) (FI_X7_maps_ok E) (fV0_ok E) (fL0_ok E) (rtI_ok rfl)
theorem c_X7_maps {l : Launch} {D : va_G} {dA : Nat → ClassId} {z : Nat} {sa : Nat → Nat} {Hz : Heap} (E : StrOK qLen qCh l D dA z sa Hz) {a0 : Nat} {x1 : Int32} {h fin : AH} {x : Int32} (hd : p_X7_maps a0 x1 h = some (x, fin)) : CalOK l D dA z sa Hz q_X7_maps [.ref a0, .int x1] h (some (.int x)) fin := calOf (by decide +kernel) (Nat.le_of_ble_eq_true rfl) (e_X7_maps_0 E a0 x1 h hd)
def FI_X7_writers : Nat → List Value → AH → Option (Int32 × AH) := (cx 54 (fun As h => sR As fun a0 As => sI As fun x1 As => sE As (p_X7_isFrame a0 x1 h)) (cx 9 (fun As h => sR As fun a0 As => sI As fun x1 As => sE As (p_X7_refuse a0 x1 h)) (cx 112 (fun As h => sR As fun a0 As => sI As fun x1 As => sI As fun x2 As => sE As (p_X3_countMaps a0 x1 x2 h)) (cx 50 (fun As h => sR As fun a0 As => sI As fun x1 As => sE As (p_X7_answer a0 x1 h)) fI0))))
theorem FI_X7_writers_ok {l : Launch} {D : va_G} {dA : Nat → ClassId} {z : Nat} {sa : Nat → Nat} {Hz : Heap} (E : StrOK qLen qCh l D dA z sa Hz) : ∀ mi As h x h', FI_X7_writers mi As h = some (x, h') → CalOK l D dA z sa Hz (MT mi) As h (some (.int x)) h' := (cxI_ok (fun As h x h2 e => by obtain ⟨_, _, rfl, e0⟩ := sR_inv e; obtain ⟨_, _, rfl, e1⟩ := sI_inv e0; obtain ⟨rfl, ez⟩ := sE_inv e1; exact c_X7_isFrame E ez) ((cxI_ok (fun As h x h2 e => by obtain ⟨_, _, rfl, e0⟩ := sR_inv e; obtain ⟨_, _, rfl, e1⟩ := sI_inv e0; obtain ⟨rfl, ez⟩ := sE_inv e1; exact c_X7_refuse E ez) ((cxI_ok (fun As h x h2 e => by obtain ⟨_, _, rfl, e0⟩ := sR_inv e; obtain ⟨_, _, rfl, e1⟩ := sI_inv e0; obtain ⟨_, _, rfl, e2⟩ := sI_inv e1; obtain ⟨rfl, ez⟩ := sE_inv e2; exact c_X3_countMaps E ez) ((cxI_ok (fun As h x h2 e => by obtain ⟨_, _, rfl, e0⟩ := sR_inv e; obtain ⟨_, _, rfl, e1⟩ := sI_inv e0; obtain ⟨rfl, ez⟩ := sE_inv e1; exact c_X7_answer E ez) (fI0_ok E))))))))
def I_X7_writers_14 : List AI := [(.aload_n 0, 1, [], 0), (.aload_n 0, 1, [], 0), (.getfield 29, 3, [6, 4, 2, 358], 0), (.getfield 165, 3, [1, 2, 2, 323], 0), (.iload_n 1, 1, [], 0), (.iconst 2, 1, [], 2), (.invokevirtual 176, 3, [1, 112, 3, 2, 886], 0), (.invokevirtual 68, 3, [1, 50, 2, 6, 633], 0), (.ireturn, 1, [], 0)]
theorem ok_X7_writers_14 : vBL MT qLen qCh false q_X7_writers.2.2.2.2.1 q_X7_writers.2.2.2.2.2.1 q_X7_writers.2.2.1 q_X7_writers.1.cls q_X7_writers.1.name q_X7_writers.2.1 0 14 I_X7_writers_14 = true := by decide +kernel
def p_X7_writers_14 (a0 : Nat) (x1 : Int32) (h : AH) : Option (Int32 × AH) :=
  if (tg h a0).1 = 6 then (if (tg h (rR h a0 4)).1 = 1 then (if (tg h (rR h (rR h a0 4) 2)).1 = 2 then ((p_X3_countMaps (rR h (rR h a0 4) 2) x1 ((2 : Int32)) h).bind fun q101 =>
  if (tg q101.2 a0).1 = 6 then ((p_X7_answer a0 q101.1 q101.2).bind fun q102 =>
  some (q102.1, q102.2)) else none) else none) else none) else none
set_option maxRecDepth 100000 in
theorem e_X7_writers_14 {l : Launch} {D : va_G} {dA : Nat → ClassId} {z : Nat} {sa : Nat → Nat} {Hz : Heap} (E : StrOK qLen qCh l D dA z sa Hz) {h0 fin : AH} {x : Int32}  : ∀ (a0 : Nat) (x1 : Int32) (h : AH), p_X7_writers_14 a0 x1 h = some (x, fin) → GM l D dA z sa Hz q_X7_writers h0 (some (.int x)) fin 14 [(0, .ref a0), (1, .int x1)] [] h := by
  intro a0 x1 h hd
  exact step E (is := I_X7_writers_14) (pc := 14) (K := k0) (FI := FI_X7_writers) (FV := fV0) (FL := fL0) (rt := rtI) (ft := 0) (by exact hd) ok_X7_writers_14 k0_ok (FI_X7_writers_ok E) (fV0_ok E) (fL0_ok E) (rtI_ok rfl)
def I_X7_writers_0 : List AI := [(.aload_n 0, 1, [], 0), (.iload_n 1, 1, [], 0), (.invokevirtual 80, 3, [1, 54, 2, 6, 649], 0), (.ifCond .ne 9, 3, [14], 0), (.aload_n 0, 1, [], 0), (.iconst 1, 1, [], 1), (.invokevirtual 54, 3, [1, 9, 2, 6, 403], 0), (.ireturn, 1, [], 0)]
theorem ok_X7_writers_0 : vBL MT qLen qCh false q_X7_writers.2.2.2.2.1 q_X7_writers.2.2.2.2.2.1 q_X7_writers.2.2.1 q_X7_writers.1.cls q_X7_writers.1.name q_X7_writers.2.1 0 0 I_X7_writers_0 = true := by decide +kernel
def p_X7_writers (a0 : Nat) (x1 : Int32) (h : AH) : Option (Int32 × AH) :=
  if (tg h a0).1 = 6 then ((p_X7_isFrame a0 x1 h).bind fun q103 =>
  if q103.1 = 0 then (if (tg q103.2 a0).1 = 6 then ((p_X7_refuse a0 ((1 : Int32)) q103.2).bind fun q106 =>
  some (q106.1, q106.2)) else none)
  else
  if (tg q103.2 a0).1 = 6 then (if (tg q103.2 (rR q103.2 a0 4)).1 = 1 then (if (tg q103.2 (rR q103.2 (rR q103.2 a0 4) 2)).1 = 2 then ((p_X3_countMaps (rR q103.2 (rR q103.2 a0 4) 2) x1 ((2 : Int32)) q103.2).bind fun q104 =>
  if (tg q104.2 a0).1 = 6 then ((p_X7_answer a0 q104.1 q104.2).bind fun q105 =>
  some (q105.1, q105.2)) else none) else none) else none) else none) else none
set_option maxRecDepth 100000 in
theorem e_X7_writers_0 {l : Launch} {D : va_G} {dA : Nat → ClassId} {z : Nat} {sa : Nat → Nat} {Hz : Heap} (E : StrOK qLen qCh l D dA z sa Hz) {h0 fin : AH} {x : Int32}  : ∀ (a0 : Nat) (x1 : Int32) (h : AH), p_X7_writers a0 x1 h = some (x, fin) → GM l D dA z sa Hz q_X7_writers h0 (some (.int x)) fin 0 [(0, .ref a0), (1, .int x1)] [] h := by
  intro a0 x1 h hd
  exact step E (is := I_X7_writers_0) (pc := 0) (K := (kx 14 (fun la st h => gR la 0 fun a0 => gI la 1 fun x1 => sE st (p_X7_writers_14 a0 x1 h)) k0)) (FI := FI_X7_writers) (FV := fV0) (FL := fL0) (rt := rtI) (ft := 0) (by exact hd) ok_X7_writers_0 (kx_ok (fun la st h e => by obtain ⟨a0, m_a0, e1⟩ := gR_inv e; obtain ⟨x1, m_x1, e2⟩ := gI_inv e1; obtain ⟨rfl, ez⟩ := sE_inv e2; exact gm_fewer (e_X7_writers_14 E  a0 x1 h ez) (mem_cons m_a0 (mem_cons m_x1 mem_nil))) k0_ok) (FI_X7_writers_ok E) (fV0_ok E) (fL0_ok E) (rtI_ok rfl)
theorem c_X7_writers {l : Launch} {D : va_G} {dA : Nat → ClassId} {z : Nat} {sa : Nat → Nat} {Hz : Heap} (E : StrOK qLen qCh l D dA z sa Hz) {a0 : Nat} {x1 : Int32} {h fin : AH} {x : Int32} (hd : p_X7_writers a0 x1 h = some (x, fin)) : CalOK l D dA z sa Hz q_X7_writers [.ref a0, .int x1] h (some (.int x)) fin := calOf (by decide +kernel) (Nat.le_of_ble_eq_true rfl) (e_X7_writers_0 E a0 x1 h hd)
def FI_X3_watches : Nat → List Value → AH → Option (Int32 × AH) := (cx 87 (fun As h => sR As fun a0 As => sI As fun x1 As => sI As fun x2 As => sE As (p_X3_find a0 x1 x2 h)) (cx 103 (fun As h => sR As fun a0 As => sI As fun x1 As => sE As (p_X3_isAstray a0 x1 h)) fI0))
theorem FI_X3_watches_ok {l : Launch} {D : va_G} {dA : Nat → ClassId} {z : Nat} {sa : Nat → Nat} {Hz : Heap} (E : StrOK qLen qCh l D dA z sa Hz) : ∀ mi As h x h', FI_X3_watches mi As h = some (x, h') → CalOK l D dA z sa Hz (MT mi) As h (some (.int x)) h' := (cxI_ok (fun As h x h2 e => by obtain ⟨_, _, rfl, e0⟩ := sR_inv e; obtain ⟨_, _, rfl, e1⟩ := sI_inv e0; obtain ⟨_, _, rfl, e2⟩ := sI_inv e1; obtain ⟨rfl, ez⟩ := sE_inv e2; exact c_X3_find E ez) ((cxI_ok (fun As h x h2 e => by obtain ⟨_, _, rfl, e0⟩ := sR_inv e; obtain ⟨_, _, rfl, e1⟩ := sI_inv e0; obtain ⟨rfl, ez⟩ := sE_inv e1; exact c_X3_isAstray E ez) (fI0_ok E))))
def I_X3_watches_33 : List AI := [(.ireturn, 1, [], 0)]
theorem ok_X3_watches_33 : vBL MT qLen qCh false q_X3_watches.2.2.2.2.1 q_X3_watches.2.2.2.2.2.1 q_X3_watches.2.2.1 q_X3_watches.1.cls q_X3_watches.1.name q_X3_watches.2.1 0 33 I_X3_watches_33 = true := by decide +kernel
def p_X3_watches_33 (y0 : Int32) (h : AH) : Option (Int32 × AH) :=
  if y0 &&& 1 = y0 then some (y0, h) else none
set_option maxRecDepth 100000 in
theorem e_X3_watches_33 {l : Launch} {D : va_G} {dA : Nat → ClassId} {z : Nat} {sa : Nat → Nat} {Hz : Heap} (E : StrOK qLen qCh l D dA z sa Hz) {h0 fin : AH} {x : Int32}  : ∀ (y0 : Int32) (h : AH), p_X3_watches_33 y0 h = some (x, fin) → GM l D dA z sa Hz q_X3_watches h0 (some (.int x)) fin 33 [] [.int y0] h := by
  intro y0 h hd
  exact step E (is := I_X3_watches_33) (pc := 33) (K := k0) (FI := FI_X3_watches) (FV := fV0) (FL := fL0) (rt := rtZ) (ft := 0) (by exact hd) ok_X3_watches_33 k0_ok (FI_X3_watches_ok E) (fV0_ok E) (fL0_ok E) (rtZ_ok rfl)
def I_X3_watches_28 : List AI := [(.iconst 1, 1, [], 1), (.goto 4, 3, [33], 0)]
theorem ok_X3_watches_28 : vBL MT qLen qCh false q_X3_watches.2.2.2.2.1 q_X3_watches.2.2.2.2.2.1 q_X3_watches.2.2.1 q_X3_watches.1.cls q_X3_watches.1.name q_X3_watches.2.1 0 28 I_X3_watches_28 = true := by decide +kernel
def p_X3_watches_28 (h : AH) : Option (Int32 × AH) :=
  p_X3_watches_33 ((1 : Int32)) h
set_option maxRecDepth 100000 in
theorem e_X3_watches_28 {l : Launch} {D : va_G} {dA : Nat → ClassId} {z : Nat} {sa : Nat → Nat} {Hz : Heap} (E : StrOK qLen qCh l D dA z sa Hz) {h0 fin : AH} {x : Int32}  : ∀  (h : AH), p_X3_watches_28 h = some (x, fin) → GM l D dA z sa Hz q_X3_watches h0 (some (.int x)) fin 28 [] [] h := by
  intro h hd
  exact step E (is := I_X3_watches_28) (pc := 28) (K := (kx 33 (fun la st h => sI st fun y0 st => sE st (p_X3_watches_33 y0 h)) k0)) (FI := FI_X3_watches) (FV := fV0) (FL := fL0) (rt := rtZ) (ft := 0) (by exact hd) ok_X3_watches_28 (kx_ok (fun la st h e => by obtain ⟨y0, _, rfl, e1⟩ := sI_inv e; obtain ⟨rfl, ez⟩ := sE_inv e1; exact gm_fewer (e_X3_watches_33 E  y0 h ez) mem_nil) k0_ok) (FI_X3_watches_ok E) (fV0_ok E) (fL0_ok E) (rtZ_ok rfl)
def I_X3_watches_32 : List AI := [(.iconst 0, 1, [], 0)]
theorem ok_X3_watches_32 : vBL MT qLen qCh false q_X3_watches.2.2.2.2.1 q_X3_watches.2.2.2.2.2.1 q_X3_watches.2.2.1 q_X3_watches.1.cls q_X3_watches.1.name q_X3_watches.2.1 33 32 I_X3_watches_32 = true := by decide +kernel
def p_X3_watches_32 (h : AH) : Option (Int32 × AH) :=
  p_X3_watches_33 ((0 : Int32)) h
set_option maxRecDepth 100000 in
theorem e_X3_watches_32 {l : Launch} {D : va_G} {dA : Nat → ClassId} {z : Nat} {sa : Nat → Nat} {Hz : Heap} (E : StrOK qLen qCh l D dA z sa Hz) {h0 fin : AH} {x : Int32}  : ∀  (h : AH), p_X3_watches_32 h = some (x, fin) → GM l D dA z sa Hz q_X3_watches h0 (some (.int x)) fin 32 [] [] h := by
  intro h hd
  exact step E (is := I_X3_watches_32) (pc := 32) (K := (kx 33 (fun la st h => sI st fun y0 st => sE st (p_X3_watches_33 y0 h)) k0)) (FI := FI_X3_watches) (FV := fV0) (FL := fL0) (rt := rtZ) (ft := 33) (by exact hd) ok_X3_watches_32 (kx_ok (fun la st h e => by obtain ⟨y0, _, rfl, e1⟩ := sI_inv e; obtain ⟨rfl, ez⟩ := sE_inv e1; exact gm_fewer (e_X3_watches_33 E  y0 h ez) mem_nil) k0_ok) (FI_X3_watches_ok E) (fV0_ok E) (fL0_ok E) (rtZ_ok rfl)
def I_X3_watches_0 : List AI := [(.aload_n 0, 1, [], 0), (.iconst 1, 1, [], 1), (.iload_n 1, 1, [], 0), (.invokevirtual 56, 3, [1, 87, 3, 2, 795], 0), (.istore_n 2, 1, [], 0), (.aload_n 0, 1, [], 0), (.iconst 0, 1, [], 0), (.iload_n 1, 1, [], 0), (.invokevirtual 56, 3, [1, 87, 3, 2, 795], 0), (.ifCond .ge 15, 3, [28], 0), (.iload_n 2, 1, [], 0), (.ifCond .lt 15, 3, [32], 0), (.aload_n 0, 1, [], 0), (.iload_n 2, 1, [], 0), (.invokevirtual 59, 3, [1, 103, 2, 2, 856], 0), (.ifCond .ne 7, 3, [32], 0)]
theorem ok_X3_watches_0 : vBL MT qLen qCh false q_X3_watches.2.2.2.2.1 q_X3_watches.2.2.2.2.2.1 q_X3_watches.2.2.1 q_X3_watches.1.cls q_X3_watches.1.name q_X3_watches.2.1 28 0 I_X3_watches_0 = true := by decide +kernel
def p_X3_watches (a0 : Nat) (x1 : Int32) (h : AH) : Option (Int32 × AH) :=
  if (tg h a0).1 = 2 then ((p_X3_find a0 ((1 : Int32)) x1 h).bind fun q101 =>
  if (tg q101.2 a0).1 = 2 then ((p_X3_find a0 ((0 : Int32)) x1 q101.2).bind fun q102 =>
  if q102.1 < 0 then (if q101.1 < 0 then (p_X3_watches_32 q102.2)
  else
  if (tg q102.2 a0).1 = 2 then ((p_X3_isAstray a0 q101.1 q102.2).bind fun q103 =>
  if q103.1 = 0 then (p_X3_watches_28 q103.2)
  else
  p_X3_watches_32 q103.2) else none)
  else
  p_X3_watches_28 q102.2) else none) else none
set_option maxRecDepth 100000 in
theorem e_X3_watches_0 {l : Launch} {D : va_G} {dA : Nat → ClassId} {z : Nat} {sa : Nat → Nat} {Hz : Heap} (E : StrOK qLen qCh l D dA z sa Hz) {h0 fin : AH} {x : Int32}  : ∀ (a0 : Nat) (x1 : Int32) (h : AH), p_X3_watches a0 x1 h = some (x, fin) → GM l D dA z sa Hz q_X3_watches h0 (some (.int x)) fin 0 [(0, .ref a0), (1, .int x1)] [] h := by
  intro a0 x1 h hd
  exact step E (is := I_X3_watches_0) (pc := 0) (K := (kx 28 (fun la st h => sE st (p_X3_watches_28 h)) (kx 32 (fun la st h => sE st (p_X3_watches_32 h)) k0))) (FI := FI_X3_watches) (FV := fV0) (FL := fL0) (rt := rtZ) (ft := 28) (by exact hd) ok_X3_watches_0 (kx_ok (fun la st h e => by obtain ⟨rfl, ez⟩ := sE_inv e; exact gm_fewer (e_X3_watches_28 E   h ez) mem_nil) (kx_ok (fun la st h e => by obtain ⟨rfl, ez⟩ := sE_inv e; exact gm_fewer (e_X3_watches_32 E   h ez) mem_nil) k0_ok)) (FI_X3_watches_ok E) (fV0_ok E) (fL0_ok E) (rtZ_ok rfl)
theorem c_X3_watches {l : Launch} {D : va_G} {dA : Nat → ClassId} {z : Nat} {sa : Nat → Nat} {Hz : Heap} (E : StrOK qLen qCh l D dA z sa Hz) {a0 : Nat} {x1 : Int32} {h fin : AH} {x : Int32} (hd : p_X3_watches a0 x1 h = some (x, fin)) : CalOK l D dA z sa Hz q_X3_watches [.ref a0, .int x1] h (some (.int x)) fin := calOf (by decide +kernel) (Nat.le_of_ble_eq_true rfl) (e_X3_watches_0 E a0 x1 h hd)
def FI_X7_watched : Nat → List Value → AH → Option (Int32 × AH) := (cx 54 (fun As h => sR As fun a0 As => sI As fun x1 As => sE As (p_X7_isFrame a0 x1 h)) (cx 9 (fun As h => sR As fun a0 As => sI As fun x1 As => sE As (p_X7_refuse a0 x1 h)) (cx 115 (fun As h => sR As fun a0 As => sI As fun x1 As => sE As (p_X3_watches a0 x1 h)) (cx 62 (fun As h => sI As fun x0 As => sE As (p_X7_bit x0 h)) (cx 50 (fun As h => sR As fun a0 As => sI As fun x1 As => sE As (p_X7_answer a0 x1 h)) fI0)))))
theorem FI_X7_watched_ok {l : Launch} {D : va_G} {dA : Nat → ClassId} {z : Nat} {sa : Nat → Nat} {Hz : Heap} (E : StrOK qLen qCh l D dA z sa Hz) : ∀ mi As h x h', FI_X7_watched mi As h = some (x, h') → CalOK l D dA z sa Hz (MT mi) As h (some (.int x)) h' := (cxI_ok (fun As h x h2 e => by obtain ⟨_, _, rfl, e0⟩ := sR_inv e; obtain ⟨_, _, rfl, e1⟩ := sI_inv e0; obtain ⟨rfl, ez⟩ := sE_inv e1; exact c_X7_isFrame E ez) ((cxI_ok (fun As h x h2 e => by obtain ⟨_, _, rfl, e0⟩ := sR_inv e; obtain ⟨_, _, rfl, e1⟩ := sI_inv e0; obtain ⟨rfl, ez⟩ := sE_inv e1; exact c_X7_refuse E ez) ((cxI_ok (fun As h x h2 e => by obtain ⟨_, _, rfl, e0⟩ := sR_inv e; obtain ⟨_, _, rfl, e1⟩ := sI_inv e0; obtain ⟨rfl, ez⟩ := sE_inv e1; exact c_X3_watches E ez) ((cxI_ok (fun As h x h2 e => by obtain ⟨_, _, rfl, e0⟩ := sI_inv e; obtain ⟨rfl, ez⟩ := sE_inv e0; exact c_X7_bit E ez) ((cxI_ok (fun As h x h2 e => by obtain ⟨_, _, rfl, e0⟩ := sR_inv e; obtain ⟨_, _, rfl, e1⟩ := sI_inv e0; obtain ⟨rfl, ez⟩ := sE_inv e1; exact c_X7_answer E ez) (fI0_ok E))))))))))
def I_X7_watched_14 : List AI := [(.aload_n 0, 1, [], 0), (.aload_n 0, 1, [], 0), (.getfield 29, 3, [6, 4, 2, 358], 0), (.getfield 165, 3, [1, 2, 2, 323], 0), (.iload_n 1, 1, [], 0), (.invokevirtual 179, 3, [1, 115, 2, 2, 902], 0), (.invokestatic 103, 3, [1, 62, 1, 680], 0), (.invokevirtual 68, 3, [1, 50, 2, 6, 633], 0), (.ireturn, 1, [], 0)]
theorem ok_X7_watched_14 : vBL MT qLen qCh false q_X7_watched.2.2.2.2.1 q_X7_watched.2.2.2.2.2.1 q_X7_watched.2.2.1 q_X7_watched.1.cls q_X7_watched.1.name q_X7_watched.2.1 0 14 I_X7_watched_14 = true := by decide +kernel
def p_X7_watched_14 (a0 : Nat) (x1 : Int32) (h : AH) : Option (Int32 × AH) :=
  if (tg h a0).1 = 6 then (if (tg h (rR h a0 4)).1 = 1 then (if (tg h (rR h (rR h a0 4) 2)).1 = 2 then ((p_X3_watches (rR h (rR h a0 4) 2) x1 h).bind fun q101 =>
  (p_X7_bit q101.1 q101.2).bind fun q102 =>
  if (tg q102.2 a0).1 = 6 then ((p_X7_answer a0 q102.1 q102.2).bind fun q103 =>
  some (q103.1, q103.2)) else none) else none) else none) else none
set_option maxRecDepth 100000 in
theorem e_X7_watched_14 {l : Launch} {D : va_G} {dA : Nat → ClassId} {z : Nat} {sa : Nat → Nat} {Hz : Heap} (E : StrOK qLen qCh l D dA z sa Hz) {h0 fin : AH} {x : Int32}  : ∀ (a0 : Nat) (x1 : Int32) (h : AH), p_X7_watched_14 a0 x1 h = some (x, fin) → GM l D dA z sa Hz q_X7_watched h0 (some (.int x)) fin 14 [(0, .ref a0), (1, .int x1)] [] h := by
  intro a0 x1 h hd
  exact step E (is := I_X7_watched_14) (pc := 14) (K := k0) (FI := FI_X7_watched) (FV := fV0) (FL := fL0) (rt := rtI) (ft := 0) (by exact hd) ok_X7_watched_14 k0_ok (FI_X7_watched_ok E) (fV0_ok E) (fL0_ok E) (rtI_ok rfl)
def I_X7_watched_0 : List AI := [(.aload_n 0, 1, [], 0), (.iload_n 1, 1, [], 0), (.invokevirtual 80, 3, [1, 54, 2, 6, 649], 0), (.ifCond .ne 9, 3, [14], 0), (.aload_n 0, 1, [], 0), (.iconst 1, 1, [], 1), (.invokevirtual 54, 3, [1, 9, 2, 6, 403], 0), (.ireturn, 1, [], 0)]
theorem ok_X7_watched_0 : vBL MT qLen qCh false q_X7_watched.2.2.2.2.1 q_X7_watched.2.2.2.2.2.1 q_X7_watched.2.2.1 q_X7_watched.1.cls q_X7_watched.1.name q_X7_watched.2.1 0 0 I_X7_watched_0 = true := by decide +kernel
def p_X7_watched (a0 : Nat) (x1 : Int32) (h : AH) : Option (Int32 × AH) :=
  if (tg h a0).1 = 6 then ((p_X7_isFrame a0 x1 h).bind fun q104 =>
  if q104.1 = 0 then (if (tg q104.2 a0).1 = 6 then ((p_X7_refuse a0 ((1 : Int32)) q104.2).bind fun q108 =>
  some (q108.1, q108.2)) else none)
  else
  if (tg q104.2 a0).1 = 6 then (if (tg q104.2 (rR q104.2 a0 4)).1 = 1 then (if (tg q104.2 (rR q104.2 (rR q104.2 a0 4) 2)).1 = 2 then ((p_X3_watches (rR q104.2 (rR q104.2 a0 4) 2) x1 q104.2).bind fun q105 =>
  (p_X7_bit q105.1 q105.2).bind fun q106 =>
  if (tg q106.2 a0).1 = 6 then ((p_X7_answer a0 q106.1 q106.2).bind fun q107 =>
  some (q107.1, q107.2)) else none) else none) else none) else none) else none
set_option maxRecDepth 100000 in
theorem e_X7_watched_0 {l : Launch} {D : va_G} {dA : Nat → ClassId} {z : Nat} {sa : Nat → Nat} {Hz : Heap} (E : StrOK qLen qCh l D dA z sa Hz) {h0 fin : AH} {x : Int32}  : ∀ (a0 : Nat) (x1 : Int32) (h : AH), p_X7_watched a0 x1 h = some (x, fin) → GM l D dA z sa Hz q_X7_watched h0 (some (.int x)) fin 0 [(0, .ref a0), (1, .int x1)] [] h := by
  intro a0 x1 h hd
  exact step E (is := I_X7_watched_0) (pc := 0) (K := (kx 14 (fun la st h => gR la 0 fun a0 => gI la 1 fun x1 => sE st (p_X7_watched_14 a0 x1 h)) k0)) (FI := FI_X7_watched) (FV := fV0) (FL := fL0) (rt := rtI) (ft := 0) (by exact hd) ok_X7_watched_0 (kx_ok (fun la st h e => by obtain ⟨a0, m_a0, e1⟩ := gR_inv e; obtain ⟨x1, m_x1, e2⟩ := gI_inv e1; obtain ⟨rfl, ez⟩ := sE_inv e2; exact gm_fewer (e_X7_watched_14 E  a0 x1 h ez) (mem_cons m_a0 (mem_cons m_x1 mem_nil))) k0_ok) (FI_X7_watched_ok E) (fV0_ok E) (fL0_ok E) (rtI_ok rfl)
theorem c_X7_watched {l : Launch} {D : va_G} {dA : Nat → ClassId} {z : Nat} {sa : Nat → Nat} {Hz : Heap} (E : StrOK qLen qCh l D dA z sa Hz) {a0 : Nat} {x1 : Int32} {h fin : AH} {x : Int32} (hd : p_X7_watched a0 x1 h = some (x, fin)) : CalOK l D dA z sa Hz q_X7_watched [.ref a0, .int x1] h (some (.int x)) fin := calOf (by decide +kernel) (Nat.le_of_ble_eq_true rfl) (e_X7_watched_0 E a0 x1 h hd)
def FI_X7_outOfStep : Nat → List Value → AH → Option (Int32 × AH) := (cx 50 (fun As h => sR As fun a0 As => sI As fun x1 As => sE As (p_X7_answer a0 x1 h)) (cx 9 (fun As h => sR As fun a0 As => sI As fun x1 As => sE As (p_X7_refuse a0 x1 h)) fI0))
theorem FI_X7_outOfStep_ok {l : Launch} {D : va_G} {dA : Nat → ClassId} {z : Nat} {sa : Nat → Nat} {Hz : Heap} (E : StrOK qLen qCh l D dA z sa Hz) : ∀ mi As h x h', FI_X7_outOfStep mi As h = some (x, h') → CalOK l D dA z sa Hz (MT mi) As h (some (.int x)) h' := (cxI_ok (fun As h x h2 e => by obtain ⟨_, _, rfl, e0⟩ := sR_inv e; obtain ⟨_, _, rfl, e1⟩ := sI_inv e0; obtain ⟨rfl, ez⟩ := sE_inv e1; exact c_X7_answer E ez) ((cxI_ok (fun As h x h2 e => by obtain ⟨_, _, rfl, e0⟩ := sR_inv e; obtain ⟨_, _, rfl, e1⟩ := sI_inv e0; obtain ⟨rfl, ez⟩ := sE_inv e1; exact c_X7_refuse E ez) (fI0_ok E))))
def I_X7_outOfStep_29 : List AI := [(.ireturn, 1, [], 0)]
theorem ok_X7_outOfStep_29 : vBL MT qLen qCh false q_X7_outOfStep.2.2.2.2.1 q_X7_outOfStep.2.2.2.2.2.1 q_X7_outOfStep.2.2.1 q_X7_outOfStep.1.cls q_X7_outOfStep.1.name q_X7_outOfStep.2.1 0 29 I_X7_outOfStep_29 = true := by decide +kernel
def p_X7_outOfStep_29 (y0 : Int32) (h : AH) : Option (Int32 × AH) :=
  some (y0, h)
set_option maxRecDepth 100000 in
theorem e_X7_outOfStep_29 {l : Launch} {D : va_G} {dA : Nat → ClassId} {z : Nat} {sa : Nat → Nat} {Hz : Heap} (E : StrOK qLen qCh l D dA z sa Hz) {h0 fin : AH} {x : Int32}  : ∀ (y0 : Int32) (h : AH), p_X7_outOfStep_29 y0 h = some (x, fin) → GM l D dA z sa Hz q_X7_outOfStep h0 (some (.int x)) fin 29 [] [.int y0] h := by
  intro y0 h hd
  exact step E (is := I_X7_outOfStep_29) (pc := 29) (K := k0) (FI := FI_X7_outOfStep) (FV := fV0) (FL := fL0) (rt := rtI) (ft := 0) (by exact hd) ok_X7_outOfStep_29 k0_ok (FI_X7_outOfStep_ok E) (fV0_ok E) (fL0_ok E) (rtI_ok rfl)
def I_X7_outOfStep_24 : List AI := [(.aload_n 0, 1, [], 0), (.iconst 1, 1, [], 1), (.invokevirtual 54, 3, [1, 9, 2, 6, 403], 0)]
theorem ok_X7_outOfStep_24 : vBL MT qLen qCh false q_X7_outOfStep.2.2.2.2.1 q_X7_outOfStep.2.2.2.2.2.1 q_X7_outOfStep.2.2.1 q_X7_outOfStep.1.cls q_X7_outOfStep.1.name q_X7_outOfStep.2.1 29 24 I_X7_outOfStep_24 = true := by decide +kernel
def p_X7_outOfStep_24 (a0 : Nat) (h : AH) : Option (Int32 × AH) :=
  if (tg h a0).1 = 6 then ((p_X7_refuse a0 ((1 : Int32)) h).bind fun q101 =>
  p_X7_outOfStep_29 q101.1 q101.2) else none
set_option maxRecDepth 100000 in
theorem e_X7_outOfStep_24 {l : Launch} {D : va_G} {dA : Nat → ClassId} {z : Nat} {sa : Nat → Nat} {Hz : Heap} (E : StrOK qLen qCh l D dA z sa Hz) {h0 fin : AH} {x : Int32}  : ∀ (a0 : Nat) (h : AH), p_X7_outOfStep_24 a0 h = some (x, fin) → GM l D dA z sa Hz q_X7_outOfStep h0 (some (.int x)) fin 24 [(0, .ref a0)] [] h := by
  intro a0 h hd
  exact step E (is := I_X7_outOfStep_24) (pc := 24) (K := (kx 29 (fun la st h => sI st fun y0 st => sE st (p_X7_outOfStep_29 y0 h)) k0)) (FI := FI_X7_outOfStep) (FV := fV0) (FL := fL0) (rt := rtI) (ft := 29) (by exact hd) ok_X7_outOfStep_24 (kx_ok (fun la st h e => by obtain ⟨y0, _, rfl, e1⟩ := sI_inv e; obtain ⟨rfl, ez⟩ := sE_inv e1; exact gm_fewer (e_X7_outOfStep_29 E  y0 h ez) mem_nil) k0_ok) (FI_X7_outOfStep_ok E) (fV0_ok E) (fL0_ok E) (rtI_ok rfl)
def I_X7_outOfStep_0 : List AI := [(.aload_n 0, 1, [], 0), (.getfield 107, 3, [6, 3, 3, 357], 0), (.ifCond .eq 20, 3, [24], 0), (.aload_n 0, 1, [], 0), (.aload_n 0, 1, [], 0), (.getfield 29, 3, [6, 4, 2, 358], 0), (.getfield 165, 3, [1, 2, 2, 323], 0), (.getfield 182, 3, [2, 4, 0, 291], 0), (.invokevirtual 68, 3, [1, 50, 2, 6, 633], 0), (.goto 8, 3, [29], 0)]
theorem ok_X7_outOfStep_0 : vBL MT qLen qCh false q_X7_outOfStep.2.2.2.2.1 q_X7_outOfStep.2.2.2.2.2.1 q_X7_outOfStep.2.2.1 q_X7_outOfStep.1.cls q_X7_outOfStep.1.name q_X7_outOfStep.2.1 0 0 I_X7_outOfStep_0 = true := by decide +kernel
def p_X7_outOfStep (a0 : Nat) (h : AH) : Option (Int32 × AH) :=
  if (tg h a0).1 = 6 then (if (rI h a0 3) = 0 then (if (tg h a0).1 = 6 then ((p_X7_refuse a0 ((1 : Int32)) h).bind fun q102 =>
  p_X7_outOfStep_29 q102.1 q102.2) else none)
  else
  if (tg h a0).1 = 6 then (if (tg h (rR h a0 4)).1 = 1 then (if (tg h (rR h (rR h a0 4) 2)).1 = 2 then (if (tg h a0).1 = 6 then ((p_X7_answer a0 (rI h (rR h (rR h a0 4) 2) 4) h).bind fun q103 =>
  p_X7_outOfStep_29 q103.1 q103.2) else none) else none) else none) else none) else none
set_option maxRecDepth 100000 in
theorem e_X7_outOfStep_0 {l : Launch} {D : va_G} {dA : Nat → ClassId} {z : Nat} {sa : Nat → Nat} {Hz : Heap} (E : StrOK qLen qCh l D dA z sa Hz) {h0 fin : AH} {x : Int32}  : ∀ (a0 : Nat) (h : AH), p_X7_outOfStep a0 h = some (x, fin) → GM l D dA z sa Hz q_X7_outOfStep h0 (some (.int x)) fin 0 [(0, .ref a0)] [] h := by
  intro a0 h hd
  exact step E (is := I_X7_outOfStep_0) (pc := 0) (K := (kx 24 (fun la st h => gR la 0 fun a0 => sE st (p_X7_outOfStep_24 a0 h)) (kx 29 (fun la st h => sI st fun y0 st => sE st (p_X7_outOfStep_29 y0 h)) k0))) (FI := FI_X7_outOfStep) (FV := fV0) (FL := fL0) (rt := rtI) (ft := 0) (by exact hd) ok_X7_outOfStep_0 (kx_ok (fun la st h e => by obtain ⟨a0, m_a0, e1⟩ := gR_inv e; obtain ⟨rfl, ez⟩ := sE_inv e1; exact gm_fewer (e_X7_outOfStep_24 E  a0 h ez) (mem_cons m_a0 mem_nil)) (kx_ok (fun la st h e => by obtain ⟨y0, _, rfl, e1⟩ := sI_inv e; obtain ⟨rfl, ez⟩ := sE_inv e1; exact gm_fewer (e_X7_outOfStep_29 E  y0 h ez) mem_nil) k0_ok)) (FI_X7_outOfStep_ok E) (fV0_ok E) (fL0_ok E) (rtI_ok rfl)
theorem c_X7_outOfStep {l : Launch} {D : va_G} {dA : Nat → ClassId} {z : Nat} {sa : Nat → Nat} {Hz : Heap} (E : StrOK qLen qCh l D dA z sa Hz) {a0 : Nat} {h fin : AH} {x : Int32} (hd : p_X7_outOfStep a0 h = some (x, fin)) : CalOK l D dA z sa Hz q_X7_outOfStep [.ref a0] h (some (.int x)) fin := calOf (by decide +kernel) (Nat.le_of_ble_eq_true rfl) (e_X7_outOfStep_0 E a0 h hd)
def I_X3_freeAt_44 : List AI := [(.bipush (-2), 2, [], (-2)), (.ireturn, 1, [], 0)]
theorem ok_X3_freeAt_44 : vBL MT qLen qCh false q_X3_freeAt.2.2.2.2.1 q_X3_freeAt.2.2.2.2.2.1 q_X3_freeAt.2.2.1 q_X3_freeAt.1.cls q_X3_freeAt.1.name q_X3_freeAt.2.1 0 44 I_X3_freeAt_44 = true := by decide +kernel
def p_X3_freeAt_44 (h : AH) : Option (Int32 × AH) :=
  some (((-2 : Int32)), h)
set_option maxRecDepth 100000 in
theorem e_X3_freeAt_44 {l : Launch} {D : va_G} {dA : Nat → ClassId} {z : Nat} {sa : Nat → Nat} {Hz : Heap} (E : StrOK qLen qCh l D dA z sa Hz) {h0 fin : AH} {x : Int32}  : ∀  (h : AH), p_X3_freeAt_44 h = some (x, fin) → GM l D dA z sa Hz q_X3_freeAt h0 (some (.int x)) fin 44 [] [] h := by
  intro h hd
  exact step E (is := I_X3_freeAt_44) (pc := 44) (K := k0) (FI := fI0) (FV := fV0) (FL := fL0) (rt := rtI) (ft := 0) (by exact hd) ok_X3_freeAt_44 k0_ok (fI0_ok E) (fV0_ok E) (fL0_ok E) (rtI_ok rfl)
def I_X3_freeAt_38 : List AI := [(.iinc 3 1, 3, [], 1), (.goto (-37), 3, [4], 0)]
theorem ok_X3_freeAt_38 : vBL MT qLen qCh false q_X3_freeAt.2.2.2.2.1 q_X3_freeAt.2.2.2.2.2.1 q_X3_freeAt.2.2.1 q_X3_freeAt.1.cls q_X3_freeAt.1.name q_X3_freeAt.2.1 0 38 I_X3_freeAt_38 = true := by decide +kernel
def p_X3_freeAt_38 (k4 : Nat → Int32 → Int32 → AH → Option (Int32 × AH)) (a0 : Nat) (x2 : Int32) (x3 : Int32) (h : AH) : Option (Int32 × AH) :=
  k4 a0 x2 (x3 + (1 : Int32)) h
set_option maxRecDepth 100000 in
theorem e_X3_freeAt_38 {l : Launch} {D : va_G} {dA : Nat → ClassId} {z : Nat} {sa : Nat → Nat} {Hz : Heap} (E : StrOK qLen qCh l D dA z sa Hz) {h0 fin : AH} {x : Int32}  {k4 : Nat → Int32 → Int32 → AH → Option (Int32 × AH)} (hk4 : ∀ (a0 : Nat) (x2 : Int32) (x3 : Int32) (h : AH), k4 a0 x2 x3 h = some (x, fin) → GM l D dA z sa Hz q_X3_freeAt h0 (some (.int x)) fin 4 [(0, .ref a0), (2, .int x2), (3, .int x3)] [] h) : ∀ (a0 : Nat) (x2 : Int32) (x3 : Int32) (h : AH), p_X3_freeAt_38 k4 a0 x2 x3 h = some (x, fin) → GM l D dA z sa Hz q_X3_freeAt h0 (some (.int x)) fin 38 [(0, .ref a0), (2, .int x2), (3, .int x3)] [] h := by
  intro a0 x2 x3 h hd
  exact step E (is := I_X3_freeAt_38) (pc := 38) (K := (kx 4 (fun la st h => gR la 0 fun a0 => gI la 2 fun x2 => gI la 3 fun x3 => sE st (k4 a0 x2 x3 h)) k0)) (FI := fI0) (FV := fV0) (FL := fL0) (rt := rtI) (ft := 0) (by exact hd) ok_X3_freeAt_38 (kx_ok (fun la st h e => by obtain ⟨a0, m_a0, e1⟩ := gR_inv e; obtain ⟨x2, m_x2, e2⟩ := gI_inv e1; obtain ⟨x3, m_x3, e3⟩ := gI_inv e2; obtain ⟨rfl, ez⟩ := sE_inv e3; exact gm_fewer (hk4 a0 x2 x3 h ez) (mem_cons m_a0 (mem_cons m_x2 (mem_cons m_x3 mem_nil)))) k0_ok) (fI0_ok E) (fV0_ok E) (fL0_ok E) (rtI_ok rfl)
def I_X3_freeAt_35 : List AI := [(.iinc 2 (-1), 3, [], (-1))]
theorem ok_X3_freeAt_35 : vBL MT qLen qCh false q_X3_freeAt.2.2.2.2.1 q_X3_freeAt.2.2.2.2.2.1 q_X3_freeAt.2.2.1 q_X3_freeAt.1.cls q_X3_freeAt.1.name q_X3_freeAt.2.1 38 35 I_X3_freeAt_35 = true := by decide +kernel
def p_X3_freeAt_35 (k4 : Nat → Int32 → Int32 → AH → Option (Int32 × AH)) (a0 : Nat) (x2 : Int32) (x3 : Int32) (h : AH) : Option (Int32 × AH) :=
  p_X3_freeAt_38 k4 a0 (x2 + (-1 : Int32)) x3 h
set_option maxRecDepth 100000 in
theorem e_X3_freeAt_35 {l : Launch} {D : va_G} {dA : Nat → ClassId} {z : Nat} {sa : Nat → Nat} {Hz : Heap} (E : StrOK qLen qCh l D dA z sa Hz) {h0 fin : AH} {x : Int32}  {k4 : Nat → Int32 → Int32 → AH → Option (Int32 × AH)} (hk4 : ∀ (a0 : Nat) (x2 : Int32) (x3 : Int32) (h : AH), k4 a0 x2 x3 h = some (x, fin) → GM l D dA z sa Hz q_X3_freeAt h0 (some (.int x)) fin 4 [(0, .ref a0), (2, .int x2), (3, .int x3)] [] h) : ∀ (a0 : Nat) (x2 : Int32) (x3 : Int32) (h : AH), p_X3_freeAt_35 k4 a0 x2 x3 h = some (x, fin) → GM l D dA z sa Hz q_X3_freeAt h0 (some (.int x)) fin 35 [(0, .ref a0), (2, .int x2), (3, .int x3)] [] h := by
  intro a0 x2 x3 h hd
  exact step E (is := I_X3_freeAt_35) (pc := 35) (K := (kx 38 (fun la st h => gR la 0 fun a0 => gI la 2 fun x2 => gI la 3 fun x3 => sE st (p_X3_freeAt_38 k4 a0 x2 x3 h)) k0)) (FI := fI0) (FV := fV0) (FL := fL0) (rt := rtI) (ft := 38) (by exact hd) ok_X3_freeAt_35 (kx_ok (fun la st h e => by obtain ⟨a0, m_a0, e1⟩ := gR_inv e; obtain ⟨x2, m_x2, e2⟩ := gI_inv e1; obtain ⟨x3, m_x3, e3⟩ := gI_inv e2; obtain ⟨rfl, ez⟩ := sE_inv e3; exact gm_fewer (e_X3_freeAt_38 E hk4 a0 x2 x3 h ez) (mem_cons m_a0 (mem_cons m_x2 (mem_cons m_x3 mem_nil)))) k0_ok) (fI0_ok E) (fV0_ok E) (fL0_ok E) (rtI_ok rfl)
def I_X3_freeAt_4 : List AI := [(.iload_n 3, 1, [], 0), (.aload_n 0, 1, [], 0), (.getfield 24, 3, [2, 5, 0, 292], 0), (.if_icmp .ge 35, 3, [44], 0), (.iload_n 3, 1, [], 0), (.bipush 8, 2, [], 8), (.if_icmp .ge 29, 3, [44], 0), (.aload_n 0, 1, [], 0), (.getfield 9, 3, [2, 0, 2, 285], 0), (.iload_n 3, 1, [], 0), (.iaload, 1, [], 0), (.bipush (-2), 2, [], (-2)), (.if_icmp .ne 12, 3, [38], 0), (.iload_n 2, 1, [], 0), (.ifCond .ne 5, 3, [35], 0), (.iload_n 3, 1, [], 0), (.ireturn, 1, [], 0)]
theorem ok_X3_freeAt_4 : vBL MT qLen qCh false q_X3_freeAt.2.2.2.2.1 q_X3_freeAt.2.2.2.2.2.1 q_X3_freeAt.2.2.1 q_X3_freeAt.1.cls q_X3_freeAt.1.name q_X3_freeAt.2.1 0 4 I_X3_freeAt_4 = true := by decide +kernel
def p_X3_freeAt_4 : Nat → Nat → Int32 → Int32 → AH → Option (Int32 × AH)
  | 0, _, _, _, _ => none
  | n + 1, a0, x2, x3, h => if (tg h a0).1 = 2 then (if x3 < (rI h a0 5) then (if x3 < ((8 : Int32)) then (if (tg h a0).1 = 2 then (if inB h (rR h a0 0) 100 x3 then (if (rI h (rR h a0 0) x3.toNatClampNeg) = ((-2 : Int32)) then (if x2 = 0 then (some (x3, h))
    else
    p_X3_freeAt_38 (p_X3_freeAt_4 n) a0 (x2 + (-1 : Int32)) x3 h)
    else
    p_X3_freeAt_38 (p_X3_freeAt_4 n) a0 x2 x3 h) else none) else none)
    else
    p_X3_freeAt_44 h)
    else
    p_X3_freeAt_44 h) else none
set_option maxRecDepth 100000 in
theorem e_X3_freeAt_4 {l : Launch} {D : va_G} {dA : Nat → ClassId} {z : Nat} {sa : Nat → Nat} {Hz : Heap} (E : StrOK qLen qCh l D dA z sa Hz) {h0 fin : AH} {x : Int32}  : ∀ (n : Nat) (a0 : Nat) (x2 : Int32) (x3 : Int32) (h : AH), p_X3_freeAt_4 n a0 x2 x3 h = some (x, fin) → GM l D dA z sa Hz q_X3_freeAt h0 (some (.int x)) fin 4 [(0, .ref a0), (2, .int x2), (3, .int x3)] [] h := by
  intro n
  induction n with
  | zero => intro a0 x2 x3 h hd; exact nomatch hd
  | succ n ih =>
    intro a0 x2 x3 h hd
    exact step E (is := I_X3_freeAt_4) (pc := 4) (K := (kx 44 (fun la st h => sE st (p_X3_freeAt_44 h)) (kx 38 (fun la st h => gR la 0 fun a0 => gI la 2 fun x2 => gI la 3 fun x3 => sE st (p_X3_freeAt_38 (p_X3_freeAt_4 n) a0 x2 x3 h)) (kx 35 (fun la st h => gR la 0 fun a0 => gI la 2 fun x2 => gI la 3 fun x3 => sE st (p_X3_freeAt_35 (p_X3_freeAt_4 n) a0 x2 x3 h)) k0)))) (FI := fI0) (FV := fV0) (FL := fL0) (rt := rtI) (ft := 0) (by exact hd) ok_X3_freeAt_4 (kx_ok (fun la st h e => by obtain ⟨rfl, ez⟩ := sE_inv e; exact gm_fewer (e_X3_freeAt_44 E   h ez) mem_nil) (kx_ok (fun la st h e => by obtain ⟨a0, m_a0, e1⟩ := gR_inv e; obtain ⟨x2, m_x2, e2⟩ := gI_inv e1; obtain ⟨x3, m_x3, e3⟩ := gI_inv e2; obtain ⟨rfl, ez⟩ := sE_inv e3; exact gm_fewer (e_X3_freeAt_38 E ih a0 x2 x3 h ez) (mem_cons m_a0 (mem_cons m_x2 (mem_cons m_x3 mem_nil)))) (kx_ok (fun la st h e => by obtain ⟨a0, m_a0, e1⟩ := gR_inv e; obtain ⟨x2, m_x2, e2⟩ := gI_inv e1; obtain ⟨x3, m_x3, e3⟩ := gI_inv e2; obtain ⟨rfl, ez⟩ := sE_inv e3; exact gm_fewer (e_X3_freeAt_35 E ih a0 x2 x3 h ez) (mem_cons m_a0 (mem_cons m_x2 (mem_cons m_x3 mem_nil)))) k0_ok))) (fI0_ok E) (fV0_ok E) (fL0_ok E) (rtI_ok rfl)
def I_X3_freeAt_0 : List AI := [(.iload_n 1, 1, [], 0), (.istore_n 2, 1, [], 0), (.iconst 0, 1, [], 0), (.istore_n 3, 1, [], 0)]
theorem ok_X3_freeAt_0 : vBL MT qLen qCh false q_X3_freeAt.2.2.2.2.1 q_X3_freeAt.2.2.2.2.2.1 q_X3_freeAt.2.2.1 q_X3_freeAt.1.cls q_X3_freeAt.1.name q_X3_freeAt.2.1 4 0 I_X3_freeAt_0 = true := by decide +kernel
def p_X3_freeAt (a0 : Nat) (x1 : Int32) (h : AH) : Option (Int32 × AH) :=
  p_X3_freeAt_4 FU a0 x1 ((0 : Int32)) h
set_option maxRecDepth 100000 in
theorem e_X3_freeAt_0 {l : Launch} {D : va_G} {dA : Nat → ClassId} {z : Nat} {sa : Nat → Nat} {Hz : Heap} (E : StrOK qLen qCh l D dA z sa Hz) {h0 fin : AH} {x : Int32}  : ∀ (a0 : Nat) (x1 : Int32) (h : AH), p_X3_freeAt a0 x1 h = some (x, fin) → GM l D dA z sa Hz q_X3_freeAt h0 (some (.int x)) fin 0 [(0, .ref a0), (1, .int x1)] [] h := by
  intro a0 x1 h hd
  exact step E (is := I_X3_freeAt_0) (pc := 0) (K := (kx 4 (fun la st h => gR la 0 fun a0 => gI la 2 fun x2 => gI la 3 fun x3 => sE st (p_X3_freeAt_4 FU a0 x2 x3 h)) k0)) (FI := fI0) (FV := fV0) (FL := fL0) (rt := rtI) (ft := 4) (by exact hd) ok_X3_freeAt_0 (kx_ok (fun la st h e => by obtain ⟨a0, m_a0, e1⟩ := gR_inv e; obtain ⟨x2, m_x2, e2⟩ := gI_inv e1; obtain ⟨x3, m_x3, e3⟩ := gI_inv e2; obtain ⟨rfl, ez⟩ := sE_inv e3; exact gm_fewer (e_X3_freeAt_4 E  FU a0 x2 x3 h ez) (mem_cons m_a0 (mem_cons m_x2 (mem_cons m_x3 mem_nil)))) k0_ok) (fI0_ok E) (fV0_ok E) (fL0_ok E) (rtI_ok rfl)
theorem c_X3_freeAt {l : Launch} {D : va_G} {dA : Nat → ClassId} {z : Nat} {sa : Nat → Nat} {Hz : Heap} (E : StrOK qLen qCh l D dA z sa Hz) {a0 : Nat} {x1 : Int32} {h fin : AH} {x : Int32} (hd : p_X3_freeAt a0 x1 h = some (x, fin)) : CalOK l D dA z sa Hz q_X3_freeAt [.ref a0, .int x1] h (some (.int x)) fin := calOf (by decide +kernel) (Nat.le_of_ble_eq_true rfl) (e_X3_freeAt_0 E a0 x1 h hd)
def I_X3_oldestBeside_80 : List AI := [(.iload_n 2, 1, [], 0), (.ireturn, 1, [], 0)]
theorem ok_X3_oldestBeside_80 : vBL MT qLen qCh false q_X3_oldestBeside.2.2.2.2.1 q_X3_oldestBeside.2.2.2.2.2.1 q_X3_oldestBeside.2.2.1 q_X3_oldestBeside.1.cls q_X3_oldestBeside.1.name q_X3_oldestBeside.2.1 0 80 I_X3_oldestBeside_80 = true := by decide +kernel
def p_X3_oldestBeside_80 (x2 : Int32) (h : AH) : Option (Int32 × AH) :=
  some (x2, h)
set_option maxRecDepth 100000 in
theorem e_X3_oldestBeside_80 {l : Launch} {D : va_G} {dA : Nat → ClassId} {z : Nat} {sa : Nat → Nat} {Hz : Heap} (E : StrOK qLen qCh l D dA z sa Hz) {h0 fin : AH} {x : Int32}  : ∀ (x2 : Int32) (h : AH), p_X3_oldestBeside_80 x2 h = some (x, fin) → GM l D dA z sa Hz q_X3_oldestBeside h0 (some (.int x)) fin 80 [(2, .int x2)] [] h := by
  intro x2 h hd
  exact step E (is := I_X3_oldestBeside_80) (pc := 80) (K := k0) (FI := fI0) (FV := fV0) (FL := fL0) (rt := rtI) (ft := 0) (by exact hd) ok_X3_oldestBeside_80 k0_ok (fI0_ok E) (fV0_ok E) (fL0_ok E) (rtI_ok rfl)
def I_X3_oldestBeside_74 : List AI := [(.iinc 3 1, 3, [], 1), (.goto (-72), 3, [5], 0)]
theorem ok_X3_oldestBeside_74 : vBL MT qLen qCh false q_X3_oldestBeside.2.2.2.2.1 q_X3_oldestBeside.2.2.2.2.2.1 q_X3_oldestBeside.2.2.1 q_X3_oldestBeside.1.cls q_X3_oldestBeside.1.name q_X3_oldestBeside.2.1 0 74 I_X3_oldestBeside_74 = true := by decide +kernel
def p_X3_oldestBeside_74 (k5 : Nat → Int32 → Int32 → Int32 → AH → Option (Int32 × AH)) (a0 : Nat) (x1 : Int32) (x2 : Int32) (x3 : Int32) (h : AH) : Option (Int32 × AH) :=
  k5 a0 x1 x2 (x3 + (1 : Int32)) h
set_option maxRecDepth 100000 in
theorem e_X3_oldestBeside_74 {l : Launch} {D : va_G} {dA : Nat → ClassId} {z : Nat} {sa : Nat → Nat} {Hz : Heap} (E : StrOK qLen qCh l D dA z sa Hz) {h0 fin : AH} {x : Int32}  {k5 : Nat → Int32 → Int32 → Int32 → AH → Option (Int32 × AH)} (hk5 : ∀ (a0 : Nat) (x1 : Int32) (x2 : Int32) (x3 : Int32) (h : AH), k5 a0 x1 x2 x3 h = some (x, fin) → GM l D dA z sa Hz q_X3_oldestBeside h0 (some (.int x)) fin 5 [(0, .ref a0), (1, .int x1), (2, .int x2), (3, .int x3)] [] h) : ∀ (a0 : Nat) (x1 : Int32) (x2 : Int32) (x3 : Int32) (h : AH), p_X3_oldestBeside_74 k5 a0 x1 x2 x3 h = some (x, fin) → GM l D dA z sa Hz q_X3_oldestBeside h0 (some (.int x)) fin 74 [(0, .ref a0), (1, .int x1), (2, .int x2), (3, .int x3)] [] h := by
  intro a0 x1 x2 x3 h hd
  exact step E (is := I_X3_oldestBeside_74) (pc := 74) (K := (kx 5 (fun la st h => gR la 0 fun a0 => gI la 1 fun x1 => gI la 2 fun x2 => gI la 3 fun x3 => sE st (k5 a0 x1 x2 x3 h)) k0)) (FI := fI0) (FV := fV0) (FL := fL0) (rt := rtI) (ft := 0) (by exact hd) ok_X3_oldestBeside_74 (kx_ok (fun la st h e => by obtain ⟨a0, m_a0, e1⟩ := gR_inv e; obtain ⟨x1, m_x1, e2⟩ := gI_inv e1; obtain ⟨x2, m_x2, e3⟩ := gI_inv e2; obtain ⟨x3, m_x3, e4⟩ := gI_inv e3; obtain ⟨rfl, ez⟩ := sE_inv e4; exact gm_fewer (hk5 a0 x1 x2 x3 h ez) (mem_cons m_a0 (mem_cons m_x1 (mem_cons m_x2 (mem_cons m_x3 mem_nil))))) k0_ok) (fI0_ok E) (fV0_ok E) (fL0_ok E) (rtI_ok rfl)
def I_X3_oldestBeside_72 : List AI := [(.iload_n 3, 1, [], 0), (.istore_n 2, 1, [], 0)]
theorem ok_X3_oldestBeside_72 : vBL MT qLen qCh false q_X3_oldestBeside.2.2.2.2.1 q_X3_oldestBeside.2.2.2.2.2.1 q_X3_oldestBeside.2.2.1 q_X3_oldestBeside.1.cls q_X3_oldestBeside.1.name q_X3_oldestBeside.2.1 74 72 I_X3_oldestBeside_72 = true := by decide +kernel
def p_X3_oldestBeside_72 (k5 : Nat → Int32 → Int32 → Int32 → AH → Option (Int32 × AH)) (a0 : Nat) (x1 : Int32) (x3 : Int32) (h : AH) : Option (Int32 × AH) :=
  p_X3_oldestBeside_74 k5 a0 x1 x3 x3 h
set_option maxRecDepth 100000 in
theorem e_X3_oldestBeside_72 {l : Launch} {D : va_G} {dA : Nat → ClassId} {z : Nat} {sa : Nat → Nat} {Hz : Heap} (E : StrOK qLen qCh l D dA z sa Hz) {h0 fin : AH} {x : Int32}  {k5 : Nat → Int32 → Int32 → Int32 → AH → Option (Int32 × AH)} (hk5 : ∀ (a0 : Nat) (x1 : Int32) (x2 : Int32) (x3 : Int32) (h : AH), k5 a0 x1 x2 x3 h = some (x, fin) → GM l D dA z sa Hz q_X3_oldestBeside h0 (some (.int x)) fin 5 [(0, .ref a0), (1, .int x1), (2, .int x2), (3, .int x3)] [] h) : ∀ (a0 : Nat) (x1 : Int32) (x3 : Int32) (h : AH), p_X3_oldestBeside_72 k5 a0 x1 x3 h = some (x, fin) → GM l D dA z sa Hz q_X3_oldestBeside h0 (some (.int x)) fin 72 [(0, .ref a0), (1, .int x1), (3, .int x3)] [] h := by
  intro a0 x1 x3 h hd
  exact step E (is := I_X3_oldestBeside_72) (pc := 72) (K := (kx 74 (fun la st h => gR la 0 fun a0 => gI la 1 fun x1 => gI la 2 fun x2 => gI la 3 fun x3 => sE st (p_X3_oldestBeside_74 k5 a0 x1 x2 x3 h)) k0)) (FI := fI0) (FV := fV0) (FL := fL0) (rt := rtI) (ft := 74) (by exact hd) ok_X3_oldestBeside_72 (kx_ok (fun la st h e => by obtain ⟨a0, m_a0, e1⟩ := gR_inv e; obtain ⟨x1, m_x1, e2⟩ := gI_inv e1; obtain ⟨x2, m_x2, e3⟩ := gI_inv e2; obtain ⟨x3, m_x3, e4⟩ := gI_inv e3; obtain ⟨rfl, ez⟩ := sE_inv e4; exact gm_fewer (e_X3_oldestBeside_74 E hk5 a0 x1 x2 x3 h ez) (mem_cons m_a0 (mem_cons m_x1 (mem_cons m_x2 (mem_cons m_x3 mem_nil))))) k0_ok) (fI0_ok E) (fV0_ok E) (fL0_ok E) (rtI_ok rfl)
def I_X3_oldestBeside_46 : List AI := [(.istore 4, 2, [], 0), (.iload 4, 2, [], 0), (.ifCond .ne 24, 3, [74], 0), (.iload_n 2, 1, [], 0), (.ifCond .lt 18, 3, [72], 0), (.aload_n 0, 1, [], 0), (.getfield 18, 3, [2, 2, 2, 287], 0), (.iload_n 3, 1, [], 0), (.iaload, 1, [], 0), (.aload_n 0, 1, [], 0), (.getfield 18, 3, [2, 2, 2, 287], 0), (.iload_n 2, 1, [], 0), (.iaload, 1, [], 0), (.if_icmp .ge 5, 3, [74], 0)]
theorem ok_X3_oldestBeside_46 : vBL MT qLen qCh false q_X3_oldestBeside.2.2.2.2.1 q_X3_oldestBeside.2.2.2.2.2.1 q_X3_oldestBeside.2.2.1 q_X3_oldestBeside.1.cls q_X3_oldestBeside.1.name q_X3_oldestBeside.2.1 72 46 I_X3_oldestBeside_46 = true := by decide +kernel
def p_X3_oldestBeside_46 (k5 : Nat → Int32 → Int32 → Int32 → AH → Option (Int32 × AH)) (a0 : Nat) (x1 : Int32) (x2 : Int32) (x3 : Int32) (y0 : Int32) (h : AH) : Option (Int32 × AH) :=
  if y0 = 0 then (if x2 < 0 then (p_X3_oldestBeside_72 k5 a0 x1 x3 h)
  else
  if (tg h a0).1 = 2 then (if inB h (rR h a0 2) 100 x3 then (if (tg h a0).1 = 2 then (if inB h (rR h a0 2) 100 x2 then (if (rI h (rR h a0 2) x3.toNatClampNeg) < (rI h (rR h a0 2) x2.toNatClampNeg) then (p_X3_oldestBeside_72 k5 a0 x1 x3 h)
  else
  p_X3_oldestBeside_74 k5 a0 x1 x2 x3 h) else none) else none) else none) else none)
  else
  p_X3_oldestBeside_74 k5 a0 x1 x2 x3 h
set_option maxRecDepth 100000 in
theorem e_X3_oldestBeside_46 {l : Launch} {D : va_G} {dA : Nat → ClassId} {z : Nat} {sa : Nat → Nat} {Hz : Heap} (E : StrOK qLen qCh l D dA z sa Hz) {h0 fin : AH} {x : Int32}  {k5 : Nat → Int32 → Int32 → Int32 → AH → Option (Int32 × AH)} (hk5 : ∀ (a0 : Nat) (x1 : Int32) (x2 : Int32) (x3 : Int32) (h : AH), k5 a0 x1 x2 x3 h = some (x, fin) → GM l D dA z sa Hz q_X3_oldestBeside h0 (some (.int x)) fin 5 [(0, .ref a0), (1, .int x1), (2, .int x2), (3, .int x3)] [] h) : ∀ (a0 : Nat) (x1 : Int32) (x2 : Int32) (x3 : Int32) (y0 : Int32) (h : AH), p_X3_oldestBeside_46 k5 a0 x1 x2 x3 y0 h = some (x, fin) → GM l D dA z sa Hz q_X3_oldestBeside h0 (some (.int x)) fin 46 [(0, .ref a0), (1, .int x1), (2, .int x2), (3, .int x3)] [.int y0] h := by
  intro a0 x1 x2 x3 y0 h hd
  exact step E (is := I_X3_oldestBeside_46) (pc := 46) (K := (kx 74 (fun la st h => gR la 0 fun a0 => gI la 1 fun x1 => gI la 2 fun x2 => gI la 3 fun x3 => sE st (p_X3_oldestBeside_74 k5 a0 x1 x2 x3 h)) (kx 72 (fun la st h => gR la 0 fun a0 => gI la 1 fun x1 => gI la 3 fun x3 => sE st (p_X3_oldestBeside_72 k5 a0 x1 x3 h)) k0))) (FI := fI0) (FV := fV0) (FL := fL0) (rt := rtI) (ft := 72) (by exact hd) ok_X3_oldestBeside_46 (kx_ok (fun la st h e => by obtain ⟨a0, m_a0, e1⟩ := gR_inv e; obtain ⟨x1, m_x1, e2⟩ := gI_inv e1; obtain ⟨x2, m_x2, e3⟩ := gI_inv e2; obtain ⟨x3, m_x3, e4⟩ := gI_inv e3; obtain ⟨rfl, ez⟩ := sE_inv e4; exact gm_fewer (e_X3_oldestBeside_74 E hk5 a0 x1 x2 x3 h ez) (mem_cons m_a0 (mem_cons m_x1 (mem_cons m_x2 (mem_cons m_x3 mem_nil))))) (kx_ok (fun la st h e => by obtain ⟨a0, m_a0, e1⟩ := gR_inv e; obtain ⟨x1, m_x1, e2⟩ := gI_inv e1; obtain ⟨x3, m_x3, e3⟩ := gI_inv e2; obtain ⟨rfl, ez⟩ := sE_inv e3; exact gm_fewer (e_X3_oldestBeside_72 E hk5 a0 x1 x3 h ez) (mem_cons m_a0 (mem_cons m_x1 (mem_cons m_x3 mem_nil)))) k0_ok)) (fI0_ok E) (fV0_ok E) (fL0_ok E) (rtI_ok rfl)
def I_X3_oldestBeside_41 : List AI := [(.iconst 1, 1, [], 1), (.goto 4, 3, [46], 0)]
theorem ok_X3_oldestBeside_41 : vBL MT qLen qCh false q_X3_oldestBeside.2.2.2.2.1 q_X3_oldestBeside.2.2.2.2.2.1 q_X3_oldestBeside.2.2.1 q_X3_oldestBeside.1.cls q_X3_oldestBeside.1.name q_X3_oldestBeside.2.1 0 41 I_X3_oldestBeside_41 = true := by decide +kernel
def p_X3_oldestBeside_41 (k5 : Nat → Int32 → Int32 → Int32 → AH → Option (Int32 × AH)) (a0 : Nat) (x1 : Int32) (x2 : Int32) (x3 : Int32) (h : AH) : Option (Int32 × AH) :=
  p_X3_oldestBeside_46 k5 a0 x1 x2 x3 ((1 : Int32)) h
set_option maxRecDepth 100000 in
theorem e_X3_oldestBeside_41 {l : Launch} {D : va_G} {dA : Nat → ClassId} {z : Nat} {sa : Nat → Nat} {Hz : Heap} (E : StrOK qLen qCh l D dA z sa Hz) {h0 fin : AH} {x : Int32}  {k5 : Nat → Int32 → Int32 → Int32 → AH → Option (Int32 × AH)} (hk5 : ∀ (a0 : Nat) (x1 : Int32) (x2 : Int32) (x3 : Int32) (h : AH), k5 a0 x1 x2 x3 h = some (x, fin) → GM l D dA z sa Hz q_X3_oldestBeside h0 (some (.int x)) fin 5 [(0, .ref a0), (1, .int x1), (2, .int x2), (3, .int x3)] [] h) : ∀ (a0 : Nat) (x1 : Int32) (x2 : Int32) (x3 : Int32) (h : AH), p_X3_oldestBeside_41 k5 a0 x1 x2 x3 h = some (x, fin) → GM l D dA z sa Hz q_X3_oldestBeside h0 (some (.int x)) fin 41 [(0, .ref a0), (1, .int x1), (2, .int x2), (3, .int x3)] [] h := by
  intro a0 x1 x2 x3 h hd
  exact step E (is := I_X3_oldestBeside_41) (pc := 41) (K := (kx 46 (fun la st h => gR la 0 fun a0 => gI la 1 fun x1 => gI la 2 fun x2 => gI la 3 fun x3 => sI st fun y0 st => sE st (p_X3_oldestBeside_46 k5 a0 x1 x2 x3 y0 h)) k0)) (FI := fI0) (FV := fV0) (FL := fL0) (rt := rtI) (ft := 0) (by exact hd) ok_X3_oldestBeside_41 (kx_ok (fun la st h e => by obtain ⟨a0, m_a0, e1⟩ := gR_inv e; obtain ⟨x1, m_x1, e2⟩ := gI_inv e1; obtain ⟨x2, m_x2, e3⟩ := gI_inv e2; obtain ⟨x3, m_x3, e4⟩ := gI_inv e3; obtain ⟨y0, _, rfl, e5⟩ := sI_inv e4; obtain ⟨rfl, ez⟩ := sE_inv e5; exact gm_fewer (e_X3_oldestBeside_46 E hk5 a0 x1 x2 x3 y0 h ez) (mem_cons m_a0 (mem_cons m_x1 (mem_cons m_x2 (mem_cons m_x3 mem_nil))))) k0_ok) (fI0_ok E) (fV0_ok E) (fL0_ok E) (rtI_ok rfl)
def I_X3_oldestBeside_45 : List AI := [(.iconst 0, 1, [], 0)]
theorem ok_X3_oldestBeside_45 : vBL MT qLen qCh false q_X3_oldestBeside.2.2.2.2.1 q_X3_oldestBeside.2.2.2.2.2.1 q_X3_oldestBeside.2.2.1 q_X3_oldestBeside.1.cls q_X3_oldestBeside.1.name q_X3_oldestBeside.2.1 46 45 I_X3_oldestBeside_45 = true := by decide +kernel
def p_X3_oldestBeside_45 (k5 : Nat → Int32 → Int32 → Int32 → AH → Option (Int32 × AH)) (a0 : Nat) (x1 : Int32) (x2 : Int32) (x3 : Int32) (h : AH) : Option (Int32 × AH) :=
  p_X3_oldestBeside_46 k5 a0 x1 x2 x3 ((0 : Int32)) h
set_option maxRecDepth 100000 in
theorem e_X3_oldestBeside_45 {l : Launch} {D : va_G} {dA : Nat → ClassId} {z : Nat} {sa : Nat → Nat} {Hz : Heap} (E : StrOK qLen qCh l D dA z sa Hz) {h0 fin : AH} {x : Int32}  {k5 : Nat → Int32 → Int32 → Int32 → AH → Option (Int32 × AH)} (hk5 : ∀ (a0 : Nat) (x1 : Int32) (x2 : Int32) (x3 : Int32) (h : AH), k5 a0 x1 x2 x3 h = some (x, fin) → GM l D dA z sa Hz q_X3_oldestBeside h0 (some (.int x)) fin 5 [(0, .ref a0), (1, .int x1), (2, .int x2), (3, .int x3)] [] h) : ∀ (a0 : Nat) (x1 : Int32) (x2 : Int32) (x3 : Int32) (h : AH), p_X3_oldestBeside_45 k5 a0 x1 x2 x3 h = some (x, fin) → GM l D dA z sa Hz q_X3_oldestBeside h0 (some (.int x)) fin 45 [(0, .ref a0), (1, .int x1), (2, .int x2), (3, .int x3)] [] h := by
  intro a0 x1 x2 x3 h hd
  exact step E (is := I_X3_oldestBeside_45) (pc := 45) (K := (kx 46 (fun la st h => gR la 0 fun a0 => gI la 1 fun x1 => gI la 2 fun x2 => gI la 3 fun x3 => sI st fun y0 st => sE st (p_X3_oldestBeside_46 k5 a0 x1 x2 x3 y0 h)) k0)) (FI := fI0) (FV := fV0) (FL := fL0) (rt := rtI) (ft := 46) (by exact hd) ok_X3_oldestBeside_45 (kx_ok (fun la st h e => by obtain ⟨a0, m_a0, e1⟩ := gR_inv e; obtain ⟨x1, m_x1, e2⟩ := gI_inv e1; obtain ⟨x2, m_x2, e3⟩ := gI_inv e2; obtain ⟨x3, m_x3, e4⟩ := gI_inv e3; obtain ⟨y0, _, rfl, e5⟩ := sI_inv e4; obtain ⟨rfl, ez⟩ := sE_inv e5; exact gm_fewer (e_X3_oldestBeside_46 E hk5 a0 x1 x2 x3 y0 h ez) (mem_cons m_a0 (mem_cons m_x1 (mem_cons m_x2 (mem_cons m_x3 mem_nil))))) k0_ok) (fI0_ok E) (fV0_ok E) (fL0_ok E) (rtI_ok rfl)
def I_X3_oldestBeside_5 : List AI := [(.iload_n 3, 1, [], 0), (.bipush 8, 2, [], 8), (.if_icmp .ge 72, 3, [80], 0), (.aload_n 0, 1, [], 0), (.getfield 9, 3, [2, 0, 2, 285], 0), (.iload_n 3, 1, [], 0), (.iaload, 1, [], 0), (.bipush (-2), 2, [], (-2)), (.if_icmp .eq 22, 3, [41], 0), (.aload_n 0, 1, [], 0), (.getfield 9, 3, [2, 0, 2, 285], 0), (.iload_n 3, 1, [], 0), (.iaload, 1, [], 0), (.ifCond .ne 17, 3, [45], 0), (.aload_n 0, 1, [], 0), (.getfield 15, 3, [2, 1, 2, 286], 0), (.iload_n 3, 1, [], 0), (.iaload, 1, [], 0), (.iload_n 1, 1, [], 0), (.if_icmp .ne 7, 3, [45], 0)]
theorem ok_X3_oldestBeside_5 : vBL MT qLen qCh false q_X3_oldestBeside.2.2.2.2.1 q_X3_oldestBeside.2.2.2.2.2.1 q_X3_oldestBeside.2.2.1 q_X3_oldestBeside.1.cls q_X3_oldestBeside.1.name q_X3_oldestBeside.2.1 41 5 I_X3_oldestBeside_5 = true := by decide +kernel
def p_X3_oldestBeside_5 : Nat → Nat → Int32 → Int32 → Int32 → AH → Option (Int32 × AH)
  | 0, _, _, _, _, _ => none
  | n + 1, a0, x1, x2, x3, h => if x3 < ((8 : Int32)) then (if (tg h a0).1 = 2 then (if inB h (rR h a0 0) 100 x3 then (if (rI h (rR h a0 0) x3.toNatClampNeg) = ((-2 : Int32)) then (p_X3_oldestBeside_41 (p_X3_oldestBeside_5 n) a0 x1 x2 x3 h)
    else
    if (tg h a0).1 = 2 then (if inB h (rR h a0 0) 100 x3 then (if (rI h (rR h a0 0) x3.toNatClampNeg) = 0 then (if (tg h a0).1 = 2 then (if inB h (rR h a0 1) 100 x3 then (if (rI h (rR h a0 1) x3.toNatClampNeg) = x1 then (p_X3_oldestBeside_41 (p_X3_oldestBeside_5 n) a0 x1 x2 x3 h)
    else
    p_X3_oldestBeside_45 (p_X3_oldestBeside_5 n) a0 x1 x2 x3 h) else none) else none)
    else
    p_X3_oldestBeside_45 (p_X3_oldestBeside_5 n) a0 x1 x2 x3 h) else none) else none) else none) else none)
    else
    some (x2, h)
set_option maxRecDepth 100000 in
theorem e_X3_oldestBeside_5 {l : Launch} {D : va_G} {dA : Nat → ClassId} {z : Nat} {sa : Nat → Nat} {Hz : Heap} (E : StrOK qLen qCh l D dA z sa Hz) {h0 fin : AH} {x : Int32}  : ∀ (n : Nat) (a0 : Nat) (x1 : Int32) (x2 : Int32) (x3 : Int32) (h : AH), p_X3_oldestBeside_5 n a0 x1 x2 x3 h = some (x, fin) → GM l D dA z sa Hz q_X3_oldestBeside h0 (some (.int x)) fin 5 [(0, .ref a0), (1, .int x1), (2, .int x2), (3, .int x3)] [] h := by
  intro n
  induction n with
  | zero => intro a0 x1 x2 x3 h hd; exact nomatch hd
  | succ n ih =>
    intro a0 x1 x2 x3 h hd
    exact step E (is := I_X3_oldestBeside_5) (pc := 5) (K := (kx 80 (fun la st h => gI la 2 fun x2 => sE st (p_X3_oldestBeside_80 x2 h)) (kx 41 (fun la st h => gR la 0 fun a0 => gI la 1 fun x1 => gI la 2 fun x2 => gI la 3 fun x3 => sE st (p_X3_oldestBeside_41 (p_X3_oldestBeside_5 n) a0 x1 x2 x3 h)) (kx 45 (fun la st h => gR la 0 fun a0 => gI la 1 fun x1 => gI la 2 fun x2 => gI la 3 fun x3 => sE st (p_X3_oldestBeside_45 (p_X3_oldestBeside_5 n) a0 x1 x2 x3 h)) k0)))) (FI := fI0) (FV := fV0) (FL := fL0) (rt := rtI) (ft := 41) (by exact hd) ok_X3_oldestBeside_5 (kx_ok (fun la st h e => by obtain ⟨x2, m_x2, e1⟩ := gI_inv e; obtain ⟨rfl, ez⟩ := sE_inv e1; exact gm_fewer (e_X3_oldestBeside_80 E  x2 h ez) (mem_cons m_x2 mem_nil)) (kx_ok (fun la st h e => by obtain ⟨a0, m_a0, e1⟩ := gR_inv e; obtain ⟨x1, m_x1, e2⟩ := gI_inv e1; obtain ⟨x2, m_x2, e3⟩ := gI_inv e2; obtain ⟨x3, m_x3, e4⟩ := gI_inv e3; obtain ⟨rfl, ez⟩ := sE_inv e4; exact gm_fewer (e_X3_oldestBeside_41 E ih a0 x1 x2 x3 h ez) (mem_cons m_a0 (mem_cons m_x1 (mem_cons m_x2 (mem_cons m_x3 mem_nil))))) (kx_ok (fun la st h e => by obtain ⟨a0, m_a0, e1⟩ := gR_inv e; obtain ⟨x1, m_x1, e2⟩ := gI_inv e1; obtain ⟨x2, m_x2, e3⟩ := gI_inv e2; obtain ⟨x3, m_x3, e4⟩ := gI_inv e3; obtain ⟨rfl, ez⟩ := sE_inv e4; exact gm_fewer (e_X3_oldestBeside_45 E ih a0 x1 x2 x3 h ez) (mem_cons m_a0 (mem_cons m_x1 (mem_cons m_x2 (mem_cons m_x3 mem_nil))))) k0_ok))) (fI0_ok E) (fV0_ok E) (fL0_ok E) (rtI_ok rfl)
def I_X3_oldestBeside_0 : List AI := [(.bipush (-2), 2, [], (-2)), (.istore_n 2, 1, [], 0), (.iconst 0, 1, [], 0), (.istore_n 3, 1, [], 0)]
theorem ok_X3_oldestBeside_0 : vBL MT qLen qCh false q_X3_oldestBeside.2.2.2.2.1 q_X3_oldestBeside.2.2.2.2.2.1 q_X3_oldestBeside.2.2.1 q_X3_oldestBeside.1.cls q_X3_oldestBeside.1.name q_X3_oldestBeside.2.1 5 0 I_X3_oldestBeside_0 = true := by decide +kernel
def p_X3_oldestBeside (a0 : Nat) (x1 : Int32) (h : AH) : Option (Int32 × AH) :=
  p_X3_oldestBeside_5 FU a0 x1 ((-2 : Int32)) ((0 : Int32)) h
set_option maxRecDepth 100000 in
theorem e_X3_oldestBeside_0 {l : Launch} {D : va_G} {dA : Nat → ClassId} {z : Nat} {sa : Nat → Nat} {Hz : Heap} (E : StrOK qLen qCh l D dA z sa Hz) {h0 fin : AH} {x : Int32}  : ∀ (a0 : Nat) (x1 : Int32) (h : AH), p_X3_oldestBeside a0 x1 h = some (x, fin) → GM l D dA z sa Hz q_X3_oldestBeside h0 (some (.int x)) fin 0 [(0, .ref a0), (1, .int x1)] [] h := by
  intro a0 x1 h hd
  exact step E (is := I_X3_oldestBeside_0) (pc := 0) (K := (kx 5 (fun la st h => gR la 0 fun a0 => gI la 1 fun x1 => gI la 2 fun x2 => gI la 3 fun x3 => sE st (p_X3_oldestBeside_5 FU a0 x1 x2 x3 h)) k0)) (FI := fI0) (FV := fV0) (FL := fL0) (rt := rtI) (ft := 5) (by exact hd) ok_X3_oldestBeside_0 (kx_ok (fun la st h e => by obtain ⟨a0, m_a0, e1⟩ := gR_inv e; obtain ⟨x1, m_x1, e2⟩ := gI_inv e1; obtain ⟨x2, m_x2, e3⟩ := gI_inv e2; obtain ⟨x3, m_x3, e4⟩ := gI_inv e3; obtain ⟨rfl, ez⟩ := sE_inv e4; exact gm_fewer (e_X3_oldestBeside_5 E  FU a0 x1 x2 x3 h ez) (mem_cons m_a0 (mem_cons m_x1 (mem_cons m_x2 (mem_cons m_x3 mem_nil))))) k0_ok) (fI0_ok E) (fV0_ok E) (fL0_ok E) (rtI_ok rfl)
theorem c_X3_oldestBeside {l : Launch} {D : va_G} {dA : Nat → ClassId} {z : Nat} {sa : Nat → Nat} {Hz : Heap} (E : StrOK qLen qCh l D dA z sa Hz) {a0 : Nat} {x1 : Int32} {h fin : AH} {x : Int32} (hd : p_X3_oldestBeside a0 x1 h = some (x, fin)) : CalOK l D dA z sa Hz q_X3_oldestBeside [.ref a0, .int x1] h (some (.int x)) fin := calOf (by decide +kernel) (Nat.le_of_ble_eq_true rfl) (e_X3_oldestBeside_0 E a0 x1 h hd)
def FI_X7_dropsNext : Nat → List Value → AH → Option (Int32 × AH) := (cx 9 (fun As h => sR As fun a0 As => sI As fun x1 As => sE As (p_X7_refuse a0 x1 h)) (cx 118 (fun As h => sR As fun a0 As => sI As fun x1 As => sE As (p_X3_freeAt a0 x1 h)) (cx 119 (fun As h => sR As fun a0 As => sI As fun x1 As => sE As (p_X3_oldestBeside a0 x1 h)) (cx 50 (fun As h => sR As fun a0 As => sI As fun x1 As => sE As (p_X7_answer a0 x1 h)) fI0))))
theorem FI_X7_dropsNext_ok {l : Launch} {D : va_G} {dA : Nat → ClassId} {z : Nat} {sa : Nat → Nat} {Hz : Heap} (E : StrOK qLen qCh l D dA z sa Hz) : ∀ mi As h x h', FI_X7_dropsNext mi As h = some (x, h') → CalOK l D dA z sa Hz (MT mi) As h (some (.int x)) h' := (cxI_ok (fun As h x h2 e => by obtain ⟨_, _, rfl, e0⟩ := sR_inv e; obtain ⟨_, _, rfl, e1⟩ := sI_inv e0; obtain ⟨rfl, ez⟩ := sE_inv e1; exact c_X7_refuse E ez) ((cxI_ok (fun As h x h2 e => by obtain ⟨_, _, rfl, e0⟩ := sR_inv e; obtain ⟨_, _, rfl, e1⟩ := sI_inv e0; obtain ⟨rfl, ez⟩ := sE_inv e1; exact c_X3_freeAt E ez) ((cxI_ok (fun As h x h2 e => by obtain ⟨_, _, rfl, e0⟩ := sR_inv e; obtain ⟨_, _, rfl, e1⟩ := sI_inv e0; obtain ⟨rfl, ez⟩ := sE_inv e1; exact c_X3_oldestBeside E ez) ((cxI_ok (fun As h x h2 e => by obtain ⟨_, _, rfl, e0⟩ := sR_inv e; obtain ⟨_, _, rfl, e1⟩ := sI_inv e0; obtain ⟨rfl, ez⟩ := sE_inv e1; exact c_X7_answer E ez) (fI0_ok E))))))))
def I_X7_dropsNext_53 : List AI := [(.invokevirtual 68, 3, [1, 50, 2, 6, 633], 0), (.ireturn, 1, [], 0)]
theorem ok_X7_dropsNext_53 : vBL MT qLen qCh false q_X7_dropsNext.2.2.2.2.1 q_X7_dropsNext.2.2.2.2.2.1 q_X7_dropsNext.2.2.1 q_X7_dropsNext.1.cls q_X7_dropsNext.1.name q_X7_dropsNext.2.1 0 53 I_X7_dropsNext_53 = true := by decide +kernel
def p_X7_dropsNext_53 (y0 : Int32) (b1 : Nat) (h : AH) : Option (Int32 × AH) :=
  if (tg h b1).1 = 6 then ((p_X7_answer b1 y0 h).bind fun q101 =>
  some (q101.1, q101.2)) else none
set_option maxRecDepth 100000 in
theorem e_X7_dropsNext_53 {l : Launch} {D : va_G} {dA : Nat → ClassId} {z : Nat} {sa : Nat → Nat} {Hz : Heap} (E : StrOK qLen qCh l D dA z sa Hz) {h0 fin : AH} {x : Int32}  : ∀ (y0 : Int32) (b1 : Nat) (h : AH), p_X7_dropsNext_53 y0 b1 h = some (x, fin) → GM l D dA z sa Hz q_X7_dropsNext h0 (some (.int x)) fin 53 [] [.int y0, .ref b1] h := by
  intro y0 b1 h hd
  exact step E (is := I_X7_dropsNext_53) (pc := 53) (K := k0) (FI := FI_X7_dropsNext) (FV := fV0) (FL := fL0) (rt := rtI) (ft := 0) (by exact hd) ok_X7_dropsNext_53 k0_ok (FI_X7_dropsNext_ok E) (fV0_ok E) (fL0_ok E) (rtI_ok rfl)
def I_X7_dropsNext_33 : List AI := [(.aload_n 0, 1, [], 0), (.getfield 29, 3, [6, 4, 2, 358], 0), (.getfield 165, 3, [1, 2, 2, 323], 0), (.aload_n 0, 1, [], 0), (.getfield 29, 3, [6, 4, 2, 358], 0), (.getfield 87, 3, [1, 1, 2, 321], 0), (.getfield 111, 3, [0, 4, 0, 196], 0), (.invokevirtual 188, 3, [1, 119, 2, 2, 918], 0)]
theorem ok_X7_dropsNext_33 : vBL MT qLen qCh false q_X7_dropsNext.2.2.2.2.1 q_X7_dropsNext.2.2.2.2.2.1 q_X7_dropsNext.2.2.1 q_X7_dropsNext.1.cls q_X7_dropsNext.1.name q_X7_dropsNext.2.1 53 33 I_X7_dropsNext_33 = true := by decide +kernel
def p_X7_dropsNext_33 (a0 : Nat) (b0 : Nat) (h : AH) : Option (Int32 × AH) :=
  if (tg h a0).1 = 6 then (if (tg h (rR h a0 4)).1 = 1 then (if (tg h a0).1 = 6 then (if (tg h (rR h a0 4)).1 = 1 then (if (tg h (rR h (rR h a0 4) 1)).1 = 0 then (if (tg h (rR h (rR h a0 4) 2)).1 = 2 then ((p_X3_oldestBeside (rR h (rR h a0 4) 2) (rI h (rR h (rR h a0 4) 1) 4) h).bind fun q102 =>
  p_X7_dropsNext_53 q102.1 b0 q102.2) else none) else none) else none) else none) else none) else none
set_option maxRecDepth 100000 in
theorem e_X7_dropsNext_33 {l : Launch} {D : va_G} {dA : Nat → ClassId} {z : Nat} {sa : Nat → Nat} {Hz : Heap} (E : StrOK qLen qCh l D dA z sa Hz) {h0 fin : AH} {x : Int32}  : ∀ (a0 : Nat) (b0 : Nat) (h : AH), p_X7_dropsNext_33 a0 b0 h = some (x, fin) → GM l D dA z sa Hz q_X7_dropsNext h0 (some (.int x)) fin 33 [(0, .ref a0)] [.ref b0] h := by
  intro a0 b0 h hd
  exact step E (is := I_X7_dropsNext_33) (pc := 33) (K := (kx 53 (fun la st h => sI st fun y0 st => sR st fun b1 st => sE st (p_X7_dropsNext_53 y0 b1 h)) k0)) (FI := FI_X7_dropsNext) (FV := fV0) (FL := fL0) (rt := rtI) (ft := 53) (by exact hd) ok_X7_dropsNext_33 (kx_ok (fun la st h e => by obtain ⟨y0, _, rfl, e1⟩ := sI_inv e; obtain ⟨b1, _, rfl, e2⟩ := sR_inv e1; obtain ⟨rfl, ez⟩ := sE_inv e2; exact gm_fewer (e_X7_dropsNext_53 E  y0 b1 h ez) mem_nil) k0_ok) (FI_X7_dropsNext_ok E) (fV0_ok E) (fL0_ok E) (rtI_ok rfl)
def I_X7_dropsNext_13 : List AI := [(.aload_n 0, 1, [], 0), (.aload_n 0, 1, [], 0), (.getfield 29, 3, [6, 4, 2, 358], 0), (.getfield 165, 3, [1, 2, 2, 323], 0), (.iconst 0, 1, [], 0), (.invokevirtual 185, 3, [1, 118, 2, 2, 914], 0), (.ifCond .lt 8, 3, [33], 0), (.bipush (-2), 2, [], (-2)), (.goto 23, 3, [53], 0)]
theorem ok_X7_dropsNext_13 : vBL MT qLen qCh false q_X7_dropsNext.2.2.2.2.1 q_X7_dropsNext.2.2.2.2.2.1 q_X7_dropsNext.2.2.1 q_X7_dropsNext.1.cls q_X7_dropsNext.1.name q_X7_dropsNext.2.1 0 13 I_X7_dropsNext_13 = true := by decide +kernel
def p_X7_dropsNext_13 (a0 : Nat) (h : AH) : Option (Int32 × AH) :=
  if (tg h a0).1 = 6 then (if (tg h (rR h a0 4)).1 = 1 then (if (tg h (rR h (rR h a0 4) 2)).1 = 2 then ((p_X3_freeAt (rR h (rR h a0 4) 2) ((0 : Int32)) h).bind fun q103 =>
  if q103.1 < 0 then (if (tg q103.2 a0).1 = 6 then (if (tg q103.2 (rR q103.2 a0 4)).1 = 1 then (if (tg q103.2 a0).1 = 6 then (if (tg q103.2 (rR q103.2 a0 4)).1 = 1 then (if (tg q103.2 (rR q103.2 (rR q103.2 a0 4) 1)).1 = 0 then (if (tg q103.2 (rR q103.2 (rR q103.2 a0 4) 2)).1 = 2 then ((p_X3_oldestBeside (rR q103.2 (rR q103.2 a0 4) 2) (rI q103.2 (rR q103.2 (rR q103.2 a0 4) 1) 4) q103.2).bind fun q104 =>
  p_X7_dropsNext_53 q104.1 a0 q104.2) else none) else none) else none) else none) else none) else none)
  else
  p_X7_dropsNext_53 ((-2 : Int32)) a0 q103.2) else none) else none) else none
set_option maxRecDepth 100000 in
theorem e_X7_dropsNext_13 {l : Launch} {D : va_G} {dA : Nat → ClassId} {z : Nat} {sa : Nat → Nat} {Hz : Heap} (E : StrOK qLen qCh l D dA z sa Hz) {h0 fin : AH} {x : Int32}  : ∀ (a0 : Nat) (h : AH), p_X7_dropsNext_13 a0 h = some (x, fin) → GM l D dA z sa Hz q_X7_dropsNext h0 (some (.int x)) fin 13 [(0, .ref a0)] [] h := by
  intro a0 h hd
  exact step E (is := I_X7_dropsNext_13) (pc := 13) (K := (kx 33 (fun la st h => gR la 0 fun a0 => sR st fun b0 st => sE st (p_X7_dropsNext_33 a0 b0 h)) (kx 53 (fun la st h => sI st fun y0 st => sR st fun b1 st => sE st (p_X7_dropsNext_53 y0 b1 h)) k0))) (FI := FI_X7_dropsNext) (FV := fV0) (FL := fL0) (rt := rtI) (ft := 0) (by exact hd) ok_X7_dropsNext_13 (kx_ok (fun la st h e => by obtain ⟨a0, m_a0, e1⟩ := gR_inv e; obtain ⟨b0, _, rfl, e2⟩ := sR_inv e1; obtain ⟨rfl, ez⟩ := sE_inv e2; exact gm_fewer (e_X7_dropsNext_33 E  a0 b0 h ez) (mem_cons m_a0 mem_nil)) (kx_ok (fun la st h e => by obtain ⟨y0, _, rfl, e1⟩ := sI_inv e; obtain ⟨b1, _, rfl, e2⟩ := sR_inv e1; obtain ⟨rfl, ez⟩ := sE_inv e2; exact gm_fewer (e_X7_dropsNext_53 E  y0 b1 h ez) mem_nil) k0_ok)) (FI_X7_dropsNext_ok E) (fV0_ok E) (fL0_ok E) (rtI_ok rfl)
def I_X7_dropsNext_0 : List AI := [(.aload_n 0, 1, [], 0), (.getfield 107, 3, [6, 3, 3, 357], 0), (.ifCond .ne 9, 3, [13], 0), (.aload_n 0, 1, [], 0), (.iconst 1, 1, [], 1), (.invokevirtual 54, 3, [1, 9, 2, 6, 403], 0), (.ireturn, 1, [], 0)]
theorem ok_X7_dropsNext_0 : vBL MT qLen qCh false q_X7_dropsNext.2.2.2.2.1 q_X7_dropsNext.2.2.2.2.2.1 q_X7_dropsNext.2.2.1 q_X7_dropsNext.1.cls q_X7_dropsNext.1.name q_X7_dropsNext.2.1 0 0 I_X7_dropsNext_0 = true := by decide +kernel
def p_X7_dropsNext (a0 : Nat) (h : AH) : Option (Int32 × AH) :=
  if (tg h a0).1 = 6 then (if (rI h a0 3) = 0 then (if (tg h a0).1 = 6 then ((p_X7_refuse a0 ((1 : Int32)) h).bind fun q107 =>
  some (q107.1, q107.2)) else none)
  else
  if (tg h a0).1 = 6 then (if (tg h (rR h a0 4)).1 = 1 then (if (tg h (rR h (rR h a0 4) 2)).1 = 2 then ((p_X3_freeAt (rR h (rR h a0 4) 2) ((0 : Int32)) h).bind fun q105 =>
  if q105.1 < 0 then (if (tg q105.2 a0).1 = 6 then (if (tg q105.2 (rR q105.2 a0 4)).1 = 1 then (if (tg q105.2 a0).1 = 6 then (if (tg q105.2 (rR q105.2 a0 4)).1 = 1 then (if (tg q105.2 (rR q105.2 (rR q105.2 a0 4) 1)).1 = 0 then (if (tg q105.2 (rR q105.2 (rR q105.2 a0 4) 2)).1 = 2 then ((p_X3_oldestBeside (rR q105.2 (rR q105.2 a0 4) 2) (rI q105.2 (rR q105.2 (rR q105.2 a0 4) 1) 4) q105.2).bind fun q106 =>
  p_X7_dropsNext_53 q106.1 a0 q106.2) else none) else none) else none) else none) else none) else none)
  else
  p_X7_dropsNext_53 ((-2 : Int32)) a0 q105.2) else none) else none) else none) else none
set_option maxRecDepth 100000 in
theorem e_X7_dropsNext_0 {l : Launch} {D : va_G} {dA : Nat → ClassId} {z : Nat} {sa : Nat → Nat} {Hz : Heap} (E : StrOK qLen qCh l D dA z sa Hz) {h0 fin : AH} {x : Int32}  : ∀ (a0 : Nat) (h : AH), p_X7_dropsNext a0 h = some (x, fin) → GM l D dA z sa Hz q_X7_dropsNext h0 (some (.int x)) fin 0 [(0, .ref a0)] [] h := by
  intro a0 h hd
  exact step E (is := I_X7_dropsNext_0) (pc := 0) (K := (kx 13 (fun la st h => gR la 0 fun a0 => sE st (p_X7_dropsNext_13 a0 h)) k0)) (FI := FI_X7_dropsNext) (FV := fV0) (FL := fL0) (rt := rtI) (ft := 0) (by exact hd) ok_X7_dropsNext_0 (kx_ok (fun la st h e => by obtain ⟨a0, m_a0, e1⟩ := gR_inv e; obtain ⟨rfl, ez⟩ := sE_inv e1; exact gm_fewer (e_X7_dropsNext_13 E  a0 h ez) (mem_cons m_a0 mem_nil)) k0_ok) (FI_X7_dropsNext_ok E) (fV0_ok E) (fL0_ok E) (rtI_ok rfl)
theorem c_X7_dropsNext {l : Launch} {D : va_G} {dA : Nat → ClassId} {z : Nat} {sa : Nat → Nat} {Hz : Heap} (E : StrOK qLen qCh l D dA z sa Hz) {a0 : Nat} {h fin : AH} {x : Int32} (hd : p_X7_dropsNext a0 h = some (x, fin)) : CalOK l D dA z sa Hz q_X7_dropsNext [.ref a0] h (some (.int x)) fin := calOf (by decide +kernel) (Nat.le_of_ble_eq_true rfl) (e_X7_dropsNext_0 E a0 h hd)
def I_X7_declines_0 : List AI := [(.aload_n 0, 1, [], 0), (.iload_n 1, 1, [], 0), (.putfield 74, 3, [6, 11, 0, 365], 0), (.iconst 0, 1, [], 0), (.ireturn, 1, [], 0)]
theorem ok_X7_declines_0 : vBL MT qLen qCh false q_X7_declines.2.2.2.2.1 q_X7_declines.2.2.2.2.2.1 q_X7_declines.2.2.1 q_X7_declines.1.cls q_X7_declines.1.name q_X7_declines.2.1 0 0 I_X7_declines_0 = true := by decide +kernel
def p_X7_declines (a0 : Nat) (x1 : Int32) (h : AH) : Option (Int32 × AH) :=
  if (tg h a0).1 = 6 then (let h101 := wI h a0 11 x1
  if ((0 : Int32)) &&& 1 = ((0 : Int32)) then some (((0 : Int32)), h101) else none) else none
set_option maxRecDepth 100000 in
theorem e_X7_declines_0 {l : Launch} {D : va_G} {dA : Nat → ClassId} {z : Nat} {sa : Nat → Nat} {Hz : Heap} (E : StrOK qLen qCh l D dA z sa Hz) {h0 fin : AH} {x : Int32}  : ∀ (a0 : Nat) (x1 : Int32) (h : AH), p_X7_declines a0 x1 h = some (x, fin) → GM l D dA z sa Hz q_X7_declines h0 (some (.int x)) fin 0 [(0, .ref a0), (1, .int x1)] [] h := by
  intro a0 x1 h hd
  exact step E (is := I_X7_declines_0) (pc := 0) (K := k0) (FI := fI0) (FV := fV0) (FL := fL0) (rt := rtZ) (ft := 0) (by exact hd) ok_X7_declines_0 k0_ok (fI0_ok E) (fV0_ok E) (fL0_ok E) (rtZ_ok rfl)
theorem c_X7_declines {l : Launch} {D : va_G} {dA : Nat → ClassId} {z : Nat} {sa : Nat → Nat} {Hz : Heap} (E : StrOK qLen qCh l D dA z sa Hz) {a0 : Nat} {x1 : Int32} {h fin : AH} {x : Int32} (hd : p_X7_declines a0 x1 h = some (x, fin)) : CalOK l D dA z sa Hz q_X7_declines [.ref a0, .int x1] h (some (.int x)) fin := calOf (by decide +kernel) (Nat.le_of_ble_eq_true rfl) (e_X7_declines_0 E a0 x1 h hd)
def I_X7_agrees_0 : List AI := [(.aload_n 0, 1, [], 0), (.iconst 0, 1, [], 0), (.putfield 74, 3, [6, 11, 0, 365], 0), (.iconst 1, 1, [], 1), (.ireturn, 1, [], 0)]
theorem ok_X7_agrees_0 : vBL MT qLen qCh false q_X7_agrees.2.2.2.2.1 q_X7_agrees.2.2.2.2.2.1 q_X7_agrees.2.2.1 q_X7_agrees.1.cls q_X7_agrees.1.name q_X7_agrees.2.1 0 0 I_X7_agrees_0 = true := by decide +kernel
def p_X7_agrees (a0 : Nat) (h : AH) : Option (Int32 × AH) :=
  if (tg h a0).1 = 6 then (let h101 := wI h a0 11 ((0 : Int32))
  if ((1 : Int32)) &&& 1 = ((1 : Int32)) then some (((1 : Int32)), h101) else none) else none
set_option maxRecDepth 100000 in
theorem e_X7_agrees_0 {l : Launch} {D : va_G} {dA : Nat → ClassId} {z : Nat} {sa : Nat → Nat} {Hz : Heap} (E : StrOK qLen qCh l D dA z sa Hz) {h0 fin : AH} {x : Int32}  : ∀ (a0 : Nat) (h : AH), p_X7_agrees a0 h = some (x, fin) → GM l D dA z sa Hz q_X7_agrees h0 (some (.int x)) fin 0 [(0, .ref a0)] [] h := by
  intro a0 h hd
  exact step E (is := I_X7_agrees_0) (pc := 0) (K := k0) (FI := fI0) (FV := fV0) (FL := fL0) (rt := rtZ) (ft := 0) (by exact hd) ok_X7_agrees_0 k0_ok (fI0_ok E) (fV0_ok E) (fL0_ok E) (rtZ_ok rfl)
theorem c_X7_agrees {l : Launch} {D : va_G} {dA : Nat → ClassId} {z : Nat} {sa : Nat → Nat} {Hz : Heap} (E : StrOK qLen qCh l D dA z sa Hz) {a0 : Nat} {h fin : AH} {x : Int32} (hd : p_X7_agrees a0 h = some (x, fin)) : CalOK l D dA z sa Hz q_X7_agrees [.ref a0] h (some (.int x)) fin := calOf (by decide +kernel) (Nat.le_of_ble_eq_true rfl) (e_X7_agrees_0 E a0 h hd)
def FI_X7_mayRun : Nat → List Value → AH → Option (Int32 × AH) := (cx 121 (fun As h => sR As fun a0 As => sI As fun x1 As => sE As (p_X7_declines a0 x1 h)) (cx 122 (fun As h => sR As fun a0 As => sE As (p_X7_agrees a0 h)) fI0))
theorem FI_X7_mayRun_ok {l : Launch} {D : va_G} {dA : Nat → ClassId} {z : Nat} {sa : Nat → Nat} {Hz : Heap} (E : StrOK qLen qCh l D dA z sa Hz) : ∀ mi As h x h', FI_X7_mayRun mi As h = some (x, h') → CalOK l D dA z sa Hz (MT mi) As h (some (.int x)) h' := (cxI_ok (fun As h x h2 e => by obtain ⟨_, _, rfl, e0⟩ := sR_inv e; obtain ⟨_, _, rfl, e1⟩ := sI_inv e0; obtain ⟨rfl, ez⟩ := sE_inv e1; exact c_X7_declines E ez) ((cxI_ok (fun As h x h2 e => by obtain ⟨_, _, rfl, e0⟩ := sR_inv e; obtain ⟨rfl, ez⟩ := sE_inv e0; exact c_X7_agrees E ez) (fI0_ok E))))
def I_X7_mayRun_24 : List AI := [(.aload_n 0, 1, [], 0), (.iconst 2, 1, [], 2), (.invokevirtual 294, 3, [1, 121, 2, 6, 930], 0), (.ireturn, 1, [], 0)]
theorem ok_X7_mayRun_24 : vBL MT qLen qCh false q_X7_mayRun.2.2.2.2.1 q_X7_mayRun.2.2.2.2.2.1 q_X7_mayRun.2.2.1 q_X7_mayRun.1.cls q_X7_mayRun.1.name q_X7_mayRun.2.1 0 24 I_X7_mayRun_24 = true := by decide +kernel
def p_X7_mayRun_24 (a0 : Nat) (h : AH) : Option (Int32 × AH) :=
  if (tg h a0).1 = 6 then ((p_X7_declines a0 ((2 : Int32)) h).bind fun q101 =>
  if q101.1 &&& 1 = q101.1 then some (q101.1, q101.2) else none) else none
set_option maxRecDepth 100000 in
theorem e_X7_mayRun_24 {l : Launch} {D : va_G} {dA : Nat → ClassId} {z : Nat} {sa : Nat → Nat} {Hz : Heap} (E : StrOK qLen qCh l D dA z sa Hz) {h0 fin : AH} {x : Int32}  : ∀ (a0 : Nat) (h : AH), p_X7_mayRun_24 a0 h = some (x, fin) → GM l D dA z sa Hz q_X7_mayRun h0 (some (.int x)) fin 24 [(0, .ref a0)] [] h := by
  intro a0 h hd
  exact step E (is := I_X7_mayRun_24) (pc := 24) (K := k0) (FI := FI_X7_mayRun) (FV := fV0) (FL := fL0) (rt := rtZ) (ft := 0) (by exact hd) ok_X7_mayRun_24 k0_ok (FI_X7_mayRun_ok E) (fV0_ok E) (fL0_ok E) (rtZ_ok rfl)
def I_X7_mayRun_30 : List AI := [(.aload_n 0, 1, [], 0), (.invokevirtual 307, 3, [1, 122, 1, 6, 934], 0), (.ireturn, 1, [], 0)]
theorem ok_X7_mayRun_30 : vBL MT qLen qCh false q_X7_mayRun.2.2.2.2.1 q_X7_mayRun.2.2.2.2.2.1 q_X7_mayRun.2.2.1 q_X7_mayRun.1.cls q_X7_mayRun.1.name q_X7_mayRun.2.1 0 30 I_X7_mayRun_30 = true := by decide +kernel
def p_X7_mayRun_30 (a0 : Nat) (h : AH) : Option (Int32 × AH) :=
  if (tg h a0).1 = 6 then ((p_X7_agrees a0 h).bind fun q102 =>
  if q102.1 &&& 1 = q102.1 then some (q102.1, q102.2) else none) else none
set_option maxRecDepth 100000 in
theorem e_X7_mayRun_30 {l : Launch} {D : va_G} {dA : Nat → ClassId} {z : Nat} {sa : Nat → Nat} {Hz : Heap} (E : StrOK qLen qCh l D dA z sa Hz) {h0 fin : AH} {x : Int32}  : ∀ (a0 : Nat) (h : AH), p_X7_mayRun_30 a0 h = some (x, fin) → GM l D dA z sa Hz q_X7_mayRun h0 (some (.int x)) fin 30 [(0, .ref a0)] [] h := by
  intro a0 h hd
  exact step E (is := I_X7_mayRun_30) (pc := 30) (K := k0) (FI := FI_X7_mayRun) (FV := fV0) (FL := fL0) (rt := rtZ) (ft := 0) (by exact hd) ok_X7_mayRun_30 k0_ok (FI_X7_mayRun_ok E) (fV0_ok E) (fL0_ok E) (rtZ_ok rfl)
def I_X7_mayRun_13 : List AI := [(.iload_n 1, 1, [], 0), (.iconst 3, 1, [], 3), (.if_icmp .lt 9, 3, [24], 0), (.iload_n 1, 1, [], 0), (.bipush 8, 2, [], 8), (.if_icmp .le 9, 3, [30], 0)]
theorem ok_X7_mayRun_13 : vBL MT qLen qCh false q_X7_mayRun.2.2.2.2.1 q_X7_mayRun.2.2.2.2.2.1 q_X7_mayRun.2.2.1 q_X7_mayRun.1.cls q_X7_mayRun.1.name q_X7_mayRun.2.1 24 13 I_X7_mayRun_13 = true := by decide +kernel
def p_X7_mayRun_13 (a0 : Nat) (x1 : Int32) (h : AH) : Option (Int32 × AH) :=
  if x1 < ((3 : Int32)) then (p_X7_mayRun_24 a0 h)
  else
  if ((8 : Int32)) < x1 then (p_X7_mayRun_24 a0 h)
  else
  if (tg h a0).1 = 6 then ((p_X7_agrees a0 h).bind fun q103 =>
  if q103.1 &&& 1 = q103.1 then some (q103.1, q103.2) else none) else none
set_option maxRecDepth 100000 in
theorem e_X7_mayRun_13 {l : Launch} {D : va_G} {dA : Nat → ClassId} {z : Nat} {sa : Nat → Nat} {Hz : Heap} (E : StrOK qLen qCh l D dA z sa Hz) {h0 fin : AH} {x : Int32}  : ∀ (a0 : Nat) (x1 : Int32) (h : AH), p_X7_mayRun_13 a0 x1 h = some (x, fin) → GM l D dA z sa Hz q_X7_mayRun h0 (some (.int x)) fin 13 [(0, .ref a0), (1, .int x1)] [] h := by
  intro a0 x1 h hd
  exact step E (is := I_X7_mayRun_13) (pc := 13) (K := (kx 24 (fun la st h => gR la 0 fun a0 => sE st (p_X7_mayRun_24 a0 h)) (kx 30 (fun la st h => gR la 0 fun a0 => sE st (p_X7_mayRun_30 a0 h)) k0))) (FI := FI_X7_mayRun) (FV := fV0) (FL := fL0) (rt := rtZ) (ft := 24) (by exact hd) ok_X7_mayRun_13 (kx_ok (fun la st h e => by obtain ⟨a0, m_a0, e1⟩ := gR_inv e; obtain ⟨rfl, ez⟩ := sE_inv e1; exact gm_fewer (e_X7_mayRun_24 E  a0 h ez) (mem_cons m_a0 mem_nil)) (kx_ok (fun la st h e => by obtain ⟨a0, m_a0, e1⟩ := gR_inv e; obtain ⟨rfl, ez⟩ := sE_inv e1; exact gm_fewer (e_X7_mayRun_30 E  a0 h ez) (mem_cons m_a0 mem_nil)) k0_ok)) (FI_X7_mayRun_ok E) (fV0_ok E) (fL0_ok E) (rtZ_ok rfl)
def I_X7_mayRun_0 : List AI := [(.aload_n 0, 1, [], 0), (.getfield 107, 3, [6, 3, 3, 357], 0), (.ifCond .ne 9, 3, [13], 0), (.aload_n 0, 1, [], 0), (.iconst 1, 1, [], 1), (.invokevirtual 294, 3, [1, 121, 2, 6, 930], 0), (.ireturn, 1, [], 0)]
theorem ok_X7_mayRun_0 : vBL MT qLen qCh false q_X7_mayRun.2.2.2.2.1 q_X7_mayRun.2.2.2.2.2.1 q_X7_mayRun.2.2.1 q_X7_mayRun.1.cls q_X7_mayRun.1.name q_X7_mayRun.2.1 0 0 I_X7_mayRun_0 = true := by decide +kernel
def p_X7_mayRun (a0 : Nat) (x1 : Int32) (h : AH) : Option (Int32 × AH) :=
  if (tg h a0).1 = 6 then (if (rI h a0 3) = 0 then (if (tg h a0).1 = 6 then ((p_X7_declines a0 ((1 : Int32)) h).bind fun q105 =>
  if q105.1 &&& 1 = q105.1 then some (q105.1, q105.2) else none) else none)
  else
  if x1 < ((3 : Int32)) then (p_X7_mayRun_24 a0 h)
  else
  if ((8 : Int32)) < x1 then (p_X7_mayRun_24 a0 h)
  else
  if (tg h a0).1 = 6 then ((p_X7_agrees a0 h).bind fun q104 =>
  if q104.1 &&& 1 = q104.1 then some (q104.1, q104.2) else none) else none) else none
set_option maxRecDepth 100000 in
theorem e_X7_mayRun_0 {l : Launch} {D : va_G} {dA : Nat → ClassId} {z : Nat} {sa : Nat → Nat} {Hz : Heap} (E : StrOK qLen qCh l D dA z sa Hz) {h0 fin : AH} {x : Int32}  : ∀ (a0 : Nat) (x1 : Int32) (h : AH), p_X7_mayRun a0 x1 h = some (x, fin) → GM l D dA z sa Hz q_X7_mayRun h0 (some (.int x)) fin 0 [(0, .ref a0), (1, .int x1)] [] h := by
  intro a0 x1 h hd
  exact step E (is := I_X7_mayRun_0) (pc := 0) (K := (kx 13 (fun la st h => gR la 0 fun a0 => gI la 1 fun x1 => sE st (p_X7_mayRun_13 a0 x1 h)) k0)) (FI := FI_X7_mayRun) (FV := fV0) (FL := fL0) (rt := rtZ) (ft := 0) (by exact hd) ok_X7_mayRun_0 (kx_ok (fun la st h e => by obtain ⟨a0, m_a0, e1⟩ := gR_inv e; obtain ⟨x1, m_x1, e2⟩ := gI_inv e1; obtain ⟨rfl, ez⟩ := sE_inv e2; exact gm_fewer (e_X7_mayRun_13 E  a0 x1 h ez) (mem_cons m_a0 (mem_cons m_x1 mem_nil))) k0_ok) (FI_X7_mayRun_ok E) (fV0_ok E) (fL0_ok E) (rtZ_ok rfl)
theorem c_X7_mayRun {l : Launch} {D : va_G} {dA : Nat → ClassId} {z : Nat} {sa : Nat → Nat} {Hz : Heap} (E : StrOK qLen qCh l D dA z sa Hz) {a0 : Nat} {x1 : Int32} {h fin : AH} {x : Int32} (hd : p_X7_mayRun a0 x1 h = some (x, fin)) : CalOK l D dA z sa Hz q_X7_mayRun [.ref a0, .int x1] h (some (.int x)) fin := calOf (by decide +kernel) (Nat.le_of_ble_eq_true rfl) (e_X7_mayRun_0 E a0 x1 h hd)
def I_X1_setMark_0 : List AI := [(.aload_n 0, 1, [], 0), (.dup, 1, [], 0), (.getfield 22, 3, [0, 3, 0, 192], 0), (.iconst 1, 1, [], 1), (.iload_n 1, 1, [], 0), (.ishl, 1, [], 0), (.ior, 1, [], 0), (.putfield 22, 3, [0, 3, 0, 192], 0), (.return_, 1, [], 0)]
theorem ok_X1_setMark_0 : vBL MT qLen qCh false q_X1_setMark.2.2.2.2.1 q_X1_setMark.2.2.2.2.2.1 q_X1_setMark.2.2.1 q_X1_setMark.1.cls q_X1_setMark.1.name q_X1_setMark.2.1 0 0 I_X1_setMark_0 = true := by decide +kernel
def p_X1_setMark (a0 : Nat) (x1 : Int32) (h : AH) : Option (AH) :=
  if (tg h a0).1 = 0 then (if (tg h a0).1 = 0 then (let h101 := wI h a0 3 ((rI h a0 3) ||| (((1 : Int32)) <<< (x1 &&& 31)))
  some h101) else none) else none
set_option maxRecDepth 100000 in
theorem e_X1_setMark_0 {l : Launch} {D : va_G} {dA : Nat → ClassId} {z : Nat} {sa : Nat → Nat} {Hz : Heap} (E : StrOK qLen qCh l D dA z sa Hz) {h0 fin : AH}  : ∀ (a0 : Nat) (x1 : Int32) (h : AH), p_X1_setMark a0 x1 h = some fin → GM l D dA z sa Hz q_X1_setMark h0 none fin 0 [(0, .ref a0), (1, .int x1)] [] h := by
  intro a0 x1 h hd
  exact step E (is := I_X1_setMark_0) (pc := 0) (K := k0) (FI := fI0) (FV := fV0) (FL := fL0) (rt := rtV) (ft := 0) (by exact hd) ok_X1_setMark_0 k0_ok (fI0_ok E) (fV0_ok E) (fL0_ok E) (rtV_ok rfl)
theorem c_X1_setMark {l : Launch} {D : va_G} {dA : Nat → ClassId} {z : Nat} {sa : Nat → Nat} {Hz : Heap} (E : StrOK qLen qCh l D dA z sa Hz) {a0 : Nat} {x1 : Int32} {h fin : AH} (hd : p_X1_setMark a0 x1 h = some fin) : CalOK l D dA z sa Hz q_X1_setMark [.ref a0, .int x1] h none fin := calOf (by decide +kernel) (Nat.le_of_ble_eq_true rfl) (e_X1_setMark_0 E a0 x1 h hd)
