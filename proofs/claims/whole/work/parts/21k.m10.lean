/-! ===== methods 250 to 274 ===== -/
def FI_X9_isAsked : Nat → List Value → AH → Option (Int32 × AH) := (cx 249 (fun As h => sI As fun x0 As => sE As (p_X9_isPage x0 h)) fI0)
theorem FI_X9_isAsked_ok {l : Launch} {D : va_G} {dA : Nat → ClassId} {z : Nat} {sa : Nat → Nat} {Hz : Heap} (E : StrOK qLen qCh l D dA z sa Hz) : ∀ mi As h x h', FI_X9_isAsked mi As h = some (x, h') → CalOK l D dA z sa Hz (MT mi) As h (some (.int x)) h' := (cxI_ok (fun As h x h2 e => by obtain ⟨_, _, rfl, e0⟩ := sI_inv e; obtain ⟨rfl, ez⟩ := sE_inv e0; exact c_X9_isPage E ez) (fI0_ok E))
def I_X9_isAsked_19 : List AI := [(.ireturn, 1, [], 0)]
theorem ok_X9_isAsked_19 : vBL MT qLen qCh false q_X9_isAsked.2.2.2.2.1 q_X9_isAsked.2.2.2.2.2.1 q_X9_isAsked.2.2.1 q_X9_isAsked.1.cls q_X9_isAsked.1.name q_X9_isAsked.2.1 0 19 I_X9_isAsked_19 = true := by decide +kernel
def p_X9_isAsked_19 (y0 : Int32) (h : AH) : Option (Int32 × AH) :=
  if y0 &&& 1 = y0 then some (y0, h) else none
set_option maxRecDepth 100000 in
theorem e_X9_isAsked_19 {l : Launch} {D : va_G} {dA : Nat → ClassId} {z : Nat} {sa : Nat → Nat} {Hz : Heap} (E : StrOK qLen qCh l D dA z sa Hz) {h0 fin : AH} {x : Int32}  : ∀ (y0 : Int32) (h : AH), p_X9_isAsked_19 y0 h = some (x, fin) → GM l D dA z sa Hz q_X9_isAsked h0 (some (.int x)) fin 19 [] [.int y0] h := by
  intro y0 h hd
  exact step E (is := I_X9_isAsked_19) (pc := 19) (K := k0) (FI := FI_X9_isAsked) (FV := fV0) (FL := fL0) (rt := rtZ) (ft := 0) (by exact hd) ok_X9_isAsked_19 k0_ok (FI_X9_isAsked_ok E) (fV0_ok E) (fL0_ok E) (rtZ_ok rfl)
def I_X9_isAsked_18 : List AI := [(.iconst 0, 1, [], 0)]
theorem ok_X9_isAsked_18 : vBL MT qLen qCh false q_X9_isAsked.2.2.2.2.1 q_X9_isAsked.2.2.2.2.2.1 q_X9_isAsked.2.2.1 q_X9_isAsked.1.cls q_X9_isAsked.1.name q_X9_isAsked.2.1 19 18 I_X9_isAsked_18 = true := by decide +kernel
def p_X9_isAsked_18 (h : AH) : Option (Int32 × AH) :=
  p_X9_isAsked_19 ((0 : Int32)) h
set_option maxRecDepth 100000 in
theorem e_X9_isAsked_18 {l : Launch} {D : va_G} {dA : Nat → ClassId} {z : Nat} {sa : Nat → Nat} {Hz : Heap} (E : StrOK qLen qCh l D dA z sa Hz) {h0 fin : AH} {x : Int32}  : ∀  (h : AH), p_X9_isAsked_18 h = some (x, fin) → GM l D dA z sa Hz q_X9_isAsked h0 (some (.int x)) fin 18 [] [] h := by
  intro h hd
  exact step E (is := I_X9_isAsked_18) (pc := 18) (K := (kx 19 (fun la st h => sI st fun y0 st => sE st (p_X9_isAsked_19 y0 h)) k0)) (FI := FI_X9_isAsked) (FV := fV0) (FL := fL0) (rt := rtZ) (ft := 19) (by exact hd) ok_X9_isAsked_18 (kx_ok (fun la st h e => by obtain ⟨y0, _, rfl, e1⟩ := sI_inv e; obtain ⟨rfl, ez⟩ := sE_inv e1; exact gm_fewer (e_X9_isAsked_19 E  y0 h ez) mem_nil) k0_ok) (FI_X9_isAsked_ok E) (fV0_ok E) (fL0_ok E) (rtZ_ok rfl)
def I_X9_isAsked_0 : List AI := [(.aload_n 0, 1, [], 0), (.getfield 265, 3, [8, 3, 2, 1348], 0), (.ifnull 14, 3, [18], 0), (.iload_n 1, 1, [], 0), (.invokestatic 401, 3, [1, 249, 1, 1760], 0), (.ifCond .eq 7, 3, [18], 0), (.iconst 1, 1, [], 1), (.goto 4, 3, [19], 0)]
theorem ok_X9_isAsked_0 : vBL MT qLen qCh false q_X9_isAsked.2.2.2.2.1 q_X9_isAsked.2.2.2.2.2.1 q_X9_isAsked.2.2.1 q_X9_isAsked.1.cls q_X9_isAsked.1.name q_X9_isAsked.2.1 0 0 I_X9_isAsked_0 = true := by decide +kernel
def p_X9_isAsked (a0 : Nat) (x1 : Int32) (h : AH) : Option (Int32 × AH) :=
  if (tg h a0).1 = 8 then (if (rR h a0 3) = 0 then (p_X9_isAsked_18 h)
  else
  (p_X9_isPage x1 h).bind fun q101 =>
  if q101.1 = 0 then (p_X9_isAsked_18 q101.2)
  else
  p_X9_isAsked_19 ((1 : Int32)) q101.2) else none
set_option maxRecDepth 100000 in
theorem e_X9_isAsked_0 {l : Launch} {D : va_G} {dA : Nat → ClassId} {z : Nat} {sa : Nat → Nat} {Hz : Heap} (E : StrOK qLen qCh l D dA z sa Hz) {h0 fin : AH} {x : Int32}  : ∀ (a0 : Nat) (x1 : Int32) (h : AH), p_X9_isAsked a0 x1 h = some (x, fin) → GM l D dA z sa Hz q_X9_isAsked h0 (some (.int x)) fin 0 [(0, .ref a0), (1, .int x1)] [] h := by
  intro a0 x1 h hd
  exact step E (is := I_X9_isAsked_0) (pc := 0) (K := (kx 18 (fun la st h => sE st (p_X9_isAsked_18 h)) (kx 19 (fun la st h => sI st fun y0 st => sE st (p_X9_isAsked_19 y0 h)) k0))) (FI := FI_X9_isAsked) (FV := fV0) (FL := fL0) (rt := rtZ) (ft := 0) (by exact hd) ok_X9_isAsked_0 (kx_ok (fun la st h e => by obtain ⟨rfl, ez⟩ := sE_inv e; exact gm_fewer (e_X9_isAsked_18 E   h ez) mem_nil) (kx_ok (fun la st h e => by obtain ⟨y0, _, rfl, e1⟩ := sI_inv e; obtain ⟨rfl, ez⟩ := sE_inv e1; exact gm_fewer (e_X9_isAsked_19 E  y0 h ez) mem_nil) k0_ok)) (FI_X9_isAsked_ok E) (fV0_ok E) (fL0_ok E) (rtZ_ok rfl)
theorem c_X9_isAsked {l : Launch} {D : va_G} {dA : Nat → ClassId} {z : Nat} {sa : Nat → Nat} {Hz : Heap} (E : StrOK qLen qCh l D dA z sa Hz) {a0 : Nat} {x1 : Int32} {h fin : AH} {x : Int32} (hd : p_X9_isAsked a0 x1 h = some (x, fin)) : CalOK l D dA z sa Hz q_X9_isAsked [.ref a0, .int x1] h (some (.int x)) fin := calOf (by decide +kernel) (Nat.le_of_ble_eq_true rfl) (e_X9_isAsked_0 E a0 x1 h hd)
def I_X9_rootWord_0 : List AI := [(.aload_n 0, 1, [], 0), (.getfield 21, 3, [8, 16, 2, 1361], 0), (.bipush 8, 2, [], 8), (.aload_n 0, 1, [], 0), (.getfield 21, 3, [8, 16, 2, 1361], 0), (.sipush 146, 3, [], 146), (.iaload, 1, [], 0), (.imul, 1, [], 0), (.iload_n 1, 1, [], 0), (.bipush 8, 2, [], 8), (.idiv, 1, [], 0), (.iadd, 1, [], 0), (.iaload, 1, [], 0), (.ireturn, 1, [], 0)]
theorem ok_X9_rootWord_0 : vBL MT qLen qCh false q_X9_rootWord.2.2.2.2.1 q_X9_rootWord.2.2.2.2.2.1 q_X9_rootWord.2.2.1 q_X9_rootWord.1.cls q_X9_rootWord.1.name q_X9_rootWord.2.1 0 0 I_X9_rootWord_0 = true := by decide +kernel
def p_X9_rootWord (a0 : Nat) (x1 : Int32) (h : AH) : Option (Int32 × AH) :=
  if (tg h a0).1 = 8 then (if (tg h a0).1 = 8 then (if inB h (rR h a0 16) 100 ((146 : Int32)) then (if ((8 : Int32)) = 0 then none else
  if inB h (rR h a0 16) 100 ((((8 : Int32)) * (rI h (rR h a0 16) ((146 : Int32)).toNatClampNeg)) + (x1 / ((8 : Int32)))) then (some ((rI h (rR h a0 16) ((((8 : Int32)) * (rI h (rR h a0 16) ((146 : Int32)).toNatClampNeg)) + (x1 / ((8 : Int32)))).toNatClampNeg), h)) else none) else none) else none) else none
set_option maxRecDepth 100000 in
theorem e_X9_rootWord_0 {l : Launch} {D : va_G} {dA : Nat → ClassId} {z : Nat} {sa : Nat → Nat} {Hz : Heap} (E : StrOK qLen qCh l D dA z sa Hz) {h0 fin : AH} {x : Int32}  : ∀ (a0 : Nat) (x1 : Int32) (h : AH), p_X9_rootWord a0 x1 h = some (x, fin) → GM l D dA z sa Hz q_X9_rootWord h0 (some (.int x)) fin 0 [(0, .ref a0), (1, .int x1)] [] h := by
  intro a0 x1 h hd
  exact step E (is := I_X9_rootWord_0) (pc := 0) (K := k0) (FI := fI0) (FV := fV0) (FL := fL0) (rt := rtI) (ft := 0) (by exact hd) ok_X9_rootWord_0 k0_ok (fI0_ok E) (fV0_ok E) (fL0_ok E) (rtI_ok rfl)
theorem c_X9_rootWord {l : Launch} {D : va_G} {dA : Nat → ClassId} {z : Nat} {sa : Nat → Nat} {Hz : Heap} (E : StrOK qLen qCh l D dA z sa Hz) {a0 : Nat} {x1 : Int32} {h fin : AH} {x : Int32} (hd : p_X9_rootWord a0 x1 h = some (x, fin)) : CalOK l D dA z sa Hz q_X9_rootWord [.ref a0, .int x1] h (some (.int x)) fin := calOf (by decide +kernel) (Nat.le_of_ble_eq_true rfl) (e_X9_rootWord_0 E a0 x1 h hd)
def FI_X9_lets : Nat → List Value → AH → Option (Int32 × AH) := (cx 247 (fun As h => sI As fun x0 As => sI As fun x1 As => sE As (p_X9_has x0 x1 h)) fI0)
theorem FI_X9_lets_ok {l : Launch} {D : va_G} {dA : Nat → ClassId} {z : Nat} {sa : Nat → Nat} {Hz : Heap} (E : StrOK qLen qCh l D dA z sa Hz) : ∀ mi As h x h', FI_X9_lets mi As h = some (x, h') → CalOK l D dA z sa Hz (MT mi) As h (some (.int x)) h' := (cxI_ok (fun As h x h2 e => by obtain ⟨_, _, rfl, e0⟩ := sI_inv e; obtain ⟨_, _, rfl, e1⟩ := sI_inv e0; obtain ⟨rfl, ez⟩ := sE_inv e1; exact c_X9_has E ez) (fI0_ok E))
def I_X9_lets_29 : List AI := [(.ireturn, 1, [], 0)]
theorem ok_X9_lets_29 : vBL MT qLen qCh false q_X9_lets.2.2.2.2.1 q_X9_lets.2.2.2.2.2.1 q_X9_lets.2.2.1 q_X9_lets.1.cls q_X9_lets.1.name q_X9_lets.2.1 0 29 I_X9_lets_29 = true := by decide +kernel
def p_X9_lets_29 (y0 : Int32) (h : AH) : Option (Int32 × AH) :=
  if y0 &&& 1 = y0 then some (y0, h) else none
set_option maxRecDepth 100000 in
theorem e_X9_lets_29 {l : Launch} {D : va_G} {dA : Nat → ClassId} {z : Nat} {sa : Nat → Nat} {Hz : Heap} (E : StrOK qLen qCh l D dA z sa Hz) {h0 fin : AH} {x : Int32}  : ∀ (y0 : Int32) (h : AH), p_X9_lets_29 y0 h = some (x, fin) → GM l D dA z sa Hz q_X9_lets h0 (some (.int x)) fin 29 [] [.int y0] h := by
  intro y0 h hd
  exact step E (is := I_X9_lets_29) (pc := 29) (K := k0) (FI := FI_X9_lets) (FV := fV0) (FL := fL0) (rt := rtZ) (ft := 0) (by exact hd) ok_X9_lets_29 k0_ok (FI_X9_lets_ok E) (fV0_ok E) (fL0_ok E) (rtZ_ok rfl)
def I_X9_lets_24 : List AI := [(.iconst 1, 1, [], 1), (.goto 4, 3, [29], 0)]
theorem ok_X9_lets_24 : vBL MT qLen qCh false q_X9_lets.2.2.2.2.1 q_X9_lets.2.2.2.2.2.1 q_X9_lets.2.2.1 q_X9_lets.1.cls q_X9_lets.1.name q_X9_lets.2.1 0 24 I_X9_lets_24 = true := by decide +kernel
def p_X9_lets_24 (h : AH) : Option (Int32 × AH) :=
  p_X9_lets_29 ((1 : Int32)) h
set_option maxRecDepth 100000 in
theorem e_X9_lets_24 {l : Launch} {D : va_G} {dA : Nat → ClassId} {z : Nat} {sa : Nat → Nat} {Hz : Heap} (E : StrOK qLen qCh l D dA z sa Hz) {h0 fin : AH} {x : Int32}  : ∀  (h : AH), p_X9_lets_24 h = some (x, fin) → GM l D dA z sa Hz q_X9_lets h0 (some (.int x)) fin 24 [] [] h := by
  intro h hd
  exact step E (is := I_X9_lets_24) (pc := 24) (K := (kx 29 (fun la st h => sI st fun y0 st => sE st (p_X9_lets_29 y0 h)) k0)) (FI := FI_X9_lets) (FV := fV0) (FL := fL0) (rt := rtZ) (ft := 0) (by exact hd) ok_X9_lets_24 (kx_ok (fun la st h e => by obtain ⟨y0, _, rfl, e1⟩ := sI_inv e; obtain ⟨rfl, ez⟩ := sE_inv e1; exact gm_fewer (e_X9_lets_29 E  y0 h ez) mem_nil) k0_ok) (FI_X9_lets_ok E) (fV0_ok E) (fL0_ok E) (rtZ_ok rfl)
def I_X9_lets_28 : List AI := [(.iconst 0, 1, [], 0)]
theorem ok_X9_lets_28 : vBL MT qLen qCh false q_X9_lets.2.2.2.2.1 q_X9_lets.2.2.2.2.2.1 q_X9_lets.2.2.1 q_X9_lets.1.cls q_X9_lets.1.name q_X9_lets.2.1 29 28 I_X9_lets_28 = true := by decide +kernel
def p_X9_lets_28 (h : AH) : Option (Int32 × AH) :=
  p_X9_lets_29 ((0 : Int32)) h
set_option maxRecDepth 100000 in
theorem e_X9_lets_28 {l : Launch} {D : va_G} {dA : Nat → ClassId} {z : Nat} {sa : Nat → Nat} {Hz : Heap} (E : StrOK qLen qCh l D dA z sa Hz) {h0 fin : AH} {x : Int32}  : ∀  (h : AH), p_X9_lets_28 h = some (x, fin) → GM l D dA z sa Hz q_X9_lets h0 (some (.int x)) fin 28 [] [] h := by
  intro h hd
  exact step E (is := I_X9_lets_28) (pc := 28) (K := (kx 29 (fun la st h => sI st fun y0 st => sE st (p_X9_lets_29 y0 h)) k0)) (FI := FI_X9_lets) (FV := fV0) (FL := fL0) (rt := rtZ) (ft := 29) (by exact hd) ok_X9_lets_28 (kx_ok (fun la st h e => by obtain ⟨y0, _, rfl, e1⟩ := sI_inv e; obtain ⟨rfl, ez⟩ := sE_inv e1; exact gm_fewer (e_X9_lets_29 E  y0 h ez) mem_nil) k0_ok) (FI_X9_lets_ok E) (fV0_ok E) (fL0_ok E) (rtZ_ok rfl)
def I_X9_lets_12 : List AI := [(.iload_n 2, 1, [], 0), (.ifCond .eq 11, 3, [24], 0), (.iload_n 0, 1, [], 0), (.iconst 4, 1, [], 4), (.invokestatic 316, 3, [1, 247, 2, 1749], 0), (.ifCond .eq 7, 3, [28], 0)]
theorem ok_X9_lets_12 : vBL MT qLen qCh false q_X9_lets.2.2.2.2.1 q_X9_lets.2.2.2.2.2.1 q_X9_lets.2.2.1 q_X9_lets.1.cls q_X9_lets.1.name q_X9_lets.2.1 24 12 I_X9_lets_12 = true := by decide +kernel
def p_X9_lets_12 (x0 : Int32) (x2 : Int32) (h : AH) : Option (Int32 × AH) :=
  if x2 = 0 then (p_X9_lets_24 h)
  else
  (p_X9_has x0 ((4 : Int32)) h).bind fun q101 =>
  if q101.1 = 0 then (p_X9_lets_28 q101.2)
  else
  p_X9_lets_24 q101.2
set_option maxRecDepth 100000 in
theorem e_X9_lets_12 {l : Launch} {D : va_G} {dA : Nat → ClassId} {z : Nat} {sa : Nat → Nat} {Hz : Heap} (E : StrOK qLen qCh l D dA z sa Hz) {h0 fin : AH} {x : Int32}  : ∀ (x0 : Int32) (x2 : Int32) (h : AH), p_X9_lets_12 x0 x2 h = some (x, fin) → GM l D dA z sa Hz q_X9_lets h0 (some (.int x)) fin 12 [(0, .int x0), (2, .int x2)] [] h := by
  intro x0 x2 h hd
  exact step E (is := I_X9_lets_12) (pc := 12) (K := (kx 24 (fun la st h => sE st (p_X9_lets_24 h)) (kx 28 (fun la st h => sE st (p_X9_lets_28 h)) k0))) (FI := FI_X9_lets) (FV := fV0) (FL := fL0) (rt := rtZ) (ft := 24) (by exact hd) ok_X9_lets_12 (kx_ok (fun la st h e => by obtain ⟨rfl, ez⟩ := sE_inv e; exact gm_fewer (e_X9_lets_24 E   h ez) mem_nil) (kx_ok (fun la st h e => by obtain ⟨rfl, ez⟩ := sE_inv e; exact gm_fewer (e_X9_lets_28 E   h ez) mem_nil) k0_ok)) (FI_X9_lets_ok E) (fV0_ok E) (fL0_ok E) (rtZ_ok rfl)
def I_X9_lets_0 : List AI := [(.iload_n 1, 1, [], 0), (.ifCond .eq 11, 3, [12], 0), (.iload_n 0, 1, [], 0), (.iconst 2, 1, [], 2), (.invokestatic 316, 3, [1, 247, 2, 1749], 0), (.ifCond .eq 19, 3, [28], 0)]
theorem ok_X9_lets_0 : vBL MT qLen qCh false q_X9_lets.2.2.2.2.1 q_X9_lets.2.2.2.2.2.1 q_X9_lets.2.2.1 q_X9_lets.1.cls q_X9_lets.1.name q_X9_lets.2.1 12 0 I_X9_lets_0 = true := by decide +kernel
def p_X9_lets (x0 : Int32) (x1 : Int32) (x2 : Int32) (h : AH) : Option (Int32 × AH) :=
  if x1 = 0 then (p_X9_lets_12 x0 x2 h)
  else
  (p_X9_has x0 ((2 : Int32)) h).bind fun q102 =>
  if q102.1 = 0 then (p_X9_lets_28 q102.2)
  else
  p_X9_lets_12 x0 x2 q102.2
set_option maxRecDepth 100000 in
theorem e_X9_lets_0 {l : Launch} {D : va_G} {dA : Nat → ClassId} {z : Nat} {sa : Nat → Nat} {Hz : Heap} (E : StrOK qLen qCh l D dA z sa Hz) {h0 fin : AH} {x : Int32}  : ∀ (x0 : Int32) (x1 : Int32) (x2 : Int32) (h : AH), p_X9_lets x0 x1 x2 h = some (x, fin) → GM l D dA z sa Hz q_X9_lets h0 (some (.int x)) fin 0 [(0, .int x0), (1, .int x1), (2, .int x2)] [] h := by
  intro x0 x1 x2 h hd
  exact step E (is := I_X9_lets_0) (pc := 0) (K := (kx 12 (fun la st h => gI la 0 fun x0 => gI la 2 fun x2 => sE st (p_X9_lets_12 x0 x2 h)) (kx 28 (fun la st h => sE st (p_X9_lets_28 h)) k0))) (FI := FI_X9_lets) (FV := fV0) (FL := fL0) (rt := rtZ) (ft := 12) (by exact hd) ok_X9_lets_0 (kx_ok (fun la st h e => by obtain ⟨x0, m_x0, e1⟩ := gI_inv e; obtain ⟨x2, m_x2, e2⟩ := gI_inv e1; obtain ⟨rfl, ez⟩ := sE_inv e2; exact gm_fewer (e_X9_lets_12 E  x0 x2 h ez) (mem_cons m_x0 (mem_cons m_x2 mem_nil))) (kx_ok (fun la st h e => by obtain ⟨rfl, ez⟩ := sE_inv e; exact gm_fewer (e_X9_lets_28 E   h ez) mem_nil) k0_ok)) (FI_X9_lets_ok E) (fV0_ok E) (fL0_ok E) (rtZ_ok rfl)
theorem c_X9_lets {l : Launch} {D : va_G} {dA : Nat → ClassId} {z : Nat} {sa : Nat → Nat} {Hz : Heap} (E : StrOK qLen qCh l D dA z sa Hz) {x0 : Int32} {x1 : Int32} {x2 : Int32} {h fin : AH} {x : Int32} (hd : p_X9_lets x0 x1 x2 h = some (x, fin)) : CalOK l D dA z sa Hz q_X9_lets [.int x0, .int x1, .int x2] h (some (.int x)) fin := calOf (by decide +kernel) (Nat.le_of_ble_eq_true rfl) (e_X9_lets_0 E x0 x1 x2 h hd)
def FI_X9_isLarge : Nat → List Value → AH → Option (Int32 × AH) := (cx 247 (fun As h => sI As fun x0 As => sI As fun x1 As => sE As (p_X9_has x0 x1 h)) fI0)
theorem FI_X9_isLarge_ok {l : Launch} {D : va_G} {dA : Nat → ClassId} {z : Nat} {sa : Nat → Nat} {Hz : Heap} (E : StrOK qLen qCh l D dA z sa Hz) : ∀ mi As h x h', FI_X9_isLarge mi As h = some (x, h') → CalOK l D dA z sa Hz (MT mi) As h (some (.int x)) h' := (cxI_ok (fun As h x h2 e => by obtain ⟨_, _, rfl, e0⟩ := sI_inv e; obtain ⟨_, _, rfl, e1⟩ := sI_inv e0; obtain ⟨rfl, ez⟩ := sE_inv e1; exact c_X9_has E ez) (fI0_ok E))
def I_X9_isLarge_0 : List AI := [(.iload_n 0, 1, [], 0), (.bipush 32, 2, [], 32), (.invokestatic 316, 3, [1, 247, 2, 1749], 0), (.ireturn, 1, [], 0)]
theorem ok_X9_isLarge_0 : vBL MT qLen qCh false q_X9_isLarge.2.2.2.2.1 q_X9_isLarge.2.2.2.2.2.1 q_X9_isLarge.2.2.1 q_X9_isLarge.1.cls q_X9_isLarge.1.name q_X9_isLarge.2.1 0 0 I_X9_isLarge_0 = true := by decide +kernel
def p_X9_isLarge (x0 : Int32) (h : AH) : Option (Int32 × AH) :=
  (p_X9_has x0 ((32 : Int32)) h).bind fun q101 =>
  if q101.1 &&& 1 = q101.1 then some (q101.1, q101.2) else none
set_option maxRecDepth 100000 in
theorem e_X9_isLarge_0 {l : Launch} {D : va_G} {dA : Nat → ClassId} {z : Nat} {sa : Nat → Nat} {Hz : Heap} (E : StrOK qLen qCh l D dA z sa Hz) {h0 fin : AH} {x : Int32}  : ∀ (x0 : Int32) (h : AH), p_X9_isLarge x0 h = some (x, fin) → GM l D dA z sa Hz q_X9_isLarge h0 (some (.int x)) fin 0 [(0, .int x0)] [] h := by
  intro x0 h hd
  exact step E (is := I_X9_isLarge_0) (pc := 0) (K := k0) (FI := FI_X9_isLarge) (FV := fV0) (FL := fL0) (rt := rtZ) (ft := 0) (by exact hd) ok_X9_isLarge_0 k0_ok (FI_X9_isLarge_ok E) (fV0_ok E) (fL0_ok E) (rtZ_ok rfl)
theorem c_X9_isLarge {l : Launch} {D : va_G} {dA : Nat → ClassId} {z : Nat} {sa : Nat → Nat} {Hz : Heap} (E : StrOK qLen qCh l D dA z sa Hz) {x0 : Int32} {h fin : AH} {x : Int32} (hd : p_X9_isLarge x0 h = some (x, fin)) : CalOK l D dA z sa Hz q_X9_isLarge [.int x0] h (some (.int x)) fin := calOf (by decide +kernel) (Nat.le_of_ble_eq_true rfl) (e_X9_isLarge_0 E x0 h hd)
def I_X9_tells_0 : List AI := [(.iload_n 0, 1, [], 0), (.sipush 256, 3, [], 256), (.idiv, 1, [], 0), (.ireturn, 1, [], 0)]
theorem ok_X9_tells_0 : vBL MT qLen qCh false q_X9_tells.2.2.2.2.1 q_X9_tells.2.2.2.2.2.1 q_X9_tells.2.2.1 q_X9_tells.1.cls q_X9_tells.1.name q_X9_tells.2.1 0 0 I_X9_tells_0 = true := by decide +kernel
def p_X9_tells (x0 : Int32) (h : AH) : Option (Int32 × AH) :=
  if ((256 : Int32)) = 0 then none else
  some ((x0 / ((256 : Int32))), h)
set_option maxRecDepth 100000 in
theorem e_X9_tells_0 {l : Launch} {D : va_G} {dA : Nat → ClassId} {z : Nat} {sa : Nat → Nat} {Hz : Heap} (E : StrOK qLen qCh l D dA z sa Hz) {h0 fin : AH} {x : Int32}  : ∀ (x0 : Int32) (h : AH), p_X9_tells x0 h = some (x, fin) → GM l D dA z sa Hz q_X9_tells h0 (some (.int x)) fin 0 [(0, .int x0)] [] h := by
  intro x0 h hd
  exact step E (is := I_X9_tells_0) (pc := 0) (K := k0) (FI := fI0) (FV := fV0) (FL := fL0) (rt := rtI) (ft := 0) (by exact hd) ok_X9_tells_0 k0_ok (fI0_ok E) (fV0_ok E) (fL0_ok E) (rtI_ok rfl)
theorem c_X9_tells {l : Launch} {D : va_G} {dA : Nat → ClassId} {z : Nat} {sa : Nat → Nat} {Hz : Heap} (E : StrOK qLen qCh l D dA z sa Hz) {x0 : Int32} {h fin : AH} {x : Int32} (hd : p_X9_tells x0 h = some (x, fin)) : CalOK l D dA z sa Hz q_X9_tells [.int x0] h (some (.int x)) fin := calOf (by decide +kernel) (Nat.le_of_ble_eq_true rfl) (e_X9_tells_0 E x0 h hd)
def FI_X9_otherWord : Nat → List Value → AH → Option (Int32 × AH) := (cx 251 (fun As h => sR As fun a0 As => sI As fun x1 As => sE As (p_X9_rootWord a0 x1 h)) (cx 254 (fun As h => sI As fun x0 As => sE As (p_X9_tells x0 h)) fI0))
theorem FI_X9_otherWord_ok {l : Launch} {D : va_G} {dA : Nat → ClassId} {z : Nat} {sa : Nat → Nat} {Hz : Heap} (E : StrOK qLen qCh l D dA z sa Hz) : ∀ mi As h x h', FI_X9_otherWord mi As h = some (x, h') → CalOK l D dA z sa Hz (MT mi) As h (some (.int x)) h' := (cxI_ok (fun As h x h2 e => by obtain ⟨_, _, rfl, e0⟩ := sR_inv e; obtain ⟨_, _, rfl, e1⟩ := sI_inv e0; obtain ⟨rfl, ez⟩ := sE_inv e1; exact c_X9_rootWord E ez) ((cxI_ok (fun As h x h2 e => by obtain ⟨_, _, rfl, e0⟩ := sI_inv e; obtain ⟨rfl, ez⟩ := sE_inv e0; exact c_X9_tells E ez) (fI0_ok E))))
def I_X9_otherWord_0 : List AI := [(.aload_n 0, 1, [], 0), (.getfield 21, 3, [8, 16, 2, 1361], 0), (.bipush 8, 2, [], 8), (.aload_n 0, 1, [], 0), (.iload_n 1, 1, [], 0), (.invokevirtual 322, 3, [1, 251, 2, 8, 1767], 0), (.invokestatic 319, 3, [1, 254, 1, 1781], 0), (.imul, 1, [], 0), (.iload_n 1, 1, [], 0), (.bipush 8, 2, [], 8), (.irem, 1, [], 0), (.iadd, 1, [], 0), (.iaload, 1, [], 0), (.ireturn, 1, [], 0)]
theorem ok_X9_otherWord_0 : vBL MT qLen qCh false q_X9_otherWord.2.2.2.2.1 q_X9_otherWord.2.2.2.2.2.1 q_X9_otherWord.2.2.1 q_X9_otherWord.1.cls q_X9_otherWord.1.name q_X9_otherWord.2.1 0 0 I_X9_otherWord_0 = true := by decide +kernel
def p_X9_otherWord (a0 : Nat) (x1 : Int32) (h : AH) : Option (Int32 × AH) :=
  if (tg h a0).1 = 8 then (if (tg h a0).1 = 8 then ((p_X9_rootWord a0 x1 h).bind fun q101 =>
  (p_X9_tells q101.1 q101.2).bind fun q102 =>
  if ((8 : Int32)) = 0 then none else
  if inB q102.2 (rR h a0 16) 100 ((((8 : Int32)) * q102.1) + (irm x1 ((8 : Int32)))) then (some ((rI q102.2 (rR h a0 16) ((((8 : Int32)) * q102.1) + (irm x1 ((8 : Int32)))).toNatClampNeg), q102.2)) else none) else none) else none
set_option maxRecDepth 100000 in
theorem e_X9_otherWord_0 {l : Launch} {D : va_G} {dA : Nat → ClassId} {z : Nat} {sa : Nat → Nat} {Hz : Heap} (E : StrOK qLen qCh l D dA z sa Hz) {h0 fin : AH} {x : Int32}  : ∀ (a0 : Nat) (x1 : Int32) (h : AH), p_X9_otherWord a0 x1 h = some (x, fin) → GM l D dA z sa Hz q_X9_otherWord h0 (some (.int x)) fin 0 [(0, .ref a0), (1, .int x1)] [] h := by
  intro a0 x1 h hd
  exact step E (is := I_X9_otherWord_0) (pc := 0) (K := k0) (FI := FI_X9_otherWord) (FV := fV0) (FL := fL0) (rt := rtI) (ft := 0) (by exact hd) ok_X9_otherWord_0 k0_ok (FI_X9_otherWord_ok E) (fV0_ok E) (fL0_ok E) (rtI_ok rfl)
theorem c_X9_otherWord {l : Launch} {D : va_G} {dA : Nat → ClassId} {z : Nat} {sa : Nat → Nat} {Hz : Heap} (E : StrOK qLen qCh l D dA z sa Hz) {a0 : Nat} {x1 : Int32} {h fin : AH} {x : Int32} (hd : p_X9_otherWord a0 x1 h = some (x, fin)) : CalOK l D dA z sa Hz q_X9_otherWord [.ref a0, .int x1] h (some (.int x)) fin := calOf (by decide +kernel) (Nat.le_of_ble_eq_true rfl) (e_X9_otherWord_0 E a0 x1 h hd)
def FI_X9_largeFrame : Nat → List Value → AH → Option (Int32 × AH) := (cx 254 (fun As h => sI As fun x0 As => sE As (p_X9_tells x0 h)) fI0)
theorem FI_X9_largeFrame_ok {l : Launch} {D : va_G} {dA : Nat → ClassId} {z : Nat} {sa : Nat → Nat} {Hz : Heap} (E : StrOK qLen qCh l D dA z sa Hz) : ∀ mi As h x h', FI_X9_largeFrame mi As h = some (x, h') → CalOK l D dA z sa Hz (MT mi) As h (some (.int x)) h' := (cxI_ok (fun As h x h2 e => by obtain ⟨_, _, rfl, e0⟩ := sI_inv e; obtain ⟨rfl, ez⟩ := sE_inv e0; exact c_X9_tells E ez) (fI0_ok E))
def I_X9_largeFrame_15 : List AI := [(.iload_n 1, 1, [], 0), (.bipush 8, 2, [], 8), (.irem, 1, [], 0), (.iadd, 1, [], 0), (.ireturn, 1, [], 0)]
theorem ok_X9_largeFrame_15 : vBL MT qLen qCh false q_X9_largeFrame.2.2.2.2.1 q_X9_largeFrame.2.2.2.2.2.1 q_X9_largeFrame.2.2.1 q_X9_largeFrame.1.cls q_X9_largeFrame.1.name q_X9_largeFrame.2.1 0 15 I_X9_largeFrame_15 = true := by decide +kernel
def p_X9_largeFrame_15 (x1 : Int32) (y0 : Int32) (h : AH) : Option (Int32 × AH) :=
  if ((8 : Int32)) = 0 then none else
  some ((y0 + (irm x1 ((8 : Int32)))), h)
set_option maxRecDepth 100000 in
theorem e_X9_largeFrame_15 {l : Launch} {D : va_G} {dA : Nat → ClassId} {z : Nat} {sa : Nat → Nat} {Hz : Heap} (E : StrOK qLen qCh l D dA z sa Hz) {h0 fin : AH} {x : Int32}  : ∀ (x1 : Int32) (y0 : Int32) (h : AH), p_X9_largeFrame_15 x1 y0 h = some (x, fin) → GM l D dA z sa Hz q_X9_largeFrame h0 (some (.int x)) fin 15 [(1, .int x1)] [.int y0] h := by
  intro x1 y0 h hd
  exact step E (is := I_X9_largeFrame_15) (pc := 15) (K := k0) (FI := FI_X9_largeFrame) (FV := fV0) (FL := fL0) (rt := rtI) (ft := 0) (by exact hd) ok_X9_largeFrame_15 k0_ok (FI_X9_largeFrame_ok E) (fV0_ok E) (fL0_ok E) (rtI_ok rfl)
def I_X9_largeFrame_13 : List AI := [(.bipush 8, 2, [], 8)]
theorem ok_X9_largeFrame_13 : vBL MT qLen qCh false q_X9_largeFrame.2.2.2.2.1 q_X9_largeFrame.2.2.2.2.2.1 q_X9_largeFrame.2.2.1 q_X9_largeFrame.1.cls q_X9_largeFrame.1.name q_X9_largeFrame.2.1 15 13 I_X9_largeFrame_13 = true := by decide +kernel
def p_X9_largeFrame_13 (x1 : Int32) (h : AH) : Option (Int32 × AH) :=
  p_X9_largeFrame_15 x1 ((8 : Int32)) h
set_option maxRecDepth 100000 in
theorem e_X9_largeFrame_13 {l : Launch} {D : va_G} {dA : Nat → ClassId} {z : Nat} {sa : Nat → Nat} {Hz : Heap} (E : StrOK qLen qCh l D dA z sa Hz) {h0 fin : AH} {x : Int32}  : ∀ (x1 : Int32) (h : AH), p_X9_largeFrame_13 x1 h = some (x, fin) → GM l D dA z sa Hz q_X9_largeFrame h0 (some (.int x)) fin 13 [(1, .int x1)] [] h := by
  intro x1 h hd
  exact step E (is := I_X9_largeFrame_13) (pc := 13) (K := (kx 15 (fun la st h => gI la 1 fun x1 => sI st fun y0 st => sE st (p_X9_largeFrame_15 x1 y0 h)) k0)) (FI := FI_X9_largeFrame) (FV := fV0) (FL := fL0) (rt := rtI) (ft := 15) (by exact hd) ok_X9_largeFrame_13 (kx_ok (fun la st h e => by obtain ⟨x1, m_x1, e1⟩ := gI_inv e; obtain ⟨y0, _, rfl, e2⟩ := sI_inv e1; obtain ⟨rfl, ez⟩ := sE_inv e2; exact gm_fewer (e_X9_largeFrame_15 E  x1 y0 h ez) (mem_cons m_x1 mem_nil)) k0_ok) (FI_X9_largeFrame_ok E) (fV0_ok E) (fL0_ok E) (rtI_ok rfl)
def I_X9_largeFrame_0 : List AI := [(.iload_n 0, 1, [], 0), (.invokestatic 319, 3, [1, 254, 1, 1781], 0), (.bipush 8, 2, [], 8), (.if_icmp .ge 7, 3, [13], 0), (.iconst 0, 1, [], 0), (.goto 5, 3, [15], 0)]
theorem ok_X9_largeFrame_0 : vBL MT qLen qCh false q_X9_largeFrame.2.2.2.2.1 q_X9_largeFrame.2.2.2.2.2.1 q_X9_largeFrame.2.2.1 q_X9_largeFrame.1.cls q_X9_largeFrame.1.name q_X9_largeFrame.2.1 0 0 I_X9_largeFrame_0 = true := by decide +kernel
def p_X9_largeFrame (x0 : Int32) (x1 : Int32) (h : AH) : Option (Int32 × AH) :=
  (p_X9_tells x0 h).bind fun q101 =>
  if q101.1 < ((8 : Int32)) then (p_X9_largeFrame_15 x1 ((0 : Int32)) q101.2)
  else
  p_X9_largeFrame_15 x1 ((8 : Int32)) q101.2
set_option maxRecDepth 100000 in
theorem e_X9_largeFrame_0 {l : Launch} {D : va_G} {dA : Nat → ClassId} {z : Nat} {sa : Nat → Nat} {Hz : Heap} (E : StrOK qLen qCh l D dA z sa Hz) {h0 fin : AH} {x : Int32}  : ∀ (x0 : Int32) (x1 : Int32) (h : AH), p_X9_largeFrame x0 x1 h = some (x, fin) → GM l D dA z sa Hz q_X9_largeFrame h0 (some (.int x)) fin 0 [(0, .int x0), (1, .int x1)] [] h := by
  intro x0 x1 h hd
  exact step E (is := I_X9_largeFrame_0) (pc := 0) (K := (kx 13 (fun la st h => gI la 1 fun x1 => sE st (p_X9_largeFrame_13 x1 h)) (kx 15 (fun la st h => gI la 1 fun x1 => sI st fun y0 st => sE st (p_X9_largeFrame_15 x1 y0 h)) k0))) (FI := FI_X9_largeFrame) (FV := fV0) (FL := fL0) (rt := rtI) (ft := 0) (by exact hd) ok_X9_largeFrame_0 (kx_ok (fun la st h e => by obtain ⟨x1, m_x1, e1⟩ := gI_inv e; obtain ⟨rfl, ez⟩ := sE_inv e1; exact gm_fewer (e_X9_largeFrame_13 E  x1 h ez) (mem_cons m_x1 mem_nil)) (kx_ok (fun la st h e => by obtain ⟨x1, m_x1, e1⟩ := gI_inv e; obtain ⟨y0, _, rfl, e2⟩ := sI_inv e1; obtain ⟨rfl, ez⟩ := sE_inv e2; exact gm_fewer (e_X9_largeFrame_15 E  x1 y0 h ez) (mem_cons m_x1 mem_nil)) k0_ok)) (FI_X9_largeFrame_ok E) (fV0_ok E) (fL0_ok E) (rtI_ok rfl)
theorem c_X9_largeFrame {l : Launch} {D : va_G} {dA : Nat → ClassId} {z : Nat} {sa : Nat → Nat} {Hz : Heap} (E : StrOK qLen qCh l D dA z sa Hz) {x0 : Int32} {x1 : Int32} {h fin : AH} {x : Int32} (hd : p_X9_largeFrame x0 x1 h = some (x, fin)) : CalOK l D dA z sa Hz q_X9_largeFrame [.int x0, .int x1] h (some (.int x)) fin := calOf (by decide +kernel) (Nat.le_of_ble_eq_true rfl) (e_X9_largeFrame_0 E x0 x1 h hd)
def FI_X9_leadsTo : Nat → List Value → AH → Option (Int32 × AH) := (cx 251 (fun As h => sR As fun a0 As => sI As fun x1 As => sE As (p_X9_rootWord a0 x1 h)) (cx 247 (fun As h => sI As fun x0 As => sI As fun x1 As => sE As (p_X9_has x0 x1 h)) (cx 253 (fun As h => sI As fun x0 As => sE As (p_X9_isLarge x0 h)) (cx 256 (fun As h => sI As fun x0 As => sI As fun x1 As => sE As (p_X9_largeFrame x0 x1 h)) (cx 255 (fun As h => sR As fun a0 As => sI As fun x1 As => sE As (p_X9_otherWord a0 x1 h)) (cx 254 (fun As h => sI As fun x0 As => sE As (p_X9_tells x0 h)) fI0))))))
theorem FI_X9_leadsTo_ok {l : Launch} {D : va_G} {dA : Nat → ClassId} {z : Nat} {sa : Nat → Nat} {Hz : Heap} (E : StrOK qLen qCh l D dA z sa Hz) : ∀ mi As h x h', FI_X9_leadsTo mi As h = some (x, h') → CalOK l D dA z sa Hz (MT mi) As h (some (.int x)) h' := (cxI_ok (fun As h x h2 e => by obtain ⟨_, _, rfl, e0⟩ := sR_inv e; obtain ⟨_, _, rfl, e1⟩ := sI_inv e0; obtain ⟨rfl, ez⟩ := sE_inv e1; exact c_X9_rootWord E ez) ((cxI_ok (fun As h x h2 e => by obtain ⟨_, _, rfl, e0⟩ := sI_inv e; obtain ⟨_, _, rfl, e1⟩ := sI_inv e0; obtain ⟨rfl, ez⟩ := sE_inv e1; exact c_X9_has E ez) ((cxI_ok (fun As h x h2 e => by obtain ⟨_, _, rfl, e0⟩ := sI_inv e; obtain ⟨rfl, ez⟩ := sE_inv e0; exact c_X9_isLarge E ez) ((cxI_ok (fun As h x h2 e => by obtain ⟨_, _, rfl, e0⟩ := sI_inv e; obtain ⟨_, _, rfl, e1⟩ := sI_inv e0; obtain ⟨rfl, ez⟩ := sE_inv e1; exact c_X9_largeFrame E ez) ((cxI_ok (fun As h x h2 e => by obtain ⟨_, _, rfl, e0⟩ := sR_inv e; obtain ⟨_, _, rfl, e1⟩ := sI_inv e0; obtain ⟨rfl, ez⟩ := sE_inv e1; exact c_X9_otherWord E ez) ((cxI_ok (fun As h x h2 e => by obtain ⟨_, _, rfl, e0⟩ := sI_inv e; obtain ⟨rfl, ez⟩ := sE_inv e0; exact c_X9_tells E ez) (fI0_ok E))))))))))))
def I_X9_leadsTo_55 : List AI := [(.ireturn, 1, [], 0)]
theorem ok_X9_leadsTo_55 : vBL MT qLen qCh false q_X9_leadsTo.2.2.2.2.1 q_X9_leadsTo.2.2.2.2.2.1 q_X9_leadsTo.2.2.1 q_X9_leadsTo.1.cls q_X9_leadsTo.1.name q_X9_leadsTo.2.1 0 55 I_X9_leadsTo_55 = true := by decide +kernel
def p_X9_leadsTo_55 (y0 : Int32) (h : AH) : Option (Int32 × AH) :=
  some (y0, h)
set_option maxRecDepth 100000 in
theorem e_X9_leadsTo_55 {l : Launch} {D : va_G} {dA : Nat → ClassId} {z : Nat} {sa : Nat → Nat} {Hz : Heap} (E : StrOK qLen qCh l D dA z sa Hz) {h0 fin : AH} {x : Int32}  : ∀ (y0 : Int32) (h : AH), p_X9_leadsTo_55 y0 h = some (x, fin) → GM l D dA z sa Hz q_X9_leadsTo h0 (some (.int x)) fin 55 [] [.int y0] h := by
  intro y0 h hd
  exact step E (is := I_X9_leadsTo_55) (pc := 55) (K := k0) (FI := FI_X9_leadsTo) (FV := fV0) (FL := fL0) (rt := rtI) (ft := 0) (by exact hd) ok_X9_leadsTo_55 k0_ok (FI_X9_leadsTo_ok E) (fV0_ok E) (fL0_ok E) (rtI_ok rfl)
def I_X9_leadsTo_53 : List AI := [(.bipush (-2), 2, [], (-2))]
theorem ok_X9_leadsTo_53 : vBL MT qLen qCh false q_X9_leadsTo.2.2.2.2.1 q_X9_leadsTo.2.2.2.2.2.1 q_X9_leadsTo.2.2.1 q_X9_leadsTo.1.cls q_X9_leadsTo.1.name q_X9_leadsTo.2.1 55 53 I_X9_leadsTo_53 = true := by decide +kernel
def p_X9_leadsTo_53 (h : AH) : Option (Int32 × AH) :=
  p_X9_leadsTo_55 ((-2 : Int32)) h
set_option maxRecDepth 100000 in
theorem e_X9_leadsTo_53 {l : Launch} {D : va_G} {dA : Nat → ClassId} {z : Nat} {sa : Nat → Nat} {Hz : Heap} (E : StrOK qLen qCh l D dA z sa Hz) {h0 fin : AH} {x : Int32}  : ∀  (h : AH), p_X9_leadsTo_53 h = some (x, fin) → GM l D dA z sa Hz q_X9_leadsTo h0 (some (.int x)) fin 53 [] [] h := by
  intro h hd
  exact step E (is := I_X9_leadsTo_53) (pc := 53) (K := (kx 55 (fun la st h => sI st fun y0 st => sE st (p_X9_leadsTo_55 y0 h)) k0)) (FI := FI_X9_leadsTo) (FV := fV0) (FL := fL0) (rt := rtI) (ft := 55) (by exact hd) ok_X9_leadsTo_53 (kx_ok (fun la st h e => by obtain ⟨y0, _, rfl, e1⟩ := sI_inv e; obtain ⟨rfl, ez⟩ := sE_inv e1; exact gm_fewer (e_X9_leadsTo_55 E  y0 h ez) mem_nil) k0_ok) (FI_X9_leadsTo_ok E) (fV0_ok E) (fL0_ok E) (rtI_ok rfl)
def I_X9_leadsTo_30 : List AI := [(.aload_n 0, 1, [], 0), (.iload_n 1, 1, [], 0), (.invokevirtual 331, 3, [1, 255, 2, 8, 1777], 0), (.iconst 1, 1, [], 1), (.invokestatic 316, 3, [1, 247, 2, 1749], 0), (.ifCond .eq 14, 3, [53], 0), (.aload_n 0, 1, [], 0), (.iload_n 1, 1, [], 0), (.invokevirtual 331, 3, [1, 255, 2, 8, 1777], 0), (.invokestatic 319, 3, [1, 254, 1, 1781], 0), (.goto 5, 3, [55], 0)]
theorem ok_X9_leadsTo_30 : vBL MT qLen qCh false q_X9_leadsTo.2.2.2.2.1 q_X9_leadsTo.2.2.2.2.2.1 q_X9_leadsTo.2.2.1 q_X9_leadsTo.1.cls q_X9_leadsTo.1.name q_X9_leadsTo.2.1 0 30 I_X9_leadsTo_30 = true := by decide +kernel
def p_X9_leadsTo_30 (a0 : Nat) (x1 : Int32) (h : AH) : Option (Int32 × AH) :=
  if (tg h a0).1 = 8 then ((p_X9_otherWord a0 x1 h).bind fun q101 =>
  (p_X9_has q101.1 ((1 : Int32)) q101.2).bind fun q102 =>
  if q102.1 = 0 then (p_X9_leadsTo_55 ((-2 : Int32)) q102.2)
  else
  if (tg q102.2 a0).1 = 8 then ((p_X9_otherWord a0 x1 q102.2).bind fun q103 =>
  (p_X9_tells q103.1 q103.2).bind fun q104 =>
  p_X9_leadsTo_55 q104.1 q104.2) else none) else none
set_option maxRecDepth 100000 in
theorem e_X9_leadsTo_30 {l : Launch} {D : va_G} {dA : Nat → ClassId} {z : Nat} {sa : Nat → Nat} {Hz : Heap} (E : StrOK qLen qCh l D dA z sa Hz) {h0 fin : AH} {x : Int32}  : ∀ (a0 : Nat) (x1 : Int32) (h : AH), p_X9_leadsTo_30 a0 x1 h = some (x, fin) → GM l D dA z sa Hz q_X9_leadsTo h0 (some (.int x)) fin 30 [(0, .ref a0), (1, .int x1)] [] h := by
  intro a0 x1 h hd
  exact step E (is := I_X9_leadsTo_30) (pc := 30) (K := (kx 53 (fun la st h => sE st (p_X9_leadsTo_53 h)) (kx 55 (fun la st h => sI st fun y0 st => sE st (p_X9_leadsTo_55 y0 h)) k0))) (FI := FI_X9_leadsTo) (FV := fV0) (FL := fL0) (rt := rtI) (ft := 0) (by exact hd) ok_X9_leadsTo_30 (kx_ok (fun la st h e => by obtain ⟨rfl, ez⟩ := sE_inv e; exact gm_fewer (e_X9_leadsTo_53 E   h ez) mem_nil) (kx_ok (fun la st h e => by obtain ⟨y0, _, rfl, e1⟩ := sI_inv e; obtain ⟨rfl, ez⟩ := sE_inv e1; exact gm_fewer (e_X9_leadsTo_55 E  y0 h ez) mem_nil) k0_ok)) (FI_X9_leadsTo_ok E) (fV0_ok E) (fL0_ok E) (rtI_ok rfl)
def I_X9_leadsTo_17 : List AI := [(.iload_n 2, 1, [], 0), (.invokestatic 325, 3, [1, 253, 1, 1774], 0), (.ifCond .eq 9, 3, [30], 0), (.iload_n 2, 1, [], 0), (.iload_n 1, 1, [], 0), (.invokestatic 328, 3, [1, 256, 2, 1788], 0), (.ireturn, 1, [], 0)]
theorem ok_X9_leadsTo_17 : vBL MT qLen qCh false q_X9_leadsTo.2.2.2.2.1 q_X9_leadsTo.2.2.2.2.2.1 q_X9_leadsTo.2.2.1 q_X9_leadsTo.1.cls q_X9_leadsTo.1.name q_X9_leadsTo.2.1 0 17 I_X9_leadsTo_17 = true := by decide +kernel
def p_X9_leadsTo_17 (a0 : Nat) (x1 : Int32) (x2 : Int32) (h : AH) : Option (Int32 × AH) :=
  (p_X9_isLarge x2 h).bind fun q105 =>
  if q105.1 = 0 then (if (tg q105.2 a0).1 = 8 then ((p_X9_otherWord a0 x1 q105.2).bind fun q106 =>
  (p_X9_has q106.1 ((1 : Int32)) q106.2).bind fun q107 =>
  if q107.1 = 0 then (p_X9_leadsTo_55 ((-2 : Int32)) q107.2)
  else
  if (tg q107.2 a0).1 = 8 then ((p_X9_otherWord a0 x1 q107.2).bind fun q108 =>
  (p_X9_tells q108.1 q108.2).bind fun q109 =>
  p_X9_leadsTo_55 q109.1 q109.2) else none) else none)
  else
  (p_X9_largeFrame x2 x1 q105.2).bind fun q110 =>
  some (q110.1, q110.2)
set_option maxRecDepth 100000 in
theorem e_X9_leadsTo_17 {l : Launch} {D : va_G} {dA : Nat → ClassId} {z : Nat} {sa : Nat → Nat} {Hz : Heap} (E : StrOK qLen qCh l D dA z sa Hz) {h0 fin : AH} {x : Int32}  : ∀ (a0 : Nat) (x1 : Int32) (x2 : Int32) (h : AH), p_X9_leadsTo_17 a0 x1 x2 h = some (x, fin) → GM l D dA z sa Hz q_X9_leadsTo h0 (some (.int x)) fin 17 [(0, .ref a0), (1, .int x1), (2, .int x2)] [] h := by
  intro a0 x1 x2 h hd
  exact step E (is := I_X9_leadsTo_17) (pc := 17) (K := (kx 30 (fun la st h => gR la 0 fun a0 => gI la 1 fun x1 => sE st (p_X9_leadsTo_30 a0 x1 h)) k0)) (FI := FI_X9_leadsTo) (FV := fV0) (FL := fL0) (rt := rtI) (ft := 0) (by exact hd) ok_X9_leadsTo_17 (kx_ok (fun la st h e => by obtain ⟨a0, m_a0, e1⟩ := gR_inv e; obtain ⟨x1, m_x1, e2⟩ := gI_inv e1; obtain ⟨rfl, ez⟩ := sE_inv e2; exact gm_fewer (e_X9_leadsTo_30 E  a0 x1 h ez) (mem_cons m_a0 (mem_cons m_x1 mem_nil))) k0_ok) (FI_X9_leadsTo_ok E) (fV0_ok E) (fL0_ok E) (rtI_ok rfl)
def I_X9_leadsTo_0 : List AI := [(.aload_n 0, 1, [], 0), (.iload_n 1, 1, [], 0), (.invokevirtual 322, 3, [1, 251, 2, 8, 1767], 0), (.istore_n 2, 1, [], 0), (.iload_n 2, 1, [], 0), (.iconst 1, 1, [], 1), (.invokestatic 316, 3, [1, 247, 2, 1749], 0), (.ifCond .ne 6, 3, [17], 0), (.bipush (-2), 2, [], (-2)), (.ireturn, 1, [], 0)]
theorem ok_X9_leadsTo_0 : vBL MT qLen qCh false q_X9_leadsTo.2.2.2.2.1 q_X9_leadsTo.2.2.2.2.2.1 q_X9_leadsTo.2.2.1 q_X9_leadsTo.1.cls q_X9_leadsTo.1.name q_X9_leadsTo.2.1 0 0 I_X9_leadsTo_0 = true := by decide +kernel
def p_X9_leadsTo (a0 : Nat) (x1 : Int32) (h : AH) : Option (Int32 × AH) :=
  if (tg h a0).1 = 8 then ((p_X9_rootWord a0 x1 h).bind fun q111 =>
  (p_X9_has q111.1 ((1 : Int32)) q111.2).bind fun q112 =>
  if q112.1 = 0 then (some (((-2 : Int32)), q112.2))
  else
  (p_X9_isLarge q111.1 q112.2).bind fun q113 =>
  if q113.1 = 0 then (if (tg q113.2 a0).1 = 8 then ((p_X9_otherWord a0 x1 q113.2).bind fun q114 =>
  (p_X9_has q114.1 ((1 : Int32)) q114.2).bind fun q115 =>
  if q115.1 = 0 then (p_X9_leadsTo_55 ((-2 : Int32)) q115.2)
  else
  if (tg q115.2 a0).1 = 8 then ((p_X9_otherWord a0 x1 q115.2).bind fun q116 =>
  (p_X9_tells q116.1 q116.2).bind fun q117 =>
  p_X9_leadsTo_55 q117.1 q117.2) else none) else none)
  else
  (p_X9_largeFrame q111.1 x1 q113.2).bind fun q118 =>
  some (q118.1, q118.2)) else none
set_option maxRecDepth 100000 in
theorem e_X9_leadsTo_0 {l : Launch} {D : va_G} {dA : Nat → ClassId} {z : Nat} {sa : Nat → Nat} {Hz : Heap} (E : StrOK qLen qCh l D dA z sa Hz) {h0 fin : AH} {x : Int32}  : ∀ (a0 : Nat) (x1 : Int32) (h : AH), p_X9_leadsTo a0 x1 h = some (x, fin) → GM l D dA z sa Hz q_X9_leadsTo h0 (some (.int x)) fin 0 [(0, .ref a0), (1, .int x1)] [] h := by
  intro a0 x1 h hd
  exact step E (is := I_X9_leadsTo_0) (pc := 0) (K := (kx 17 (fun la st h => gR la 0 fun a0 => gI la 1 fun x1 => gI la 2 fun x2 => sE st (p_X9_leadsTo_17 a0 x1 x2 h)) k0)) (FI := FI_X9_leadsTo) (FV := fV0) (FL := fL0) (rt := rtI) (ft := 0) (by exact hd) ok_X9_leadsTo_0 (kx_ok (fun la st h e => by obtain ⟨a0, m_a0, e1⟩ := gR_inv e; obtain ⟨x1, m_x1, e2⟩ := gI_inv e1; obtain ⟨x2, m_x2, e3⟩ := gI_inv e2; obtain ⟨rfl, ez⟩ := sE_inv e3; exact gm_fewer (e_X9_leadsTo_17 E  a0 x1 x2 h ez) (mem_cons m_a0 (mem_cons m_x1 (mem_cons m_x2 mem_nil)))) k0_ok) (FI_X9_leadsTo_ok E) (fV0_ok E) (fL0_ok E) (rtI_ok rfl)
theorem c_X9_leadsTo {l : Launch} {D : va_G} {dA : Nat → ClassId} {z : Nat} {sa : Nat → Nat} {Hz : Heap} (E : StrOK qLen qCh l D dA z sa Hz) {a0 : Nat} {x1 : Int32} {h fin : AH} {x : Int32} (hd : p_X9_leadsTo a0 x1 h = some (x, fin)) : CalOK l D dA z sa Hz q_X9_leadsTo [.ref a0, .int x1] h (some (.int x)) fin := calOf (by decide +kernel) (Nat.le_of_ble_eq_true rfl) (e_X9_leadsTo_0 E a0 x1 h hd)
def FI_X9_looks : Nat → List Value → AH → Option (Int32 × AH) := (cx 251 (fun As h => sR As fun a0 As => sI As fun x1 As => sE As (p_X9_rootWord a0 x1 h)) (cx 247 (fun As h => sI As fun x0 As => sI As fun x1 As => sE As (p_X9_has x0 x1 h)) (cx 252 (fun As h => sI As fun x0 As => sI As fun x1 As => sI As fun x2 As => sE As (p_X9_lets x0 x1 x2 h)) (cx 253 (fun As h => sI As fun x0 As => sE As (p_X9_isLarge x0 h)) (cx 255 (fun As h => sR As fun a0 As => sI As fun x1 As => sE As (p_X9_otherWord a0 x1 h)) (cx 257 (fun As h => sR As fun a0 As => sI As fun x1 As => sE As (p_X9_leadsTo a0 x1 h)) (cx 240 (fun As h => sR As fun a0 As => sI As fun x1 As => sE As (p_X9_isBacked a0 x1 h)) (cx 243 (fun As h => sR As fun a0 As => sI As fun x1 As => sE As (p_X9_isRw a0 x1 h)) (cx 241 (fun As h => sR As fun a0 As => sI As fun x1 As => sE As (p_X9_hostOf a0 x1 h)) fI0)))))))))
theorem FI_X9_looks_ok {l : Launch} {D : va_G} {dA : Nat → ClassId} {z : Nat} {sa : Nat → Nat} {Hz : Heap} (E : StrOK qLen qCh l D dA z sa Hz) : ∀ mi As h x h', FI_X9_looks mi As h = some (x, h') → CalOK l D dA z sa Hz (MT mi) As h (some (.int x)) h' := (cxI_ok (fun As h x h2 e => by obtain ⟨_, _, rfl, e0⟩ := sR_inv e; obtain ⟨_, _, rfl, e1⟩ := sI_inv e0; obtain ⟨rfl, ez⟩ := sE_inv e1; exact c_X9_rootWord E ez) ((cxI_ok (fun As h x h2 e => by obtain ⟨_, _, rfl, e0⟩ := sI_inv e; obtain ⟨_, _, rfl, e1⟩ := sI_inv e0; obtain ⟨rfl, ez⟩ := sE_inv e1; exact c_X9_has E ez) ((cxI_ok (fun As h x h2 e => by obtain ⟨_, _, rfl, e0⟩ := sI_inv e; obtain ⟨_, _, rfl, e1⟩ := sI_inv e0; obtain ⟨_, _, rfl, e2⟩ := sI_inv e1; obtain ⟨rfl, ez⟩ := sE_inv e2; exact c_X9_lets E ez) ((cxI_ok (fun As h x h2 e => by obtain ⟨_, _, rfl, e0⟩ := sI_inv e; obtain ⟨rfl, ez⟩ := sE_inv e0; exact c_X9_isLarge E ez) ((cxI_ok (fun As h x h2 e => by obtain ⟨_, _, rfl, e0⟩ := sR_inv e; obtain ⟨_, _, rfl, e1⟩ := sI_inv e0; obtain ⟨rfl, ez⟩ := sE_inv e1; exact c_X9_otherWord E ez) ((cxI_ok (fun As h x h2 e => by obtain ⟨_, _, rfl, e0⟩ := sR_inv e; obtain ⟨_, _, rfl, e1⟩ := sI_inv e0; obtain ⟨rfl, ez⟩ := sE_inv e1; exact c_X9_leadsTo E ez) ((cxI_ok (fun As h x h2 e => by obtain ⟨_, _, rfl, e0⟩ := sR_inv e; obtain ⟨_, _, rfl, e1⟩ := sI_inv e0; obtain ⟨rfl, ez⟩ := sE_inv e1; exact c_X9_isBacked E ez) ((cxI_ok (fun As h x h2 e => by obtain ⟨_, _, rfl, e0⟩ := sR_inv e; obtain ⟨_, _, rfl, e1⟩ := sI_inv e0; obtain ⟨rfl, ez⟩ := sE_inv e1; exact c_X9_isRw E ez) ((cxI_ok (fun As h x h2 e => by obtain ⟨_, _, rfl, e0⟩ := sR_inv e; obtain ⟨_, _, rfl, e1⟩ := sI_inv e0; obtain ⟨rfl, ez⟩ := sE_inv e1; exact c_X9_hostOf E ez) (fI0_ok E))))))))))))))))))
def I_X9_looks_114 : List AI := [(.ireturn, 1, [], 0)]
theorem ok_X9_looks_114 : vBL MT qLen qCh false q_X9_looks.2.2.2.2.1 q_X9_looks.2.2.2.2.2.1 q_X9_looks.2.2.1 q_X9_looks.1.cls q_X9_looks.1.name q_X9_looks.2.1 0 114 I_X9_looks_114 = true := by decide +kernel
def p_X9_looks_114 (y0 : Int32) (h : AH) : Option (Int32 × AH) :=
  some (y0, h)
set_option maxRecDepth 100000 in
theorem e_X9_looks_114 {l : Launch} {D : va_G} {dA : Nat → ClassId} {z : Nat} {sa : Nat → Nat} {Hz : Heap} (E : StrOK qLen qCh l D dA z sa Hz) {h0 fin : AH} {x : Int32}  : ∀ (y0 : Int32) (h : AH), p_X9_looks_114 y0 h = some (x, fin) → GM l D dA z sa Hz q_X9_looks h0 (some (.int x)) fin 114 [] [.int y0] h := by
  intro y0 h hd
  exact step E (is := I_X9_looks_114) (pc := 114) (K := k0) (FI := FI_X9_looks) (FV := fV0) (FL := fL0) (rt := rtI) (ft := 0) (by exact hd) ok_X9_looks_114 k0_ok (FI_X9_looks_ok E) (fV0_ok E) (fL0_ok E) (rtI_ok rfl)
def I_X9_looks_108 : List AI := [(.aload_n 0, 1, [], 0), (.iload 5, 2, [], 0), (.invokevirtual 344, 3, [1, 241, 2, 8, 1725], 0)]
theorem ok_X9_looks_108 : vBL MT qLen qCh false q_X9_looks.2.2.2.2.1 q_X9_looks.2.2.2.2.2.1 q_X9_looks.2.2.1 q_X9_looks.1.cls q_X9_looks.1.name q_X9_looks.2.1 114 108 I_X9_looks_108 = true := by decide +kernel
def p_X9_looks_108 (a0 : Nat) (x5 : Int32) (h : AH) : Option (Int32 × AH) :=
  if (tg h a0).1 = 8 then ((p_X9_hostOf a0 x5 h).bind fun q101 =>
  p_X9_looks_114 q101.1 q101.2) else none
set_option maxRecDepth 100000 in
theorem e_X9_looks_108 {l : Launch} {D : va_G} {dA : Nat → ClassId} {z : Nat} {sa : Nat → Nat} {Hz : Heap} (E : StrOK qLen qCh l D dA z sa Hz) {h0 fin : AH} {x : Int32}  : ∀ (a0 : Nat) (x5 : Int32) (h : AH), p_X9_looks_108 a0 x5 h = some (x, fin) → GM l D dA z sa Hz q_X9_looks h0 (some (.int x)) fin 108 [(0, .ref a0), (5, .int x5)] [] h := by
  intro a0 x5 h hd
  exact step E (is := I_X9_looks_108) (pc := 108) (K := (kx 114 (fun la st h => sI st fun y0 st => sE st (p_X9_looks_114 y0 h)) k0)) (FI := FI_X9_looks) (FV := fV0) (FL := fL0) (rt := rtI) (ft := 114) (by exact hd) ok_X9_looks_108 (kx_ok (fun la st h e => by obtain ⟨y0, _, rfl, e1⟩ := sI_inv e; obtain ⟨rfl, ez⟩ := sE_inv e1; exact gm_fewer (e_X9_looks_114 E  y0 h ez) mem_nil) k0_ok) (FI_X9_looks_ok E) (fV0_ok E) (fL0_ok E) (rtI_ok rfl)
def I_X9_looks_90 : List AI := [(.iload_n 2, 1, [], 0), (.ifCond .eq 17, 3, [108], 0), (.aload_n 0, 1, [], 0), (.iload 5, 2, [], 0), (.invokevirtual 341, 3, [1, 243, 2, 8, 1733], 0), (.ifCond .ne 8, 3, [108], 0), (.bipush (-3), 2, [], (-3)), (.goto 9, 3, [114], 0)]
theorem ok_X9_looks_90 : vBL MT qLen qCh false q_X9_looks.2.2.2.2.1 q_X9_looks.2.2.2.2.2.1 q_X9_looks.2.2.1 q_X9_looks.1.cls q_X9_looks.1.name q_X9_looks.2.1 0 90 I_X9_looks_90 = true := by decide +kernel
def p_X9_looks_90 (a0 : Nat) (x2 : Int32) (x5 : Int32) (h : AH) : Option (Int32 × AH) :=
  if x2 = 0 then (p_X9_looks_108 a0 x5 h)
  else
  if (tg h a0).1 = 8 then ((p_X9_isRw a0 x5 h).bind fun q102 =>
  if q102.1 = 0 then (p_X9_looks_114 ((-3 : Int32)) q102.2)
  else
  p_X9_looks_108 a0 x5 q102.2) else none
set_option maxRecDepth 100000 in
theorem e_X9_looks_90 {l : Launch} {D : va_G} {dA : Nat → ClassId} {z : Nat} {sa : Nat → Nat} {Hz : Heap} (E : StrOK qLen qCh l D dA z sa Hz) {h0 fin : AH} {x : Int32}  : ∀ (a0 : Nat) (x2 : Int32) (x5 : Int32) (h : AH), p_X9_looks_90 a0 x2 x5 h = some (x, fin) → GM l D dA z sa Hz q_X9_looks h0 (some (.int x)) fin 90 [(0, .ref a0), (2, .int x2), (5, .int x5)] [] h := by
  intro a0 x2 x5 h hd
  exact step E (is := I_X9_looks_90) (pc := 90) (K := (kx 108 (fun la st h => gR la 0 fun a0 => gI la 5 fun x5 => sE st (p_X9_looks_108 a0 x5 h)) (kx 114 (fun la st h => sI st fun y0 st => sE st (p_X9_looks_114 y0 h)) k0))) (FI := FI_X9_looks) (FV := fV0) (FL := fL0) (rt := rtI) (ft := 0) (by exact hd) ok_X9_looks_90 (kx_ok (fun la st h e => by obtain ⟨a0, m_a0, e1⟩ := gR_inv e; obtain ⟨x5, m_x5, e2⟩ := gI_inv e1; obtain ⟨rfl, ez⟩ := sE_inv e2; exact gm_fewer (e_X9_looks_108 E  a0 x5 h ez) (mem_cons m_a0 (mem_cons m_x5 mem_nil))) (kx_ok (fun la st h e => by obtain ⟨y0, _, rfl, e1⟩ := sI_inv e; obtain ⟨rfl, ez⟩ := sE_inv e1; exact gm_fewer (e_X9_looks_114 E  y0 h ez) mem_nil) k0_ok)) (FI_X9_looks_ok E) (fV0_ok E) (fL0_ok E) (rtI_ok rfl)
def I_X9_looks_71 : List AI := [(.aload_n 0, 1, [], 0), (.iload_n 1, 1, [], 0), (.invokevirtual 338, 3, [1, 257, 2, 8, 1784], 0), (.istore 5, 2, [], 0), (.aload_n 0, 1, [], 0), (.iload 5, 2, [], 0), (.invokevirtual 313, 3, [1, 240, 2, 8, 1721], 0), (.ifCond .ne 6, 3, [90], 0), (.bipush (-4), 2, [], (-4)), (.ireturn, 1, [], 0)]
theorem ok_X9_looks_71 : vBL MT qLen qCh false q_X9_looks.2.2.2.2.1 q_X9_looks.2.2.2.2.2.1 q_X9_looks.2.2.1 q_X9_looks.1.cls q_X9_looks.1.name q_X9_looks.2.1 0 71 I_X9_looks_71 = true := by decide +kernel
def p_X9_looks_71 (a0 : Nat) (x1 : Int32) (x2 : Int32) (h : AH) : Option (Int32 × AH) :=
  if (tg h a0).1 = 8 then ((p_X9_leadsTo a0 x1 h).bind fun q103 =>
  if (tg q103.2 a0).1 = 8 then ((p_X9_isBacked a0 q103.1 q103.2).bind fun q104 =>
  if q104.1 = 0 then (some (((-4 : Int32)), q104.2))
  else
  if x2 = 0 then (p_X9_looks_108 a0 q103.1 q104.2)
  else
  if (tg q104.2 a0).1 = 8 then ((p_X9_isRw a0 q103.1 q104.2).bind fun q105 =>
  if q105.1 = 0 then (p_X9_looks_114 ((-3 : Int32)) q105.2)
  else
  p_X9_looks_108 a0 q103.1 q105.2) else none) else none) else none
set_option maxRecDepth 100000 in
theorem e_X9_looks_71 {l : Launch} {D : va_G} {dA : Nat → ClassId} {z : Nat} {sa : Nat → Nat} {Hz : Heap} (E : StrOK qLen qCh l D dA z sa Hz) {h0 fin : AH} {x : Int32}  : ∀ (a0 : Nat) (x1 : Int32) (x2 : Int32) (h : AH), p_X9_looks_71 a0 x1 x2 h = some (x, fin) → GM l D dA z sa Hz q_X9_looks h0 (some (.int x)) fin 71 [(0, .ref a0), (1, .int x1), (2, .int x2)] [] h := by
  intro a0 x1 x2 h hd
  exact step E (is := I_X9_looks_71) (pc := 71) (K := (kx 90 (fun la st h => gR la 0 fun a0 => gI la 2 fun x2 => gI la 5 fun x5 => sE st (p_X9_looks_90 a0 x2 x5 h)) k0)) (FI := FI_X9_looks) (FV := fV0) (FL := fL0) (rt := rtI) (ft := 0) (by exact hd) ok_X9_looks_71 (kx_ok (fun la st h e => by obtain ⟨a0, m_a0, e1⟩ := gR_inv e; obtain ⟨x2, m_x2, e2⟩ := gI_inv e1; obtain ⟨x5, m_x5, e3⟩ := gI_inv e2; obtain ⟨rfl, ez⟩ := sE_inv e3; exact gm_fewer (e_X9_looks_90 E  a0 x2 x5 h ez) (mem_cons m_a0 (mem_cons m_x2 (mem_cons m_x5 mem_nil)))) k0_ok) (FI_X9_looks_ok E) (fV0_ok E) (fL0_ok E) (rtI_ok rfl)
def I_X9_looks_55 : List AI := [(.aload_n 0, 1, [], 0), (.iload_n 1, 1, [], 0), (.invokevirtual 331, 3, [1, 255, 2, 8, 1777], 0), (.iload_n 2, 1, [], 0), (.iload_n 3, 1, [], 0), (.invokestatic 334, 3, [1, 252, 3, 1771], 0), (.ifCond .ne 6, 3, [71], 0), (.bipush (-3), 2, [], (-3)), (.ireturn, 1, [], 0)]
theorem ok_X9_looks_55 : vBL MT qLen qCh false q_X9_looks.2.2.2.2.1 q_X9_looks.2.2.2.2.2.1 q_X9_looks.2.2.1 q_X9_looks.1.cls q_X9_looks.1.name q_X9_looks.2.1 0 55 I_X9_looks_55 = true := by decide +kernel
def p_X9_looks_55 (a0 : Nat) (x1 : Int32) (x2 : Int32) (x3 : Int32) (h : AH) : Option (Int32 × AH) :=
  if (tg h a0).1 = 8 then ((p_X9_otherWord a0 x1 h).bind fun q106 =>
  (p_X9_lets q106.1 x2 x3 q106.2).bind fun q107 =>
  if q107.1 = 0 then (some (((-3 : Int32)), q107.2))
  else
  p_X9_looks_71 a0 x1 x2 q107.2) else none
set_option maxRecDepth 100000 in
theorem e_X9_looks_55 {l : Launch} {D : va_G} {dA : Nat → ClassId} {z : Nat} {sa : Nat → Nat} {Hz : Heap} (E : StrOK qLen qCh l D dA z sa Hz) {h0 fin : AH} {x : Int32}  : ∀ (a0 : Nat) (x1 : Int32) (x2 : Int32) (x3 : Int32) (h : AH), p_X9_looks_55 a0 x1 x2 x3 h = some (x, fin) → GM l D dA z sa Hz q_X9_looks h0 (some (.int x)) fin 55 [(0, .ref a0), (1, .int x1), (2, .int x2), (3, .int x3)] [] h := by
  intro a0 x1 x2 x3 h hd
  exact step E (is := I_X9_looks_55) (pc := 55) (K := (kx 71 (fun la st h => gR la 0 fun a0 => gI la 1 fun x1 => gI la 2 fun x2 => sE st (p_X9_looks_71 a0 x1 x2 h)) k0)) (FI := FI_X9_looks) (FV := fV0) (FL := fL0) (rt := rtI) (ft := 0) (by exact hd) ok_X9_looks_55 (kx_ok (fun la st h e => by obtain ⟨a0, m_a0, e1⟩ := gR_inv e; obtain ⟨x1, m_x1, e2⟩ := gI_inv e1; obtain ⟨x2, m_x2, e3⟩ := gI_inv e2; obtain ⟨rfl, ez⟩ := sE_inv e3; exact gm_fewer (e_X9_looks_71 E  a0 x1 x2 h ez) (mem_cons m_a0 (mem_cons m_x1 (mem_cons m_x2 mem_nil)))) k0_ok) (FI_X9_looks_ok E) (fV0_ok E) (fL0_ok E) (rtI_ok rfl)
def I_X9_looks_32 : List AI := [(.iload 4, 2, [], 0), (.invokestatic 325, 3, [1, 253, 1, 1774], 0), (.ifCond .ne 34, 3, [71], 0), (.aload_n 0, 1, [], 0), (.iload_n 1, 1, [], 0), (.invokevirtual 331, 3, [1, 255, 2, 8, 1777], 0), (.iconst 1, 1, [], 1), (.invokestatic 316, 3, [1, 247, 2, 1749], 0), (.ifCond .ne 6, 3, [55], 0), (.bipush (-2), 2, [], (-2)), (.ireturn, 1, [], 0)]
theorem ok_X9_looks_32 : vBL MT qLen qCh false q_X9_looks.2.2.2.2.1 q_X9_looks.2.2.2.2.2.1 q_X9_looks.2.2.1 q_X9_looks.1.cls q_X9_looks.1.name q_X9_looks.2.1 0 32 I_X9_looks_32 = true := by decide +kernel
def p_X9_looks_32 (a0 : Nat) (x1 : Int32) (x2 : Int32) (x3 : Int32) (x4 : Int32) (h : AH) : Option (Int32 × AH) :=
  (p_X9_isLarge x4 h).bind fun q108 =>
  if q108.1 = 0 then (if (tg q108.2 a0).1 = 8 then ((p_X9_otherWord a0 x1 q108.2).bind fun q109 =>
  (p_X9_has q109.1 ((1 : Int32)) q109.2).bind fun q110 =>
  if q110.1 = 0 then (some (((-2 : Int32)), q110.2))
  else
  if (tg q110.2 a0).1 = 8 then ((p_X9_otherWord a0 x1 q110.2).bind fun q111 =>
  (p_X9_lets q111.1 x2 x3 q111.2).bind fun q112 =>
  if q112.1 = 0 then (some (((-3 : Int32)), q112.2))
  else
  p_X9_looks_71 a0 x1 x2 q112.2) else none) else none)
  else
  p_X9_looks_71 a0 x1 x2 q108.2
set_option maxRecDepth 100000 in
theorem e_X9_looks_32 {l : Launch} {D : va_G} {dA : Nat → ClassId} {z : Nat} {sa : Nat → Nat} {Hz : Heap} (E : StrOK qLen qCh l D dA z sa Hz) {h0 fin : AH} {x : Int32}  : ∀ (a0 : Nat) (x1 : Int32) (x2 : Int32) (x3 : Int32) (x4 : Int32) (h : AH), p_X9_looks_32 a0 x1 x2 x3 x4 h = some (x, fin) → GM l D dA z sa Hz q_X9_looks h0 (some (.int x)) fin 32 [(0, .ref a0), (1, .int x1), (2, .int x2), (3, .int x3), (4, .int x4)] [] h := by
  intro a0 x1 x2 x3 x4 h hd
  exact step E (is := I_X9_looks_32) (pc := 32) (K := (kx 71 (fun la st h => gR la 0 fun a0 => gI la 1 fun x1 => gI la 2 fun x2 => sE st (p_X9_looks_71 a0 x1 x2 h)) (kx 55 (fun la st h => gR la 0 fun a0 => gI la 1 fun x1 => gI la 2 fun x2 => gI la 3 fun x3 => sE st (p_X9_looks_55 a0 x1 x2 x3 h)) k0))) (FI := FI_X9_looks) (FV := fV0) (FL := fL0) (rt := rtI) (ft := 0) (by exact hd) ok_X9_looks_32 (kx_ok (fun la st h e => by obtain ⟨a0, m_a0, e1⟩ := gR_inv e; obtain ⟨x1, m_x1, e2⟩ := gI_inv e1; obtain ⟨x2, m_x2, e3⟩ := gI_inv e2; obtain ⟨rfl, ez⟩ := sE_inv e3; exact gm_fewer (e_X9_looks_71 E  a0 x1 x2 h ez) (mem_cons m_a0 (mem_cons m_x1 (mem_cons m_x2 mem_nil)))) (kx_ok (fun la st h e => by obtain ⟨a0, m_a0, e1⟩ := gR_inv e; obtain ⟨x1, m_x1, e2⟩ := gI_inv e1; obtain ⟨x2, m_x2, e3⟩ := gI_inv e2; obtain ⟨x3, m_x3, e4⟩ := gI_inv e3; obtain ⟨rfl, ez⟩ := sE_inv e4; exact gm_fewer (e_X9_looks_55 E  a0 x1 x2 x3 h ez) (mem_cons m_a0 (mem_cons m_x1 (mem_cons m_x2 (mem_cons m_x3 mem_nil))))) k0_ok)) (FI_X9_looks_ok E) (fV0_ok E) (fL0_ok E) (rtI_ok rfl)
def I_X9_looks_19 : List AI := [(.iload 4, 2, [], 0), (.iload_n 2, 1, [], 0), (.iload_n 3, 1, [], 0), (.invokestatic 334, 3, [1, 252, 3, 1771], 0), (.ifCond .ne 6, 3, [32], 0), (.bipush (-3), 2, [], (-3)), (.ireturn, 1, [], 0)]
theorem ok_X9_looks_19 : vBL MT qLen qCh false q_X9_looks.2.2.2.2.1 q_X9_looks.2.2.2.2.2.1 q_X9_looks.2.2.1 q_X9_looks.1.cls q_X9_looks.1.name q_X9_looks.2.1 0 19 I_X9_looks_19 = true := by decide +kernel
def p_X9_looks_19 (a0 : Nat) (x1 : Int32) (x2 : Int32) (x3 : Int32) (x4 : Int32) (h : AH) : Option (Int32 × AH) :=
  (p_X9_lets x4 x2 x3 h).bind fun q113 =>
  if q113.1 = 0 then (some (((-3 : Int32)), q113.2))
  else
  (p_X9_isLarge x4 q113.2).bind fun q114 =>
  if q114.1 = 0 then (if (tg q114.2 a0).1 = 8 then ((p_X9_otherWord a0 x1 q114.2).bind fun q115 =>
  (p_X9_has q115.1 ((1 : Int32)) q115.2).bind fun q116 =>
  if q116.1 = 0 then (some (((-2 : Int32)), q116.2))
  else
  if (tg q116.2 a0).1 = 8 then ((p_X9_otherWord a0 x1 q116.2).bind fun q117 =>
  (p_X9_lets q117.1 x2 x3 q117.2).bind fun q118 =>
  if q118.1 = 0 then (some (((-3 : Int32)), q118.2))
  else
  p_X9_looks_71 a0 x1 x2 q118.2) else none) else none)
  else
  p_X9_looks_71 a0 x1 x2 q114.2
set_option maxRecDepth 100000 in
theorem e_X9_looks_19 {l : Launch} {D : va_G} {dA : Nat → ClassId} {z : Nat} {sa : Nat → Nat} {Hz : Heap} (E : StrOK qLen qCh l D dA z sa Hz) {h0 fin : AH} {x : Int32}  : ∀ (a0 : Nat) (x1 : Int32) (x2 : Int32) (x3 : Int32) (x4 : Int32) (h : AH), p_X9_looks_19 a0 x1 x2 x3 x4 h = some (x, fin) → GM l D dA z sa Hz q_X9_looks h0 (some (.int x)) fin 19 [(0, .ref a0), (1, .int x1), (2, .int x2), (3, .int x3), (4, .int x4)] [] h := by
  intro a0 x1 x2 x3 x4 h hd
  exact step E (is := I_X9_looks_19) (pc := 19) (K := (kx 32 (fun la st h => gR la 0 fun a0 => gI la 1 fun x1 => gI la 2 fun x2 => gI la 3 fun x3 => gI la 4 fun x4 => sE st (p_X9_looks_32 a0 x1 x2 x3 x4 h)) k0)) (FI := FI_X9_looks) (FV := fV0) (FL := fL0) (rt := rtI) (ft := 0) (by exact hd) ok_X9_looks_19 (kx_ok (fun la st h e => by obtain ⟨a0, m_a0, e1⟩ := gR_inv e; obtain ⟨x1, m_x1, e2⟩ := gI_inv e1; obtain ⟨x2, m_x2, e3⟩ := gI_inv e2; obtain ⟨x3, m_x3, e4⟩ := gI_inv e3; obtain ⟨x4, m_x4, e5⟩ := gI_inv e4; obtain ⟨rfl, ez⟩ := sE_inv e5; exact gm_fewer (e_X9_looks_32 E  a0 x1 x2 x3 x4 h ez) (mem_cons m_a0 (mem_cons m_x1 (mem_cons m_x2 (mem_cons m_x3 (mem_cons m_x4 mem_nil)))))) k0_ok) (FI_X9_looks_ok E) (fV0_ok E) (fL0_ok E) (rtI_ok rfl)
def I_X9_looks_0 : List AI := [(.aload_n 0, 1, [], 0), (.iload_n 1, 1, [], 0), (.invokevirtual 322, 3, [1, 251, 2, 8, 1767], 0), (.istore 4, 2, [], 0), (.iload 4, 2, [], 0), (.iconst 1, 1, [], 1), (.invokestatic 316, 3, [1, 247, 2, 1749], 0), (.ifCond .ne 6, 3, [19], 0), (.bipush (-2), 2, [], (-2)), (.ireturn, 1, [], 0)]
theorem ok_X9_looks_0 : vBL MT qLen qCh false q_X9_looks.2.2.2.2.1 q_X9_looks.2.2.2.2.2.1 q_X9_looks.2.2.1 q_X9_looks.1.cls q_X9_looks.1.name q_X9_looks.2.1 0 0 I_X9_looks_0 = true := by decide +kernel
def p_X9_looks (a0 : Nat) (x1 : Int32) (x2 : Int32) (x3 : Int32) (h : AH) : Option (Int32 × AH) :=
  if (tg h a0).1 = 8 then ((p_X9_rootWord a0 x1 h).bind fun q119 =>
  (p_X9_has q119.1 ((1 : Int32)) q119.2).bind fun q120 =>
  if q120.1 = 0 then (some (((-2 : Int32)), q120.2))
  else
  (p_X9_lets q119.1 x2 x3 q120.2).bind fun q121 =>
  if q121.1 = 0 then (some (((-3 : Int32)), q121.2))
  else
  (p_X9_isLarge q119.1 q121.2).bind fun q122 =>
  if q122.1 = 0 then (if (tg q122.2 a0).1 = 8 then ((p_X9_otherWord a0 x1 q122.2).bind fun q123 =>
  (p_X9_has q123.1 ((1 : Int32)) q123.2).bind fun q124 =>
  if q124.1 = 0 then (some (((-2 : Int32)), q124.2))
  else
  if (tg q124.2 a0).1 = 8 then ((p_X9_otherWord a0 x1 q124.2).bind fun q125 =>
  (p_X9_lets q125.1 x2 x3 q125.2).bind fun q126 =>
  if q126.1 = 0 then (some (((-3 : Int32)), q126.2))
  else
  p_X9_looks_71 a0 x1 x2 q126.2) else none) else none)
  else
  p_X9_looks_71 a0 x1 x2 q122.2) else none
set_option maxRecDepth 100000 in
theorem e_X9_looks_0 {l : Launch} {D : va_G} {dA : Nat → ClassId} {z : Nat} {sa : Nat → Nat} {Hz : Heap} (E : StrOK qLen qCh l D dA z sa Hz) {h0 fin : AH} {x : Int32}  : ∀ (a0 : Nat) (x1 : Int32) (x2 : Int32) (x3 : Int32) (h : AH), p_X9_looks a0 x1 x2 x3 h = some (x, fin) → GM l D dA z sa Hz q_X9_looks h0 (some (.int x)) fin 0 [(0, .ref a0), (1, .int x1), (2, .int x2), (3, .int x3)] [] h := by
  intro a0 x1 x2 x3 h hd
  exact step E (is := I_X9_looks_0) (pc := 0) (K := (kx 19 (fun la st h => gR la 0 fun a0 => gI la 1 fun x1 => gI la 2 fun x2 => gI la 3 fun x3 => gI la 4 fun x4 => sE st (p_X9_looks_19 a0 x1 x2 x3 x4 h)) k0)) (FI := FI_X9_looks) (FV := fV0) (FL := fL0) (rt := rtI) (ft := 0) (by exact hd) ok_X9_looks_0 (kx_ok (fun la st h e => by obtain ⟨a0, m_a0, e1⟩ := gR_inv e; obtain ⟨x1, m_x1, e2⟩ := gI_inv e1; obtain ⟨x2, m_x2, e3⟩ := gI_inv e2; obtain ⟨x3, m_x3, e4⟩ := gI_inv e3; obtain ⟨x4, m_x4, e5⟩ := gI_inv e4; obtain ⟨rfl, ez⟩ := sE_inv e5; exact gm_fewer (e_X9_looks_19 E  a0 x1 x2 x3 x4 h ez) (mem_cons m_a0 (mem_cons m_x1 (mem_cons m_x2 (mem_cons m_x3 (mem_cons m_x4 mem_nil)))))) k0_ok) (FI_X9_looks_ok E) (fV0_ok E) (fL0_ok E) (rtI_ok rfl)
theorem c_X9_looks {l : Launch} {D : va_G} {dA : Nat → ClassId} {z : Nat} {sa : Nat → Nat} {Hz : Heap} (E : StrOK qLen qCh l D dA z sa Hz) {a0 : Nat} {x1 : Int32} {x2 : Int32} {x3 : Int32} {h fin : AH} {x : Int32} (hd : p_X9_looks a0 x1 x2 x3 h = some (x, fin)) : CalOK l D dA z sa Hz q_X9_looks [.ref a0, .int x1, .int x2, .int x3] h (some (.int x)) fin := calOf (by decide +kernel) (Nat.le_of_ble_eq_true rfl) (e_X9_looks_0 E a0 x1 x2 x3 h hd)
def FI_X9_look : Nat → List Value → AH → Option (Int32 × AH) := (cx 250 (fun As h => sR As fun a0 As => sI As fun x1 As => sE As (p_X9_isAsked a0 x1 h)) (cx 201 (fun As h => sR As fun a0 As => sI As fun x1 As => sE As (p_X9_refused a0 x1 h)) (cx 258 (fun As h => sR As fun a0 As => sI As fun x1 As => sI As fun x2 As => sI As fun x3 As => sE As (p_X9_looks a0 x1 x2 x3 h)) (cx 233 (fun As h => sR As fun a0 As => sI As fun x1 As => sE As (p_X9_good a0 x1 h)) fI0))))
theorem FI_X9_look_ok {l : Launch} {D : va_G} {dA : Nat → ClassId} {z : Nat} {sa : Nat → Nat} {Hz : Heap} (E : StrOK qLen qCh l D dA z sa Hz) : ∀ mi As h x h', FI_X9_look mi As h = some (x, h') → CalOK l D dA z sa Hz (MT mi) As h (some (.int x)) h' := (cxI_ok (fun As h x h2 e => by obtain ⟨_, _, rfl, e0⟩ := sR_inv e; obtain ⟨_, _, rfl, e1⟩ := sI_inv e0; obtain ⟨rfl, ez⟩ := sE_inv e1; exact c_X9_isAsked E ez) ((cxI_ok (fun As h x h2 e => by obtain ⟨_, _, rfl, e0⟩ := sR_inv e; obtain ⟨_, _, rfl, e1⟩ := sI_inv e0; obtain ⟨rfl, ez⟩ := sE_inv e1; exact c_X9_refused E ez) ((cxI_ok (fun As h x h2 e => by obtain ⟨_, _, rfl, e0⟩ := sR_inv e; obtain ⟨_, _, rfl, e1⟩ := sI_inv e0; obtain ⟨_, _, rfl, e2⟩ := sI_inv e1; obtain ⟨_, _, rfl, e3⟩ := sI_inv e2; obtain ⟨rfl, ez⟩ := sE_inv e3; exact c_X9_looks E ez) ((cxI_ok (fun As h x h2 e => by obtain ⟨_, _, rfl, e0⟩ := sR_inv e; obtain ⟨_, _, rfl, e1⟩ := sI_inv e0; obtain ⟨rfl, ez⟩ := sE_inv e1; exact c_X9_good E ez) (fI0_ok E))))))))
def FV_X9_look : Nat → List Value → AH → Option (AH) := (cx 239 (fun As h => sR As fun a0 As => sE As (p_X9_works a0 h)) fV0)
theorem FV_X9_look_ok {l : Launch} {D : va_G} {dA : Nat → ClassId} {z : Nat} {sa : Nat → Nat} {Hz : Heap} (E : StrOK qLen qCh l D dA z sa Hz) : ∀ mi As h h', FV_X9_look mi As h = some h' → CalOK l D dA z sa Hz (MT mi) As h none h' := (cxV_ok (fun As h h2 e => by obtain ⟨_, _, rfl, e0⟩ := sR_inv e; obtain ⟨rfl, ez⟩ := sE_inv e0; exact c_X9_works E ez) (fV0_ok E))
def I_X9_look_19 : List AI := [(.aload_n 0, 1, [], 0), (.invokevirtual 398, 3, [2, 239, 1, 8, 1717], 0), (.aload_n 0, 1, [], 0), (.aload_n 0, 1, [], 0), (.iload_n 1, 1, [], 0), (.iload_n 2, 1, [], 0), (.iload_n 3, 1, [], 0), (.invokevirtual 376, 3, [1, 258, 4, 8, 1763], 0), (.invokevirtual 43, 3, [1, 233, 2, 8, 1694], 0), (.ireturn, 1, [], 0)]
theorem ok_X9_look_19 : vBL MT qLen qCh false q_X9_look.2.2.2.2.1 q_X9_look.2.2.2.2.2.1 q_X9_look.2.2.1 q_X9_look.1.cls q_X9_look.1.name q_X9_look.2.1 0 19 I_X9_look_19 = true := by decide +kernel
def p_X9_look_19 (a0 : Nat) (x1 : Int32) (x2 : Int32) (x3 : Int32) (h : AH) : Option (Int32 × AH) :=
  if (tg h a0).1 = 8 then ((p_X9_works a0 h).bind fun h101 =>
  if (tg h101 a0).1 = 8 then ((p_X9_looks a0 x1 x2 x3 h101).bind fun q102 =>
  if (tg q102.2 a0).1 = 8 then ((p_X9_good a0 q102.1 q102.2).bind fun q103 =>
  some (q103.1, q103.2)) else none) else none) else none
set_option maxRecDepth 100000 in
theorem e_X9_look_19 {l : Launch} {D : va_G} {dA : Nat → ClassId} {z : Nat} {sa : Nat → Nat} {Hz : Heap} (E : StrOK qLen qCh l D dA z sa Hz) {h0 fin : AH} {x : Int32}  : ∀ (a0 : Nat) (x1 : Int32) (x2 : Int32) (x3 : Int32) (h : AH), p_X9_look_19 a0 x1 x2 x3 h = some (x, fin) → GM l D dA z sa Hz q_X9_look h0 (some (.int x)) fin 19 [(0, .ref a0), (1, .int x1), (2, .int x2), (3, .int x3)] [] h := by
  intro a0 x1 x2 x3 h hd
  exact step E (is := I_X9_look_19) (pc := 19) (K := k0) (FI := FI_X9_look) (FV := FV_X9_look) (FL := fL0) (rt := rtI) (ft := 0) (by exact hd) ok_X9_look_19 k0_ok (FI_X9_look_ok E) (FV_X9_look_ok E) (fL0_ok E) (rtI_ok rfl)
def I_X9_look_0 : List AI := [(.aload_n 0, 1, [], 0), (.iconst 0, 1, [], 0), (.putfield 33, 3, [8, 0, 0, 1345], 0), (.aload_n 0, 1, [], 0), (.iload_n 1, 1, [], 0), (.invokevirtual 404, 3, [1, 250, 2, 8, 1756], 0), (.ifCond .ne 9, 3, [19], 0), (.aload_n 0, 1, [], 0), (.iconst 1, 1, [], 1), (.invokevirtual 39, 3, [1, 201, 2, 8, 1481], 0), (.ireturn, 1, [], 0)]
theorem ok_X9_look_0 : vBL MT qLen qCh false q_X9_look.2.2.2.2.1 q_X9_look.2.2.2.2.2.1 q_X9_look.2.2.1 q_X9_look.1.cls q_X9_look.1.name q_X9_look.2.1 0 0 I_X9_look_0 = true := by decide +kernel
def p_X9_look (a0 : Nat) (x1 : Int32) (x2 : Int32) (x3 : Int32) (h : AH) : Option (Int32 × AH) :=
  if (tg h a0).1 = 8 then (let h104 := wI h a0 0 ((0 : Int32))
  if (tg h104 a0).1 = 8 then ((p_X9_isAsked a0 x1 h104).bind fun q105 =>
  if q105.1 = 0 then (if (tg q105.2 a0).1 = 8 then ((p_X9_refused a0 ((1 : Int32)) q105.2).bind fun q109 =>
  some (q109.1, q109.2)) else none)
  else
  if (tg q105.2 a0).1 = 8 then ((p_X9_works a0 q105.2).bind fun h106 =>
  if (tg h106 a0).1 = 8 then ((p_X9_looks a0 x1 x2 x3 h106).bind fun q107 =>
  if (tg q107.2 a0).1 = 8 then ((p_X9_good a0 q107.1 q107.2).bind fun q108 =>
  some (q108.1, q108.2)) else none) else none) else none) else none) else none
set_option maxRecDepth 100000 in
theorem e_X9_look_0 {l : Launch} {D : va_G} {dA : Nat → ClassId} {z : Nat} {sa : Nat → Nat} {Hz : Heap} (E : StrOK qLen qCh l D dA z sa Hz) {h0 fin : AH} {x : Int32}  : ∀ (a0 : Nat) (x1 : Int32) (x2 : Int32) (x3 : Int32) (h : AH), p_X9_look a0 x1 x2 x3 h = some (x, fin) → GM l D dA z sa Hz q_X9_look h0 (some (.int x)) fin 0 [(0, .ref a0), (1, .int x1), (2, .int x2), (3, .int x3)] [] h := by
  intro a0 x1 x2 x3 h hd
  exact step E (is := I_X9_look_0) (pc := 0) (K := (kx 19 (fun la st h => gR la 0 fun a0 => gI la 1 fun x1 => gI la 2 fun x2 => gI la 3 fun x3 => sE st (p_X9_look_19 a0 x1 x2 x3 h)) k0)) (FI := FI_X9_look) (FV := FV_X9_look) (FL := fL0) (rt := rtI) (ft := 0) (by exact hd) ok_X9_look_0 (kx_ok (fun la st h e => by obtain ⟨a0, m_a0, e1⟩ := gR_inv e; obtain ⟨x1, m_x1, e2⟩ := gI_inv e1; obtain ⟨x2, m_x2, e3⟩ := gI_inv e2; obtain ⟨x3, m_x3, e4⟩ := gI_inv e3; obtain ⟨rfl, ez⟩ := sE_inv e4; exact gm_fewer (e_X9_look_19 E  a0 x1 x2 x3 h ez) (mem_cons m_a0 (mem_cons m_x1 (mem_cons m_x2 (mem_cons m_x3 mem_nil))))) k0_ok) (FI_X9_look_ok E) (FV_X9_look_ok E) (fL0_ok E) (rtI_ok rfl)
theorem c_X9_look {l : Launch} {D : va_G} {dA : Nat → ClassId} {z : Nat} {sa : Nat → Nat} {Hz : Heap} (E : StrOK qLen qCh l D dA z sa Hz) {a0 : Nat} {x1 : Int32} {x2 : Int32} {x3 : Int32} {h fin : AH} {x : Int32} (hd : p_X9_look a0 x1 x2 x3 h = some (x, fin)) : CalOK l D dA z sa Hz q_X9_look [.ref a0, .int x1, .int x2, .int x3] h (some (.int x)) fin := calOf (by decide +kernel) (Nat.le_of_ble_eq_true rfl) (e_X9_look_0 E a0 x1 x2 x3 h hd)
def FI_X9_leads : Nat → List Value → AH → Option (Int32 × AH) := (cx 250 (fun As h => sR As fun a0 As => sI As fun x1 As => sE As (p_X9_isAsked a0 x1 h)) (cx 201 (fun As h => sR As fun a0 As => sI As fun x1 As => sE As (p_X9_refused a0 x1 h)) (cx 257 (fun As h => sR As fun a0 As => sI As fun x1 As => sE As (p_X9_leadsTo a0 x1 h)) (cx 233 (fun As h => sR As fun a0 As => sI As fun x1 As => sE As (p_X9_good a0 x1 h)) fI0))))
theorem FI_X9_leads_ok {l : Launch} {D : va_G} {dA : Nat → ClassId} {z : Nat} {sa : Nat → Nat} {Hz : Heap} (E : StrOK qLen qCh l D dA z sa Hz) : ∀ mi As h x h', FI_X9_leads mi As h = some (x, h') → CalOK l D dA z sa Hz (MT mi) As h (some (.int x)) h' := (cxI_ok (fun As h x h2 e => by obtain ⟨_, _, rfl, e0⟩ := sR_inv e; obtain ⟨_, _, rfl, e1⟩ := sI_inv e0; obtain ⟨rfl, ez⟩ := sE_inv e1; exact c_X9_isAsked E ez) ((cxI_ok (fun As h x h2 e => by obtain ⟨_, _, rfl, e0⟩ := sR_inv e; obtain ⟨_, _, rfl, e1⟩ := sI_inv e0; obtain ⟨rfl, ez⟩ := sE_inv e1; exact c_X9_refused E ez) ((cxI_ok (fun As h x h2 e => by obtain ⟨_, _, rfl, e0⟩ := sR_inv e; obtain ⟨_, _, rfl, e1⟩ := sI_inv e0; obtain ⟨rfl, ez⟩ := sE_inv e1; exact c_X9_leadsTo E ez) ((cxI_ok (fun As h x h2 e => by obtain ⟨_, _, rfl, e0⟩ := sR_inv e; obtain ⟨_, _, rfl, e1⟩ := sI_inv e0; obtain ⟨rfl, ez⟩ := sE_inv e1; exact c_X9_good E ez) (fI0_ok E))))))))
def FV_X9_leads : Nat → List Value → AH → Option (AH) := (cx 239 (fun As h => sR As fun a0 As => sE As (p_X9_works a0 h)) fV0)
theorem FV_X9_leads_ok {l : Launch} {D : va_G} {dA : Nat → ClassId} {z : Nat} {sa : Nat → Nat} {Hz : Heap} (E : StrOK qLen qCh l D dA z sa Hz) : ∀ mi As h h', FV_X9_leads mi As h = some h' → CalOK l D dA z sa Hz (MT mi) As h none h' := (cxV_ok (fun As h h2 e => by obtain ⟨_, _, rfl, e0⟩ := sR_inv e; obtain ⟨rfl, ez⟩ := sE_inv e0; exact c_X9_works E ez) (fV0_ok E))
def I_X9_leads_19 : List AI := [(.aload_n 0, 1, [], 0), (.invokevirtual 398, 3, [2, 239, 1, 8, 1717], 0), (.aload_n 0, 1, [], 0), (.aload_n 0, 1, [], 0), (.iload_n 1, 1, [], 0), (.invokevirtual 338, 3, [1, 257, 2, 8, 1784], 0), (.invokevirtual 43, 3, [1, 233, 2, 8, 1694], 0), (.ireturn, 1, [], 0)]
theorem ok_X9_leads_19 : vBL MT qLen qCh false q_X9_leads.2.2.2.2.1 q_X9_leads.2.2.2.2.2.1 q_X9_leads.2.2.1 q_X9_leads.1.cls q_X9_leads.1.name q_X9_leads.2.1 0 19 I_X9_leads_19 = true := by decide +kernel
def p_X9_leads_19 (a0 : Nat) (x1 : Int32) (h : AH) : Option (Int32 × AH) :=
  if (tg h a0).1 = 8 then ((p_X9_works a0 h).bind fun h101 =>
  if (tg h101 a0).1 = 8 then ((p_X9_leadsTo a0 x1 h101).bind fun q102 =>
  if (tg q102.2 a0).1 = 8 then ((p_X9_good a0 q102.1 q102.2).bind fun q103 =>
  some (q103.1, q103.2)) else none) else none) else none
set_option maxRecDepth 100000 in
theorem e_X9_leads_19 {l : Launch} {D : va_G} {dA : Nat → ClassId} {z : Nat} {sa : Nat → Nat} {Hz : Heap} (E : StrOK qLen qCh l D dA z sa Hz) {h0 fin : AH} {x : Int32}  : ∀ (a0 : Nat) (x1 : Int32) (h : AH), p_X9_leads_19 a0 x1 h = some (x, fin) → GM l D dA z sa Hz q_X9_leads h0 (some (.int x)) fin 19 [(0, .ref a0), (1, .int x1)] [] h := by
  intro a0 x1 h hd
  exact step E (is := I_X9_leads_19) (pc := 19) (K := k0) (FI := FI_X9_leads) (FV := FV_X9_leads) (FL := fL0) (rt := rtI) (ft := 0) (by exact hd) ok_X9_leads_19 k0_ok (FI_X9_leads_ok E) (FV_X9_leads_ok E) (fL0_ok E) (rtI_ok rfl)
def I_X9_leads_0 : List AI := [(.aload_n 0, 1, [], 0), (.iconst 0, 1, [], 0), (.putfield 33, 3, [8, 0, 0, 1345], 0), (.aload_n 0, 1, [], 0), (.iload_n 1, 1, [], 0), (.invokevirtual 404, 3, [1, 250, 2, 8, 1756], 0), (.ifCond .ne 9, 3, [19], 0), (.aload_n 0, 1, [], 0), (.iconst 1, 1, [], 1), (.invokevirtual 39, 3, [1, 201, 2, 8, 1481], 0), (.ireturn, 1, [], 0)]
theorem ok_X9_leads_0 : vBL MT qLen qCh false q_X9_leads.2.2.2.2.1 q_X9_leads.2.2.2.2.2.1 q_X9_leads.2.2.1 q_X9_leads.1.cls q_X9_leads.1.name q_X9_leads.2.1 0 0 I_X9_leads_0 = true := by decide +kernel
def p_X9_leads (a0 : Nat) (x1 : Int32) (h : AH) : Option (Int32 × AH) :=
  if (tg h a0).1 = 8 then (let h104 := wI h a0 0 ((0 : Int32))
  if (tg h104 a0).1 = 8 then ((p_X9_isAsked a0 x1 h104).bind fun q105 =>
  if q105.1 = 0 then (if (tg q105.2 a0).1 = 8 then ((p_X9_refused a0 ((1 : Int32)) q105.2).bind fun q109 =>
  some (q109.1, q109.2)) else none)
  else
  if (tg q105.2 a0).1 = 8 then ((p_X9_works a0 q105.2).bind fun h106 =>
  if (tg h106 a0).1 = 8 then ((p_X9_leadsTo a0 x1 h106).bind fun q107 =>
  if (tg q107.2 a0).1 = 8 then ((p_X9_good a0 q107.1 q107.2).bind fun q108 =>
  some (q108.1, q108.2)) else none) else none) else none) else none) else none
set_option maxRecDepth 100000 in
theorem e_X9_leads_0 {l : Launch} {D : va_G} {dA : Nat → ClassId} {z : Nat} {sa : Nat → Nat} {Hz : Heap} (E : StrOK qLen qCh l D dA z sa Hz) {h0 fin : AH} {x : Int32}  : ∀ (a0 : Nat) (x1 : Int32) (h : AH), p_X9_leads a0 x1 h = some (x, fin) → GM l D dA z sa Hz q_X9_leads h0 (some (.int x)) fin 0 [(0, .ref a0), (1, .int x1)] [] h := by
  intro a0 x1 h hd
  exact step E (is := I_X9_leads_0) (pc := 0) (K := (kx 19 (fun la st h => gR la 0 fun a0 => gI la 1 fun x1 => sE st (p_X9_leads_19 a0 x1 h)) k0)) (FI := FI_X9_leads) (FV := FV_X9_leads) (FL := fL0) (rt := rtI) (ft := 0) (by exact hd) ok_X9_leads_0 (kx_ok (fun la st h e => by obtain ⟨a0, m_a0, e1⟩ := gR_inv e; obtain ⟨x1, m_x1, e2⟩ := gI_inv e1; obtain ⟨rfl, ez⟩ := sE_inv e2; exact gm_fewer (e_X9_leads_19 E  a0 x1 h ez) (mem_cons m_a0 (mem_cons m_x1 mem_nil))) k0_ok) (FI_X9_leads_ok E) (FV_X9_leads_ok E) (fL0_ok E) (rtI_ok rfl)
theorem c_X9_leads {l : Launch} {D : va_G} {dA : Nat → ClassId} {z : Nat} {sa : Nat → Nat} {Hz : Heap} (E : StrOK qLen qCh l D dA z sa Hz) {a0 : Nat} {x1 : Int32} {h fin : AH} {x : Int32} (hd : p_X9_leads a0 x1 h = some (x, fin)) : CalOK l D dA z sa Hz q_X9_leads [.ref a0, .int x1] h (some (.int x)) fin := calOf (by decide +kernel) (Nat.le_of_ble_eq_true rfl) (e_X9_leads_0 E a0 x1 h hd)
def FI_X9_rights : Nat → List Value → AH → Option (Int32 × AH) := (cx 250 (fun As h => sR As fun a0 As => sI As fun x1 As => sE As (p_X9_isAsked a0 x1 h)) (cx 201 (fun As h => sR As fun a0 As => sI As fun x1 As => sE As (p_X9_refused a0 x1 h)) (cx 228 (fun As h => sI As fun x0 As => sI As fun x1 As => sE As (p_X9_bit x0 x1 h)) (cx 258 (fun As h => sR As fun a0 As => sI As fun x1 As => sI As fun x2 As => sI As fun x3 As => sE As (p_X9_looks a0 x1 x2 x3 h)) (cx 233 (fun As h => sR As fun a0 As => sI As fun x1 As => sE As (p_X9_good a0 x1 h)) fI0)))))
theorem FI_X9_rights_ok {l : Launch} {D : va_G} {dA : Nat → ClassId} {z : Nat} {sa : Nat → Nat} {Hz : Heap} (E : StrOK qLen qCh l D dA z sa Hz) : ∀ mi As h x h', FI_X9_rights mi As h = some (x, h') → CalOK l D dA z sa Hz (MT mi) As h (some (.int x)) h' := (cxI_ok (fun As h x h2 e => by obtain ⟨_, _, rfl, e0⟩ := sR_inv e; obtain ⟨_, _, rfl, e1⟩ := sI_inv e0; obtain ⟨rfl, ez⟩ := sE_inv e1; exact c_X9_isAsked E ez) ((cxI_ok (fun As h x h2 e => by obtain ⟨_, _, rfl, e0⟩ := sR_inv e; obtain ⟨_, _, rfl, e1⟩ := sI_inv e0; obtain ⟨rfl, ez⟩ := sE_inv e1; exact c_X9_refused E ez) ((cxI_ok (fun As h x h2 e => by obtain ⟨_, _, rfl, e0⟩ := sI_inv e; obtain ⟨_, _, rfl, e1⟩ := sI_inv e0; obtain ⟨rfl, ez⟩ := sE_inv e1; exact c_X9_bit E ez) ((cxI_ok (fun As h x h2 e => by obtain ⟨_, _, rfl, e0⟩ := sR_inv e; obtain ⟨_, _, rfl, e1⟩ := sI_inv e0; obtain ⟨_, _, rfl, e2⟩ := sI_inv e1; obtain ⟨_, _, rfl, e3⟩ := sI_inv e2; obtain ⟨rfl, ez⟩ := sE_inv e3; exact c_X9_looks E ez) ((cxI_ok (fun As h x h2 e => by obtain ⟨_, _, rfl, e0⟩ := sR_inv e; obtain ⟨_, _, rfl, e1⟩ := sI_inv e0; obtain ⟨rfl, ez⟩ := sE_inv e1; exact c_X9_good E ez) (fI0_ok E))))))))))
def FV_X9_rights : Nat → List Value → AH → Option (AH) := (cx 239 (fun As h => sR As fun a0 As => sE As (p_X9_works a0 h)) fV0)
theorem FV_X9_rights_ok {l : Launch} {D : va_G} {dA : Nat → ClassId} {z : Nat} {sa : Nat → Nat} {Hz : Heap} (E : StrOK qLen qCh l D dA z sa Hz) : ∀ mi As h h', FV_X9_rights mi As h = some h' → CalOK l D dA z sa Hz (MT mi) As h none h' := (cxV_ok (fun As h h2 e => by obtain ⟨_, _, rfl, e0⟩ := sR_inv e; obtain ⟨rfl, ez⟩ := sE_inv e0; exact c_X9_works E ez) (fV0_ok E))
def I_X9_rights_66 : List AI := [(.aload_n 0, 1, [], 0), (.iload_n 2, 1, [], 0), (.invokevirtual 43, 3, [1, 233, 2, 8, 1694], 0), (.ireturn, 1, [], 0)]
theorem ok_X9_rights_66 : vBL MT qLen qCh false q_X9_rights.2.2.2.2.1 q_X9_rights.2.2.2.2.2.1 q_X9_rights.2.2.1 q_X9_rights.1.cls q_X9_rights.1.name q_X9_rights.2.1 0 66 I_X9_rights_66 = true := by decide +kernel
def p_X9_rights_66 (a0 : Nat) (x2 : Int32) (h : AH) : Option (Int32 × AH) :=
  if (tg h a0).1 = 8 then ((p_X9_good a0 x2 h).bind fun q101 =>
  some (q101.1, q101.2)) else none
set_option maxRecDepth 100000 in
theorem e_X9_rights_66 {l : Launch} {D : va_G} {dA : Nat → ClassId} {z : Nat} {sa : Nat → Nat} {Hz : Heap} (E : StrOK qLen qCh l D dA z sa Hz) {h0 fin : AH} {x : Int32}  : ∀ (a0 : Nat) (x2 : Int32) (h : AH), p_X9_rights_66 a0 x2 h = some (x, fin) → GM l D dA z sa Hz q_X9_rights h0 (some (.int x)) fin 66 [(0, .ref a0), (2, .int x2)] [] h := by
  intro a0 x2 h hd
  exact step E (is := I_X9_rights_66) (pc := 66) (K := k0) (FI := FI_X9_rights) (FV := FV_X9_rights) (FL := fL0) (rt := rtI) (ft := 0) (by exact hd) ok_X9_rights_66 k0_ok (FI_X9_rights_ok E) (FV_X9_rights_ok E) (fL0_ok E) (rtI_ok rfl)
def I_X9_rights_58 : List AI := [(.ior, 1, [], 0), (.istore_n 2, 1, [], 0), (.iinc 3 1, 3, [], 1), (.goto (-36), 3, [27], 0)]
theorem ok_X9_rights_58 : vBL MT qLen qCh false q_X9_rights.2.2.2.2.1 q_X9_rights.2.2.2.2.2.1 q_X9_rights.2.2.1 q_X9_rights.1.cls q_X9_rights.1.name q_X9_rights.2.1 0 58 I_X9_rights_58 = true := by decide +kernel
def p_X9_rights_58 (k27 : Nat → Int32 → Int32 → Int32 → AH → Option (Int32 × AH)) (a0 : Nat) (x1 : Int32) (x3 : Int32) (y0 : Int32) (y1 : Int32) (h : AH) : Option (Int32 × AH) :=
  let x102 := y1 ||| y0
  k27 a0 x1 x102 (x3 + (1 : Int32)) h
set_option maxRecDepth 100000 in
theorem e_X9_rights_58 {l : Launch} {D : va_G} {dA : Nat → ClassId} {z : Nat} {sa : Nat → Nat} {Hz : Heap} (E : StrOK qLen qCh l D dA z sa Hz) {h0 fin : AH} {x : Int32}  {k27 : Nat → Int32 → Int32 → Int32 → AH → Option (Int32 × AH)} (hk27 : ∀ (a0 : Nat) (x1 : Int32) (x2 : Int32) (x3 : Int32) (h : AH), k27 a0 x1 x2 x3 h = some (x, fin) → GM l D dA z sa Hz q_X9_rights h0 (some (.int x)) fin 27 [(0, .ref a0), (1, .int x1), (2, .int x2), (3, .int x3)] [] h) : ∀ (a0 : Nat) (x1 : Int32) (x3 : Int32) (y0 : Int32) (y1 : Int32) (h : AH), p_X9_rights_58 k27 a0 x1 x3 y0 y1 h = some (x, fin) → GM l D dA z sa Hz q_X9_rights h0 (some (.int x)) fin 58 [(0, .ref a0), (1, .int x1), (3, .int x3)] [.int y0, .int y1] h := by
  intro a0 x1 x3 y0 y1 h hd
  exact step E (is := I_X9_rights_58) (pc := 58) (K := (kx 27 (fun la st h => gR la 0 fun a0 => gI la 1 fun x1 => gI la 2 fun x2 => gI la 3 fun x3 => sE st (k27 a0 x1 x2 x3 h)) k0)) (FI := FI_X9_rights) (FV := FV_X9_rights) (FL := fL0) (rt := rtI) (ft := 0) (by exact hd) ok_X9_rights_58 (kx_ok (fun la st h e => by obtain ⟨a0, m_a0, e1⟩ := gR_inv e; obtain ⟨x1, m_x1, e2⟩ := gI_inv e1; obtain ⟨x2, m_x2, e3⟩ := gI_inv e2; obtain ⟨x3, m_x3, e4⟩ := gI_inv e3; obtain ⟨rfl, ez⟩ := sE_inv e4; exact gm_fewer (hk27 a0 x1 x2 x3 h ez) (mem_cons m_a0 (mem_cons m_x1 (mem_cons m_x2 (mem_cons m_x3 mem_nil))))) k0_ok) (FI_X9_rights_ok E) (FV_X9_rights_ok E) (fL0_ok E) (rtI_ok rfl)
def I_X9_rights_57 : List AI := [(.iconst 0, 1, [], 0)]
theorem ok_X9_rights_57 : vBL MT qLen qCh false q_X9_rights.2.2.2.2.1 q_X9_rights.2.2.2.2.2.1 q_X9_rights.2.2.1 q_X9_rights.1.cls q_X9_rights.1.name q_X9_rights.2.1 58 57 I_X9_rights_57 = true := by decide +kernel
def p_X9_rights_57 (k27 : Nat → Int32 → Int32 → Int32 → AH → Option (Int32 × AH)) (a0 : Nat) (x1 : Int32) (x3 : Int32) (y0 : Int32) (h : AH) : Option (Int32 × AH) :=
  p_X9_rights_58 k27 a0 x1 x3 ((0 : Int32)) y0 h
set_option maxRecDepth 100000 in
theorem e_X9_rights_57 {l : Launch} {D : va_G} {dA : Nat → ClassId} {z : Nat} {sa : Nat → Nat} {Hz : Heap} (E : StrOK qLen qCh l D dA z sa Hz) {h0 fin : AH} {x : Int32}  {k27 : Nat → Int32 → Int32 → Int32 → AH → Option (Int32 × AH)} (hk27 : ∀ (a0 : Nat) (x1 : Int32) (x2 : Int32) (x3 : Int32) (h : AH), k27 a0 x1 x2 x3 h = some (x, fin) → GM l D dA z sa Hz q_X9_rights h0 (some (.int x)) fin 27 [(0, .ref a0), (1, .int x1), (2, .int x2), (3, .int x3)] [] h) : ∀ (a0 : Nat) (x1 : Int32) (x3 : Int32) (y0 : Int32) (h : AH), p_X9_rights_57 k27 a0 x1 x3 y0 h = some (x, fin) → GM l D dA z sa Hz q_X9_rights h0 (some (.int x)) fin 57 [(0, .ref a0), (1, .int x1), (3, .int x3)] [.int y0] h := by
  intro a0 x1 x3 y0 h hd
  exact step E (is := I_X9_rights_57) (pc := 57) (K := (kx 58 (fun la st h => gR la 0 fun a0 => gI la 1 fun x1 => gI la 3 fun x3 => sI st fun y0 st => sI st fun y1 st => sE st (p_X9_rights_58 k27 a0 x1 x3 y0 y1 h)) k0)) (FI := FI_X9_rights) (FV := FV_X9_rights) (FL := fL0) (rt := rtI) (ft := 58) (by exact hd) ok_X9_rights_57 (kx_ok (fun la st h e => by obtain ⟨a0, m_a0, e1⟩ := gR_inv e; obtain ⟨x1, m_x1, e2⟩ := gI_inv e1; obtain ⟨x3, m_x3, e3⟩ := gI_inv e2; obtain ⟨y0, _, rfl, e4⟩ := sI_inv e3; obtain ⟨y1, _, rfl, e5⟩ := sI_inv e4; obtain ⟨rfl, ez⟩ := sE_inv e5; exact gm_fewer (e_X9_rights_58 E hk27 a0 x1 x3 y0 y1 h ez) (mem_cons m_a0 (mem_cons m_x1 (mem_cons m_x3 mem_nil)))) k0_ok) (FI_X9_rights_ok E) (FV_X9_rights_ok E) (fL0_ok E) (rtI_ok rfl)
def I_X9_rights_27 : List AI := [(.iload_n 3, 1, [], 0), (.iconst 4, 1, [], 4), (.if_icmp .ge 37, 3, [66], 0), (.iload_n 2, 1, [], 0), (.aload_n 0, 1, [], 0), (.iload_n 1, 1, [], 0), (.iload_n 3, 1, [], 0), (.iconst 0, 1, [], 0), (.invokestatic 307, 3, [1, 228, 2, 1679], 0), (.iload_n 3, 1, [], 0), (.iconst 1, 1, [], 1), (.invokestatic 307, 3, [1, 228, 2, 1679], 0), (.invokevirtual 376, 3, [1, 258, 4, 8, 1763], 0), (.ifCond .lt 9, 3, [57], 0), (.iconst 1, 1, [], 1), (.iload_n 3, 1, [], 0), (.ishl, 1, [], 0), (.goto 4, 3, [58], 0)]
theorem ok_X9_rights_27 : vBL MT qLen qCh false q_X9_rights.2.2.2.2.1 q_X9_rights.2.2.2.2.2.1 q_X9_rights.2.2.1 q_X9_rights.1.cls q_X9_rights.1.name q_X9_rights.2.1 0 27 I_X9_rights_27 = true := by decide +kernel
def p_X9_rights_27 : Nat → Nat → Int32 → Int32 → Int32 → AH → Option (Int32 × AH)
  | 0, _, _, _, _, _ => none
  | n + 1, a0, x1, x2, x3, h => if x3 < ((4 : Int32)) then ((p_X9_bit x3 ((0 : Int32)) h).bind fun q104 =>
    (p_X9_bit x3 ((1 : Int32)) q104.2).bind fun q105 =>
    if (tg q105.2 a0).1 = 8 then ((p_X9_looks a0 x1 q104.1 q105.1 q105.2).bind fun q106 =>
    if q106.1 < 0 then (p_X9_rights_58 (p_X9_rights_27 n) a0 x1 x3 ((0 : Int32)) x2 q106.2)
    else
    p_X9_rights_58 (p_X9_rights_27 n) a0 x1 x3 (((1 : Int32)) <<< (x3 &&& 31)) x2 q106.2) else none)
    else
    if (tg h a0).1 = 8 then ((p_X9_good a0 x2 h).bind fun q103 =>
    some (q103.1, q103.2)) else none
set_option maxRecDepth 100000 in
theorem e_X9_rights_27 {l : Launch} {D : va_G} {dA : Nat → ClassId} {z : Nat} {sa : Nat → Nat} {Hz : Heap} (E : StrOK qLen qCh l D dA z sa Hz) {h0 fin : AH} {x : Int32}  : ∀ (n : Nat) (a0 : Nat) (x1 : Int32) (x2 : Int32) (x3 : Int32) (h : AH), p_X9_rights_27 n a0 x1 x2 x3 h = some (x, fin) → GM l D dA z sa Hz q_X9_rights h0 (some (.int x)) fin 27 [(0, .ref a0), (1, .int x1), (2, .int x2), (3, .int x3)] [] h := by
  intro n
  induction n with
  | zero => intro a0 x1 x2 x3 h hd; exact nomatch hd
  | succ n ih =>
    intro a0 x1 x2 x3 h hd
    exact step E (is := I_X9_rights_27) (pc := 27) (K := (kx 66 (fun la st h => gR la 0 fun a0 => gI la 2 fun x2 => sE st (p_X9_rights_66 a0 x2 h)) (kx 57 (fun la st h => gR la 0 fun a0 => gI la 1 fun x1 => gI la 3 fun x3 => sI st fun y0 st => sE st (p_X9_rights_57 (p_X9_rights_27 n) a0 x1 x3 y0 h)) (kx 58 (fun la st h => gR la 0 fun a0 => gI la 1 fun x1 => gI la 3 fun x3 => sI st fun y0 st => sI st fun y1 st => sE st (p_X9_rights_58 (p_X9_rights_27 n) a0 x1 x3 y0 y1 h)) k0)))) (FI := FI_X9_rights) (FV := FV_X9_rights) (FL := fL0) (rt := rtI) (ft := 0) (by exact hd) ok_X9_rights_27 (kx_ok (fun la st h e => by obtain ⟨a0, m_a0, e1⟩ := gR_inv e; obtain ⟨x2, m_x2, e2⟩ := gI_inv e1; obtain ⟨rfl, ez⟩ := sE_inv e2; exact gm_fewer (e_X9_rights_66 E  a0 x2 h ez) (mem_cons m_a0 (mem_cons m_x2 mem_nil))) (kx_ok (fun la st h e => by obtain ⟨a0, m_a0, e1⟩ := gR_inv e; obtain ⟨x1, m_x1, e2⟩ := gI_inv e1; obtain ⟨x3, m_x3, e3⟩ := gI_inv e2; obtain ⟨y0, _, rfl, e4⟩ := sI_inv e3; obtain ⟨rfl, ez⟩ := sE_inv e4; exact gm_fewer (e_X9_rights_57 E ih a0 x1 x3 y0 h ez) (mem_cons m_a0 (mem_cons m_x1 (mem_cons m_x3 mem_nil)))) (kx_ok (fun la st h e => by obtain ⟨a0, m_a0, e1⟩ := gR_inv e; obtain ⟨x1, m_x1, e2⟩ := gI_inv e1; obtain ⟨x3, m_x3, e3⟩ := gI_inv e2; obtain ⟨y0, _, rfl, e4⟩ := sI_inv e3; obtain ⟨y1, _, rfl, e5⟩ := sI_inv e4; obtain ⟨rfl, ez⟩ := sE_inv e5; exact gm_fewer (e_X9_rights_58 E ih a0 x1 x3 y0 y1 h ez) (mem_cons m_a0 (mem_cons m_x1 (mem_cons m_x3 mem_nil)))) k0_ok))) (FI_X9_rights_ok E) (FV_X9_rights_ok E) (fL0_ok E) (rtI_ok rfl)
def I_X9_rights_19 : List AI := [(.aload_n 0, 1, [], 0), (.invokevirtual 398, 3, [2, 239, 1, 8, 1717], 0), (.iconst 0, 1, [], 0), (.istore_n 2, 1, [], 0), (.iconst 0, 1, [], 0), (.istore_n 3, 1, [], 0)]
theorem ok_X9_rights_19 : vBL MT qLen qCh false q_X9_rights.2.2.2.2.1 q_X9_rights.2.2.2.2.2.1 q_X9_rights.2.2.1 q_X9_rights.1.cls q_X9_rights.1.name q_X9_rights.2.1 27 19 I_X9_rights_19 = true := by decide +kernel
def p_X9_rights_19 (a0 : Nat) (x1 : Int32) (h : AH) : Option (Int32 × AH) :=
  if (tg h a0).1 = 8 then ((p_X9_works a0 h).bind fun h107 =>
  p_X9_rights_27 FU a0 x1 ((0 : Int32)) ((0 : Int32)) h107) else none
set_option maxRecDepth 100000 in
theorem e_X9_rights_19 {l : Launch} {D : va_G} {dA : Nat → ClassId} {z : Nat} {sa : Nat → Nat} {Hz : Heap} (E : StrOK qLen qCh l D dA z sa Hz) {h0 fin : AH} {x : Int32}  : ∀ (a0 : Nat) (x1 : Int32) (h : AH), p_X9_rights_19 a0 x1 h = some (x, fin) → GM l D dA z sa Hz q_X9_rights h0 (some (.int x)) fin 19 [(0, .ref a0), (1, .int x1)] [] h := by
  intro a0 x1 h hd
  exact step E (is := I_X9_rights_19) (pc := 19) (K := (kx 27 (fun la st h => gR la 0 fun a0 => gI la 1 fun x1 => gI la 2 fun x2 => gI la 3 fun x3 => sE st (p_X9_rights_27 FU a0 x1 x2 x3 h)) k0)) (FI := FI_X9_rights) (FV := FV_X9_rights) (FL := fL0) (rt := rtI) (ft := 27) (by exact hd) ok_X9_rights_19 (kx_ok (fun la st h e => by obtain ⟨a0, m_a0, e1⟩ := gR_inv e; obtain ⟨x1, m_x1, e2⟩ := gI_inv e1; obtain ⟨x2, m_x2, e3⟩ := gI_inv e2; obtain ⟨x3, m_x3, e4⟩ := gI_inv e3; obtain ⟨rfl, ez⟩ := sE_inv e4; exact gm_fewer (e_X9_rights_27 E  FU a0 x1 x2 x3 h ez) (mem_cons m_a0 (mem_cons m_x1 (mem_cons m_x2 (mem_cons m_x3 mem_nil))))) k0_ok) (FI_X9_rights_ok E) (FV_X9_rights_ok E) (fL0_ok E) (rtI_ok rfl)
def I_X9_rights_0 : List AI := [(.aload_n 0, 1, [], 0), (.iconst 0, 1, [], 0), (.putfield 33, 3, [8, 0, 0, 1345], 0), (.aload_n 0, 1, [], 0), (.iload_n 1, 1, [], 0), (.invokevirtual 404, 3, [1, 250, 2, 8, 1756], 0), (.ifCond .ne 9, 3, [19], 0), (.aload_n 0, 1, [], 0), (.iconst 1, 1, [], 1), (.invokevirtual 39, 3, [1, 201, 2, 8, 1481], 0), (.ireturn, 1, [], 0)]
theorem ok_X9_rights_0 : vBL MT qLen qCh false q_X9_rights.2.2.2.2.1 q_X9_rights.2.2.2.2.2.1 q_X9_rights.2.2.1 q_X9_rights.1.cls q_X9_rights.1.name q_X9_rights.2.1 0 0 I_X9_rights_0 = true := by decide +kernel
def p_X9_rights (a0 : Nat) (x1 : Int32) (h : AH) : Option (Int32 × AH) :=
  if (tg h a0).1 = 8 then (let h108 := wI h a0 0 ((0 : Int32))
  if (tg h108 a0).1 = 8 then ((p_X9_isAsked a0 x1 h108).bind fun q109 =>
  if q109.1 = 0 then (if (tg q109.2 a0).1 = 8 then ((p_X9_refused a0 ((1 : Int32)) q109.2).bind fun q111 =>
  some (q111.1, q111.2)) else none)
  else
  if (tg q109.2 a0).1 = 8 then ((p_X9_works a0 q109.2).bind fun h110 =>
  p_X9_rights_27 FU a0 x1 ((0 : Int32)) ((0 : Int32)) h110) else none) else none) else none
set_option maxRecDepth 100000 in
theorem e_X9_rights_0 {l : Launch} {D : va_G} {dA : Nat → ClassId} {z : Nat} {sa : Nat → Nat} {Hz : Heap} (E : StrOK qLen qCh l D dA z sa Hz) {h0 fin : AH} {x : Int32}  : ∀ (a0 : Nat) (x1 : Int32) (h : AH), p_X9_rights a0 x1 h = some (x, fin) → GM l D dA z sa Hz q_X9_rights h0 (some (.int x)) fin 0 [(0, .ref a0), (1, .int x1)] [] h := by
  intro a0 x1 h hd
  exact step E (is := I_X9_rights_0) (pc := 0) (K := (kx 19 (fun la st h => gR la 0 fun a0 => gI la 1 fun x1 => sE st (p_X9_rights_19 a0 x1 h)) k0)) (FI := FI_X9_rights) (FV := FV_X9_rights) (FL := fL0) (rt := rtI) (ft := 0) (by exact hd) ok_X9_rights_0 (kx_ok (fun la st h e => by obtain ⟨a0, m_a0, e1⟩ := gR_inv e; obtain ⟨x1, m_x1, e2⟩ := gI_inv e1; obtain ⟨rfl, ez⟩ := sE_inv e2; exact gm_fewer (e_X9_rights_19 E  a0 x1 h ez) (mem_cons m_a0 (mem_cons m_x1 mem_nil))) k0_ok) (FI_X9_rights_ok E) (FV_X9_rights_ok E) (fL0_ok E) (rtI_ok rfl)
theorem c_X9_rights {l : Launch} {D : va_G} {dA : Nat → ClassId} {z : Nat} {sa : Nat → Nat} {Hz : Heap} (E : StrOK qLen qCh l D dA z sa Hz) {a0 : Nat} {x1 : Int32} {h fin : AH} {x : Int32} (hd : p_X9_rights a0 x1 h = some (x, fin)) : CalOK l D dA z sa Hz q_X9_rights [.ref a0, .int x1] h (some (.int x)) fin := calOf (by decide +kernel) (Nat.le_of_ble_eq_true rfl) (e_X9_rights_0 E a0 x1 h hd)
def FI_X9_large : Nat → List Value → AH → Option (Int32 × AH) := (cx 250 (fun As h => sR As fun a0 As => sI As fun x1 As => sE As (p_X9_isAsked a0 x1 h)) (cx 201 (fun As h => sR As fun a0 As => sI As fun x1 As => sE As (p_X9_refused a0 x1 h)) (cx 251 (fun As h => sR As fun a0 As => sI As fun x1 As => sE As (p_X9_rootWord a0 x1 h)) (cx 247 (fun As h => sI As fun x0 As => sI As fun x1 As => sE As (p_X9_has x0 x1 h)) (cx 253 (fun As h => sI As fun x0 As => sE As (p_X9_isLarge x0 h)) (cx 233 (fun As h => sR As fun a0 As => sI As fun x1 As => sE As (p_X9_good a0 x1 h)) fI0))))))
theorem FI_X9_large_ok {l : Launch} {D : va_G} {dA : Nat → ClassId} {z : Nat} {sa : Nat → Nat} {Hz : Heap} (E : StrOK qLen qCh l D dA z sa Hz) : ∀ mi As h x h', FI_X9_large mi As h = some (x, h') → CalOK l D dA z sa Hz (MT mi) As h (some (.int x)) h' := (cxI_ok (fun As h x h2 e => by obtain ⟨_, _, rfl, e0⟩ := sR_inv e; obtain ⟨_, _, rfl, e1⟩ := sI_inv e0; obtain ⟨rfl, ez⟩ := sE_inv e1; exact c_X9_isAsked E ez) ((cxI_ok (fun As h x h2 e => by obtain ⟨_, _, rfl, e0⟩ := sR_inv e; obtain ⟨_, _, rfl, e1⟩ := sI_inv e0; obtain ⟨rfl, ez⟩ := sE_inv e1; exact c_X9_refused E ez) ((cxI_ok (fun As h x h2 e => by obtain ⟨_, _, rfl, e0⟩ := sR_inv e; obtain ⟨_, _, rfl, e1⟩ := sI_inv e0; obtain ⟨rfl, ez⟩ := sE_inv e1; exact c_X9_rootWord E ez) ((cxI_ok (fun As h x h2 e => by obtain ⟨_, _, rfl, e0⟩ := sI_inv e; obtain ⟨_, _, rfl, e1⟩ := sI_inv e0; obtain ⟨rfl, ez⟩ := sE_inv e1; exact c_X9_has E ez) ((cxI_ok (fun As h x h2 e => by obtain ⟨_, _, rfl, e0⟩ := sI_inv e; obtain ⟨rfl, ez⟩ := sE_inv e0; exact c_X9_isLarge E ez) ((cxI_ok (fun As h x h2 e => by obtain ⟨_, _, rfl, e0⟩ := sR_inv e; obtain ⟨_, _, rfl, e1⟩ := sI_inv e0; obtain ⟨rfl, ez⟩ := sE_inv e1; exact c_X9_good E ez) (fI0_ok E))))))))))))
def FV_X9_large : Nat → List Value → AH → Option (AH) := (cx 239 (fun As h => sR As fun a0 As => sE As (p_X9_works a0 h)) fV0)
theorem FV_X9_large_ok {l : Launch} {D : va_G} {dA : Nat → ClassId} {z : Nat} {sa : Nat → Nat} {Hz : Heap} (E : StrOK qLen qCh l D dA z sa Hz) : ∀ mi As h h', FV_X9_large mi As h = some h' → CalOK l D dA z sa Hz (MT mi) As h none h' := (cxV_ok (fun As h h2 e => by obtain ⟨_, _, rfl, e0⟩ := sR_inv e; obtain ⟨rfl, ez⟩ := sE_inv e0; exact c_X9_works E ez) (fV0_ok E))
def I_X9_large_57 : List AI := [(.invokevirtual 43, 3, [1, 233, 2, 8, 1694], 0), (.ireturn, 1, [], 0)]
theorem ok_X9_large_57 : vBL MT qLen qCh false q_X9_large.2.2.2.2.1 q_X9_large.2.2.2.2.2.1 q_X9_large.2.2.1 q_X9_large.1.cls q_X9_large.1.name q_X9_large.2.1 0 57 I_X9_large_57 = true := by decide +kernel
def p_X9_large_57 (y0 : Int32) (b1 : Nat) (h : AH) : Option (Int32 × AH) :=
  if (tg h b1).1 = 8 then ((p_X9_good b1 y0 h).bind fun q101 =>
  some (q101.1, q101.2)) else none
set_option maxRecDepth 100000 in
theorem e_X9_large_57 {l : Launch} {D : va_G} {dA : Nat → ClassId} {z : Nat} {sa : Nat → Nat} {Hz : Heap} (E : StrOK qLen qCh l D dA z sa Hz) {h0 fin : AH} {x : Int32}  : ∀ (y0 : Int32) (b1 : Nat) (h : AH), p_X9_large_57 y0 b1 h = some (x, fin) → GM l D dA z sa Hz q_X9_large h0 (some (.int x)) fin 57 [] [.int y0, .ref b1] h := by
  intro y0 b1 h hd
  exact step E (is := I_X9_large_57) (pc := 57) (K := k0) (FI := FI_X9_large) (FV := FV_X9_large) (FL := fL0) (rt := rtI) (ft := 0) (by exact hd) ok_X9_large_57 k0_ok (FI_X9_large_ok E) (FV_X9_large_ok E) (fL0_ok E) (rtI_ok rfl)
def I_X9_large_56 : List AI := [(.iconst 0, 1, [], 0)]
theorem ok_X9_large_56 : vBL MT qLen qCh false q_X9_large.2.2.2.2.1 q_X9_large.2.2.2.2.2.1 q_X9_large.2.2.1 q_X9_large.1.cls q_X9_large.1.name q_X9_large.2.1 57 56 I_X9_large_56 = true := by decide +kernel
def p_X9_large_56 (b0 : Nat) (h : AH) : Option (Int32 × AH) :=
  p_X9_large_57 ((0 : Int32)) b0 h
set_option maxRecDepth 100000 in
theorem e_X9_large_56 {l : Launch} {D : va_G} {dA : Nat → ClassId} {z : Nat} {sa : Nat → Nat} {Hz : Heap} (E : StrOK qLen qCh l D dA z sa Hz) {h0 fin : AH} {x : Int32}  : ∀ (b0 : Nat) (h : AH), p_X9_large_56 b0 h = some (x, fin) → GM l D dA z sa Hz q_X9_large h0 (some (.int x)) fin 56 [] [.ref b0] h := by
  intro b0 h hd
  exact step E (is := I_X9_large_56) (pc := 56) (K := (kx 57 (fun la st h => sI st fun y0 st => sR st fun b1 st => sE st (p_X9_large_57 y0 b1 h)) k0)) (FI := FI_X9_large) (FV := FV_X9_large) (FL := fL0) (rt := rtI) (ft := 57) (by exact hd) ok_X9_large_56 (kx_ok (fun la st h e => by obtain ⟨y0, _, rfl, e1⟩ := sI_inv e; obtain ⟨b1, _, rfl, e2⟩ := sR_inv e1; obtain ⟨rfl, ez⟩ := sE_inv e2; exact gm_fewer (e_X9_large_57 E  y0 b1 h ez) mem_nil) k0_ok) (FI_X9_large_ok E) (FV_X9_large_ok E) (fL0_ok E) (rtI_ok rfl)
def I_X9_large_41 : List AI := [(.aload_n 0, 1, [], 0), (.iload_n 1, 1, [], 0), (.invokevirtual 322, 3, [1, 251, 2, 8, 1767], 0), (.invokestatic 325, 3, [1, 253, 1, 1774], 0), (.ifCond .eq 7, 3, [56], 0), (.iconst 1, 1, [], 1), (.goto 4, 3, [57], 0)]
theorem ok_X9_large_41 : vBL MT qLen qCh false q_X9_large.2.2.2.2.1 q_X9_large.2.2.2.2.2.1 q_X9_large.2.2.1 q_X9_large.1.cls q_X9_large.1.name q_X9_large.2.1 0 41 I_X9_large_41 = true := by decide +kernel
def p_X9_large_41 (a0 : Nat) (x1 : Int32) (b0 : Nat) (h : AH) : Option (Int32 × AH) :=
  if (tg h a0).1 = 8 then ((p_X9_rootWord a0 x1 h).bind fun q102 =>
  (p_X9_isLarge q102.1 q102.2).bind fun q103 =>
  if q103.1 = 0 then (p_X9_large_57 ((0 : Int32)) b0 q103.2)
  else
  p_X9_large_57 ((1 : Int32)) b0 q103.2) else none
set_option maxRecDepth 100000 in
theorem e_X9_large_41 {l : Launch} {D : va_G} {dA : Nat → ClassId} {z : Nat} {sa : Nat → Nat} {Hz : Heap} (E : StrOK qLen qCh l D dA z sa Hz) {h0 fin : AH} {x : Int32}  : ∀ (a0 : Nat) (x1 : Int32) (b0 : Nat) (h : AH), p_X9_large_41 a0 x1 b0 h = some (x, fin) → GM l D dA z sa Hz q_X9_large h0 (some (.int x)) fin 41 [(0, .ref a0), (1, .int x1)] [.ref b0] h := by
  intro a0 x1 b0 h hd
  exact step E (is := I_X9_large_41) (pc := 41) (K := (kx 56 (fun la st h => sR st fun b0 st => sE st (p_X9_large_56 b0 h)) (kx 57 (fun la st h => sI st fun y0 st => sR st fun b1 st => sE st (p_X9_large_57 y0 b1 h)) k0))) (FI := FI_X9_large) (FV := FV_X9_large) (FL := fL0) (rt := rtI) (ft := 0) (by exact hd) ok_X9_large_41 (kx_ok (fun la st h e => by obtain ⟨b0, _, rfl, e1⟩ := sR_inv e; obtain ⟨rfl, ez⟩ := sE_inv e1; exact gm_fewer (e_X9_large_56 E  b0 h ez) mem_nil) (kx_ok (fun la st h e => by obtain ⟨y0, _, rfl, e1⟩ := sI_inv e; obtain ⟨b1, _, rfl, e2⟩ := sR_inv e1; obtain ⟨rfl, ez⟩ := sE_inv e2; exact gm_fewer (e_X9_large_57 E  y0 b1 h ez) mem_nil) k0_ok)) (FI_X9_large_ok E) (FV_X9_large_ok E) (fL0_ok E) (rtI_ok rfl)
def I_X9_large_19 : List AI := [(.aload_n 0, 1, [], 0), (.invokevirtual 398, 3, [2, 239, 1, 8, 1717], 0), (.aload_n 0, 1, [], 0), (.aload_n 0, 1, [], 0), (.iload_n 1, 1, [], 0), (.invokevirtual 322, 3, [1, 251, 2, 8, 1767], 0), (.iconst 1, 1, [], 1), (.invokestatic 316, 3, [1, 247, 2, 1749], 0), (.ifCond .ne 8, 3, [41], 0), (.bipush (-2), 2, [], (-2)), (.goto 19, 3, [57], 0)]
theorem ok_X9_large_19 : vBL MT qLen qCh false q_X9_large.2.2.2.2.1 q_X9_large.2.2.2.2.2.1 q_X9_large.2.2.1 q_X9_large.1.cls q_X9_large.1.name q_X9_large.2.1 0 19 I_X9_large_19 = true := by decide +kernel
def p_X9_large_19 (a0 : Nat) (x1 : Int32) (h : AH) : Option (Int32 × AH) :=
  if (tg h a0).1 = 8 then ((p_X9_works a0 h).bind fun h104 =>
  if (tg h104 a0).1 = 8 then ((p_X9_rootWord a0 x1 h104).bind fun q105 =>
  (p_X9_has q105.1 ((1 : Int32)) q105.2).bind fun q106 =>
  if q106.1 = 0 then (p_X9_large_57 ((-2 : Int32)) a0 q106.2)
  else
  if (tg q106.2 a0).1 = 8 then ((p_X9_rootWord a0 x1 q106.2).bind fun q107 =>
  (p_X9_isLarge q107.1 q107.2).bind fun q108 =>
  if q108.1 = 0 then (p_X9_large_57 ((0 : Int32)) a0 q108.2)
  else
  p_X9_large_57 ((1 : Int32)) a0 q108.2) else none) else none) else none
set_option maxRecDepth 100000 in
theorem e_X9_large_19 {l : Launch} {D : va_G} {dA : Nat → ClassId} {z : Nat} {sa : Nat → Nat} {Hz : Heap} (E : StrOK qLen qCh l D dA z sa Hz) {h0 fin : AH} {x : Int32}  : ∀ (a0 : Nat) (x1 : Int32) (h : AH), p_X9_large_19 a0 x1 h = some (x, fin) → GM l D dA z sa Hz q_X9_large h0 (some (.int x)) fin 19 [(0, .ref a0), (1, .int x1)] [] h := by
  intro a0 x1 h hd
  exact step E (is := I_X9_large_19) (pc := 19) (K := (kx 41 (fun la st h => gR la 0 fun a0 => gI la 1 fun x1 => sR st fun b0 st => sE st (p_X9_large_41 a0 x1 b0 h)) (kx 57 (fun la st h => sI st fun y0 st => sR st fun b1 st => sE st (p_X9_large_57 y0 b1 h)) k0))) (FI := FI_X9_large) (FV := FV_X9_large) (FL := fL0) (rt := rtI) (ft := 0) (by exact hd) ok_X9_large_19 (kx_ok (fun la st h e => by obtain ⟨a0, m_a0, e1⟩ := gR_inv e; obtain ⟨x1, m_x1, e2⟩ := gI_inv e1; obtain ⟨b0, _, rfl, e3⟩ := sR_inv e2; obtain ⟨rfl, ez⟩ := sE_inv e3; exact gm_fewer (e_X9_large_41 E  a0 x1 b0 h ez) (mem_cons m_a0 (mem_cons m_x1 mem_nil))) (kx_ok (fun la st h e => by obtain ⟨y0, _, rfl, e1⟩ := sI_inv e; obtain ⟨b1, _, rfl, e2⟩ := sR_inv e1; obtain ⟨rfl, ez⟩ := sE_inv e2; exact gm_fewer (e_X9_large_57 E  y0 b1 h ez) mem_nil) k0_ok)) (FI_X9_large_ok E) (FV_X9_large_ok E) (fL0_ok E) (rtI_ok rfl)
def I_X9_large_0 : List AI := [(.aload_n 0, 1, [], 0), (.iconst 0, 1, [], 0), (.putfield 33, 3, [8, 0, 0, 1345], 0), (.aload_n 0, 1, [], 0), (.iload_n 1, 1, [], 0), (.invokevirtual 404, 3, [1, 250, 2, 8, 1756], 0), (.ifCond .ne 9, 3, [19], 0), (.aload_n 0, 1, [], 0), (.iconst 1, 1, [], 1), (.invokevirtual 39, 3, [1, 201, 2, 8, 1481], 0), (.ireturn, 1, [], 0)]
theorem ok_X9_large_0 : vBL MT qLen qCh false q_X9_large.2.2.2.2.1 q_X9_large.2.2.2.2.2.1 q_X9_large.2.2.1 q_X9_large.1.cls q_X9_large.1.name q_X9_large.2.1 0 0 I_X9_large_0 = true := by decide +kernel
def p_X9_large (a0 : Nat) (x1 : Int32) (h : AH) : Option (Int32 × AH) :=
  if (tg h a0).1 = 8 then (let h109 := wI h a0 0 ((0 : Int32))
  if (tg h109 a0).1 = 8 then ((p_X9_isAsked a0 x1 h109).bind fun q110 =>
  if q110.1 = 0 then (if (tg q110.2 a0).1 = 8 then ((p_X9_refused a0 ((1 : Int32)) q110.2).bind fun q116 =>
  some (q116.1, q116.2)) else none)
  else
  if (tg q110.2 a0).1 = 8 then ((p_X9_works a0 q110.2).bind fun h111 =>
  if (tg h111 a0).1 = 8 then ((p_X9_rootWord a0 x1 h111).bind fun q112 =>
  (p_X9_has q112.1 ((1 : Int32)) q112.2).bind fun q113 =>
  if q113.1 = 0 then (p_X9_large_57 ((-2 : Int32)) a0 q113.2)
  else
  if (tg q113.2 a0).1 = 8 then ((p_X9_rootWord a0 x1 q113.2).bind fun q114 =>
  (p_X9_isLarge q114.1 q114.2).bind fun q115 =>
  if q115.1 = 0 then (p_X9_large_57 ((0 : Int32)) a0 q115.2)
  else
  p_X9_large_57 ((1 : Int32)) a0 q115.2) else none) else none) else none) else none) else none
set_option maxRecDepth 100000 in
theorem e_X9_large_0 {l : Launch} {D : va_G} {dA : Nat → ClassId} {z : Nat} {sa : Nat → Nat} {Hz : Heap} (E : StrOK qLen qCh l D dA z sa Hz) {h0 fin : AH} {x : Int32}  : ∀ (a0 : Nat) (x1 : Int32) (h : AH), p_X9_large a0 x1 h = some (x, fin) → GM l D dA z sa Hz q_X9_large h0 (some (.int x)) fin 0 [(0, .ref a0), (1, .int x1)] [] h := by
  intro a0 x1 h hd
  exact step E (is := I_X9_large_0) (pc := 0) (K := (kx 19 (fun la st h => gR la 0 fun a0 => gI la 1 fun x1 => sE st (p_X9_large_19 a0 x1 h)) k0)) (FI := FI_X9_large) (FV := FV_X9_large) (FL := fL0) (rt := rtI) (ft := 0) (by exact hd) ok_X9_large_0 (kx_ok (fun la st h e => by obtain ⟨a0, m_a0, e1⟩ := gR_inv e; obtain ⟨x1, m_x1, e2⟩ := gI_inv e1; obtain ⟨rfl, ez⟩ := sE_inv e2; exact gm_fewer (e_X9_large_19 E  a0 x1 h ez) (mem_cons m_a0 (mem_cons m_x1 mem_nil))) k0_ok) (FI_X9_large_ok E) (FV_X9_large_ok E) (fL0_ok E) (rtI_ok rfl)
theorem c_X9_large {l : Launch} {D : va_G} {dA : Nat → ClassId} {z : Nat} {sa : Nat → Nat} {Hz : Heap} (E : StrOK qLen qCh l D dA z sa Hz) {a0 : Nat} {x1 : Int32} {h fin : AH} {x : Int32} (hd : p_X9_large a0 x1 h = some (x, fin)) : CalOK l D dA z sa Hz q_X9_large [.ref a0, .int x1] h (some (.int x)) fin := calOf (by decide +kernel) (Nat.le_of_ble_eq_true rfl) (e_X9_large_0 E a0 x1 h hd)
def FI_X9_aliases : Nat → List Value → AH → Option (Int32 × AH) := (cx 237 (fun As h => sI As fun x0 As => sE As (p_X9_isFrame x0 h)) (cx 201 (fun As h => sR As fun a0 As => sI As fun x1 As => sE As (p_X9_refused a0 x1 h)) (cx 257 (fun As h => sR As fun a0 As => sI As fun x1 As => sE As (p_X9_leadsTo a0 x1 h)) (cx 233 (fun As h => sR As fun a0 As => sI As fun x1 As => sE As (p_X9_good a0 x1 h)) fI0))))
theorem FI_X9_aliases_ok {l : Launch} {D : va_G} {dA : Nat → ClassId} {z : Nat} {sa : Nat → Nat} {Hz : Heap} (E : StrOK qLen qCh l D dA z sa Hz) : ∀ mi As h x h', FI_X9_aliases mi As h = some (x, h') → CalOK l D dA z sa Hz (MT mi) As h (some (.int x)) h' := (cxI_ok (fun As h x h2 e => by obtain ⟨_, _, rfl, e0⟩ := sI_inv e; obtain ⟨rfl, ez⟩ := sE_inv e0; exact c_X9_isFrame E ez) ((cxI_ok (fun As h x h2 e => by obtain ⟨_, _, rfl, e0⟩ := sR_inv e; obtain ⟨_, _, rfl, e1⟩ := sI_inv e0; obtain ⟨rfl, ez⟩ := sE_inv e1; exact c_X9_refused E ez) ((cxI_ok (fun As h x h2 e => by obtain ⟨_, _, rfl, e0⟩ := sR_inv e; obtain ⟨_, _, rfl, e1⟩ := sI_inv e0; obtain ⟨rfl, ez⟩ := sE_inv e1; exact c_X9_leadsTo E ez) ((cxI_ok (fun As h x h2 e => by obtain ⟨_, _, rfl, e0⟩ := sR_inv e; obtain ⟨_, _, rfl, e1⟩ := sI_inv e0; obtain ⟨rfl, ez⟩ := sE_inv e1; exact c_X9_good E ez) (fI0_ok E))))))))
def FV_X9_aliases : Nat → List Value → AH → Option (AH) := (cx 239 (fun As h => sR As fun a0 As => sE As (p_X9_works a0 h)) fV0)
theorem FV_X9_aliases_ok {l : Launch} {D : va_G} {dA : Nat → ClassId} {z : Nat} {sa : Nat → Nat} {Hz : Heap} (E : StrOK qLen qCh l D dA z sa Hz) : ∀ mi As h h', FV_X9_aliases mi As h = some h' → CalOK l D dA z sa Hz (MT mi) As h none h' := (cxV_ok (fun As h h2 e => by obtain ⟨_, _, rfl, e0⟩ := sR_inv e; obtain ⟨rfl, ez⟩ := sE_inv e0; exact c_X9_works E ez) (fV0_ok E))
def I_X9_aliases_19 : List AI := [(.aload_n 0, 1, [], 0), (.iconst 1, 1, [], 1), (.invokevirtual 39, 3, [1, 201, 2, 8, 1481], 0), (.ireturn, 1, [], 0)]
theorem ok_X9_aliases_19 : vBL MT qLen qCh false q_X9_aliases.2.2.2.2.1 q_X9_aliases.2.2.2.2.2.1 q_X9_aliases.2.2.1 q_X9_aliases.1.cls q_X9_aliases.1.name q_X9_aliases.2.1 0 19 I_X9_aliases_19 = true := by decide +kernel
def p_X9_aliases_19 (a0 : Nat) (h : AH) : Option (Int32 × AH) :=
  if (tg h a0).1 = 8 then ((p_X9_refused a0 ((1 : Int32)) h).bind fun q101 =>
  some (q101.1, q101.2)) else none
set_option maxRecDepth 100000 in
theorem e_X9_aliases_19 {l : Launch} {D : va_G} {dA : Nat → ClassId} {z : Nat} {sa : Nat → Nat} {Hz : Heap} (E : StrOK qLen qCh l D dA z sa Hz) {h0 fin : AH} {x : Int32}  : ∀ (a0 : Nat) (h : AH), p_X9_aliases_19 a0 h = some (x, fin) → GM l D dA z sa Hz q_X9_aliases h0 (some (.int x)) fin 19 [(0, .ref a0)] [] h := by
  intro a0 h hd
  exact step E (is := I_X9_aliases_19) (pc := 19) (K := k0) (FI := FI_X9_aliases) (FV := FV_X9_aliases) (FL := fL0) (rt := rtI) (ft := 0) (by exact hd) ok_X9_aliases_19 k0_ok (FI_X9_aliases_ok E) (FV_X9_aliases_ok E) (fL0_ok E) (rtI_ok rfl)
def I_X9_aliases_62 : List AI := [(.aload_n 0, 1, [], 0), (.iload_n 2, 1, [], 0), (.invokevirtual 43, 3, [1, 233, 2, 8, 1694], 0), (.ireturn, 1, [], 0)]
theorem ok_X9_aliases_62 : vBL MT qLen qCh false q_X9_aliases.2.2.2.2.1 q_X9_aliases.2.2.2.2.2.1 q_X9_aliases.2.2.1 q_X9_aliases.1.cls q_X9_aliases.1.name q_X9_aliases.2.1 0 62 I_X9_aliases_62 = true := by decide +kernel
def p_X9_aliases_62 (a0 : Nat) (x2 : Int32) (h : AH) : Option (Int32 × AH) :=
  if (tg h a0).1 = 8 then ((p_X9_good a0 x2 h).bind fun q102 =>
  some (q102.1, q102.2)) else none
set_option maxRecDepth 100000 in
theorem e_X9_aliases_62 {l : Launch} {D : va_G} {dA : Nat → ClassId} {z : Nat} {sa : Nat → Nat} {Hz : Heap} (E : StrOK qLen qCh l D dA z sa Hz) {h0 fin : AH} {x : Int32}  : ∀ (a0 : Nat) (x2 : Int32) (h : AH), p_X9_aliases_62 a0 x2 h = some (x, fin) → GM l D dA z sa Hz q_X9_aliases h0 (some (.int x)) fin 62 [(0, .ref a0), (2, .int x2)] [] h := by
  intro a0 x2 h hd
  exact step E (is := I_X9_aliases_62) (pc := 62) (K := k0) (FI := FI_X9_aliases) (FV := FV_X9_aliases) (FL := fL0) (rt := rtI) (ft := 0) (by exact hd) ok_X9_aliases_62 k0_ok (FI_X9_aliases_ok E) (FV_X9_aliases_ok E) (fL0_ok E) (rtI_ok rfl)
def I_X9_aliases_54 : List AI := [(.iadd, 1, [], 0), (.istore_n 2, 1, [], 0), (.iinc 3 1, 3, [], 1), (.goto (-26), 3, [33], 0)]
theorem ok_X9_aliases_54 : vBL MT qLen qCh false q_X9_aliases.2.2.2.2.1 q_X9_aliases.2.2.2.2.2.1 q_X9_aliases.2.2.1 q_X9_aliases.1.cls q_X9_aliases.1.name q_X9_aliases.2.1 0 54 I_X9_aliases_54 = true := by decide +kernel
def p_X9_aliases_54 (k33 : Nat → Int32 → Int32 → Int32 → AH → Option (Int32 × AH)) (a0 : Nat) (x1 : Int32) (x3 : Int32) (y0 : Int32) (y1 : Int32) (h : AH) : Option (Int32 × AH) :=
  let x103 := y1 + y0
  k33 a0 x1 x103 (x3 + (1 : Int32)) h
set_option maxRecDepth 100000 in
theorem e_X9_aliases_54 {l : Launch} {D : va_G} {dA : Nat → ClassId} {z : Nat} {sa : Nat → Nat} {Hz : Heap} (E : StrOK qLen qCh l D dA z sa Hz) {h0 fin : AH} {x : Int32}  {k33 : Nat → Int32 → Int32 → Int32 → AH → Option (Int32 × AH)} (hk33 : ∀ (a0 : Nat) (x1 : Int32) (x2 : Int32) (x3 : Int32) (h : AH), k33 a0 x1 x2 x3 h = some (x, fin) → GM l D dA z sa Hz q_X9_aliases h0 (some (.int x)) fin 33 [(0, .ref a0), (1, .int x1), (2, .int x2), (3, .int x3)] [] h) : ∀ (a0 : Nat) (x1 : Int32) (x3 : Int32) (y0 : Int32) (y1 : Int32) (h : AH), p_X9_aliases_54 k33 a0 x1 x3 y0 y1 h = some (x, fin) → GM l D dA z sa Hz q_X9_aliases h0 (some (.int x)) fin 54 [(0, .ref a0), (1, .int x1), (3, .int x3)] [.int y0, .int y1] h := by
  intro a0 x1 x3 y0 y1 h hd
  exact step E (is := I_X9_aliases_54) (pc := 54) (K := (kx 33 (fun la st h => gR la 0 fun a0 => gI la 1 fun x1 => gI la 2 fun x2 => gI la 3 fun x3 => sE st (k33 a0 x1 x2 x3 h)) k0)) (FI := FI_X9_aliases) (FV := FV_X9_aliases) (FL := fL0) (rt := rtI) (ft := 0) (by exact hd) ok_X9_aliases_54 (kx_ok (fun la st h e => by obtain ⟨a0, m_a0, e1⟩ := gR_inv e; obtain ⟨x1, m_x1, e2⟩ := gI_inv e1; obtain ⟨x2, m_x2, e3⟩ := gI_inv e2; obtain ⟨x3, m_x3, e4⟩ := gI_inv e3; obtain ⟨rfl, ez⟩ := sE_inv e4; exact gm_fewer (hk33 a0 x1 x2 x3 h ez) (mem_cons m_a0 (mem_cons m_x1 (mem_cons m_x2 (mem_cons m_x3 mem_nil))))) k0_ok) (FI_X9_aliases_ok E) (FV_X9_aliases_ok E) (fL0_ok E) (rtI_ok rfl)
def I_X9_aliases_53 : List AI := [(.iconst 0, 1, [], 0)]
theorem ok_X9_aliases_53 : vBL MT qLen qCh false q_X9_aliases.2.2.2.2.1 q_X9_aliases.2.2.2.2.2.1 q_X9_aliases.2.2.1 q_X9_aliases.1.cls q_X9_aliases.1.name q_X9_aliases.2.1 54 53 I_X9_aliases_53 = true := by decide +kernel
def p_X9_aliases_53 (k33 : Nat → Int32 → Int32 → Int32 → AH → Option (Int32 × AH)) (a0 : Nat) (x1 : Int32) (x3 : Int32) (y0 : Int32) (h : AH) : Option (Int32 × AH) :=
  p_X9_aliases_54 k33 a0 x1 x3 ((0 : Int32)) y0 h
set_option maxRecDepth 100000 in
theorem e_X9_aliases_53 {l : Launch} {D : va_G} {dA : Nat → ClassId} {z : Nat} {sa : Nat → Nat} {Hz : Heap} (E : StrOK qLen qCh l D dA z sa Hz) {h0 fin : AH} {x : Int32}  {k33 : Nat → Int32 → Int32 → Int32 → AH → Option (Int32 × AH)} (hk33 : ∀ (a0 : Nat) (x1 : Int32) (x2 : Int32) (x3 : Int32) (h : AH), k33 a0 x1 x2 x3 h = some (x, fin) → GM l D dA z sa Hz q_X9_aliases h0 (some (.int x)) fin 33 [(0, .ref a0), (1, .int x1), (2, .int x2), (3, .int x3)] [] h) : ∀ (a0 : Nat) (x1 : Int32) (x3 : Int32) (y0 : Int32) (h : AH), p_X9_aliases_53 k33 a0 x1 x3 y0 h = some (x, fin) → GM l D dA z sa Hz q_X9_aliases h0 (some (.int x)) fin 53 [(0, .ref a0), (1, .int x1), (3, .int x3)] [.int y0] h := by
  intro a0 x1 x3 y0 h hd
  exact step E (is := I_X9_aliases_53) (pc := 53) (K := (kx 54 (fun la st h => gR la 0 fun a0 => gI la 1 fun x1 => gI la 3 fun x3 => sI st fun y0 st => sI st fun y1 st => sE st (p_X9_aliases_54 k33 a0 x1 x3 y0 y1 h)) k0)) (FI := FI_X9_aliases) (FV := FV_X9_aliases) (FL := fL0) (rt := rtI) (ft := 54) (by exact hd) ok_X9_aliases_53 (kx_ok (fun la st h e => by obtain ⟨a0, m_a0, e1⟩ := gR_inv e; obtain ⟨x1, m_x1, e2⟩ := gI_inv e1; obtain ⟨x3, m_x3, e3⟩ := gI_inv e2; obtain ⟨y0, _, rfl, e4⟩ := sI_inv e3; obtain ⟨y1, _, rfl, e5⟩ := sI_inv e4; obtain ⟨rfl, ez⟩ := sE_inv e5; exact gm_fewer (e_X9_aliases_54 E hk33 a0 x1 x3 y0 y1 h ez) (mem_cons m_a0 (mem_cons m_x1 (mem_cons m_x3 mem_nil)))) k0_ok) (FI_X9_aliases_ok E) (FV_X9_aliases_ok E) (fL0_ok E) (rtI_ok rfl)
def I_X9_aliases_33 : List AI := [(.iload_n 3, 1, [], 0), (.bipush 64, 2, [], 64), (.if_icmp .ge 26, 3, [62], 0), (.iload_n 2, 1, [], 0), (.aload_n 0, 1, [], 0), (.iload_n 3, 1, [], 0), (.invokevirtual 338, 3, [1, 257, 2, 8, 1784], 0), (.iload_n 1, 1, [], 0), (.if_icmp .ne 7, 3, [53], 0), (.iconst 1, 1, [], 1), (.goto 4, 3, [54], 0)]
theorem ok_X9_aliases_33 : vBL MT qLen qCh false q_X9_aliases.2.2.2.2.1 q_X9_aliases.2.2.2.2.2.1 q_X9_aliases.2.2.1 q_X9_aliases.1.cls q_X9_aliases.1.name q_X9_aliases.2.1 0 33 I_X9_aliases_33 = true := by decide +kernel
def p_X9_aliases_33 : Nat → Nat → Int32 → Int32 → Int32 → AH → Option (Int32 × AH)
  | 0, _, _, _, _, _ => none
  | n + 1, a0, x1, x2, x3, h => if x3 < ((64 : Int32)) then (if (tg h a0).1 = 8 then ((p_X9_leadsTo a0 x3 h).bind fun q105 =>
    if q105.1 = x1 then (p_X9_aliases_54 (p_X9_aliases_33 n) a0 x1 x3 ((1 : Int32)) x2 q105.2)
    else
    p_X9_aliases_54 (p_X9_aliases_33 n) a0 x1 x3 ((0 : Int32)) x2 q105.2) else none)
    else
    if (tg h a0).1 = 8 then ((p_X9_good a0 x2 h).bind fun q104 =>
    some (q104.1, q104.2)) else none
set_option maxRecDepth 100000 in
theorem e_X9_aliases_33 {l : Launch} {D : va_G} {dA : Nat → ClassId} {z : Nat} {sa : Nat → Nat} {Hz : Heap} (E : StrOK qLen qCh l D dA z sa Hz) {h0 fin : AH} {x : Int32}  : ∀ (n : Nat) (a0 : Nat) (x1 : Int32) (x2 : Int32) (x3 : Int32) (h : AH), p_X9_aliases_33 n a0 x1 x2 x3 h = some (x, fin) → GM l D dA z sa Hz q_X9_aliases h0 (some (.int x)) fin 33 [(0, .ref a0), (1, .int x1), (2, .int x2), (3, .int x3)] [] h := by
  intro n
  induction n with
  | zero => intro a0 x1 x2 x3 h hd; exact nomatch hd
  | succ n ih =>
    intro a0 x1 x2 x3 h hd
    exact step E (is := I_X9_aliases_33) (pc := 33) (K := (kx 62 (fun la st h => gR la 0 fun a0 => gI la 2 fun x2 => sE st (p_X9_aliases_62 a0 x2 h)) (kx 53 (fun la st h => gR la 0 fun a0 => gI la 1 fun x1 => gI la 3 fun x3 => sI st fun y0 st => sE st (p_X9_aliases_53 (p_X9_aliases_33 n) a0 x1 x3 y0 h)) (kx 54 (fun la st h => gR la 0 fun a0 => gI la 1 fun x1 => gI la 3 fun x3 => sI st fun y0 st => sI st fun y1 st => sE st (p_X9_aliases_54 (p_X9_aliases_33 n) a0 x1 x3 y0 y1 h)) k0)))) (FI := FI_X9_aliases) (FV := FV_X9_aliases) (FL := fL0) (rt := rtI) (ft := 0) (by exact hd) ok_X9_aliases_33 (kx_ok (fun la st h e => by obtain ⟨a0, m_a0, e1⟩ := gR_inv e; obtain ⟨x2, m_x2, e2⟩ := gI_inv e1; obtain ⟨rfl, ez⟩ := sE_inv e2; exact gm_fewer (e_X9_aliases_62 E  a0 x2 h ez) (mem_cons m_a0 (mem_cons m_x2 mem_nil))) (kx_ok (fun la st h e => by obtain ⟨a0, m_a0, e1⟩ := gR_inv e; obtain ⟨x1, m_x1, e2⟩ := gI_inv e1; obtain ⟨x3, m_x3, e3⟩ := gI_inv e2; obtain ⟨y0, _, rfl, e4⟩ := sI_inv e3; obtain ⟨rfl, ez⟩ := sE_inv e4; exact gm_fewer (e_X9_aliases_53 E ih a0 x1 x3 y0 h ez) (mem_cons m_a0 (mem_cons m_x1 (mem_cons m_x3 mem_nil)))) (kx_ok (fun la st h e => by obtain ⟨a0, m_a0, e1⟩ := gR_inv e; obtain ⟨x1, m_x1, e2⟩ := gI_inv e1; obtain ⟨x3, m_x3, e3⟩ := gI_inv e2; obtain ⟨y0, _, rfl, e4⟩ := sI_inv e3; obtain ⟨y1, _, rfl, e5⟩ := sI_inv e4; obtain ⟨rfl, ez⟩ := sE_inv e5; exact gm_fewer (e_X9_aliases_54 E ih a0 x1 x3 y0 y1 h ez) (mem_cons m_a0 (mem_cons m_x1 (mem_cons m_x3 mem_nil)))) k0_ok))) (FI_X9_aliases_ok E) (FV_X9_aliases_ok E) (fL0_ok E) (rtI_ok rfl)
def I_X9_aliases_25 : List AI := [(.aload_n 0, 1, [], 0), (.invokevirtual 398, 3, [2, 239, 1, 8, 1717], 0), (.iconst 0, 1, [], 0), (.istore_n 2, 1, [], 0), (.iconst 0, 1, [], 0), (.istore_n 3, 1, [], 0)]
theorem ok_X9_aliases_25 : vBL MT qLen qCh false q_X9_aliases.2.2.2.2.1 q_X9_aliases.2.2.2.2.2.1 q_X9_aliases.2.2.1 q_X9_aliases.1.cls q_X9_aliases.1.name q_X9_aliases.2.1 33 25 I_X9_aliases_25 = true := by decide +kernel
def p_X9_aliases_25 (a0 : Nat) (x1 : Int32) (h : AH) : Option (Int32 × AH) :=
  if (tg h a0).1 = 8 then ((p_X9_works a0 h).bind fun h106 =>
  p_X9_aliases_33 FU a0 x1 ((0 : Int32)) ((0 : Int32)) h106) else none
set_option maxRecDepth 100000 in
theorem e_X9_aliases_25 {l : Launch} {D : va_G} {dA : Nat → ClassId} {z : Nat} {sa : Nat → Nat} {Hz : Heap} (E : StrOK qLen qCh l D dA z sa Hz) {h0 fin : AH} {x : Int32}  : ∀ (a0 : Nat) (x1 : Int32) (h : AH), p_X9_aliases_25 a0 x1 h = some (x, fin) → GM l D dA z sa Hz q_X9_aliases h0 (some (.int x)) fin 25 [(0, .ref a0), (1, .int x1)] [] h := by
  intro a0 x1 h hd
  exact step E (is := I_X9_aliases_25) (pc := 25) (K := (kx 33 (fun la st h => gR la 0 fun a0 => gI la 1 fun x1 => gI la 2 fun x2 => gI la 3 fun x3 => sE st (p_X9_aliases_33 FU a0 x1 x2 x3 h)) k0)) (FI := FI_X9_aliases) (FV := FV_X9_aliases) (FL := fL0) (rt := rtI) (ft := 33) (by exact hd) ok_X9_aliases_25 (kx_ok (fun la st h e => by obtain ⟨a0, m_a0, e1⟩ := gR_inv e; obtain ⟨x1, m_x1, e2⟩ := gI_inv e1; obtain ⟨x2, m_x2, e3⟩ := gI_inv e2; obtain ⟨x3, m_x3, e4⟩ := gI_inv e3; obtain ⟨rfl, ez⟩ := sE_inv e4; exact gm_fewer (e_X9_aliases_33 E  FU a0 x1 x2 x3 h ez) (mem_cons m_a0 (mem_cons m_x1 (mem_cons m_x2 (mem_cons m_x3 mem_nil))))) k0_ok) (FI_X9_aliases_ok E) (FV_X9_aliases_ok E) (fL0_ok E) (rtI_ok rfl)
def I_X9_aliases_0 : List AI := [(.aload_n 0, 1, [], 0), (.iconst 0, 1, [], 0), (.putfield 33, 3, [8, 0, 0, 1345], 0), (.aload_n 0, 1, [], 0), (.getfield 265, 3, [8, 3, 2, 1348], 0), (.ifnull 10, 3, [19], 0), (.iload_n 1, 1, [], 0), (.invokestatic 395, 3, [1, 237, 1, 1710], 0), (.ifCond .ne 9, 3, [25], 0)]
theorem ok_X9_aliases_0 : vBL MT qLen qCh false q_X9_aliases.2.2.2.2.1 q_X9_aliases.2.2.2.2.2.1 q_X9_aliases.2.2.1 q_X9_aliases.1.cls q_X9_aliases.1.name q_X9_aliases.2.1 19 0 I_X9_aliases_0 = true := by decide +kernel
def p_X9_aliases (a0 : Nat) (x1 : Int32) (h : AH) : Option (Int32 × AH) :=
  if (tg h a0).1 = 8 then (let h107 := wI h a0 0 ((0 : Int32))
  if (tg h107 a0).1 = 8 then (if (rR h107 a0 3) = 0 then (p_X9_aliases_19 a0 h107)
  else
  (p_X9_isFrame x1 h107).bind fun q108 =>
  if q108.1 = 0 then (p_X9_aliases_19 a0 q108.2)
  else
  if (tg q108.2 a0).1 = 8 then ((p_X9_works a0 q108.2).bind fun h109 =>
  p_X9_aliases_33 FU a0 x1 ((0 : Int32)) ((0 : Int32)) h109) else none) else none) else none
set_option maxRecDepth 100000 in
theorem e_X9_aliases_0 {l : Launch} {D : va_G} {dA : Nat → ClassId} {z : Nat} {sa : Nat → Nat} {Hz : Heap} (E : StrOK qLen qCh l D dA z sa Hz) {h0 fin : AH} {x : Int32}  : ∀ (a0 : Nat) (x1 : Int32) (h : AH), p_X9_aliases a0 x1 h = some (x, fin) → GM l D dA z sa Hz q_X9_aliases h0 (some (.int x)) fin 0 [(0, .ref a0), (1, .int x1)] [] h := by
  intro a0 x1 h hd
  exact step E (is := I_X9_aliases_0) (pc := 0) (K := (kx 19 (fun la st h => gR la 0 fun a0 => sE st (p_X9_aliases_19 a0 h)) (kx 25 (fun la st h => gR la 0 fun a0 => gI la 1 fun x1 => sE st (p_X9_aliases_25 a0 x1 h)) k0))) (FI := FI_X9_aliases) (FV := FV_X9_aliases) (FL := fL0) (rt := rtI) (ft := 19) (by exact hd) ok_X9_aliases_0 (kx_ok (fun la st h e => by obtain ⟨a0, m_a0, e1⟩ := gR_inv e; obtain ⟨rfl, ez⟩ := sE_inv e1; exact gm_fewer (e_X9_aliases_19 E  a0 h ez) (mem_cons m_a0 mem_nil)) (kx_ok (fun la st h e => by obtain ⟨a0, m_a0, e1⟩ := gR_inv e; obtain ⟨x1, m_x1, e2⟩ := gI_inv e1; obtain ⟨rfl, ez⟩ := sE_inv e2; exact gm_fewer (e_X9_aliases_25 E  a0 x1 h ez) (mem_cons m_a0 (mem_cons m_x1 mem_nil))) k0_ok)) (FI_X9_aliases_ok E) (FV_X9_aliases_ok E) (fL0_ok E) (rtI_ok rfl)
theorem c_X9_aliases {l : Launch} {D : va_G} {dA : Nat → ClassId} {z : Nat} {sa : Nat → Nat} {Hz : Heap} (E : StrOK qLen qCh l D dA z sa Hz) {a0 : Nat} {x1 : Int32} {h fin : AH} {x : Int32} (hd : p_X9_aliases a0 x1 h = some (x, fin)) : CalOK l D dA z sa Hz q_X9_aliases [.ref a0, .int x1] h (some (.int x)) fin := calOf (by decide +kernel) (Nat.le_of_ble_eq_true rfl) (e_X9_aliases_0 E a0 x1 h hd)
def FI_X9_tables : Nat → List Value → AH → Option (Int32 × AH) := (cx 201 (fun As h => sR As fun a0 As => sI As fun x1 As => sE As (p_X9_refused a0 x1 h)) (cx 251 (fun As h => sR As fun a0 As => sI As fun x1 As => sE As (p_X9_rootWord a0 x1 h)) (cx 247 (fun As h => sI As fun x0 As => sI As fun x1 As => sE As (p_X9_has x0 x1 h)) (cx 253 (fun As h => sI As fun x0 As => sE As (p_X9_isLarge x0 h)) (cx 254 (fun As h => sI As fun x0 As => sE As (p_X9_tells x0 h)) (cx 233 (fun As h => sR As fun a0 As => sI As fun x1 As => sE As (p_X9_good a0 x1 h)) fI0))))))
theorem FI_X9_tables_ok {l : Launch} {D : va_G} {dA : Nat → ClassId} {z : Nat} {sa : Nat → Nat} {Hz : Heap} (E : StrOK qLen qCh l D dA z sa Hz) : ∀ mi As h x h', FI_X9_tables mi As h = some (x, h') → CalOK l D dA z sa Hz (MT mi) As h (some (.int x)) h' := (cxI_ok (fun As h x h2 e => by obtain ⟨_, _, rfl, e0⟩ := sR_inv e; obtain ⟨_, _, rfl, e1⟩ := sI_inv e0; obtain ⟨rfl, ez⟩ := sE_inv e1; exact c_X9_refused E ez) ((cxI_ok (fun As h x h2 e => by obtain ⟨_, _, rfl, e0⟩ := sR_inv e; obtain ⟨_, _, rfl, e1⟩ := sI_inv e0; obtain ⟨rfl, ez⟩ := sE_inv e1; exact c_X9_rootWord E ez) ((cxI_ok (fun As h x h2 e => by obtain ⟨_, _, rfl, e0⟩ := sI_inv e; obtain ⟨_, _, rfl, e1⟩ := sI_inv e0; obtain ⟨rfl, ez⟩ := sE_inv e1; exact c_X9_has E ez) ((cxI_ok (fun As h x h2 e => by obtain ⟨_, _, rfl, e0⟩ := sI_inv e; obtain ⟨rfl, ez⟩ := sE_inv e0; exact c_X9_isLarge E ez) ((cxI_ok (fun As h x h2 e => by obtain ⟨_, _, rfl, e0⟩ := sI_inv e; obtain ⟨rfl, ez⟩ := sE_inv e0; exact c_X9_tells E ez) ((cxI_ok (fun As h x h2 e => by obtain ⟨_, _, rfl, e0⟩ := sR_inv e; obtain ⟨_, _, rfl, e1⟩ := sI_inv e0; obtain ⟨rfl, ez⟩ := sE_inv e1; exact c_X9_good E ez) (fI0_ok E))))))))))))
def FV_X9_tables : Nat → List Value → AH → Option (AH) := (cx 239 (fun As h => sR As fun a0 As => sE As (p_X9_works a0 h)) fV0)
theorem FV_X9_tables_ok {l : Launch} {D : va_G} {dA : Nat → ClassId} {z : Nat} {sa : Nat → Nat} {Hz : Heap} (E : StrOK qLen qCh l D dA z sa Hz) : ∀ mi As h h', FV_X9_tables mi As h = some h' → CalOK l D dA z sa Hz (MT mi) As h none h' := (cxV_ok (fun As h h2 e => by obtain ⟨_, _, rfl, e0⟩ := sR_inv e; obtain ⟨rfl, ez⟩ := sE_inv e0; exact c_X9_works E ez) (fV0_ok E))
def I_X9_tables_75 : List AI := [(.aload_n 0, 1, [], 0), (.iload_n 1, 1, [], 0), (.invokevirtual 43, 3, [1, 233, 2, 8, 1694], 0), (.ireturn, 1, [], 0)]
theorem ok_X9_tables_75 : vBL MT qLen qCh false q_X9_tables.2.2.2.2.1 q_X9_tables.2.2.2.2.2.1 q_X9_tables.2.2.1 q_X9_tables.1.cls q_X9_tables.1.name q_X9_tables.2.1 0 75 I_X9_tables_75 = true := by decide +kernel
def p_X9_tables_75 (a0 : Nat) (x1 : Int32) (h : AH) : Option (Int32 × AH) :=
  if (tg h a0).1 = 8 then ((p_X9_good a0 x1 h).bind fun q101 =>
  some (q101.1, q101.2)) else none
set_option maxRecDepth 100000 in
theorem e_X9_tables_75 {l : Launch} {D : va_G} {dA : Nat → ClassId} {z : Nat} {sa : Nat → Nat} {Hz : Heap} (E : StrOK qLen qCh l D dA z sa Hz) {h0 fin : AH} {x : Int32}  : ∀ (a0 : Nat) (x1 : Int32) (h : AH), p_X9_tables_75 a0 x1 h = some (x, fin) → GM l D dA z sa Hz q_X9_tables h0 (some (.int x)) fin 75 [(0, .ref a0), (1, .int x1)] [] h := by
  intro a0 x1 h hd
  exact step E (is := I_X9_tables_75) (pc := 75) (K := k0) (FI := FI_X9_tables) (FV := FV_X9_tables) (FL := fL0) (rt := rtI) (ft := 0) (by exact hd) ok_X9_tables_75 k0_ok (FI_X9_tables_ok E) (FV_X9_tables_ok E) (fL0_ok E) (rtI_ok rfl)
def I_X9_tables_67 : List AI := [(.ior, 1, [], 0), (.istore_n 1, 1, [], 0), (.iinc 2 1, 3, [], 1), (.goto (-46), 3, [26], 0)]
theorem ok_X9_tables_67 : vBL MT qLen qCh false q_X9_tables.2.2.2.2.1 q_X9_tables.2.2.2.2.2.1 q_X9_tables.2.2.1 q_X9_tables.1.cls q_X9_tables.1.name q_X9_tables.2.1 0 67 I_X9_tables_67 = true := by decide +kernel
def p_X9_tables_67 (k26 : Nat → Int32 → Int32 → AH → Option (Int32 × AH)) (a0 : Nat) (x2 : Int32) (y0 : Int32) (y1 : Int32) (h : AH) : Option (Int32 × AH) :=
  let x102 := y1 ||| y0
  k26 a0 x102 (x2 + (1 : Int32)) h
set_option maxRecDepth 100000 in
theorem e_X9_tables_67 {l : Launch} {D : va_G} {dA : Nat → ClassId} {z : Nat} {sa : Nat → Nat} {Hz : Heap} (E : StrOK qLen qCh l D dA z sa Hz) {h0 fin : AH} {x : Int32}  {k26 : Nat → Int32 → Int32 → AH → Option (Int32 × AH)} (hk26 : ∀ (a0 : Nat) (x1 : Int32) (x2 : Int32) (h : AH), k26 a0 x1 x2 h = some (x, fin) → GM l D dA z sa Hz q_X9_tables h0 (some (.int x)) fin 26 [(0, .ref a0), (1, .int x1), (2, .int x2)] [] h) : ∀ (a0 : Nat) (x2 : Int32) (y0 : Int32) (y1 : Int32) (h : AH), p_X9_tables_67 k26 a0 x2 y0 y1 h = some (x, fin) → GM l D dA z sa Hz q_X9_tables h0 (some (.int x)) fin 67 [(0, .ref a0), (2, .int x2)] [.int y0, .int y1] h := by
  intro a0 x2 y0 y1 h hd
  exact step E (is := I_X9_tables_67) (pc := 67) (K := (kx 26 (fun la st h => gR la 0 fun a0 => gI la 1 fun x1 => gI la 2 fun x2 => sE st (k26 a0 x1 x2 h)) k0)) (FI := FI_X9_tables) (FV := FV_X9_tables) (FL := fL0) (rt := rtI) (ft := 0) (by exact hd) ok_X9_tables_67 (kx_ok (fun la st h e => by obtain ⟨a0, m_a0, e1⟩ := gR_inv e; obtain ⟨x1, m_x1, e2⟩ := gI_inv e1; obtain ⟨x2, m_x2, e3⟩ := gI_inv e2; obtain ⟨rfl, ez⟩ := sE_inv e3; exact gm_fewer (hk26 a0 x1 x2 h ez) (mem_cons m_a0 (mem_cons m_x1 (mem_cons m_x2 mem_nil)))) k0_ok) (FI_X9_tables_ok E) (FV_X9_tables_ok E) (fL0_ok E) (rtI_ok rfl)
def I_X9_tables_66 : List AI := [(.iconst 0, 1, [], 0)]
theorem ok_X9_tables_66 : vBL MT qLen qCh false q_X9_tables.2.2.2.2.1 q_X9_tables.2.2.2.2.2.1 q_X9_tables.2.2.1 q_X9_tables.1.cls q_X9_tables.1.name q_X9_tables.2.1 67 66 I_X9_tables_66 = true := by decide +kernel
def p_X9_tables_66 (k26 : Nat → Int32 → Int32 → AH → Option (Int32 × AH)) (a0 : Nat) (x2 : Int32) (y0 : Int32) (h : AH) : Option (Int32 × AH) :=
  p_X9_tables_67 k26 a0 x2 ((0 : Int32)) y0 h
set_option maxRecDepth 100000 in
theorem e_X9_tables_66 {l : Launch} {D : va_G} {dA : Nat → ClassId} {z : Nat} {sa : Nat → Nat} {Hz : Heap} (E : StrOK qLen qCh l D dA z sa Hz) {h0 fin : AH} {x : Int32}  {k26 : Nat → Int32 → Int32 → AH → Option (Int32 × AH)} (hk26 : ∀ (a0 : Nat) (x1 : Int32) (x2 : Int32) (h : AH), k26 a0 x1 x2 h = some (x, fin) → GM l D dA z sa Hz q_X9_tables h0 (some (.int x)) fin 26 [(0, .ref a0), (1, .int x1), (2, .int x2)] [] h) : ∀ (a0 : Nat) (x2 : Int32) (y0 : Int32) (h : AH), p_X9_tables_66 k26 a0 x2 y0 h = some (x, fin) → GM l D dA z sa Hz q_X9_tables h0 (some (.int x)) fin 66 [(0, .ref a0), (2, .int x2)] [.int y0] h := by
  intro a0 x2 y0 h hd
  exact step E (is := I_X9_tables_66) (pc := 66) (K := (kx 67 (fun la st h => gR la 0 fun a0 => gI la 2 fun x2 => sI st fun y0 st => sI st fun y1 st => sE st (p_X9_tables_67 k26 a0 x2 y0 y1 h)) k0)) (FI := FI_X9_tables) (FV := FV_X9_tables) (FL := fL0) (rt := rtI) (ft := 67) (by exact hd) ok_X9_tables_66 (kx_ok (fun la st h e => by obtain ⟨a0, m_a0, e1⟩ := gR_inv e; obtain ⟨x2, m_x2, e2⟩ := gI_inv e1; obtain ⟨y0, _, rfl, e3⟩ := sI_inv e2; obtain ⟨y1, _, rfl, e4⟩ := sI_inv e3; obtain ⟨rfl, ez⟩ := sE_inv e4; exact gm_fewer (e_X9_tables_67 E hk26 a0 x2 y0 y1 h ez) (mem_cons m_a0 (mem_cons m_x2 mem_nil))) k0_ok) (FI_X9_tables_ok E) (FV_X9_tables_ok E) (fL0_ok E) (rtI_ok rfl)
def I_X9_tables_26 : List AI := [(.iload_n 2, 1, [], 0), (.bipush 8, 2, [], 8), (.if_icmp .ge 46, 3, [75], 0), (.aload_n 0, 1, [], 0), (.bipush 8, 2, [], 8), (.iload_n 2, 1, [], 0), (.imul, 1, [], 0), (.invokevirtual 322, 3, [1, 251, 2, 8, 1767], 0), (.istore_n 3, 1, [], 0), (.iload_n 1, 1, [], 0), (.iload_n 3, 1, [], 0), (.iconst 1, 1, [], 1), (.invokestatic 316, 3, [1, 247, 2, 1749], 0), (.ifCond .eq 19, 3, [66], 0), (.iload_n 3, 1, [], 0), (.invokestatic 325, 3, [1, 253, 1, 1774], 0), (.ifCond .ne 12, 3, [66], 0), (.iconst 1, 1, [], 1), (.iload_n 3, 1, [], 0), (.invokestatic 319, 3, [1, 254, 1, 1781], 0), (.ishl, 1, [], 0), (.goto 4, 3, [67], 0)]
theorem ok_X9_tables_26 : vBL MT qLen qCh false q_X9_tables.2.2.2.2.1 q_X9_tables.2.2.2.2.2.1 q_X9_tables.2.2.1 q_X9_tables.1.cls q_X9_tables.1.name q_X9_tables.2.1 0 26 I_X9_tables_26 = true := by decide +kernel
def p_X9_tables_26 : Nat → Nat → Int32 → Int32 → AH → Option (Int32 × AH)
  | 0, _, _, _, _ => none
  | n + 1, a0, x1, x2, h => if x2 < ((8 : Int32)) then (if (tg h a0).1 = 8 then ((p_X9_rootWord a0 (((8 : Int32)) * x2) h).bind fun q104 =>
    (p_X9_has q104.1 ((1 : Int32)) q104.2).bind fun q105 =>
    if q105.1 = 0 then (p_X9_tables_66 (p_X9_tables_26 n) a0 x2 x1 q105.2)
    else
    (p_X9_isLarge q104.1 q105.2).bind fun q106 =>
    if q106.1 = 0 then ((p_X9_tells q104.1 q106.2).bind fun q107 =>
    p_X9_tables_67 (p_X9_tables_26 n) a0 x2 (((1 : Int32)) <<< (q107.1 &&& 31)) x1 q107.2)
    else
    p_X9_tables_66 (p_X9_tables_26 n) a0 x2 x1 q106.2) else none)
    else
    if (tg h a0).1 = 8 then ((p_X9_good a0 x1 h).bind fun q103 =>
    some (q103.1, q103.2)) else none
set_option maxRecDepth 100000 in
theorem e_X9_tables_26 {l : Launch} {D : va_G} {dA : Nat → ClassId} {z : Nat} {sa : Nat → Nat} {Hz : Heap} (E : StrOK qLen qCh l D dA z sa Hz) {h0 fin : AH} {x : Int32}  : ∀ (n : Nat) (a0 : Nat) (x1 : Int32) (x2 : Int32) (h : AH), p_X9_tables_26 n a0 x1 x2 h = some (x, fin) → GM l D dA z sa Hz q_X9_tables h0 (some (.int x)) fin 26 [(0, .ref a0), (1, .int x1), (2, .int x2)] [] h := by
  intro n
  induction n with
  | zero => intro a0 x1 x2 h hd; exact nomatch hd
  | succ n ih =>
    intro a0 x1 x2 h hd
    exact step E (is := I_X9_tables_26) (pc := 26) (K := (kx 75 (fun la st h => gR la 0 fun a0 => gI la 1 fun x1 => sE st (p_X9_tables_75 a0 x1 h)) (kx 66 (fun la st h => gR la 0 fun a0 => gI la 2 fun x2 => sI st fun y0 st => sE st (p_X9_tables_66 (p_X9_tables_26 n) a0 x2 y0 h)) (kx 67 (fun la st h => gR la 0 fun a0 => gI la 2 fun x2 => sI st fun y0 st => sI st fun y1 st => sE st (p_X9_tables_67 (p_X9_tables_26 n) a0 x2 y0 y1 h)) k0)))) (FI := FI_X9_tables) (FV := FV_X9_tables) (FL := fL0) (rt := rtI) (ft := 0) (by exact hd) ok_X9_tables_26 (kx_ok (fun la st h e => by obtain ⟨a0, m_a0, e1⟩ := gR_inv e; obtain ⟨x1, m_x1, e2⟩ := gI_inv e1; obtain ⟨rfl, ez⟩ := sE_inv e2; exact gm_fewer (e_X9_tables_75 E  a0 x1 h ez) (mem_cons m_a0 (mem_cons m_x1 mem_nil))) (kx_ok (fun la st h e => by obtain ⟨a0, m_a0, e1⟩ := gR_inv e; obtain ⟨x2, m_x2, e2⟩ := gI_inv e1; obtain ⟨y0, _, rfl, e3⟩ := sI_inv e2; obtain ⟨rfl, ez⟩ := sE_inv e3; exact gm_fewer (e_X9_tables_66 E ih a0 x2 y0 h ez) (mem_cons m_a0 (mem_cons m_x2 mem_nil))) (kx_ok (fun la st h e => by obtain ⟨a0, m_a0, e1⟩ := gR_inv e; obtain ⟨x2, m_x2, e2⟩ := gI_inv e1; obtain ⟨y0, _, rfl, e3⟩ := sI_inv e2; obtain ⟨y1, _, rfl, e4⟩ := sI_inv e3; obtain ⟨rfl, ez⟩ := sE_inv e4; exact gm_fewer (e_X9_tables_67 E ih a0 x2 y0 y1 h ez) (mem_cons m_a0 (mem_cons m_x2 mem_nil))) k0_ok))) (FI_X9_tables_ok E) (FV_X9_tables_ok E) (fL0_ok E) (rtI_ok rfl)
def I_X9_tables_18 : List AI := [(.aload_n 0, 1, [], 0), (.invokevirtual 398, 3, [2, 239, 1, 8, 1717], 0), (.iconst 0, 1, [], 0), (.istore_n 1, 1, [], 0), (.iconst 0, 1, [], 0), (.istore_n 2, 1, [], 0)]
theorem ok_X9_tables_18 : vBL MT qLen qCh false q_X9_tables.2.2.2.2.1 q_X9_tables.2.2.2.2.2.1 q_X9_tables.2.2.1 q_X9_tables.1.cls q_X9_tables.1.name q_X9_tables.2.1 26 18 I_X9_tables_18 = true := by decide +kernel
def p_X9_tables_18 (a0 : Nat) (h : AH) : Option (Int32 × AH) :=
  if (tg h a0).1 = 8 then ((p_X9_works a0 h).bind fun h108 =>
  p_X9_tables_26 FU a0 ((0 : Int32)) ((0 : Int32)) h108) else none
set_option maxRecDepth 100000 in
theorem e_X9_tables_18 {l : Launch} {D : va_G} {dA : Nat → ClassId} {z : Nat} {sa : Nat → Nat} {Hz : Heap} (E : StrOK qLen qCh l D dA z sa Hz) {h0 fin : AH} {x : Int32}  : ∀ (a0 : Nat) (h : AH), p_X9_tables_18 a0 h = some (x, fin) → GM l D dA z sa Hz q_X9_tables h0 (some (.int x)) fin 18 [(0, .ref a0)] [] h := by
  intro a0 h hd
  exact step E (is := I_X9_tables_18) (pc := 18) (K := (kx 26 (fun la st h => gR la 0 fun a0 => gI la 1 fun x1 => gI la 2 fun x2 => sE st (p_X9_tables_26 FU a0 x1 x2 h)) k0)) (FI := FI_X9_tables) (FV := FV_X9_tables) (FL := fL0) (rt := rtI) (ft := 26) (by exact hd) ok_X9_tables_18 (kx_ok (fun la st h e => by obtain ⟨a0, m_a0, e1⟩ := gR_inv e; obtain ⟨x1, m_x1, e2⟩ := gI_inv e1; obtain ⟨x2, m_x2, e3⟩ := gI_inv e2; obtain ⟨rfl, ez⟩ := sE_inv e3; exact gm_fewer (e_X9_tables_26 E  FU a0 x1 x2 h ez) (mem_cons m_a0 (mem_cons m_x1 (mem_cons m_x2 mem_nil)))) k0_ok) (FI_X9_tables_ok E) (FV_X9_tables_ok E) (fL0_ok E) (rtI_ok rfl)
def I_X9_tables_0 : List AI := [(.aload_n 0, 1, [], 0), (.iconst 0, 1, [], 0), (.putfield 33, 3, [8, 0, 0, 1345], 0), (.aload_n 0, 1, [], 0), (.getfield 265, 3, [8, 3, 2, 1348], 0), (.ifnonnull 9, 3, [18], 0), (.aload_n 0, 1, [], 0), (.iconst 1, 1, [], 1), (.invokevirtual 39, 3, [1, 201, 2, 8, 1481], 0), (.ireturn, 1, [], 0)]
theorem ok_X9_tables_0 : vBL MT qLen qCh false q_X9_tables.2.2.2.2.1 q_X9_tables.2.2.2.2.2.1 q_X9_tables.2.2.1 q_X9_tables.1.cls q_X9_tables.1.name q_X9_tables.2.1 0 0 I_X9_tables_0 = true := by decide +kernel
def p_X9_tables (a0 : Nat) (h : AH) : Option (Int32 × AH) :=
  if (tg h a0).1 = 8 then (let h109 := wI h a0 0 ((0 : Int32))
  if (tg h109 a0).1 = 8 then (if (rR h109 a0 3) = 0 then (if (tg h109 a0).1 = 8 then ((p_X9_refused a0 ((1 : Int32)) h109).bind fun q111 =>
  some (q111.1, q111.2)) else none)
  else
  if (tg h109 a0).1 = 8 then ((p_X9_works a0 h109).bind fun h110 =>
  p_X9_tables_26 FU a0 ((0 : Int32)) ((0 : Int32)) h110) else none) else none) else none
set_option maxRecDepth 100000 in
theorem e_X9_tables_0 {l : Launch} {D : va_G} {dA : Nat → ClassId} {z : Nat} {sa : Nat → Nat} {Hz : Heap} (E : StrOK qLen qCh l D dA z sa Hz) {h0 fin : AH} {x : Int32}  : ∀ (a0 : Nat) (h : AH), p_X9_tables a0 h = some (x, fin) → GM l D dA z sa Hz q_X9_tables h0 (some (.int x)) fin 0 [(0, .ref a0)] [] h := by
  intro a0 h hd
  exact step E (is := I_X9_tables_0) (pc := 0) (K := (kx 18 (fun la st h => gR la 0 fun a0 => sE st (p_X9_tables_18 a0 h)) k0)) (FI := FI_X9_tables) (FV := FV_X9_tables) (FL := fL0) (rt := rtI) (ft := 0) (by exact hd) ok_X9_tables_0 (kx_ok (fun la st h e => by obtain ⟨a0, m_a0, e1⟩ := gR_inv e; obtain ⟨rfl, ez⟩ := sE_inv e1; exact gm_fewer (e_X9_tables_18 E  a0 h ez) (mem_cons m_a0 mem_nil)) k0_ok) (FI_X9_tables_ok E) (FV_X9_tables_ok E) (fL0_ok E) (rtI_ok rfl)
theorem c_X9_tables {l : Launch} {D : va_G} {dA : Nat → ClassId} {z : Nat} {sa : Nat → Nat} {Hz : Heap} (E : StrOK qLen qCh l D dA z sa Hz) {a0 : Nat} {h fin : AH} {x : Int32} (hd : p_X9_tables a0 h = some (x, fin)) : CalOK l D dA z sa Hz q_X9_tables [.ref a0] h (some (.int x)) fin := calOf (by decide +kernel) (Nat.le_of_ble_eq_true rfl) (e_X9_tables_0 E a0 h hd)
def I_X9_tableOf_46 : List AI := [(.iconst (-1), 1, [], (-1)), (.ireturn, 1, [], 0)]
theorem ok_X9_tableOf_46 : vBL MT qLen qCh false q_X9_tableOf.2.2.2.2.1 q_X9_tableOf.2.2.2.2.2.1 q_X9_tableOf.2.2.1 q_X9_tableOf.1.cls q_X9_tableOf.1.name q_X9_tableOf.2.1 0 46 I_X9_tableOf_46 = true := by decide +kernel
def p_X9_tableOf_46 (h : AH) : Option (Int32 × AH) :=
  some (((-1 : Int32)), h)
set_option maxRecDepth 100000 in
theorem e_X9_tableOf_46 {l : Launch} {D : va_G} {dA : Nat → ClassId} {z : Nat} {sa : Nat → Nat} {Hz : Heap} (E : StrOK qLen qCh l D dA z sa Hz) {h0 fin : AH} {x : Int32}  : ∀  (h : AH), p_X9_tableOf_46 h = some (x, fin) → GM l D dA z sa Hz q_X9_tableOf h0 (some (.int x)) fin 46 [] [] h := by
  intro h hd
  exact step E (is := I_X9_tableOf_46) (pc := 46) (K := k0) (FI := fI0) (FV := fV0) (FL := fL0) (rt := rtI) (ft := 0) (by exact hd) ok_X9_tableOf_46 k0_ok (fI0_ok E) (fV0_ok E) (fL0_ok E) (rtI_ok rfl)
def I_X9_tableOf_40 : List AI := [(.iinc 3 1, 3, [], 1), (.goto (-41), 3, [2], 0)]
theorem ok_X9_tableOf_40 : vBL MT qLen qCh false q_X9_tableOf.2.2.2.2.1 q_X9_tableOf.2.2.2.2.2.1 q_X9_tableOf.2.2.1 q_X9_tableOf.1.cls q_X9_tableOf.1.name q_X9_tableOf.2.1 0 40 I_X9_tableOf_40 = true := by decide +kernel
def p_X9_tableOf_40 (k2 : Nat → Int32 → Int32 → Int32 → AH → Option (Int32 × AH)) (a0 : Nat) (x1 : Int32) (x2 : Int32) (x3 : Int32) (h : AH) : Option (Int32 × AH) :=
  k2 a0 x1 x2 (x3 + (1 : Int32)) h
set_option maxRecDepth 100000 in
theorem e_X9_tableOf_40 {l : Launch} {D : va_G} {dA : Nat → ClassId} {z : Nat} {sa : Nat → Nat} {Hz : Heap} (E : StrOK qLen qCh l D dA z sa Hz) {h0 fin : AH} {x : Int32}  {k2 : Nat → Int32 → Int32 → Int32 → AH → Option (Int32 × AH)} (hk2 : ∀ (a0 : Nat) (x1 : Int32) (x2 : Int32) (x3 : Int32) (h : AH), k2 a0 x1 x2 x3 h = some (x, fin) → GM l D dA z sa Hz q_X9_tableOf h0 (some (.int x)) fin 2 [(0, .ref a0), (1, .int x1), (2, .int x2), (3, .int x3)] [] h) : ∀ (a0 : Nat) (x1 : Int32) (x2 : Int32) (x3 : Int32) (h : AH), p_X9_tableOf_40 k2 a0 x1 x2 x3 h = some (x, fin) → GM l D dA z sa Hz q_X9_tableOf h0 (some (.int x)) fin 40 [(0, .ref a0), (1, .int x1), (2, .int x2), (3, .int x3)] [] h := by
  intro a0 x1 x2 x3 h hd
  exact step E (is := I_X9_tableOf_40) (pc := 40) (K := (kx 2 (fun la st h => gR la 0 fun a0 => gI la 1 fun x1 => gI la 2 fun x2 => gI la 3 fun x3 => sE st (k2 a0 x1 x2 x3 h)) k0)) (FI := fI0) (FV := fV0) (FL := fL0) (rt := rtI) (ft := 0) (by exact hd) ok_X9_tableOf_40 (kx_ok (fun la st h e => by obtain ⟨a0, m_a0, e1⟩ := gR_inv e; obtain ⟨x1, m_x1, e2⟩ := gI_inv e1; obtain ⟨x2, m_x2, e3⟩ := gI_inv e2; obtain ⟨x3, m_x3, e4⟩ := gI_inv e3; obtain ⟨rfl, ez⟩ := sE_inv e4; exact gm_fewer (hk2 a0 x1 x2 x3 h ez) (mem_cons m_a0 (mem_cons m_x1 (mem_cons m_x2 (mem_cons m_x3 mem_nil))))) k0_ok) (fI0_ok E) (fV0_ok E) (fL0_ok E) (rtI_ok rfl)
def I_X9_tableOf_2 : List AI := [(.iload_n 3, 1, [], 0), (.aload_n 0, 1, [], 0), (.getfield 297, 3, [8, 26, 0, 1371], 0), (.if_icmp .ge 39, 3, [46], 0), (.aload_n 0, 1, [], 0), (.getfield 21, 3, [8, 16, 2, 1361], 0), (.sipush 147, 3, [], 147), (.iload_n 3, 1, [], 0), (.iadd, 1, [], 0), (.iaload, 1, [], 0), (.iload_n 1, 1, [], 0), (.if_icmp .ne 19, 3, [40], 0), (.aload_n 0, 1, [], 0), (.getfield 21, 3, [8, 16, 2, 1361], 0), (.sipush 155, 3, [], 155), (.iload_n 3, 1, [], 0), (.iadd, 1, [], 0), (.iaload, 1, [], 0), (.iload_n 2, 1, [], 0), (.if_icmp .ne 5, 3, [40], 0), (.iload_n 3, 1, [], 0), (.ireturn, 1, [], 0)]
theorem ok_X9_tableOf_2 : vBL MT qLen qCh false q_X9_tableOf.2.2.2.2.1 q_X9_tableOf.2.2.2.2.2.1 q_X9_tableOf.2.2.1 q_X9_tableOf.1.cls q_X9_tableOf.1.name q_X9_tableOf.2.1 0 2 I_X9_tableOf_2 = true := by decide +kernel
def p_X9_tableOf_2 : Nat → Nat → Int32 → Int32 → Int32 → AH → Option (Int32 × AH)
  | 0, _, _, _, _, _ => none
  | n + 1, a0, x1, x2, x3, h => if (tg h a0).1 = 8 then (if x3 < (rI h a0 26) then (if (tg h a0).1 = 8 then (if inB h (rR h a0 16) 100 (((147 : Int32)) + x3) then (if (rI h (rR h a0 16) (((147 : Int32)) + x3).toNatClampNeg) = x1 then (if (tg h a0).1 = 8 then (if inB h (rR h a0 16) 100 (((155 : Int32)) + x3) then (if (rI h (rR h a0 16) (((155 : Int32)) + x3).toNatClampNeg) = x2 then (some (x3, h))
    else
    p_X9_tableOf_40 (p_X9_tableOf_2 n) a0 x1 x2 x3 h) else none) else none)
    else
    p_X9_tableOf_40 (p_X9_tableOf_2 n) a0 x1 x2 x3 h) else none) else none)
    else
    some (((-1 : Int32)), h)) else none
set_option maxRecDepth 100000 in
theorem e_X9_tableOf_2 {l : Launch} {D : va_G} {dA : Nat → ClassId} {z : Nat} {sa : Nat → Nat} {Hz : Heap} (E : StrOK qLen qCh l D dA z sa Hz) {h0 fin : AH} {x : Int32}  : ∀ (n : Nat) (a0 : Nat) (x1 : Int32) (x2 : Int32) (x3 : Int32) (h : AH), p_X9_tableOf_2 n a0 x1 x2 x3 h = some (x, fin) → GM l D dA z sa Hz q_X9_tableOf h0 (some (.int x)) fin 2 [(0, .ref a0), (1, .int x1), (2, .int x2), (3, .int x3)] [] h := by
  intro n
  induction n with
  | zero => intro a0 x1 x2 x3 h hd; exact nomatch hd
  | succ n ih =>
    intro a0 x1 x2 x3 h hd
    exact step E (is := I_X9_tableOf_2) (pc := 2) (K := (kx 46 (fun la st h => sE st (p_X9_tableOf_46 h)) (kx 40 (fun la st h => gR la 0 fun a0 => gI la 1 fun x1 => gI la 2 fun x2 => gI la 3 fun x3 => sE st (p_X9_tableOf_40 (p_X9_tableOf_2 n) a0 x1 x2 x3 h)) k0))) (FI := fI0) (FV := fV0) (FL := fL0) (rt := rtI) (ft := 0) (by exact hd) ok_X9_tableOf_2 (kx_ok (fun la st h e => by obtain ⟨rfl, ez⟩ := sE_inv e; exact gm_fewer (e_X9_tableOf_46 E   h ez) mem_nil) (kx_ok (fun la st h e => by obtain ⟨a0, m_a0, e1⟩ := gR_inv e; obtain ⟨x1, m_x1, e2⟩ := gI_inv e1; obtain ⟨x2, m_x2, e3⟩ := gI_inv e2; obtain ⟨x3, m_x3, e4⟩ := gI_inv e3; obtain ⟨rfl, ez⟩ := sE_inv e4; exact gm_fewer (e_X9_tableOf_40 E ih a0 x1 x2 x3 h ez) (mem_cons m_a0 (mem_cons m_x1 (mem_cons m_x2 (mem_cons m_x3 mem_nil))))) k0_ok)) (fI0_ok E) (fV0_ok E) (fL0_ok E) (rtI_ok rfl)
def I_X9_tableOf_0 : List AI := [(.iconst 0, 1, [], 0), (.istore_n 3, 1, [], 0)]
theorem ok_X9_tableOf_0 : vBL MT qLen qCh false q_X9_tableOf.2.2.2.2.1 q_X9_tableOf.2.2.2.2.2.1 q_X9_tableOf.2.2.1 q_X9_tableOf.1.cls q_X9_tableOf.1.name q_X9_tableOf.2.1 2 0 I_X9_tableOf_0 = true := by decide +kernel
def p_X9_tableOf (a0 : Nat) (x1 : Int32) (x2 : Int32) (h : AH) : Option (Int32 × AH) :=
  p_X9_tableOf_2 FU a0 x1 x2 ((0 : Int32)) h
set_option maxRecDepth 100000 in
theorem e_X9_tableOf_0 {l : Launch} {D : va_G} {dA : Nat → ClassId} {z : Nat} {sa : Nat → Nat} {Hz : Heap} (E : StrOK qLen qCh l D dA z sa Hz) {h0 fin : AH} {x : Int32}  : ∀ (a0 : Nat) (x1 : Int32) (x2 : Int32) (h : AH), p_X9_tableOf a0 x1 x2 h = some (x, fin) → GM l D dA z sa Hz q_X9_tableOf h0 (some (.int x)) fin 0 [(0, .ref a0), (1, .int x1), (2, .int x2)] [] h := by
  intro a0 x1 x2 h hd
  exact step E (is := I_X9_tableOf_0) (pc := 0) (K := (kx 2 (fun la st h => gR la 0 fun a0 => gI la 1 fun x1 => gI la 2 fun x2 => gI la 3 fun x3 => sE st (p_X9_tableOf_2 FU a0 x1 x2 x3 h)) k0)) (FI := fI0) (FV := fV0) (FL := fL0) (rt := rtI) (ft := 2) (by exact hd) ok_X9_tableOf_0 (kx_ok (fun la st h e => by obtain ⟨a0, m_a0, e1⟩ := gR_inv e; obtain ⟨x1, m_x1, e2⟩ := gI_inv e1; obtain ⟨x2, m_x2, e3⟩ := gI_inv e2; obtain ⟨x3, m_x3, e4⟩ := gI_inv e3; obtain ⟨rfl, ez⟩ := sE_inv e4; exact gm_fewer (e_X9_tableOf_2 E  FU a0 x1 x2 x3 h ez) (mem_cons m_a0 (mem_cons m_x1 (mem_cons m_x2 (mem_cons m_x3 mem_nil))))) k0_ok) (fI0_ok E) (fV0_ok E) (fL0_ok E) (rtI_ok rfl)
theorem c_X9_tableOf {l : Launch} {D : va_G} {dA : Nat → ClassId} {z : Nat} {sa : Nat → Nat} {Hz : Heap} (E : StrOK qLen qCh l D dA z sa Hz) {a0 : Nat} {x1 : Int32} {x2 : Int32} {h fin : AH} {x : Int32} (hd : p_X9_tableOf a0 x1 x2 h = some (x, fin)) : CalOK l D dA z sa Hz q_X9_tableOf [.ref a0, .int x1, .int x2] h (some (.int x)) fin := calOf (by decide +kernel) (Nat.le_of_ble_eq_true rfl) (e_X9_tableOf_0 E a0 x1 x2 h hd)
def FI_X9_hitAt : Nat → List Value → AH → Option (Int32 × AH) := (cx 265 (fun As h => sR As fun a0 As => sI As fun x1 As => sI As fun x2 As => sE As (p_X9_tableOf a0 x1 x2 h)) (cx 247 (fun As h => sI As fun x0 As => sI As fun x1 As => sE As (p_X9_has x0 x1 h)) fI0))
theorem FI_X9_hitAt_ok {l : Launch} {D : va_G} {dA : Nat → ClassId} {z : Nat} {sa : Nat → Nat} {Hz : Heap} (E : StrOK qLen qCh l D dA z sa Hz) : ∀ mi As h x h', FI_X9_hitAt mi As h = some (x, h') → CalOK l D dA z sa Hz (MT mi) As h (some (.int x)) h' := (cxI_ok (fun As h x h2 e => by obtain ⟨_, _, rfl, e0⟩ := sR_inv e; obtain ⟨_, _, rfl, e1⟩ := sI_inv e0; obtain ⟨_, _, rfl, e2⟩ := sI_inv e1; obtain ⟨rfl, ez⟩ := sE_inv e2; exact c_X9_tableOf E ez) ((cxI_ok (fun As h x h2 e => by obtain ⟨_, _, rfl, e0⟩ := sI_inv e; obtain ⟨_, _, rfl, e1⟩ := sI_inv e0; obtain ⟨rfl, ez⟩ := sE_inv e1; exact c_X9_has E ez) (fI0_ok E))))
def I_X9_hitAt_127 : List AI := [(.ireturn, 1, [], 0)]
theorem ok_X9_hitAt_127 : vBL MT qLen qCh false q_X9_hitAt.2.2.2.2.1 q_X9_hitAt.2.2.2.2.2.1 q_X9_hitAt.2.2.1 q_X9_hitAt.1.cls q_X9_hitAt.1.name q_X9_hitAt.2.1 0 127 I_X9_hitAt_127 = true := by decide +kernel
def p_X9_hitAt_127 (y0 : Int32) (h : AH) : Option (Int32 × AH) :=
  some (y0, h)
set_option maxRecDepth 100000 in
theorem e_X9_hitAt_127 {l : Launch} {D : va_G} {dA : Nat → ClassId} {z : Nat} {sa : Nat → Nat} {Hz : Heap} (E : StrOK qLen qCh l D dA z sa Hz) {h0 fin : AH} {x : Int32}  : ∀ (y0 : Int32) (h : AH), p_X9_hitAt_127 y0 h = some (x, fin) → GM l D dA z sa Hz q_X9_hitAt h0 (some (.int x)) fin 127 [] [.int y0] h := by
  intro y0 h hd
  exact step E (is := I_X9_hitAt_127) (pc := 127) (K := k0) (FI := FI_X9_hitAt) (FV := fV0) (FL := fL0) (rt := rtI) (ft := 0) (by exact hd) ok_X9_hitAt_127 k0_ok (FI_X9_hitAt_ok E) (fV0_ok E) (fL0_ok E) (rtI_ok rfl)
def I_X9_hitAt_125 : List AI := [(.iload 6, 2, [], 0)]
theorem ok_X9_hitAt_125 : vBL MT qLen qCh false q_X9_hitAt.2.2.2.2.1 q_X9_hitAt.2.2.2.2.2.1 q_X9_hitAt.2.2.1 q_X9_hitAt.1.cls q_X9_hitAt.1.name q_X9_hitAt.2.1 127 125 I_X9_hitAt_125 = true := by decide +kernel
def p_X9_hitAt_125 (x6 : Int32) (h : AH) : Option (Int32 × AH) :=
  p_X9_hitAt_127 x6 h
set_option maxRecDepth 100000 in
theorem e_X9_hitAt_125 {l : Launch} {D : va_G} {dA : Nat → ClassId} {z : Nat} {sa : Nat → Nat} {Hz : Heap} (E : StrOK qLen qCh l D dA z sa Hz) {h0 fin : AH} {x : Int32}  : ∀ (x6 : Int32) (h : AH), p_X9_hitAt_125 x6 h = some (x, fin) → GM l D dA z sa Hz q_X9_hitAt h0 (some (.int x)) fin 125 [(6, .int x6)] [] h := by
  intro x6 h hd
  exact step E (is := I_X9_hitAt_125) (pc := 125) (K := (kx 127 (fun la st h => sI st fun y0 st => sE st (p_X9_hitAt_127 y0 h)) k0)) (FI := FI_X9_hitAt) (FV := fV0) (FL := fL0) (rt := rtI) (ft := 127) (by exact hd) ok_X9_hitAt_125 (kx_ok (fun la st h e => by obtain ⟨y0, _, rfl, e1⟩ := sI_inv e; obtain ⟨rfl, ez⟩ := sE_inv e1; exact gm_fewer (e_X9_hitAt_127 E  y0 h ez) mem_nil) k0_ok) (FI_X9_hitAt_ok E) (fV0_ok E) (fL0_ok E) (rtI_ok rfl)
def I_X9_hitAt_121 : List AI := [(.iconst (-1), 1, [], (-1)), (.goto 5, 3, [127], 0)]
theorem ok_X9_hitAt_121 : vBL MT qLen qCh false q_X9_hitAt.2.2.2.2.1 q_X9_hitAt.2.2.2.2.2.1 q_X9_hitAt.2.2.1 q_X9_hitAt.1.cls q_X9_hitAt.1.name q_X9_hitAt.2.1 0 121 I_X9_hitAt_121 = true := by decide +kernel
def p_X9_hitAt_121 (h : AH) : Option (Int32 × AH) :=
  p_X9_hitAt_127 ((-1 : Int32)) h
set_option maxRecDepth 100000 in
theorem e_X9_hitAt_121 {l : Launch} {D : va_G} {dA : Nat → ClassId} {z : Nat} {sa : Nat → Nat} {Hz : Heap} (E : StrOK qLen qCh l D dA z sa Hz) {h0 fin : AH} {x : Int32}  : ∀  (h : AH), p_X9_hitAt_121 h = some (x, fin) → GM l D dA z sa Hz q_X9_hitAt h0 (some (.int x)) fin 121 [] [] h := by
  intro h hd
  exact step E (is := I_X9_hitAt_121) (pc := 121) (K := (kx 127 (fun la st h => sI st fun y0 st => sE st (p_X9_hitAt_127 y0 h)) k0)) (FI := FI_X9_hitAt) (FV := fV0) (FL := fL0) (rt := rtI) (ft := 0) (by exact hd) ok_X9_hitAt_121 (kx_ok (fun la st h e => by obtain ⟨y0, _, rfl, e1⟩ := sI_inv e; obtain ⟨rfl, ez⟩ := sE_inv e1; exact gm_fewer (e_X9_hitAt_127 E  y0 h ez) mem_nil) k0_ok) (FI_X9_hitAt_ok E) (fV0_ok E) (fL0_ok E) (rtI_ok rfl)
def I_X9_hitAt_108 : List AI := [(.iload_n 3, 1, [], 0), (.ifCond .eq 16, 3, [125], 0), (.iload 7, 2, [], 0), (.iconst 1, 1, [], 1), (.invokestatic 316, 3, [1, 247, 2, 1749], 0), (.ifCond .ne 7, 3, [125], 0)]
theorem ok_X9_hitAt_108 : vBL MT qLen qCh false q_X9_hitAt.2.2.2.2.1 q_X9_hitAt.2.2.2.2.2.1 q_X9_hitAt.2.2.1 q_X9_hitAt.1.cls q_X9_hitAt.1.name q_X9_hitAt.2.1 121 108 I_X9_hitAt_108 = true := by decide +kernel
def p_X9_hitAt_108 (x3 : Int32) (x6 : Int32) (x7 : Int32) (h : AH) : Option (Int32 × AH) :=
  if x3 = 0 then (p_X9_hitAt_125 x6 h)
  else
  (p_X9_has x7 ((1 : Int32)) h).bind fun q101 =>
  if q101.1 = 0 then (p_X9_hitAt_121 q101.2)
  else
  p_X9_hitAt_125 x6 q101.2
set_option maxRecDepth 100000 in
theorem e_X9_hitAt_108 {l : Launch} {D : va_G} {dA : Nat → ClassId} {z : Nat} {sa : Nat → Nat} {Hz : Heap} (E : StrOK qLen qCh l D dA z sa Hz) {h0 fin : AH} {x : Int32}  : ∀ (x3 : Int32) (x6 : Int32) (x7 : Int32) (h : AH), p_X9_hitAt_108 x3 x6 x7 h = some (x, fin) → GM l D dA z sa Hz q_X9_hitAt h0 (some (.int x)) fin 108 [(3, .int x3), (6, .int x6), (7, .int x7)] [] h := by
  intro x3 x6 x7 h hd
  exact step E (is := I_X9_hitAt_108) (pc := 108) (K := (kx 125 (fun la st h => gI la 6 fun x6 => sE st (p_X9_hitAt_125 x6 h)) (kx 121 (fun la st h => sE st (p_X9_hitAt_121 h)) k0))) (FI := FI_X9_hitAt) (FV := fV0) (FL := fL0) (rt := rtI) (ft := 121) (by exact hd) ok_X9_hitAt_108 (kx_ok (fun la st h e => by obtain ⟨x6, m_x6, e1⟩ := gI_inv e; obtain ⟨rfl, ez⟩ := sE_inv e1; exact gm_fewer (e_X9_hitAt_125 E  x6 h ez) (mem_cons m_x6 mem_nil)) (kx_ok (fun la st h e => by obtain ⟨rfl, ez⟩ := sE_inv e; exact gm_fewer (e_X9_hitAt_121 E   h ez) mem_nil) k0_ok)) (FI_X9_hitAt_ok E) (fV0_ok E) (fL0_ok E) (rtI_ok rfl)
def I_X9_hitAt_83 : List AI := [(.iload 5, 2, [], 0), (.aload_n 0, 1, [], 0), (.getfield 21, 3, [8, 16, 2, 1361], 0), (.iload 6, 2, [], 0), (.iaload, 1, [], 0), (.iand, 1, [], 0), (.istore 7, 2, [], 0), (.iload_n 2, 1, [], 0), (.ifCond .eq 12, 3, [108], 0), (.iload 7, 2, [], 0), (.iconst 2, 1, [], 2), (.invokestatic 316, 3, [1, 247, 2, 1749], 0), (.ifCond .eq 16, 3, [121], 0)]
theorem ok_X9_hitAt_83 : vBL MT qLen qCh false q_X9_hitAt.2.2.2.2.1 q_X9_hitAt.2.2.2.2.2.1 q_X9_hitAt.2.2.1 q_X9_hitAt.1.cls q_X9_hitAt.1.name q_X9_hitAt.2.1 108 83 I_X9_hitAt_83 = true := by decide +kernel
def p_X9_hitAt_83 (a0 : Nat) (x2 : Int32) (x3 : Int32) (x5 : Int32) (x6 : Int32) (h : AH) : Option (Int32 × AH) :=
  if (tg h a0).1 = 8 then (if inB h (rR h a0 16) 100 x6 then (let x102 := x5 &&& (rI h (rR h a0 16) x6.toNatClampNeg)
  if x2 = 0 then (p_X9_hitAt_108 x3 x6 x102 h)
  else
  (p_X9_has x102 ((2 : Int32)) h).bind fun q103 =>
  if q103.1 = 0 then (p_X9_hitAt_121 q103.2)
  else
  p_X9_hitAt_108 x3 x6 x102 q103.2) else none) else none
set_option maxRecDepth 100000 in
theorem e_X9_hitAt_83 {l : Launch} {D : va_G} {dA : Nat → ClassId} {z : Nat} {sa : Nat → Nat} {Hz : Heap} (E : StrOK qLen qCh l D dA z sa Hz) {h0 fin : AH} {x : Int32}  : ∀ (a0 : Nat) (x2 : Int32) (x3 : Int32) (x5 : Int32) (x6 : Int32) (h : AH), p_X9_hitAt_83 a0 x2 x3 x5 x6 h = some (x, fin) → GM l D dA z sa Hz q_X9_hitAt h0 (some (.int x)) fin 83 [(0, .ref a0), (2, .int x2), (3, .int x3), (5, .int x5), (6, .int x6)] [] h := by
  intro a0 x2 x3 x5 x6 h hd
  exact step E (is := I_X9_hitAt_83) (pc := 83) (K := (kx 108 (fun la st h => gI la 3 fun x3 => gI la 6 fun x6 => gI la 7 fun x7 => sE st (p_X9_hitAt_108 x3 x6 x7 h)) (kx 121 (fun la st h => sE st (p_X9_hitAt_121 h)) k0))) (FI := FI_X9_hitAt) (FV := fV0) (FL := fL0) (rt := rtI) (ft := 108) (by exact hd) ok_X9_hitAt_83 (kx_ok (fun la st h e => by obtain ⟨x3, m_x3, e1⟩ := gI_inv e; obtain ⟨x6, m_x6, e2⟩ := gI_inv e1; obtain ⟨x7, m_x7, e3⟩ := gI_inv e2; obtain ⟨rfl, ez⟩ := sE_inv e3; exact gm_fewer (e_X9_hitAt_108 E  x3 x6 x7 h ez) (mem_cons m_x3 (mem_cons m_x6 (mem_cons m_x7 mem_nil)))) (kx_ok (fun la st h e => by obtain ⟨rfl, ez⟩ := sE_inv e; exact gm_fewer (e_X9_hitAt_121 E   h ez) mem_nil) k0_ok)) (FI_X9_hitAt_ok E) (fV0_ok E) (fL0_ok E) (rtI_ok rfl)
def I_X9_hitAt_52 : List AI := [(.sipush 179, 3, [], 179), (.bipush 8, 2, [], 8), (.iload 5, 2, [], 0), (.iconst 4, 1, [], 4), (.idiv, 1, [], 0), (.imul, 1, [], 0), (.iadd, 1, [], 0), (.iload_n 1, 1, [], 0), (.bipush 8, 2, [], 8), (.irem, 1, [], 0), (.iadd, 1, [], 0), (.istore 6, 2, [], 0), (.aload_n 0, 1, [], 0), (.getfield 21, 3, [8, 16, 2, 1361], 0), (.iload 6, 2, [], 0), (.iaload, 1, [], 0), (.iconst (-1), 1, [], (-1)), (.if_icmp .ne 5, 3, [83], 0), (.iconst (-1), 1, [], (-1)), (.ireturn, 1, [], 0)]
theorem ok_X9_hitAt_52 : vBL MT qLen qCh false q_X9_hitAt.2.2.2.2.1 q_X9_hitAt.2.2.2.2.2.1 q_X9_hitAt.2.2.1 q_X9_hitAt.1.cls q_X9_hitAt.1.name q_X9_hitAt.2.1 0 52 I_X9_hitAt_52 = true := by decide +kernel
def p_X9_hitAt_52 (a0 : Nat) (x1 : Int32) (x2 : Int32) (x3 : Int32) (x5 : Int32) (h : AH) : Option (Int32 × AH) :=
  if ((4 : Int32)) = 0 then none else
  if ((8 : Int32)) = 0 then none else
  let x104 := (((179 : Int32)) + (((8 : Int32)) * (x5 / ((4 : Int32))))) + (irm x1 ((8 : Int32)))
  if (tg h a0).1 = 8 then (if inB h (rR h a0 16) 100 x104 then (if (rI h (rR h a0 16) x104.toNatClampNeg) = ((-1 : Int32)) then (some (((-1 : Int32)), h))
  else
  if (tg h a0).1 = 8 then (if inB h (rR h a0 16) 100 x104 then (let x105 := x5 &&& (rI h (rR h a0 16) x104.toNatClampNeg)
  if x2 = 0 then (p_X9_hitAt_108 x3 x104 x105 h)
  else
  (p_X9_has x105 ((2 : Int32)) h).bind fun q106 =>
  if q106.1 = 0 then (p_X9_hitAt_121 q106.2)
  else
  p_X9_hitAt_108 x3 x104 x105 q106.2) else none) else none) else none) else none
set_option maxRecDepth 100000 in
theorem e_X9_hitAt_52 {l : Launch} {D : va_G} {dA : Nat → ClassId} {z : Nat} {sa : Nat → Nat} {Hz : Heap} (E : StrOK qLen qCh l D dA z sa Hz) {h0 fin : AH} {x : Int32}  : ∀ (a0 : Nat) (x1 : Int32) (x2 : Int32) (x3 : Int32) (x5 : Int32) (h : AH), p_X9_hitAt_52 a0 x1 x2 x3 x5 h = some (x, fin) → GM l D dA z sa Hz q_X9_hitAt h0 (some (.int x)) fin 52 [(0, .ref a0), (1, .int x1), (2, .int x2), (3, .int x3), (5, .int x5)] [] h := by
  intro a0 x1 x2 x3 x5 h hd
  exact step E (is := I_X9_hitAt_52) (pc := 52) (K := (kx 83 (fun la st h => gR la 0 fun a0 => gI la 2 fun x2 => gI la 3 fun x3 => gI la 5 fun x5 => gI la 6 fun x6 => sE st (p_X9_hitAt_83 a0 x2 x3 x5 x6 h)) k0)) (FI := FI_X9_hitAt) (FV := fV0) (FL := fL0) (rt := rtI) (ft := 0) (by exact hd) ok_X9_hitAt_52 (kx_ok (fun la st h e => by obtain ⟨a0, m_a0, e1⟩ := gR_inv e; obtain ⟨x2, m_x2, e2⟩ := gI_inv e1; obtain ⟨x3, m_x3, e3⟩ := gI_inv e2; obtain ⟨x5, m_x5, e4⟩ := gI_inv e3; obtain ⟨x6, m_x6, e5⟩ := gI_inv e4; obtain ⟨rfl, ez⟩ := sE_inv e5; exact gm_fewer (e_X9_hitAt_83 E  a0 x2 x3 x5 x6 h ez) (mem_cons m_a0 (mem_cons m_x2 (mem_cons m_x3 (mem_cons m_x5 (mem_cons m_x6 mem_nil)))))) k0_ok) (FI_X9_hitAt_ok E) (fV0_ok E) (fL0_ok E) (rtI_ok rfl)
def I_X9_hitAt_23 : List AI := [(.aload_n 0, 1, [], 0), (.getfield 21, 3, [8, 16, 2, 1361], 0), (.sipush 179, 3, [], 179), (.bipush 8, 2, [], 8), (.iload 4, 2, [], 0), (.imul, 1, [], 0), (.iadd, 1, [], 0), (.iload_n 1, 1, [], 0), (.bipush 8, 2, [], 8), (.idiv, 1, [], 0), (.iadd, 1, [], 0), (.iaload, 1, [], 0), (.istore 5, 2, [], 0), (.iload 5, 2, [], 0), (.iconst (-1), 1, [], (-1)), (.if_icmp .ne 5, 3, [52], 0), (.iconst (-1), 1, [], (-1)), (.ireturn, 1, [], 0)]
theorem ok_X9_hitAt_23 : vBL MT qLen qCh false q_X9_hitAt.2.2.2.2.1 q_X9_hitAt.2.2.2.2.2.1 q_X9_hitAt.2.2.1 q_X9_hitAt.1.cls q_X9_hitAt.1.name q_X9_hitAt.2.1 0 23 I_X9_hitAt_23 = true := by decide +kernel
def p_X9_hitAt_23 (a0 : Nat) (x1 : Int32) (x2 : Int32) (x3 : Int32) (x4 : Int32) (h : AH) : Option (Int32 × AH) :=
  if (tg h a0).1 = 8 then (if ((8 : Int32)) = 0 then none else
  if inB h (rR h a0 16) 100 ((((179 : Int32)) + (((8 : Int32)) * x4)) + (x1 / ((8 : Int32)))) then (let x107 := rI h (rR h a0 16) ((((179 : Int32)) + (((8 : Int32)) * x4)) + (x1 / ((8 : Int32)))).toNatClampNeg
  if x107 = ((-1 : Int32)) then (some (((-1 : Int32)), h))
  else
  if ((4 : Int32)) = 0 then none else
  if ((8 : Int32)) = 0 then none else
  let x108 := (((179 : Int32)) + (((8 : Int32)) * (x107 / ((4 : Int32))))) + (irm x1 ((8 : Int32)))
  if (tg h a0).1 = 8 then (if inB h (rR h a0 16) 100 x108 then (if (rI h (rR h a0 16) x108.toNatClampNeg) = ((-1 : Int32)) then (some (((-1 : Int32)), h))
  else
  if (tg h a0).1 = 8 then (if inB h (rR h a0 16) 100 x108 then (let x109 := x107 &&& (rI h (rR h a0 16) x108.toNatClampNeg)
  if x2 = 0 then (p_X9_hitAt_108 x3 x108 x109 h)
  else
  (p_X9_has x109 ((2 : Int32)) h).bind fun q110 =>
  if q110.1 = 0 then (p_X9_hitAt_121 q110.2)
  else
  p_X9_hitAt_108 x3 x108 x109 q110.2) else none) else none) else none) else none) else none) else none
set_option maxRecDepth 100000 in
theorem e_X9_hitAt_23 {l : Launch} {D : va_G} {dA : Nat → ClassId} {z : Nat} {sa : Nat → Nat} {Hz : Heap} (E : StrOK qLen qCh l D dA z sa Hz) {h0 fin : AH} {x : Int32}  : ∀ (a0 : Nat) (x1 : Int32) (x2 : Int32) (x3 : Int32) (x4 : Int32) (h : AH), p_X9_hitAt_23 a0 x1 x2 x3 x4 h = some (x, fin) → GM l D dA z sa Hz q_X9_hitAt h0 (some (.int x)) fin 23 [(0, .ref a0), (1, .int x1), (2, .int x2), (3, .int x3), (4, .int x4)] [] h := by
  intro a0 x1 x2 x3 x4 h hd
  exact step E (is := I_X9_hitAt_23) (pc := 23) (K := (kx 52 (fun la st h => gR la 0 fun a0 => gI la 1 fun x1 => gI la 2 fun x2 => gI la 3 fun x3 => gI la 5 fun x5 => sE st (p_X9_hitAt_52 a0 x1 x2 x3 x5 h)) k0)) (FI := FI_X9_hitAt) (FV := fV0) (FL := fL0) (rt := rtI) (ft := 0) (by exact hd) ok_X9_hitAt_23 (kx_ok (fun la st h e => by obtain ⟨a0, m_a0, e1⟩ := gR_inv e; obtain ⟨x1, m_x1, e2⟩ := gI_inv e1; obtain ⟨x2, m_x2, e3⟩ := gI_inv e2; obtain ⟨x3, m_x3, e4⟩ := gI_inv e3; obtain ⟨x5, m_x5, e5⟩ := gI_inv e4; obtain ⟨rfl, ez⟩ := sE_inv e5; exact gm_fewer (e_X9_hitAt_52 E  a0 x1 x2 x3 x5 h ez) (mem_cons m_a0 (mem_cons m_x1 (mem_cons m_x2 (mem_cons m_x3 (mem_cons m_x5 mem_nil)))))) k0_ok) (FI_X9_hitAt_ok E) (fV0_ok E) (fL0_ok E) (rtI_ok rfl)
def I_X9_hitAt_0 : List AI := [(.aload_n 0, 1, [], 0), (.iconst 0, 1, [], 0), (.aload_n 0, 1, [], 0), (.getfield 21, 3, [8, 16, 2, 1361], 0), (.sipush 146, 3, [], 146), (.iaload, 1, [], 0), (.invokevirtual 347, 3, [1, 265, 3, 8, 1819], 0), (.istore 4, 2, [], 0), (.iload 4, 2, [], 0), (.iconst (-1), 1, [], (-1)), (.if_icmp .ne 5, 3, [23], 0), (.iconst (-1), 1, [], (-1)), (.ireturn, 1, [], 0)]
theorem ok_X9_hitAt_0 : vBL MT qLen qCh false q_X9_hitAt.2.2.2.2.1 q_X9_hitAt.2.2.2.2.2.1 q_X9_hitAt.2.2.1 q_X9_hitAt.1.cls q_X9_hitAt.1.name q_X9_hitAt.2.1 0 0 I_X9_hitAt_0 = true := by decide +kernel
def p_X9_hitAt (a0 : Nat) (x1 : Int32) (x2 : Int32) (x3 : Int32) (h : AH) : Option (Int32 × AH) :=
  if (tg h a0).1 = 8 then (if inB h (rR h a0 16) 100 ((146 : Int32)) then (if (tg h a0).1 = 8 then ((p_X9_tableOf a0 ((0 : Int32)) (rI h (rR h a0 16) ((146 : Int32)).toNatClampNeg) h).bind fun q111 =>
  if q111.1 = ((-1 : Int32)) then (some (((-1 : Int32)), q111.2))
  else
  if (tg q111.2 a0).1 = 8 then (if ((8 : Int32)) = 0 then none else
  if inB q111.2 (rR q111.2 a0 16) 100 ((((179 : Int32)) + (((8 : Int32)) * q111.1)) + (x1 / ((8 : Int32)))) then (let x112 := rI q111.2 (rR q111.2 a0 16) ((((179 : Int32)) + (((8 : Int32)) * q111.1)) + (x1 / ((8 : Int32)))).toNatClampNeg
  if x112 = ((-1 : Int32)) then (some (((-1 : Int32)), q111.2))
  else
  if ((4 : Int32)) = 0 then none else
  if ((8 : Int32)) = 0 then none else
  let x113 := (((179 : Int32)) + (((8 : Int32)) * (x112 / ((4 : Int32))))) + (irm x1 ((8 : Int32)))
  if (tg q111.2 a0).1 = 8 then (if inB q111.2 (rR q111.2 a0 16) 100 x113 then (if (rI q111.2 (rR q111.2 a0 16) x113.toNatClampNeg) = ((-1 : Int32)) then (some (((-1 : Int32)), q111.2))
  else
  if (tg q111.2 a0).1 = 8 then (if inB q111.2 (rR q111.2 a0 16) 100 x113 then (let x114 := x112 &&& (rI q111.2 (rR q111.2 a0 16) x113.toNatClampNeg)
  if x2 = 0 then (p_X9_hitAt_108 x3 x113 x114 q111.2)
  else
  (p_X9_has x114 ((2 : Int32)) q111.2).bind fun q115 =>
  if q115.1 = 0 then (p_X9_hitAt_121 q115.2)
  else
  p_X9_hitAt_108 x3 x113 x114 q115.2) else none) else none) else none) else none) else none) else none) else none) else none) else none
set_option maxRecDepth 100000 in
theorem e_X9_hitAt_0 {l : Launch} {D : va_G} {dA : Nat → ClassId} {z : Nat} {sa : Nat → Nat} {Hz : Heap} (E : StrOK qLen qCh l D dA z sa Hz) {h0 fin : AH} {x : Int32}  : ∀ (a0 : Nat) (x1 : Int32) (x2 : Int32) (x3 : Int32) (h : AH), p_X9_hitAt a0 x1 x2 x3 h = some (x, fin) → GM l D dA z sa Hz q_X9_hitAt h0 (some (.int x)) fin 0 [(0, .ref a0), (1, .int x1), (2, .int x2), (3, .int x3)] [] h := by
  intro a0 x1 x2 x3 h hd
  exact step E (is := I_X9_hitAt_0) (pc := 0) (K := (kx 23 (fun la st h => gR la 0 fun a0 => gI la 1 fun x1 => gI la 2 fun x2 => gI la 3 fun x3 => gI la 4 fun x4 => sE st (p_X9_hitAt_23 a0 x1 x2 x3 x4 h)) k0)) (FI := FI_X9_hitAt) (FV := fV0) (FL := fL0) (rt := rtI) (ft := 0) (by exact hd) ok_X9_hitAt_0 (kx_ok (fun la st h e => by obtain ⟨a0, m_a0, e1⟩ := gR_inv e; obtain ⟨x1, m_x1, e2⟩ := gI_inv e1; obtain ⟨x2, m_x2, e3⟩ := gI_inv e2; obtain ⟨x3, m_x3, e4⟩ := gI_inv e3; obtain ⟨x4, m_x4, e5⟩ := gI_inv e4; obtain ⟨rfl, ez⟩ := sE_inv e5; exact gm_fewer (e_X9_hitAt_23 E  a0 x1 x2 x3 x4 h ez) (mem_cons m_a0 (mem_cons m_x1 (mem_cons m_x2 (mem_cons m_x3 (mem_cons m_x4 mem_nil)))))) k0_ok) (FI_X9_hitAt_ok E) (fV0_ok E) (fL0_ok E) (rtI_ok rfl)
theorem c_X9_hitAt {l : Launch} {D : va_G} {dA : Nat → ClassId} {z : Nat} {sa : Nat → Nat} {Hz : Heap} (E : StrOK qLen qCh l D dA z sa Hz) {a0 : Nat} {x1 : Int32} {x2 : Int32} {x3 : Int32} {h fin : AH} {x : Int32} (hd : p_X9_hitAt a0 x1 x2 x3 h = some (x, fin)) : CalOK l D dA z sa Hz q_X9_hitAt [.ref a0, .int x1, .int x2, .int x3] h (some (.int x)) fin := calOf (by decide +kernel) (Nat.le_of_ble_eq_true rfl) (e_X9_hitAt_0 E a0 x1 x2 x3 h hd)
def FI_X9_hits : Nat → List Value → AH → Option (Int32 × AH) := (cx 250 (fun As h => sR As fun a0 As => sI As fun x1 As => sE As (p_X9_isAsked a0 x1 h)) (cx 201 (fun As h => sR As fun a0 As => sI As fun x1 As => sE As (p_X9_refused a0 x1 h)) (cx 266 (fun As h => sR As fun a0 As => sI As fun x1 As => sI As fun x2 As => sI As fun x3 As => sE As (p_X9_hitAt a0 x1 x2 x3 h)) (cx 241 (fun As h => sR As fun a0 As => sI As fun x1 As => sE As (p_X9_hostOf a0 x1 h)) (cx 233 (fun As h => sR As fun a0 As => sI As fun x1 As => sE As (p_X9_good a0 x1 h)) fI0)))))
theorem FI_X9_hits_ok {l : Launch} {D : va_G} {dA : Nat → ClassId} {z : Nat} {sa : Nat → Nat} {Hz : Heap} (E : StrOK qLen qCh l D dA z sa Hz) : ∀ mi As h x h', FI_X9_hits mi As h = some (x, h') → CalOK l D dA z sa Hz (MT mi) As h (some (.int x)) h' := (cxI_ok (fun As h x h2 e => by obtain ⟨_, _, rfl, e0⟩ := sR_inv e; obtain ⟨_, _, rfl, e1⟩ := sI_inv e0; obtain ⟨rfl, ez⟩ := sE_inv e1; exact c_X9_isAsked E ez) ((cxI_ok (fun As h x h2 e => by obtain ⟨_, _, rfl, e0⟩ := sR_inv e; obtain ⟨_, _, rfl, e1⟩ := sI_inv e0; obtain ⟨rfl, ez⟩ := sE_inv e1; exact c_X9_refused E ez) ((cxI_ok (fun As h x h2 e => by obtain ⟨_, _, rfl, e0⟩ := sR_inv e; obtain ⟨_, _, rfl, e1⟩ := sI_inv e0; obtain ⟨_, _, rfl, e2⟩ := sI_inv e1; obtain ⟨_, _, rfl, e3⟩ := sI_inv e2; obtain ⟨rfl, ez⟩ := sE_inv e3; exact c_X9_hitAt E ez) ((cxI_ok (fun As h x h2 e => by obtain ⟨_, _, rfl, e0⟩ := sR_inv e; obtain ⟨_, _, rfl, e1⟩ := sI_inv e0; obtain ⟨rfl, ez⟩ := sE_inv e1; exact c_X9_hostOf E ez) ((cxI_ok (fun As h x h2 e => by obtain ⟨_, _, rfl, e0⟩ := sR_inv e; obtain ⟨_, _, rfl, e1⟩ := sI_inv e0; obtain ⟨rfl, ez⟩ := sE_inv e1; exact c_X9_good E ez) (fI0_ok E))))))))))
def FV_X9_hits : Nat → List Value → AH → Option (AH) := (cx 239 (fun As h => sR As fun a0 As => sE As (p_X9_works a0 h)) fV0)
theorem FV_X9_hits_ok {l : Launch} {D : va_G} {dA : Nat → ClassId} {z : Nat} {sa : Nat → Nat} {Hz : Heap} (E : StrOK qLen qCh l D dA z sa Hz) : ∀ mi As h h', FV_X9_hits mi As h = some h' → CalOK l D dA z sa Hz (MT mi) As h none h' := (cxV_ok (fun As h h2 e => by obtain ⟨_, _, rfl, e0⟩ := sR_inv e; obtain ⟨rfl, ez⟩ := sE_inv e0; exact c_X9_works E ez) (fV0_ok E))
def I_X9_hits_57 : List AI := [(.invokevirtual 43, 3, [1, 233, 2, 8, 1694], 0), (.ireturn, 1, [], 0)]
theorem ok_X9_hits_57 : vBL MT qLen qCh false q_X9_hits.2.2.2.2.1 q_X9_hits.2.2.2.2.2.1 q_X9_hits.2.2.1 q_X9_hits.1.cls q_X9_hits.1.name q_X9_hits.2.1 0 57 I_X9_hits_57 = true := by decide +kernel
def p_X9_hits_57 (y0 : Int32) (b1 : Nat) (h : AH) : Option (Int32 × AH) :=
  if (tg h b1).1 = 8 then ((p_X9_good b1 y0 h).bind fun q101 =>
  some (q101.1, q101.2)) else none
set_option maxRecDepth 100000 in
theorem e_X9_hits_57 {l : Launch} {D : va_G} {dA : Nat → ClassId} {z : Nat} {sa : Nat → Nat} {Hz : Heap} (E : StrOK qLen qCh l D dA z sa Hz) {h0 fin : AH} {x : Int32}  : ∀ (y0 : Int32) (b1 : Nat) (h : AH), p_X9_hits_57 y0 b1 h = some (x, fin) → GM l D dA z sa Hz q_X9_hits h0 (some (.int x)) fin 57 [] [.int y0, .ref b1] h := by
  intro y0 b1 h hd
  exact step E (is := I_X9_hits_57) (pc := 57) (K := k0) (FI := FI_X9_hits) (FV := FV_X9_hits) (FL := fL0) (rt := rtI) (ft := 0) (by exact hd) ok_X9_hits_57 k0_ok (FI_X9_hits_ok E) (FV_X9_hits_ok E) (fL0_ok E) (rtI_ok rfl)
def I_X9_hits_44 : List AI := [(.aload_n 0, 1, [], 0), (.aload_n 0, 1, [], 0), (.getfield 21, 3, [8, 16, 2, 1361], 0), (.iload 4, 2, [], 0), (.iaload, 1, [], 0), (.iconst 4, 1, [], 4), (.idiv, 1, [], 0), (.invokevirtual 344, 3, [1, 241, 2, 8, 1725], 0)]
theorem ok_X9_hits_44 : vBL MT qLen qCh false q_X9_hits.2.2.2.2.1 q_X9_hits.2.2.2.2.2.1 q_X9_hits.2.2.1 q_X9_hits.1.cls q_X9_hits.1.name q_X9_hits.2.1 57 44 I_X9_hits_44 = true := by decide +kernel
def p_X9_hits_44 (a0 : Nat) (x4 : Int32) (b0 : Nat) (h : AH) : Option (Int32 × AH) :=
  if (tg h a0).1 = 8 then (if inB h (rR h a0 16) 100 x4 then (if ((4 : Int32)) = 0 then none else
  if (tg h a0).1 = 8 then ((p_X9_hostOf a0 ((rI h (rR h a0 16) x4.toNatClampNeg) / ((4 : Int32))) h).bind fun q102 =>
  p_X9_hits_57 q102.1 b0 q102.2) else none) else none) else none
set_option maxRecDepth 100000 in
theorem e_X9_hits_44 {l : Launch} {D : va_G} {dA : Nat → ClassId} {z : Nat} {sa : Nat → Nat} {Hz : Heap} (E : StrOK qLen qCh l D dA z sa Hz) {h0 fin : AH} {x : Int32}  : ∀ (a0 : Nat) (x4 : Int32) (b0 : Nat) (h : AH), p_X9_hits_44 a0 x4 b0 h = some (x, fin) → GM l D dA z sa Hz q_X9_hits h0 (some (.int x)) fin 44 [(0, .ref a0), (4, .int x4)] [.ref b0] h := by
  intro a0 x4 b0 h hd
  exact step E (is := I_X9_hits_44) (pc := 44) (K := (kx 57 (fun la st h => sI st fun y0 st => sR st fun b1 st => sE st (p_X9_hits_57 y0 b1 h)) k0)) (FI := FI_X9_hits) (FV := FV_X9_hits) (FL := fL0) (rt := rtI) (ft := 57) (by exact hd) ok_X9_hits_44 (kx_ok (fun la st h e => by obtain ⟨y0, _, rfl, e1⟩ := sI_inv e; obtain ⟨b1, _, rfl, e2⟩ := sR_inv e1; obtain ⟨rfl, ez⟩ := sE_inv e2; exact gm_fewer (e_X9_hits_57 E  y0 b1 h ez) mem_nil) k0_ok) (FI_X9_hits_ok E) (FV_X9_hits_ok E) (fL0_ok E) (rtI_ok rfl)
def I_X9_hits_19 : List AI := [(.aload_n 0, 1, [], 0), (.invokevirtual 398, 3, [2, 239, 1, 8, 1717], 0), (.aload_n 0, 1, [], 0), (.iload_n 1, 1, [], 0), (.iload_n 2, 1, [], 0), (.iload_n 3, 1, [], 0), (.invokevirtual 365, 3, [1, 266, 4, 8, 1815], 0), (.istore 4, 2, [], 0), (.aload_n 0, 1, [], 0), (.iload 4, 2, [], 0), (.iconst (-1), 1, [], (-1)), (.if_icmp .ne 8, 3, [44], 0), (.bipush (-2), 2, [], (-2)), (.goto 16, 3, [57], 0)]
theorem ok_X9_hits_19 : vBL MT qLen qCh false q_X9_hits.2.2.2.2.1 q_X9_hits.2.2.2.2.2.1 q_X9_hits.2.2.1 q_X9_hits.1.cls q_X9_hits.1.name q_X9_hits.2.1 0 19 I_X9_hits_19 = true := by decide +kernel
def p_X9_hits_19 (a0 : Nat) (x1 : Int32) (x2 : Int32) (x3 : Int32) (h : AH) : Option (Int32 × AH) :=
  if (tg h a0).1 = 8 then ((p_X9_works a0 h).bind fun h103 =>
  if (tg h103 a0).1 = 8 then ((p_X9_hitAt a0 x1 x2 x3 h103).bind fun q104 =>
  if q104.1 = ((-1 : Int32)) then (p_X9_hits_57 ((-2 : Int32)) a0 q104.2)
  else
  if (tg q104.2 a0).1 = 8 then (if inB q104.2 (rR q104.2 a0 16) 100 q104.1 then (if ((4 : Int32)) = 0 then none else
  if (tg q104.2 a0).1 = 8 then ((p_X9_hostOf a0 ((rI q104.2 (rR q104.2 a0 16) q104.1.toNatClampNeg) / ((4 : Int32))) q104.2).bind fun q105 =>
  p_X9_hits_57 q105.1 a0 q105.2) else none) else none) else none) else none) else none
set_option maxRecDepth 100000 in
theorem e_X9_hits_19 {l : Launch} {D : va_G} {dA : Nat → ClassId} {z : Nat} {sa : Nat → Nat} {Hz : Heap} (E : StrOK qLen qCh l D dA z sa Hz) {h0 fin : AH} {x : Int32}  : ∀ (a0 : Nat) (x1 : Int32) (x2 : Int32) (x3 : Int32) (h : AH), p_X9_hits_19 a0 x1 x2 x3 h = some (x, fin) → GM l D dA z sa Hz q_X9_hits h0 (some (.int x)) fin 19 [(0, .ref a0), (1, .int x1), (2, .int x2), (3, .int x3)] [] h := by
  intro a0 x1 x2 x3 h hd
  exact step E (is := I_X9_hits_19) (pc := 19) (K := (kx 44 (fun la st h => gR la 0 fun a0 => gI la 4 fun x4 => sR st fun b0 st => sE st (p_X9_hits_44 a0 x4 b0 h)) (kx 57 (fun la st h => sI st fun y0 st => sR st fun b1 st => sE st (p_X9_hits_57 y0 b1 h)) k0))) (FI := FI_X9_hits) (FV := FV_X9_hits) (FL := fL0) (rt := rtI) (ft := 0) (by exact hd) ok_X9_hits_19 (kx_ok (fun la st h e => by obtain ⟨a0, m_a0, e1⟩ := gR_inv e; obtain ⟨x4, m_x4, e2⟩ := gI_inv e1; obtain ⟨b0, _, rfl, e3⟩ := sR_inv e2; obtain ⟨rfl, ez⟩ := sE_inv e3; exact gm_fewer (e_X9_hits_44 E  a0 x4 b0 h ez) (mem_cons m_a0 (mem_cons m_x4 mem_nil))) (kx_ok (fun la st h e => by obtain ⟨y0, _, rfl, e1⟩ := sI_inv e; obtain ⟨b1, _, rfl, e2⟩ := sR_inv e1; obtain ⟨rfl, ez⟩ := sE_inv e2; exact gm_fewer (e_X9_hits_57 E  y0 b1 h ez) mem_nil) k0_ok)) (FI_X9_hits_ok E) (FV_X9_hits_ok E) (fL0_ok E) (rtI_ok rfl)
def I_X9_hits_0 : List AI := [(.aload_n 0, 1, [], 0), (.iconst 0, 1, [], 0), (.putfield 33, 3, [8, 0, 0, 1345], 0), (.aload_n 0, 1, [], 0), (.iload_n 1, 1, [], 0), (.invokevirtual 404, 3, [1, 250, 2, 8, 1756], 0), (.ifCond .ne 9, 3, [19], 0), (.aload_n 0, 1, [], 0), (.iconst 1, 1, [], 1), (.invokevirtual 39, 3, [1, 201, 2, 8, 1481], 0), (.ireturn, 1, [], 0)]
theorem ok_X9_hits_0 : vBL MT qLen qCh false q_X9_hits.2.2.2.2.1 q_X9_hits.2.2.2.2.2.1 q_X9_hits.2.2.1 q_X9_hits.1.cls q_X9_hits.1.name q_X9_hits.2.1 0 0 I_X9_hits_0 = true := by decide +kernel
def p_X9_hits (a0 : Nat) (x1 : Int32) (x2 : Int32) (x3 : Int32) (h : AH) : Option (Int32 × AH) :=
  if (tg h a0).1 = 8 then (let h106 := wI h a0 0 ((0 : Int32))
  if (tg h106 a0).1 = 8 then ((p_X9_isAsked a0 x1 h106).bind fun q107 =>
  if q107.1 = 0 then (if (tg q107.2 a0).1 = 8 then ((p_X9_refused a0 ((1 : Int32)) q107.2).bind fun q111 =>
  some (q111.1, q111.2)) else none)
  else
  if (tg q107.2 a0).1 = 8 then ((p_X9_works a0 q107.2).bind fun h108 =>
  if (tg h108 a0).1 = 8 then ((p_X9_hitAt a0 x1 x2 x3 h108).bind fun q109 =>
  if q109.1 = ((-1 : Int32)) then (p_X9_hits_57 ((-2 : Int32)) a0 q109.2)
  else
  if (tg q109.2 a0).1 = 8 then (if inB q109.2 (rR q109.2 a0 16) 100 q109.1 then (if ((4 : Int32)) = 0 then none else
  if (tg q109.2 a0).1 = 8 then ((p_X9_hostOf a0 ((rI q109.2 (rR q109.2 a0 16) q109.1.toNatClampNeg) / ((4 : Int32))) q109.2).bind fun q110 =>
  p_X9_hits_57 q110.1 a0 q110.2) else none) else none) else none) else none) else none) else none) else none
set_option maxRecDepth 100000 in
theorem e_X9_hits_0 {l : Launch} {D : va_G} {dA : Nat → ClassId} {z : Nat} {sa : Nat → Nat} {Hz : Heap} (E : StrOK qLen qCh l D dA z sa Hz) {h0 fin : AH} {x : Int32}  : ∀ (a0 : Nat) (x1 : Int32) (x2 : Int32) (x3 : Int32) (h : AH), p_X9_hits a0 x1 x2 x3 h = some (x, fin) → GM l D dA z sa Hz q_X9_hits h0 (some (.int x)) fin 0 [(0, .ref a0), (1, .int x1), (2, .int x2), (3, .int x3)] [] h := by
  intro a0 x1 x2 x3 h hd
  exact step E (is := I_X9_hits_0) (pc := 0) (K := (kx 19 (fun la st h => gR la 0 fun a0 => gI la 1 fun x1 => gI la 2 fun x2 => gI la 3 fun x3 => sE st (p_X9_hits_19 a0 x1 x2 x3 h)) k0)) (FI := FI_X9_hits) (FV := FV_X9_hits) (FL := fL0) (rt := rtI) (ft := 0) (by exact hd) ok_X9_hits_0 (kx_ok (fun la st h e => by obtain ⟨a0, m_a0, e1⟩ := gR_inv e; obtain ⟨x1, m_x1, e2⟩ := gI_inv e1; obtain ⟨x2, m_x2, e3⟩ := gI_inv e2; obtain ⟨x3, m_x3, e4⟩ := gI_inv e3; obtain ⟨rfl, ez⟩ := sE_inv e4; exact gm_fewer (e_X9_hits_19 E  a0 x1 x2 x3 h ez) (mem_cons m_a0 (mem_cons m_x1 (mem_cons m_x2 (mem_cons m_x3 mem_nil))))) k0_ok) (FI_X9_hits_ok E) (FV_X9_hits_ok E) (fL0_ok E) (rtI_ok rfl)
theorem c_X9_hits {l : Launch} {D : va_G} {dA : Nat → ClassId} {z : Nat} {sa : Nat → Nat} {Hz : Heap} (E : StrOK qLen qCh l D dA z sa Hz) {a0 : Nat} {x1 : Int32} {x2 : Int32} {x3 : Int32} {h fin : AH} {x : Int32} (hd : p_X9_hits a0 x1 x2 x3 h = some (x, fin)) : CalOK l D dA z sa Hz q_X9_hits [.ref a0, .int x1, .int x2, .int x3] h (some (.int x)) fin := calOf (by decide +kernel) (Nat.le_of_ble_eq_true rfl) (e_X9_hits_0 E a0 x1 x2 x3 h hd)
def FI_X9_isStale : Nat → List Value → AH → Option (Int32 × AH) := (cx 228 (fun As h => sI As fun x0 As => sI As fun x1 As => sE As (p_X9_bit x0 x1 h)) (cx 266 (fun As h => sR As fun a0 As => sI As fun x1 As => sI As fun x2 As => sI As fun x3 As => sE As (p_X9_hitAt a0 x1 x2 x3 h)) (cx 258 (fun As h => sR As fun a0 As => sI As fun x1 As => sI As fun x2 As => sI As fun x3 As => sE As (p_X9_looks a0 x1 x2 x3 h)) (cx 241 (fun As h => sR As fun a0 As => sI As fun x1 As => sE As (p_X9_hostOf a0 x1 h)) fI0))))
theorem FI_X9_isStale_ok {l : Launch} {D : va_G} {dA : Nat → ClassId} {z : Nat} {sa : Nat → Nat} {Hz : Heap} (E : StrOK qLen qCh l D dA z sa Hz) : ∀ mi As h x h', FI_X9_isStale mi As h = some (x, h') → CalOK l D dA z sa Hz (MT mi) As h (some (.int x)) h' := (cxI_ok (fun As h x h2 e => by obtain ⟨_, _, rfl, e0⟩ := sI_inv e; obtain ⟨_, _, rfl, e1⟩ := sI_inv e0; obtain ⟨rfl, ez⟩ := sE_inv e1; exact c_X9_bit E ez) ((cxI_ok (fun As h x h2 e => by obtain ⟨_, _, rfl, e0⟩ := sR_inv e; obtain ⟨_, _, rfl, e1⟩ := sI_inv e0; obtain ⟨_, _, rfl, e2⟩ := sI_inv e1; obtain ⟨_, _, rfl, e3⟩ := sI_inv e2; obtain ⟨rfl, ez⟩ := sE_inv e3; exact c_X9_hitAt E ez) ((cxI_ok (fun As h x h2 e => by obtain ⟨_, _, rfl, e0⟩ := sR_inv e; obtain ⟨_, _, rfl, e1⟩ := sI_inv e0; obtain ⟨_, _, rfl, e2⟩ := sI_inv e1; obtain ⟨_, _, rfl, e3⟩ := sI_inv e2; obtain ⟨rfl, ez⟩ := sE_inv e3; exact c_X9_looks E ez) ((cxI_ok (fun As h x h2 e => by obtain ⟨_, _, rfl, e0⟩ := sR_inv e; obtain ⟨_, _, rfl, e1⟩ := sI_inv e0; obtain ⟨rfl, ez⟩ := sE_inv e1; exact c_X9_hostOf E ez) (fI0_ok E))))))))
def I_X9_isStale_56 : List AI := [(.ireturn, 1, [], 0)]
theorem ok_X9_isStale_56 : vBL MT qLen qCh false q_X9_isStale.2.2.2.2.1 q_X9_isStale.2.2.2.2.2.1 q_X9_isStale.2.2.1 q_X9_isStale.1.cls q_X9_isStale.1.name q_X9_isStale.2.1 0 56 I_X9_isStale_56 = true := by decide +kernel
def p_X9_isStale_56 (y0 : Int32) (h : AH) : Option (Int32 × AH) :=
  if y0 &&& 1 = y0 then some (y0, h) else none
set_option maxRecDepth 100000 in
theorem e_X9_isStale_56 {l : Launch} {D : va_G} {dA : Nat → ClassId} {z : Nat} {sa : Nat → Nat} {Hz : Heap} (E : StrOK qLen qCh l D dA z sa Hz) {h0 fin : AH} {x : Int32}  : ∀ (y0 : Int32) (h : AH), p_X9_isStale_56 y0 h = some (x, fin) → GM l D dA z sa Hz q_X9_isStale h0 (some (.int x)) fin 56 [] [.int y0] h := by
  intro y0 h hd
  exact step E (is := I_X9_isStale_56) (pc := 56) (K := k0) (FI := FI_X9_isStale) (FV := fV0) (FL := fL0) (rt := rtZ) (ft := 0) (by exact hd) ok_X9_isStale_56 k0_ok (FI_X9_isStale_ok E) (fV0_ok E) (fL0_ok E) (rtZ_ok rfl)
def I_X9_isStale_55 : List AI := [(.iconst 0, 1, [], 0)]
theorem ok_X9_isStale_55 : vBL MT qLen qCh false q_X9_isStale.2.2.2.2.1 q_X9_isStale.2.2.2.2.2.1 q_X9_isStale.2.2.1 q_X9_isStale.1.cls q_X9_isStale.1.name q_X9_isStale.2.1 56 55 I_X9_isStale_55 = true := by decide +kernel
def p_X9_isStale_55 (h : AH) : Option (Int32 × AH) :=
  p_X9_isStale_56 ((0 : Int32)) h
set_option maxRecDepth 100000 in
theorem e_X9_isStale_55 {l : Launch} {D : va_G} {dA : Nat → ClassId} {z : Nat} {sa : Nat → Nat} {Hz : Heap} (E : StrOK qLen qCh l D dA z sa Hz) {h0 fin : AH} {x : Int32}  : ∀  (h : AH), p_X9_isStale_55 h = some (x, fin) → GM l D dA z sa Hz q_X9_isStale h0 (some (.int x)) fin 55 [] [] h := by
  intro h hd
  exact step E (is := I_X9_isStale_55) (pc := 55) (K := (kx 56 (fun la st h => sI st fun y0 st => sE st (p_X9_isStale_56 y0 h)) k0)) (FI := FI_X9_isStale) (FV := fV0) (FL := fL0) (rt := rtZ) (ft := 56) (by exact hd) ok_X9_isStale_55 (kx_ok (fun la st h e => by obtain ⟨y0, _, rfl, e1⟩ := sI_inv e; obtain ⟨rfl, ez⟩ := sE_inv e1; exact gm_fewer (e_X9_isStale_56 E  y0 h ez) mem_nil) k0_ok) (FI_X9_isStale_ok E) (fV0_ok E) (fL0_ok E) (rtZ_ok rfl)
def I_X9_isStale_0 : List AI := [(.aload_n 0, 1, [], 0), (.iload_n 1, 1, [], 0), (.iload_n 2, 1, [], 0), (.iconst 0, 1, [], 0), (.invokestatic 307, 3, [1, 228, 2, 1679], 0), (.iload_n 2, 1, [], 0), (.iconst 1, 1, [], 1), (.invokestatic 307, 3, [1, 228, 2, 1679], 0), (.invokevirtual 365, 3, [1, 266, 4, 8, 1815], 0), (.istore_n 3, 1, [], 0), (.iload_n 3, 1, [], 0), (.iconst (-1), 1, [], (-1)), (.if_icmp .eq 37, 3, [55], 0), (.aload_n 0, 1, [], 0), (.iload_n 1, 1, [], 0), (.iload_n 2, 1, [], 0), (.iconst 0, 1, [], 0), (.invokestatic 307, 3, [1, 228, 2, 1679], 0), (.iload_n 2, 1, [], 0), (.iconst 1, 1, [], 1), (.invokestatic 307, 3, [1, 228, 2, 1679], 0), (.invokevirtual 376, 3, [1, 258, 4, 8, 1763], 0), (.aload_n 0, 1, [], 0), (.aload_n 0, 1, [], 0), (.getfield 21, 3, [8, 16, 2, 1361], 0), (.iload_n 3, 1, [], 0), (.iaload, 1, [], 0), (.iconst 4, 1, [], 4), (.idiv, 1, [], 0), (.invokevirtual 344, 3, [1, 241, 2, 8, 1725], 0), (.if_icmp .eq 7, 3, [55], 0), (.iconst 1, 1, [], 1), (.goto 4, 3, [56], 0)]
theorem ok_X9_isStale_0 : vBL MT qLen qCh false q_X9_isStale.2.2.2.2.1 q_X9_isStale.2.2.2.2.2.1 q_X9_isStale.2.2.1 q_X9_isStale.1.cls q_X9_isStale.1.name q_X9_isStale.2.1 0 0 I_X9_isStale_0 = true := by decide +kernel
def p_X9_isStale (a0 : Nat) (x1 : Int32) (x2 : Int32) (h : AH) : Option (Int32 × AH) :=
  (p_X9_bit x2 ((0 : Int32)) h).bind fun q101 =>
  (p_X9_bit x2 ((1 : Int32)) q101.2).bind fun q102 =>
  if (tg q102.2 a0).1 = 8 then ((p_X9_hitAt a0 x1 q101.1 q102.1 q102.2).bind fun q103 =>
  if q103.1 = ((-1 : Int32)) then (p_X9_isStale_55 q103.2)
  else
  (p_X9_bit x2 ((0 : Int32)) q103.2).bind fun q104 =>
  (p_X9_bit x2 ((1 : Int32)) q104.2).bind fun q105 =>
  if (tg q105.2 a0).1 = 8 then ((p_X9_looks a0 x1 q104.1 q105.1 q105.2).bind fun q106 =>
  if (tg q106.2 a0).1 = 8 then (if inB q106.2 (rR q106.2 a0 16) 100 q103.1 then (if ((4 : Int32)) = 0 then none else
  if (tg q106.2 a0).1 = 8 then ((p_X9_hostOf a0 ((rI q106.2 (rR q106.2 a0 16) q103.1.toNatClampNeg) / ((4 : Int32))) q106.2).bind fun q107 =>
  if q106.1 = q107.1 then (p_X9_isStale_55 q107.2)
  else
  p_X9_isStale_56 ((1 : Int32)) q107.2) else none) else none) else none) else none) else none
set_option maxRecDepth 100000 in
theorem e_X9_isStale_0 {l : Launch} {D : va_G} {dA : Nat → ClassId} {z : Nat} {sa : Nat → Nat} {Hz : Heap} (E : StrOK qLen qCh l D dA z sa Hz) {h0 fin : AH} {x : Int32}  : ∀ (a0 : Nat) (x1 : Int32) (x2 : Int32) (h : AH), p_X9_isStale a0 x1 x2 h = some (x, fin) → GM l D dA z sa Hz q_X9_isStale h0 (some (.int x)) fin 0 [(0, .ref a0), (1, .int x1), (2, .int x2)] [] h := by
  intro a0 x1 x2 h hd
  exact step E (is := I_X9_isStale_0) (pc := 0) (K := (kx 55 (fun la st h => sE st (p_X9_isStale_55 h)) (kx 56 (fun la st h => sI st fun y0 st => sE st (p_X9_isStale_56 y0 h)) k0))) (FI := FI_X9_isStale) (FV := fV0) (FL := fL0) (rt := rtZ) (ft := 0) (by exact hd) ok_X9_isStale_0 (kx_ok (fun la st h e => by obtain ⟨rfl, ez⟩ := sE_inv e; exact gm_fewer (e_X9_isStale_55 E   h ez) mem_nil) (kx_ok (fun la st h e => by obtain ⟨y0, _, rfl, e1⟩ := sI_inv e; obtain ⟨rfl, ez⟩ := sE_inv e1; exact gm_fewer (e_X9_isStale_56 E  y0 h ez) mem_nil) k0_ok)) (FI_X9_isStale_ok E) (fV0_ok E) (fL0_ok E) (rtZ_ok rfl)
theorem c_X9_isStale {l : Launch} {D : va_G} {dA : Nat → ClassId} {z : Nat} {sa : Nat → Nat} {Hz : Heap} (E : StrOK qLen qCh l D dA z sa Hz) {a0 : Nat} {x1 : Int32} {x2 : Int32} {h fin : AH} {x : Int32} (hd : p_X9_isStale a0 x1 x2 h = some (x, fin)) : CalOK l D dA z sa Hz q_X9_isStale [.ref a0, .int x1, .int x2] h (some (.int x)) fin := calOf (by decide +kernel) (Nat.le_of_ble_eq_true rfl) (e_X9_isStale_0 E a0 x1 x2 h hd)
def FI_X9_compares : Nat → List Value → AH → Option (Int32 × AH) := (cx 228 (fun As h => sI As fun x0 As => sI As fun x1 As => sE As (p_X9_bit x0 x1 h)) (cx 258 (fun As h => sR As fun a0 As => sI As fun x1 As => sI As fun x2 As => sI As fun x3 As => sE As (p_X9_looks a0 x1 x2 x3 h)) (cx 266 (fun As h => sR As fun a0 As => sI As fun x1 As => sI As fun x2 As => sI As fun x3 As => sE As (p_X9_hitAt a0 x1 x2 x3 h)) (cx 268 (fun As h => sR As fun a0 As => sI As fun x1 As => sI As fun x2 As => sE As (p_X9_isStale a0 x1 x2 h)) fI0))))
theorem FI_X9_compares_ok {l : Launch} {D : va_G} {dA : Nat → ClassId} {z : Nat} {sa : Nat → Nat} {Hz : Heap} (E : StrOK qLen qCh l D dA z sa Hz) : ∀ mi As h x h', FI_X9_compares mi As h = some (x, h') → CalOK l D dA z sa Hz (MT mi) As h (some (.int x)) h' := (cxI_ok (fun As h x h2 e => by obtain ⟨_, _, rfl, e0⟩ := sI_inv e; obtain ⟨_, _, rfl, e1⟩ := sI_inv e0; obtain ⟨rfl, ez⟩ := sE_inv e1; exact c_X9_bit E ez) ((cxI_ok (fun As h x h2 e => by obtain ⟨_, _, rfl, e0⟩ := sR_inv e; obtain ⟨_, _, rfl, e1⟩ := sI_inv e0; obtain ⟨_, _, rfl, e2⟩ := sI_inv e1; obtain ⟨_, _, rfl, e3⟩ := sI_inv e2; obtain ⟨rfl, ez⟩ := sE_inv e3; exact c_X9_looks E ez) ((cxI_ok (fun As h x h2 e => by obtain ⟨_, _, rfl, e0⟩ := sR_inv e; obtain ⟨_, _, rfl, e1⟩ := sI_inv e0; obtain ⟨_, _, rfl, e2⟩ := sI_inv e1; obtain ⟨_, _, rfl, e3⟩ := sI_inv e2; obtain ⟨rfl, ez⟩ := sE_inv e3; exact c_X9_hitAt E ez) ((cxI_ok (fun As h x h2 e => by obtain ⟨_, _, rfl, e0⟩ := sR_inv e; obtain ⟨_, _, rfl, e1⟩ := sI_inv e0; obtain ⟨_, _, rfl, e2⟩ := sI_inv e1; obtain ⟨rfl, ez⟩ := sE_inv e2; exact c_X9_isStale E ez) (fI0_ok E))))))))
def FV_X9_compares : Nat → List Value → AH → Option (AH) := (cx 239 (fun As h => sR As fun a0 As => sE As (p_X9_works a0 h)) fV0)
theorem FV_X9_compares_ok {l : Launch} {D : va_G} {dA : Nat → ClassId} {z : Nat} {sa : Nat → Nat} {Hz : Heap} (E : StrOK qLen qCh l D dA z sa Hz) : ∀ mi As h h', FV_X9_compares mi As h = some h' → CalOK l D dA z sa Hz (MT mi) As h none h' := (cxV_ok (fun As h h2 e => by obtain ⟨_, _, rfl, e0⟩ := sR_inv e; obtain ⟨rfl, ez⟩ := sE_inv e0; exact c_X9_works E ez) (fV0_ok E))
def I_X9_compares_134 : List AI := [(.return_, 1, [], 0)]
theorem ok_X9_compares_134 : vBL MT qLen qCh false q_X9_compares.2.2.2.2.1 q_X9_compares.2.2.2.2.2.1 q_X9_compares.2.2.1 q_X9_compares.1.cls q_X9_compares.1.name q_X9_compares.2.1 0 134 I_X9_compares_134 = true := by decide +kernel
def p_X9_compares_134 (h : AH) : Option (AH) :=
  some h
set_option maxRecDepth 100000 in
theorem e_X9_compares_134 {l : Launch} {D : va_G} {dA : Nat → ClassId} {z : Nat} {sa : Nat → Nat} {Hz : Heap} (E : StrOK qLen qCh l D dA z sa Hz) {h0 fin : AH}  : ∀  (h : AH), p_X9_compares_134 h = some fin → GM l D dA z sa Hz q_X9_compares h0 none fin 134 [] [] h := by
  intro h hd
  exact step E (is := I_X9_compares_134) (pc := 134) (K := k0) (FI := FI_X9_compares) (FV := FV_X9_compares) (FL := fL0) (rt := rtV) (ft := 0) (by exact hd) ok_X9_compares_134 k0_ok (FI_X9_compares_ok E) (FV_X9_compares_ok E) (fL0_ok E) (rtV_ok rfl)
def I_X9_compares_128 : List AI := [(.iinc 1 1, 3, [], 1), (.goto (-109), 3, [22], 0)]
theorem ok_X9_compares_128 : vBL MT qLen qCh false q_X9_compares.2.2.2.2.1 q_X9_compares.2.2.2.2.2.1 q_X9_compares.2.2.1 q_X9_compares.1.cls q_X9_compares.1.name q_X9_compares.2.1 0 128 I_X9_compares_128 = true := by decide +kernel
def p_X9_compares_128 (k22 : Nat → Int32 → AH → Option (AH)) (a0 : Nat) (x1 : Int32) (h : AH) : Option (AH) :=
  k22 a0 (x1 + (1 : Int32)) h
set_option maxRecDepth 100000 in
theorem e_X9_compares_128 {l : Launch} {D : va_G} {dA : Nat → ClassId} {z : Nat} {sa : Nat → Nat} {Hz : Heap} (E : StrOK qLen qCh l D dA z sa Hz) {h0 fin : AH}  {k22 : Nat → Int32 → AH → Option (AH)} (hk22 : ∀ (a0 : Nat) (x1 : Int32) (h : AH), k22 a0 x1 h = some fin → GM l D dA z sa Hz q_X9_compares h0 none fin 22 [(0, .ref a0), (1, .int x1)] [] h) : ∀ (a0 : Nat) (x1 : Int32) (h : AH), p_X9_compares_128 k22 a0 x1 h = some fin → GM l D dA z sa Hz q_X9_compares h0 none fin 128 [(0, .ref a0), (1, .int x1)] [] h := by
  intro a0 x1 h hd
  exact step E (is := I_X9_compares_128) (pc := 128) (K := (kx 22 (fun la st h => gR la 0 fun a0 => gI la 1 fun x1 => sE st (k22 a0 x1 h)) k0)) (FI := FI_X9_compares) (FV := FV_X9_compares) (FL := fL0) (rt := rtV) (ft := 0) (by exact hd) ok_X9_compares_128 (kx_ok (fun la st h e => by obtain ⟨a0, m_a0, e1⟩ := gR_inv e; obtain ⟨x1, m_x1, e2⟩ := gI_inv e1; obtain ⟨rfl, ez⟩ := sE_inv e2; exact gm_fewer (hk22 a0 x1 h ez) (mem_cons m_a0 (mem_cons m_x1 mem_nil))) k0_ok) (FI_X9_compares_ok E) (FV_X9_compares_ok E) (fL0_ok E) (rtV_ok rfl)
def I_X9_compares_122 : List AI := [(.iinc 2 1, 3, [], 1), (.goto (-95), 3, [30], 0)]
theorem ok_X9_compares_122 : vBL MT qLen qCh false q_X9_compares.2.2.2.2.1 q_X9_compares.2.2.2.2.2.1 q_X9_compares.2.2.1 q_X9_compares.1.cls q_X9_compares.1.name q_X9_compares.2.1 0 122 I_X9_compares_122 = true := by decide +kernel
def p_X9_compares_122 (k30 : Nat → Int32 → Int32 → AH → Option (AH)) (a0 : Nat) (x1 : Int32) (x2 : Int32) (h : AH) : Option (AH) :=
  k30 a0 x1 (x2 + (1 : Int32)) h
set_option maxRecDepth 100000 in
theorem e_X9_compares_122 {l : Launch} {D : va_G} {dA : Nat → ClassId} {z : Nat} {sa : Nat → Nat} {Hz : Heap} (E : StrOK qLen qCh l D dA z sa Hz) {h0 fin : AH}  {k30 : Nat → Int32 → Int32 → AH → Option (AH)} (hk30 : ∀ (a0 : Nat) (x1 : Int32) (x2 : Int32) (h : AH), k30 a0 x1 x2 h = some fin → GM l D dA z sa Hz q_X9_compares h0 none fin 30 [(0, .ref a0), (1, .int x1), (2, .int x2)] [] h) : ∀ (a0 : Nat) (x1 : Int32) (x2 : Int32) (h : AH), p_X9_compares_122 k30 a0 x1 x2 h = some fin → GM l D dA z sa Hz q_X9_compares h0 none fin 122 [(0, .ref a0), (1, .int x1), (2, .int x2)] [] h := by
  intro a0 x1 x2 h hd
  exact step E (is := I_X9_compares_122) (pc := 122) (K := (kx 30 (fun la st h => gR la 0 fun a0 => gI la 1 fun x1 => gI la 2 fun x2 => sE st (k30 a0 x1 x2 h)) k0)) (FI := FI_X9_compares) (FV := FV_X9_compares) (FL := fL0) (rt := rtV) (ft := 0) (by exact hd) ok_X9_compares_122 (kx_ok (fun la st h e => by obtain ⟨a0, m_a0, e1⟩ := gR_inv e; obtain ⟨x1, m_x1, e2⟩ := gI_inv e1; obtain ⟨x2, m_x2, e3⟩ := gI_inv e2; obtain ⟨rfl, ez⟩ := sE_inv e3; exact gm_fewer (hk30 a0 x1 x2 h ez) (mem_cons m_a0 (mem_cons m_x1 (mem_cons m_x2 mem_nil)))) k0_ok) (FI_X9_compares_ok E) (FV_X9_compares_ok E) (fL0_ok E) (rtV_ok rfl)
def I_X9_compares_112 : List AI := [(.aload_n 0, 1, [], 0), (.dup, 1, [], 0), (.getfield 410, 3, [8, 34, 0, 1379], 0), (.iconst 1, 1, [], 1), (.iadd, 1, [], 0), (.putfield 410, 3, [8, 34, 0, 1379], 0)]
theorem ok_X9_compares_112 : vBL MT qLen qCh false q_X9_compares.2.2.2.2.1 q_X9_compares.2.2.2.2.2.1 q_X9_compares.2.2.1 q_X9_compares.1.cls q_X9_compares.1.name q_X9_compares.2.1 122 112 I_X9_compares_112 = true := by decide +kernel
def p_X9_compares_112 (k30 : Nat → Int32 → Int32 → AH → Option (AH)) (a0 : Nat) (x1 : Int32) (x2 : Int32) (h : AH) : Option (AH) :=
  if (tg h a0).1 = 8 then (if (tg h a0).1 = 8 then (let h101 := wI h a0 34 ((rI h a0 34) + ((1 : Int32)))
  p_X9_compares_122 k30 a0 x1 x2 h101) else none) else none
set_option maxRecDepth 100000 in
theorem e_X9_compares_112 {l : Launch} {D : va_G} {dA : Nat → ClassId} {z : Nat} {sa : Nat → Nat} {Hz : Heap} (E : StrOK qLen qCh l D dA z sa Hz) {h0 fin : AH}  {k30 : Nat → Int32 → Int32 → AH → Option (AH)} (hk30 : ∀ (a0 : Nat) (x1 : Int32) (x2 : Int32) (h : AH), k30 a0 x1 x2 h = some fin → GM l D dA z sa Hz q_X9_compares h0 none fin 30 [(0, .ref a0), (1, .int x1), (2, .int x2)] [] h) : ∀ (a0 : Nat) (x1 : Int32) (x2 : Int32) (h : AH), p_X9_compares_112 k30 a0 x1 x2 h = some fin → GM l D dA z sa Hz q_X9_compares h0 none fin 112 [(0, .ref a0), (1, .int x1), (2, .int x2)] [] h := by
  intro a0 x1 x2 h hd
  exact step E (is := I_X9_compares_112) (pc := 112) (K := (kx 122 (fun la st h => gR la 0 fun a0 => gI la 1 fun x1 => gI la 2 fun x2 => sE st (p_X9_compares_122 k30 a0 x1 x2 h)) k0)) (FI := FI_X9_compares) (FV := FV_X9_compares) (FL := fL0) (rt := rtV) (ft := 122) (by exact hd) ok_X9_compares_112 (kx_ok (fun la st h e => by obtain ⟨a0, m_a0, e1⟩ := gR_inv e; obtain ⟨x1, m_x1, e2⟩ := gI_inv e1; obtain ⟨x2, m_x2, e3⟩ := gI_inv e2; obtain ⟨rfl, ez⟩ := sE_inv e3; exact gm_fewer (e_X9_compares_122 E hk30 a0 x1 x2 h ez) (mem_cons m_a0 (mem_cons m_x1 (mem_cons m_x2 mem_nil)))) k0_ok) (FI_X9_compares_ok E) (FV_X9_compares_ok E) (fL0_ok E) (rtV_ok rfl)
def I_X9_compares_98 : List AI := [(.aload_n 0, 1, [], 0), (.getfield 407, 3, [8, 33, 0, 1378], 0), (.bipush (-2), 2, [], (-2)), (.if_icmp .ne 8, 3, [112], 0), (.aload_n 0, 1, [], 0), (.iload_n 1, 1, [], 0), (.putfield 407, 3, [8, 33, 0, 1378], 0)]
theorem ok_X9_compares_98 : vBL MT qLen qCh false q_X9_compares.2.2.2.2.1 q_X9_compares.2.2.2.2.2.1 q_X9_compares.2.2.1 q_X9_compares.1.cls q_X9_compares.1.name q_X9_compares.2.1 112 98 I_X9_compares_98 = true := by decide +kernel
def p_X9_compares_98 (k30 : Nat → Int32 → Int32 → AH → Option (AH)) (a0 : Nat) (x1 : Int32) (x2 : Int32) (h : AH) : Option (AH) :=
  if (tg h a0).1 = 8 then (if (rI h a0 33) = ((-2 : Int32)) then (if (tg h a0).1 = 8 then (let h102 := wI h a0 33 x1
  p_X9_compares_112 k30 a0 x1 x2 h102) else none)
  else
  p_X9_compares_112 k30 a0 x1 x2 h) else none
set_option maxRecDepth 100000 in
theorem e_X9_compares_98 {l : Launch} {D : va_G} {dA : Nat → ClassId} {z : Nat} {sa : Nat → Nat} {Hz : Heap} (E : StrOK qLen qCh l D dA z sa Hz) {h0 fin : AH}  {k30 : Nat → Int32 → Int32 → AH → Option (AH)} (hk30 : ∀ (a0 : Nat) (x1 : Int32) (x2 : Int32) (h : AH), k30 a0 x1 x2 h = some fin → GM l D dA z sa Hz q_X9_compares h0 none fin 30 [(0, .ref a0), (1, .int x1), (2, .int x2)] [] h) : ∀ (a0 : Nat) (x1 : Int32) (x2 : Int32) (h : AH), p_X9_compares_98 k30 a0 x1 x2 h = some fin → GM l D dA z sa Hz q_X9_compares h0 none fin 98 [(0, .ref a0), (1, .int x1), (2, .int x2)] [] h := by
  intro a0 x1 x2 h hd
  exact step E (is := I_X9_compares_98) (pc := 98) (K := (kx 112 (fun la st h => gR la 0 fun a0 => gI la 1 fun x1 => gI la 2 fun x2 => sE st (p_X9_compares_112 k30 a0 x1 x2 h)) k0)) (FI := FI_X9_compares) (FV := FV_X9_compares) (FL := fL0) (rt := rtV) (ft := 112) (by exact hd) ok_X9_compares_98 (kx_ok (fun la st h e => by obtain ⟨a0, m_a0, e1⟩ := gR_inv e; obtain ⟨x1, m_x1, e2⟩ := gI_inv e1; obtain ⟨x2, m_x2, e3⟩ := gI_inv e2; obtain ⟨rfl, ez⟩ := sE_inv e3; exact gm_fewer (e_X9_compares_112 E hk30 a0 x1 x2 h ez) (mem_cons m_a0 (mem_cons m_x1 (mem_cons m_x2 mem_nil)))) k0_ok) (FI_X9_compares_ok E) (FV_X9_compares_ok E) (fL0_ok E) (rtV_ok rfl)
def I_X9_compares_82 : List AI := [(.iadd, 1, [], 0), (.putfield 413, 3, [8, 35, 0, 1380], 0), (.aload_n 0, 1, [], 0), (.iload_n 1, 1, [], 0), (.iload_n 2, 1, [], 0), (.invokevirtual 416, 3, [1, 268, 3, 8, 1831], 0), (.ifCond .ne 6, 3, [98], 0), (.goto 27, 3, [122], 0)]
theorem ok_X9_compares_82 : vBL MT qLen qCh false q_X9_compares.2.2.2.2.1 q_X9_compares.2.2.2.2.2.1 q_X9_compares.2.2.1 q_X9_compares.1.cls q_X9_compares.1.name q_X9_compares.2.1 0 82 I_X9_compares_82 = true := by decide +kernel
def p_X9_compares_82 (k30 : Nat → Int32 → Int32 → AH → Option (AH)) (a0 : Nat) (x1 : Int32) (x2 : Int32) (y0 : Int32) (y1 : Int32) (b2 : Nat) (h : AH) : Option (AH) :=
  if (tg h b2).1 = 8 then (let h103 := wI h b2 35 (y1 + y0)
  if (tg h103 a0).1 = 8 then ((p_X9_isStale a0 x1 x2 h103).bind fun q104 =>
  if q104.1 = 0 then (p_X9_compares_122 k30 a0 x1 x2 q104.2)
  else
  if (tg q104.2 a0).1 = 8 then (if (rI q104.2 a0 33) = ((-2 : Int32)) then (if (tg q104.2 a0).1 = 8 then (let h105 := wI q104.2 a0 33 x1
  p_X9_compares_112 k30 a0 x1 x2 h105) else none)
  else
  p_X9_compares_112 k30 a0 x1 x2 q104.2) else none) else none) else none
set_option maxRecDepth 100000 in
theorem e_X9_compares_82 {l : Launch} {D : va_G} {dA : Nat → ClassId} {z : Nat} {sa : Nat → Nat} {Hz : Heap} (E : StrOK qLen qCh l D dA z sa Hz) {h0 fin : AH}  {k30 : Nat → Int32 → Int32 → AH → Option (AH)} (hk30 : ∀ (a0 : Nat) (x1 : Int32) (x2 : Int32) (h : AH), k30 a0 x1 x2 h = some fin → GM l D dA z sa Hz q_X9_compares h0 none fin 30 [(0, .ref a0), (1, .int x1), (2, .int x2)] [] h) : ∀ (a0 : Nat) (x1 : Int32) (x2 : Int32) (y0 : Int32) (y1 : Int32) (b2 : Nat) (h : AH), p_X9_compares_82 k30 a0 x1 x2 y0 y1 b2 h = some fin → GM l D dA z sa Hz q_X9_compares h0 none fin 82 [(0, .ref a0), (1, .int x1), (2, .int x2)] [.int y0, .int y1, .ref b2] h := by
  intro a0 x1 x2 y0 y1 b2 h hd
  exact step E (is := I_X9_compares_82) (pc := 82) (K := (kx 98 (fun la st h => gR la 0 fun a0 => gI la 1 fun x1 => gI la 2 fun x2 => sE st (p_X9_compares_98 k30 a0 x1 x2 h)) (kx 122 (fun la st h => gR la 0 fun a0 => gI la 1 fun x1 => gI la 2 fun x2 => sE st (p_X9_compares_122 k30 a0 x1 x2 h)) k0))) (FI := FI_X9_compares) (FV := FV_X9_compares) (FL := fL0) (rt := rtV) (ft := 0) (by exact hd) ok_X9_compares_82 (kx_ok (fun la st h e => by obtain ⟨a0, m_a0, e1⟩ := gR_inv e; obtain ⟨x1, m_x1, e2⟩ := gI_inv e1; obtain ⟨x2, m_x2, e3⟩ := gI_inv e2; obtain ⟨rfl, ez⟩ := sE_inv e3; exact gm_fewer (e_X9_compares_98 E hk30 a0 x1 x2 h ez) (mem_cons m_a0 (mem_cons m_x1 (mem_cons m_x2 mem_nil)))) (kx_ok (fun la st h e => by obtain ⟨a0, m_a0, e1⟩ := gR_inv e; obtain ⟨x1, m_x1, e2⟩ := gI_inv e1; obtain ⟨x2, m_x2, e3⟩ := gI_inv e2; obtain ⟨rfl, ez⟩ := sE_inv e3; exact gm_fewer (e_X9_compares_122 E hk30 a0 x1 x2 h ez) (mem_cons m_a0 (mem_cons m_x1 (mem_cons m_x2 mem_nil)))) k0_ok)) (FI_X9_compares_ok E) (FV_X9_compares_ok E) (fL0_ok E) (rtV_ok rfl)
def I_X9_compares_81 : List AI := [(.iconst 0, 1, [], 0)]
theorem ok_X9_compares_81 : vBL MT qLen qCh false q_X9_compares.2.2.2.2.1 q_X9_compares.2.2.2.2.2.1 q_X9_compares.2.2.1 q_X9_compares.1.cls q_X9_compares.1.name q_X9_compares.2.1 82 81 I_X9_compares_81 = true := by decide +kernel
def p_X9_compares_81 (k30 : Nat → Int32 → Int32 → AH → Option (AH)) (a0 : Nat) (x1 : Int32) (x2 : Int32) (y0 : Int32) (b1 : Nat) (h : AH) : Option (AH) :=
  p_X9_compares_82 k30 a0 x1 x2 ((0 : Int32)) y0 b1 h
set_option maxRecDepth 100000 in
theorem e_X9_compares_81 {l : Launch} {D : va_G} {dA : Nat → ClassId} {z : Nat} {sa : Nat → Nat} {Hz : Heap} (E : StrOK qLen qCh l D dA z sa Hz) {h0 fin : AH}  {k30 : Nat → Int32 → Int32 → AH → Option (AH)} (hk30 : ∀ (a0 : Nat) (x1 : Int32) (x2 : Int32) (h : AH), k30 a0 x1 x2 h = some fin → GM l D dA z sa Hz q_X9_compares h0 none fin 30 [(0, .ref a0), (1, .int x1), (2, .int x2)] [] h) : ∀ (a0 : Nat) (x1 : Int32) (x2 : Int32) (y0 : Int32) (b1 : Nat) (h : AH), p_X9_compares_81 k30 a0 x1 x2 y0 b1 h = some fin → GM l D dA z sa Hz q_X9_compares h0 none fin 81 [(0, .ref a0), (1, .int x1), (2, .int x2)] [.int y0, .ref b1] h := by
  intro a0 x1 x2 y0 b1 h hd
  exact step E (is := I_X9_compares_81) (pc := 81) (K := (kx 82 (fun la st h => gR la 0 fun a0 => gI la 1 fun x1 => gI la 2 fun x2 => sI st fun y0 st => sI st fun y1 st => sR st fun b2 st => sE st (p_X9_compares_82 k30 a0 x1 x2 y0 y1 b2 h)) k0)) (FI := FI_X9_compares) (FV := FV_X9_compares) (FL := fL0) (rt := rtV) (ft := 82) (by exact hd) ok_X9_compares_81 (kx_ok (fun la st h e => by obtain ⟨a0, m_a0, e1⟩ := gR_inv e; obtain ⟨x1, m_x1, e2⟩ := gI_inv e1; obtain ⟨x2, m_x2, e3⟩ := gI_inv e2; obtain ⟨y0, _, rfl, e4⟩ := sI_inv e3; obtain ⟨y1, _, rfl, e5⟩ := sI_inv e4; obtain ⟨b2, _, rfl, e6⟩ := sR_inv e5; obtain ⟨rfl, ez⟩ := sE_inv e6; exact gm_fewer (e_X9_compares_82 E hk30 a0 x1 x2 y0 y1 b2 h ez) (mem_cons m_a0 (mem_cons m_x1 (mem_cons m_x2 mem_nil)))) k0_ok) (FI_X9_compares_ok E) (FV_X9_compares_ok E) (fL0_ok E) (rtV_ok rfl)
def I_X9_compares_30 : List AI := [(.iload_n 2, 1, [], 0), (.iconst 4, 1, [], 4), (.if_icmp .ge 96, 3, [128], 0), (.aload_n 0, 1, [], 0), (.dup, 1, [], 0), (.getfield 413, 3, [8, 35, 0, 1380], 0), (.aload_n 0, 1, [], 0), (.iload_n 1, 1, [], 0), (.iload_n 2, 1, [], 0), (.iconst 0, 1, [], 0), (.invokestatic 307, 3, [1, 228, 2, 1679], 0), (.iload_n 2, 1, [], 0), (.iconst 1, 1, [], 1), (.invokestatic 307, 3, [1, 228, 2, 1679], 0), (.invokevirtual 376, 3, [1, 258, 4, 8, 1763], 0), (.ifCond .lt 26, 3, [81], 0), (.aload_n 0, 1, [], 0), (.iload_n 1, 1, [], 0), (.iload_n 2, 1, [], 0), (.iconst 0, 1, [], 0), (.invokestatic 307, 3, [1, 228, 2, 1679], 0), (.iload_n 2, 1, [], 0), (.iconst 1, 1, [], 1), (.invokestatic 307, 3, [1, 228, 2, 1679], 0), (.invokevirtual 365, 3, [1, 266, 4, 8, 1815], 0), (.iconst (-1), 1, [], (-1)), (.if_icmp .ne 7, 3, [81], 0), (.iconst 1, 1, [], 1), (.goto 4, 3, [82], 0)]
theorem ok_X9_compares_30 : vBL MT qLen qCh false q_X9_compares.2.2.2.2.1 q_X9_compares.2.2.2.2.2.1 q_X9_compares.2.2.1 q_X9_compares.1.cls q_X9_compares.1.name q_X9_compares.2.1 0 30 I_X9_compares_30 = true := by decide +kernel
def p_X9_compares_30 (k22 : Nat → Int32 → AH → Option (AH)) : Nat → Nat → Int32 → Int32 → AH → Option (AH)
  | 0, _, _, _, _ => none
  | n + 1, a0, x1, x2, h => if x2 < ((4 : Int32)) then (if (tg h a0).1 = 8 then ((p_X9_bit x2 ((0 : Int32)) h).bind fun q106 =>
    (p_X9_bit x2 ((1 : Int32)) q106.2).bind fun q107 =>
    if (tg q107.2 a0).1 = 8 then ((p_X9_looks a0 x1 q106.1 q107.1 q107.2).bind fun q108 =>
    if q108.1 < 0 then (p_X9_compares_81 (p_X9_compares_30 k22 n) a0 x1 x2 (rI h a0 35) a0 q108.2)
    else
    (p_X9_bit x2 ((0 : Int32)) q108.2).bind fun q109 =>
    (p_X9_bit x2 ((1 : Int32)) q109.2).bind fun q110 =>
    if (tg q110.2 a0).1 = 8 then ((p_X9_hitAt a0 x1 q109.1 q110.1 q110.2).bind fun q111 =>
    if q111.1 = ((-1 : Int32)) then (p_X9_compares_82 (p_X9_compares_30 k22 n) a0 x1 x2 ((1 : Int32)) (rI h a0 35) a0 q111.2)
    else
    p_X9_compares_81 (p_X9_compares_30 k22 n) a0 x1 x2 (rI h a0 35) a0 q111.2) else none) else none) else none)
    else
    k22 a0 (x1 + (1 : Int32)) h
set_option maxRecDepth 100000 in
theorem e_X9_compares_30 {l : Launch} {D : va_G} {dA : Nat → ClassId} {z : Nat} {sa : Nat → Nat} {Hz : Heap} (E : StrOK qLen qCh l D dA z sa Hz) {h0 fin : AH}  {k22 : Nat → Int32 → AH → Option (AH)} (hk22 : ∀ (a0 : Nat) (x1 : Int32) (h : AH), k22 a0 x1 h = some fin → GM l D dA z sa Hz q_X9_compares h0 none fin 22 [(0, .ref a0), (1, .int x1)] [] h) : ∀ (n : Nat) (a0 : Nat) (x1 : Int32) (x2 : Int32) (h : AH), p_X9_compares_30 k22 n a0 x1 x2 h = some fin → GM l D dA z sa Hz q_X9_compares h0 none fin 30 [(0, .ref a0), (1, .int x1), (2, .int x2)] [] h := by
  intro n
  induction n with
  | zero => intro a0 x1 x2 h hd; exact nomatch hd
  | succ n ih =>
    intro a0 x1 x2 h hd
    exact step E (is := I_X9_compares_30) (pc := 30) (K := (kx 128 (fun la st h => gR la 0 fun a0 => gI la 1 fun x1 => sE st (p_X9_compares_128 k22 a0 x1 h)) (kx 81 (fun la st h => gR la 0 fun a0 => gI la 1 fun x1 => gI la 2 fun x2 => sI st fun y0 st => sR st fun b1 st => sE st (p_X9_compares_81 (p_X9_compares_30 k22 n) a0 x1 x2 y0 b1 h)) (kx 82 (fun la st h => gR la 0 fun a0 => gI la 1 fun x1 => gI la 2 fun x2 => sI st fun y0 st => sI st fun y1 st => sR st fun b2 st => sE st (p_X9_compares_82 (p_X9_compares_30 k22 n) a0 x1 x2 y0 y1 b2 h)) k0)))) (FI := FI_X9_compares) (FV := FV_X9_compares) (FL := fL0) (rt := rtV) (ft := 0) (by exact hd) ok_X9_compares_30 (kx_ok (fun la st h e => by obtain ⟨a0, m_a0, e1⟩ := gR_inv e; obtain ⟨x1, m_x1, e2⟩ := gI_inv e1; obtain ⟨rfl, ez⟩ := sE_inv e2; exact gm_fewer (e_X9_compares_128 E hk22 a0 x1 h ez) (mem_cons m_a0 (mem_cons m_x1 mem_nil))) (kx_ok (fun la st h e => by obtain ⟨a0, m_a0, e1⟩ := gR_inv e; obtain ⟨x1, m_x1, e2⟩ := gI_inv e1; obtain ⟨x2, m_x2, e3⟩ := gI_inv e2; obtain ⟨y0, _, rfl, e4⟩ := sI_inv e3; obtain ⟨b1, _, rfl, e5⟩ := sR_inv e4; obtain ⟨rfl, ez⟩ := sE_inv e5; exact gm_fewer (e_X9_compares_81 E ih a0 x1 x2 y0 b1 h ez) (mem_cons m_a0 (mem_cons m_x1 (mem_cons m_x2 mem_nil)))) (kx_ok (fun la st h e => by obtain ⟨a0, m_a0, e1⟩ := gR_inv e; obtain ⟨x1, m_x1, e2⟩ := gI_inv e1; obtain ⟨x2, m_x2, e3⟩ := gI_inv e2; obtain ⟨y0, _, rfl, e4⟩ := sI_inv e3; obtain ⟨y1, _, rfl, e5⟩ := sI_inv e4; obtain ⟨b2, _, rfl, e6⟩ := sR_inv e5; obtain ⟨rfl, ez⟩ := sE_inv e6; exact gm_fewer (e_X9_compares_82 E ih a0 x1 x2 y0 y1 b2 h ez) (mem_cons m_a0 (mem_cons m_x1 (mem_cons m_x2 mem_nil)))) k0_ok))) (FI_X9_compares_ok E) (FV_X9_compares_ok E) (fL0_ok E) (rtV_ok rfl)
def I_X9_compares_22 : List AI := [(.iload_n 1, 1, [], 0), (.bipush 64, 2, [], 64), (.if_icmp .ge 109, 3, [134], 0), (.iconst 0, 1, [], 0), (.istore_n 2, 1, [], 0)]
theorem ok_X9_compares_22 : vBL MT qLen qCh false q_X9_compares.2.2.2.2.1 q_X9_compares.2.2.2.2.2.1 q_X9_compares.2.2.1 q_X9_compares.1.cls q_X9_compares.1.name q_X9_compares.2.1 30 22 I_X9_compares_22 = true := by decide +kernel
def p_X9_compares_22 : Nat → Nat → Int32 → AH → Option (AH)
  | 0, _, _, _ => none
  | n + 1, a0, x1, h => if x1 < ((64 : Int32)) then (p_X9_compares_30 (p_X9_compares_22 n) FU a0 x1 ((0 : Int32)) h)
    else
    some h
set_option maxRecDepth 100000 in
theorem e_X9_compares_22 {l : Launch} {D : va_G} {dA : Nat → ClassId} {z : Nat} {sa : Nat → Nat} {Hz : Heap} (E : StrOK qLen qCh l D dA z sa Hz) {h0 fin : AH}  : ∀ (n : Nat) (a0 : Nat) (x1 : Int32) (h : AH), p_X9_compares_22 n a0 x1 h = some fin → GM l D dA z sa Hz q_X9_compares h0 none fin 22 [(0, .ref a0), (1, .int x1)] [] h := by
  intro n
  induction n with
  | zero => intro a0 x1 h hd; exact nomatch hd
  | succ n ih =>
    intro a0 x1 h hd
    exact step E (is := I_X9_compares_22) (pc := 22) (K := (kx 134 (fun la st h => sE st (p_X9_compares_134 h)) (kx 30 (fun la st h => gR la 0 fun a0 => gI la 1 fun x1 => gI la 2 fun x2 => sE st (p_X9_compares_30 (p_X9_compares_22 n) FU a0 x1 x2 h)) k0))) (FI := FI_X9_compares) (FV := FV_X9_compares) (FL := fL0) (rt := rtV) (ft := 30) (by exact hd) ok_X9_compares_22 (kx_ok (fun la st h e => by obtain ⟨rfl, ez⟩ := sE_inv e; exact gm_fewer (e_X9_compares_134 E   h ez) mem_nil) (kx_ok (fun la st h e => by obtain ⟨a0, m_a0, e1⟩ := gR_inv e; obtain ⟨x1, m_x1, e2⟩ := gI_inv e1; obtain ⟨x2, m_x2, e3⟩ := gI_inv e2; obtain ⟨rfl, ez⟩ := sE_inv e3; exact gm_fewer (e_X9_compares_30 E ih FU a0 x1 x2 h ez) (mem_cons m_a0 (mem_cons m_x1 (mem_cons m_x2 mem_nil)))) k0_ok)) (FI_X9_compares_ok E) (FV_X9_compares_ok E) (fL0_ok E) (rtV_ok rfl)
def I_X9_compares_0 : List AI := [(.aload_n 0, 1, [], 0), (.invokevirtual 398, 3, [2, 239, 1, 8, 1717], 0), (.aload_n 0, 1, [], 0), (.bipush (-2), 2, [], (-2)), (.putfield 407, 3, [8, 33, 0, 1378], 0), (.aload_n 0, 1, [], 0), (.iconst 0, 1, [], 0), (.putfield 410, 3, [8, 34, 0, 1379], 0), (.aload_n 0, 1, [], 0), (.iconst 0, 1, [], 0), (.putfield 413, 3, [8, 35, 0, 1380], 0), (.iconst 0, 1, [], 0), (.istore_n 1, 1, [], 0)]
theorem ok_X9_compares_0 : vBL MT qLen qCh false q_X9_compares.2.2.2.2.1 q_X9_compares.2.2.2.2.2.1 q_X9_compares.2.2.1 q_X9_compares.1.cls q_X9_compares.1.name q_X9_compares.2.1 22 0 I_X9_compares_0 = true := by decide +kernel
def p_X9_compares (a0 : Nat) (h : AH) : Option (AH) :=
  if (tg h a0).1 = 8 then ((p_X9_works a0 h).bind fun h112 =>
  if (tg h112 a0).1 = 8 then (let h113 := wI h112 a0 33 ((-2 : Int32))
  if (tg h113 a0).1 = 8 then (let h114 := wI h113 a0 34 ((0 : Int32))
  if (tg h114 a0).1 = 8 then (let h115 := wI h114 a0 35 ((0 : Int32))
  p_X9_compares_22 FU a0 ((0 : Int32)) h115) else none) else none) else none) else none
set_option maxRecDepth 100000 in
theorem e_X9_compares_0 {l : Launch} {D : va_G} {dA : Nat → ClassId} {z : Nat} {sa : Nat → Nat} {Hz : Heap} (E : StrOK qLen qCh l D dA z sa Hz) {h0 fin : AH}  : ∀ (a0 : Nat) (h : AH), p_X9_compares a0 h = some fin → GM l D dA z sa Hz q_X9_compares h0 none fin 0 [(0, .ref a0)] [] h := by
  intro a0 h hd
  exact step E (is := I_X9_compares_0) (pc := 0) (K := (kx 22 (fun la st h => gR la 0 fun a0 => gI la 1 fun x1 => sE st (p_X9_compares_22 FU a0 x1 h)) k0)) (FI := FI_X9_compares) (FV := FV_X9_compares) (FL := fL0) (rt := rtV) (ft := 22) (by exact hd) ok_X9_compares_0 (kx_ok (fun la st h e => by obtain ⟨a0, m_a0, e1⟩ := gR_inv e; obtain ⟨x1, m_x1, e2⟩ := gI_inv e1; obtain ⟨rfl, ez⟩ := sE_inv e2; exact gm_fewer (e_X9_compares_22 E  FU a0 x1 h ez) (mem_cons m_a0 (mem_cons m_x1 mem_nil))) k0_ok) (FI_X9_compares_ok E) (FV_X9_compares_ok E) (fL0_ok E) (rtV_ok rfl)
theorem c_X9_compares {l : Launch} {D : va_G} {dA : Nat → ClassId} {z : Nat} {sa : Nat → Nat} {Hz : Heap} (E : StrOK qLen qCh l D dA z sa Hz) {a0 : Nat} {h fin : AH} (hd : p_X9_compares a0 h = some fin) : CalOK l D dA z sa Hz q_X9_compares [.ref a0] h none fin := calOf (by decide +kernel) (Nat.le_of_ble_eq_true rfl) (e_X9_compares_0 E a0 h hd)
def FI_X9_stale : Nat → List Value → AH → Option (Int32 × AH) := (cx 201 (fun As h => sR As fun a0 As => sI As fun x1 As => sE As (p_X9_refused a0 x1 h)) (cx 233 (fun As h => sR As fun a0 As => sI As fun x1 As => sE As (p_X9_good a0 x1 h)) fI0))
theorem FI_X9_stale_ok {l : Launch} {D : va_G} {dA : Nat → ClassId} {z : Nat} {sa : Nat → Nat} {Hz : Heap} (E : StrOK qLen qCh l D dA z sa Hz) : ∀ mi As h x h', FI_X9_stale mi As h = some (x, h') → CalOK l D dA z sa Hz (MT mi) As h (some (.int x)) h' := (cxI_ok (fun As h x h2 e => by obtain ⟨_, _, rfl, e0⟩ := sR_inv e; obtain ⟨_, _, rfl, e1⟩ := sI_inv e0; obtain ⟨rfl, ez⟩ := sE_inv e1; exact c_X9_refused E ez) ((cxI_ok (fun As h x h2 e => by obtain ⟨_, _, rfl, e0⟩ := sR_inv e; obtain ⟨_, _, rfl, e1⟩ := sI_inv e0; obtain ⟨rfl, ez⟩ := sE_inv e1; exact c_X9_good E ez) (fI0_ok E))))
def FV_X9_stale : Nat → List Value → AH → Option (AH) := (cx 269 (fun As h => sR As fun a0 As => sE As (p_X9_compares a0 h)) fV0)
theorem FV_X9_stale_ok {l : Launch} {D : va_G} {dA : Nat → ClassId} {z : Nat} {sa : Nat → Nat} {Hz : Heap} (E : StrOK qLen qCh l D dA z sa Hz) : ∀ mi As h h', FV_X9_stale mi As h = some h' → CalOK l D dA z sa Hz (MT mi) As h none h' := (cxV_ok (fun As h h2 e => by obtain ⟨_, _, rfl, e0⟩ := sR_inv e; obtain ⟨rfl, ez⟩ := sE_inv e0; exact c_X9_compares E ez) (fV0_ok E))
def I_X9_stale_18 : List AI := [(.aload_n 0, 1, [], 0), (.invokevirtual 419, 3, [2, 269, 1, 8, 1827], 0), (.aload_n 0, 1, [], 0), (.aload_n 0, 1, [], 0), (.getfield 410, 3, [8, 34, 0, 1379], 0), (.invokevirtual 43, 3, [1, 233, 2, 8, 1694], 0), (.ireturn, 1, [], 0)]
theorem ok_X9_stale_18 : vBL MT qLen qCh false q_X9_stale.2.2.2.2.1 q_X9_stale.2.2.2.2.2.1 q_X9_stale.2.2.1 q_X9_stale.1.cls q_X9_stale.1.name q_X9_stale.2.1 0 18 I_X9_stale_18 = true := by decide +kernel
def p_X9_stale_18 (a0 : Nat) (h : AH) : Option (Int32 × AH) :=
  if (tg h a0).1 = 8 then ((p_X9_compares a0 h).bind fun h101 =>
  if (tg h101 a0).1 = 8 then (if (tg h101 a0).1 = 8 then ((p_X9_good a0 (rI h101 a0 34) h101).bind fun q102 =>
  some (q102.1, q102.2)) else none) else none) else none
set_option maxRecDepth 100000 in
theorem e_X9_stale_18 {l : Launch} {D : va_G} {dA : Nat → ClassId} {z : Nat} {sa : Nat → Nat} {Hz : Heap} (E : StrOK qLen qCh l D dA z sa Hz) {h0 fin : AH} {x : Int32}  : ∀ (a0 : Nat) (h : AH), p_X9_stale_18 a0 h = some (x, fin) → GM l D dA z sa Hz q_X9_stale h0 (some (.int x)) fin 18 [(0, .ref a0)] [] h := by
  intro a0 h hd
  exact step E (is := I_X9_stale_18) (pc := 18) (K := k0) (FI := FI_X9_stale) (FV := FV_X9_stale) (FL := fL0) (rt := rtI) (ft := 0) (by exact hd) ok_X9_stale_18 k0_ok (FI_X9_stale_ok E) (FV_X9_stale_ok E) (fL0_ok E) (rtI_ok rfl)
def I_X9_stale_0 : List AI := [(.aload_n 0, 1, [], 0), (.iconst 0, 1, [], 0), (.putfield 33, 3, [8, 0, 0, 1345], 0), (.aload_n 0, 1, [], 0), (.getfield 265, 3, [8, 3, 2, 1348], 0), (.ifnonnull 9, 3, [18], 0), (.aload_n 0, 1, [], 0), (.iconst 1, 1, [], 1), (.invokevirtual 39, 3, [1, 201, 2, 8, 1481], 0), (.ireturn, 1, [], 0)]
theorem ok_X9_stale_0 : vBL MT qLen qCh false q_X9_stale.2.2.2.2.1 q_X9_stale.2.2.2.2.2.1 q_X9_stale.2.2.1 q_X9_stale.1.cls q_X9_stale.1.name q_X9_stale.2.1 0 0 I_X9_stale_0 = true := by decide +kernel
def p_X9_stale (a0 : Nat) (h : AH) : Option (Int32 × AH) :=
  if (tg h a0).1 = 8 then (let h103 := wI h a0 0 ((0 : Int32))
  if (tg h103 a0).1 = 8 then (if (rR h103 a0 3) = 0 then (if (tg h103 a0).1 = 8 then ((p_X9_refused a0 ((1 : Int32)) h103).bind fun q106 =>
  some (q106.1, q106.2)) else none)
  else
  if (tg h103 a0).1 = 8 then ((p_X9_compares a0 h103).bind fun h104 =>
  if (tg h104 a0).1 = 8 then (if (tg h104 a0).1 = 8 then ((p_X9_good a0 (rI h104 a0 34) h104).bind fun q105 =>
  some (q105.1, q105.2)) else none) else none) else none) else none) else none
set_option maxRecDepth 100000 in
theorem e_X9_stale_0 {l : Launch} {D : va_G} {dA : Nat → ClassId} {z : Nat} {sa : Nat → Nat} {Hz : Heap} (E : StrOK qLen qCh l D dA z sa Hz) {h0 fin : AH} {x : Int32}  : ∀ (a0 : Nat) (h : AH), p_X9_stale a0 h = some (x, fin) → GM l D dA z sa Hz q_X9_stale h0 (some (.int x)) fin 0 [(0, .ref a0)] [] h := by
  intro a0 h hd
  exact step E (is := I_X9_stale_0) (pc := 0) (K := (kx 18 (fun la st h => gR la 0 fun a0 => sE st (p_X9_stale_18 a0 h)) k0)) (FI := FI_X9_stale) (FV := FV_X9_stale) (FL := fL0) (rt := rtI) (ft := 0) (by exact hd) ok_X9_stale_0 (kx_ok (fun la st h e => by obtain ⟨a0, m_a0, e1⟩ := gR_inv e; obtain ⟨rfl, ez⟩ := sE_inv e1; exact gm_fewer (e_X9_stale_18 E  a0 h ez) (mem_cons m_a0 mem_nil)) k0_ok) (FI_X9_stale_ok E) (FV_X9_stale_ok E) (fL0_ok E) (rtI_ok rfl)
theorem c_X9_stale {l : Launch} {D : va_G} {dA : Nat → ClassId} {z : Nat} {sa : Nat → Nat} {Hz : Heap} (E : StrOK qLen qCh l D dA z sa Hz) {a0 : Nat} {h fin : AH} {x : Int32} (hd : p_X9_stale a0 h = some (x, fin)) : CalOK l D dA z sa Hz q_X9_stale [.ref a0] h (some (.int x)) fin := calOf (by decide +kernel) (Nat.le_of_ble_eq_true rfl) (e_X9_stale_0 E a0 h hd)
def FI_X9_staleAt : Nat → List Value → AH → Option (Int32 × AH) := (cx 201 (fun As h => sR As fun a0 As => sI As fun x1 As => sE As (p_X9_refused a0 x1 h)) (cx 233 (fun As h => sR As fun a0 As => sI As fun x1 As => sE As (p_X9_good a0 x1 h)) fI0))
theorem FI_X9_staleAt_ok {l : Launch} {D : va_G} {dA : Nat → ClassId} {z : Nat} {sa : Nat → Nat} {Hz : Heap} (E : StrOK qLen qCh l D dA z sa Hz) : ∀ mi As h x h', FI_X9_staleAt mi As h = some (x, h') → CalOK l D dA z sa Hz (MT mi) As h (some (.int x)) h' := (cxI_ok (fun As h x h2 e => by obtain ⟨_, _, rfl, e0⟩ := sR_inv e; obtain ⟨_, _, rfl, e1⟩ := sI_inv e0; obtain ⟨rfl, ez⟩ := sE_inv e1; exact c_X9_refused E ez) ((cxI_ok (fun As h x h2 e => by obtain ⟨_, _, rfl, e0⟩ := sR_inv e; obtain ⟨_, _, rfl, e1⟩ := sI_inv e0; obtain ⟨rfl, ez⟩ := sE_inv e1; exact c_X9_good E ez) (fI0_ok E))))
def FV_X9_staleAt : Nat → List Value → AH → Option (AH) := (cx 269 (fun As h => sR As fun a0 As => sE As (p_X9_compares a0 h)) fV0)
theorem FV_X9_staleAt_ok {l : Launch} {D : va_G} {dA : Nat → ClassId} {z : Nat} {sa : Nat → Nat} {Hz : Heap} (E : StrOK qLen qCh l D dA z sa Hz) : ∀ mi As h h', FV_X9_staleAt mi As h = some h' → CalOK l D dA z sa Hz (MT mi) As h none h' := (cxV_ok (fun As h h2 e => by obtain ⟨_, _, rfl, e0⟩ := sR_inv e; obtain ⟨rfl, ez⟩ := sE_inv e0; exact c_X9_compares E ez) (fV0_ok E))
def I_X9_staleAt_18 : List AI := [(.aload_n 0, 1, [], 0), (.invokevirtual 419, 3, [2, 269, 1, 8, 1827], 0), (.aload_n 0, 1, [], 0), (.aload_n 0, 1, [], 0), (.getfield 407, 3, [8, 33, 0, 1378], 0), (.invokevirtual 43, 3, [1, 233, 2, 8, 1694], 0), (.ireturn, 1, [], 0)]
theorem ok_X9_staleAt_18 : vBL MT qLen qCh false q_X9_staleAt.2.2.2.2.1 q_X9_staleAt.2.2.2.2.2.1 q_X9_staleAt.2.2.1 q_X9_staleAt.1.cls q_X9_staleAt.1.name q_X9_staleAt.2.1 0 18 I_X9_staleAt_18 = true := by decide +kernel
def p_X9_staleAt_18 (a0 : Nat) (h : AH) : Option (Int32 × AH) :=
  if (tg h a0).1 = 8 then ((p_X9_compares a0 h).bind fun h101 =>
  if (tg h101 a0).1 = 8 then (if (tg h101 a0).1 = 8 then ((p_X9_good a0 (rI h101 a0 33) h101).bind fun q102 =>
  some (q102.1, q102.2)) else none) else none) else none
set_option maxRecDepth 100000 in
theorem e_X9_staleAt_18 {l : Launch} {D : va_G} {dA : Nat → ClassId} {z : Nat} {sa : Nat → Nat} {Hz : Heap} (E : StrOK qLen qCh l D dA z sa Hz) {h0 fin : AH} {x : Int32}  : ∀ (a0 : Nat) (h : AH), p_X9_staleAt_18 a0 h = some (x, fin) → GM l D dA z sa Hz q_X9_staleAt h0 (some (.int x)) fin 18 [(0, .ref a0)] [] h := by
  intro a0 h hd
  exact step E (is := I_X9_staleAt_18) (pc := 18) (K := k0) (FI := FI_X9_staleAt) (FV := FV_X9_staleAt) (FL := fL0) (rt := rtI) (ft := 0) (by exact hd) ok_X9_staleAt_18 k0_ok (FI_X9_staleAt_ok E) (FV_X9_staleAt_ok E) (fL0_ok E) (rtI_ok rfl)
def I_X9_staleAt_0 : List AI := [(.aload_n 0, 1, [], 0), (.iconst 0, 1, [], 0), (.putfield 33, 3, [8, 0, 0, 1345], 0), (.aload_n 0, 1, [], 0), (.getfield 265, 3, [8, 3, 2, 1348], 0), (.ifnonnull 9, 3, [18], 0), (.aload_n 0, 1, [], 0), (.iconst 1, 1, [], 1), (.invokevirtual 39, 3, [1, 201, 2, 8, 1481], 0), (.ireturn, 1, [], 0)]
theorem ok_X9_staleAt_0 : vBL MT qLen qCh false q_X9_staleAt.2.2.2.2.1 q_X9_staleAt.2.2.2.2.2.1 q_X9_staleAt.2.2.1 q_X9_staleAt.1.cls q_X9_staleAt.1.name q_X9_staleAt.2.1 0 0 I_X9_staleAt_0 = true := by decide +kernel
def p_X9_staleAt (a0 : Nat) (h : AH) : Option (Int32 × AH) :=
  if (tg h a0).1 = 8 then (let h103 := wI h a0 0 ((0 : Int32))
  if (tg h103 a0).1 = 8 then (if (rR h103 a0 3) = 0 then (if (tg h103 a0).1 = 8 then ((p_X9_refused a0 ((1 : Int32)) h103).bind fun q106 =>
  some (q106.1, q106.2)) else none)
  else
  if (tg h103 a0).1 = 8 then ((p_X9_compares a0 h103).bind fun h104 =>
  if (tg h104 a0).1 = 8 then (if (tg h104 a0).1 = 8 then ((p_X9_good a0 (rI h104 a0 33) h104).bind fun q105 =>
  some (q105.1, q105.2)) else none) else none) else none) else none) else none
set_option maxRecDepth 100000 in
theorem e_X9_staleAt_0 {l : Launch} {D : va_G} {dA : Nat → ClassId} {z : Nat} {sa : Nat → Nat} {Hz : Heap} (E : StrOK qLen qCh l D dA z sa Hz) {h0 fin : AH} {x : Int32}  : ∀ (a0 : Nat) (h : AH), p_X9_staleAt a0 h = some (x, fin) → GM l D dA z sa Hz q_X9_staleAt h0 (some (.int x)) fin 0 [(0, .ref a0)] [] h := by
  intro a0 h hd
  exact step E (is := I_X9_staleAt_0) (pc := 0) (K := (kx 18 (fun la st h => gR la 0 fun a0 => sE st (p_X9_staleAt_18 a0 h)) k0)) (FI := FI_X9_staleAt) (FV := FV_X9_staleAt) (FL := fL0) (rt := rtI) (ft := 0) (by exact hd) ok_X9_staleAt_0 (kx_ok (fun la st h e => by obtain ⟨a0, m_a0, e1⟩ := gR_inv e; obtain ⟨rfl, ez⟩ := sE_inv e1; exact gm_fewer (e_X9_staleAt_18 E  a0 h ez) (mem_cons m_a0 mem_nil)) k0_ok) (FI_X9_staleAt_ok E) (FV_X9_staleAt_ok E) (fL0_ok E) (rtI_ok rfl)
theorem c_X9_staleAt {l : Launch} {D : va_G} {dA : Nat → ClassId} {z : Nat} {sa : Nat → Nat} {Hz : Heap} (E : StrOK qLen qCh l D dA z sa Hz) {a0 : Nat} {h fin : AH} {x : Int32} (hd : p_X9_staleAt a0 h = some (x, fin)) : CalOK l D dA z sa Hz q_X9_staleAt [.ref a0] h (some (.int x)) fin := calOf (by decide +kernel) (Nat.le_of_ble_eq_true rfl) (e_X9_staleAt_0 E a0 h hd)
def FI_X9_missing : Nat → List Value → AH → Option (Int32 × AH) := (cx 201 (fun As h => sR As fun a0 As => sI As fun x1 As => sE As (p_X9_refused a0 x1 h)) (cx 233 (fun As h => sR As fun a0 As => sI As fun x1 As => sE As (p_X9_good a0 x1 h)) fI0))
theorem FI_X9_missing_ok {l : Launch} {D : va_G} {dA : Nat → ClassId} {z : Nat} {sa : Nat → Nat} {Hz : Heap} (E : StrOK qLen qCh l D dA z sa Hz) : ∀ mi As h x h', FI_X9_missing mi As h = some (x, h') → CalOK l D dA z sa Hz (MT mi) As h (some (.int x)) h' := (cxI_ok (fun As h x h2 e => by obtain ⟨_, _, rfl, e0⟩ := sR_inv e; obtain ⟨_, _, rfl, e1⟩ := sI_inv e0; obtain ⟨rfl, ez⟩ := sE_inv e1; exact c_X9_refused E ez) ((cxI_ok (fun As h x h2 e => by obtain ⟨_, _, rfl, e0⟩ := sR_inv e; obtain ⟨_, _, rfl, e1⟩ := sI_inv e0; obtain ⟨rfl, ez⟩ := sE_inv e1; exact c_X9_good E ez) (fI0_ok E))))
def FV_X9_missing : Nat → List Value → AH → Option (AH) := (cx 269 (fun As h => sR As fun a0 As => sE As (p_X9_compares a0 h)) fV0)
theorem FV_X9_missing_ok {l : Launch} {D : va_G} {dA : Nat → ClassId} {z : Nat} {sa : Nat → Nat} {Hz : Heap} (E : StrOK qLen qCh l D dA z sa Hz) : ∀ mi As h h', FV_X9_missing mi As h = some h' → CalOK l D dA z sa Hz (MT mi) As h none h' := (cxV_ok (fun As h h2 e => by obtain ⟨_, _, rfl, e0⟩ := sR_inv e; obtain ⟨rfl, ez⟩ := sE_inv e0; exact c_X9_compares E ez) (fV0_ok E))
def I_X9_missing_18 : List AI := [(.aload_n 0, 1, [], 0), (.invokevirtual 419, 3, [2, 269, 1, 8, 1827], 0), (.aload_n 0, 1, [], 0), (.aload_n 0, 1, [], 0), (.getfield 413, 3, [8, 35, 0, 1380], 0), (.invokevirtual 43, 3, [1, 233, 2, 8, 1694], 0), (.ireturn, 1, [], 0)]
theorem ok_X9_missing_18 : vBL MT qLen qCh false q_X9_missing.2.2.2.2.1 q_X9_missing.2.2.2.2.2.1 q_X9_missing.2.2.1 q_X9_missing.1.cls q_X9_missing.1.name q_X9_missing.2.1 0 18 I_X9_missing_18 = true := by decide +kernel
def p_X9_missing_18 (a0 : Nat) (h : AH) : Option (Int32 × AH) :=
  if (tg h a0).1 = 8 then ((p_X9_compares a0 h).bind fun h101 =>
  if (tg h101 a0).1 = 8 then (if (tg h101 a0).1 = 8 then ((p_X9_good a0 (rI h101 a0 35) h101).bind fun q102 =>
  some (q102.1, q102.2)) else none) else none) else none
set_option maxRecDepth 100000 in
theorem e_X9_missing_18 {l : Launch} {D : va_G} {dA : Nat → ClassId} {z : Nat} {sa : Nat → Nat} {Hz : Heap} (E : StrOK qLen qCh l D dA z sa Hz) {h0 fin : AH} {x : Int32}  : ∀ (a0 : Nat) (h : AH), p_X9_missing_18 a0 h = some (x, fin) → GM l D dA z sa Hz q_X9_missing h0 (some (.int x)) fin 18 [(0, .ref a0)] [] h := by
  intro a0 h hd
  exact step E (is := I_X9_missing_18) (pc := 18) (K := k0) (FI := FI_X9_missing) (FV := FV_X9_missing) (FL := fL0) (rt := rtI) (ft := 0) (by exact hd) ok_X9_missing_18 k0_ok (FI_X9_missing_ok E) (FV_X9_missing_ok E) (fL0_ok E) (rtI_ok rfl)
def I_X9_missing_0 : List AI := [(.aload_n 0, 1, [], 0), (.iconst 0, 1, [], 0), (.putfield 33, 3, [8, 0, 0, 1345], 0), (.aload_n 0, 1, [], 0), (.getfield 265, 3, [8, 3, 2, 1348], 0), (.ifnonnull 9, 3, [18], 0), (.aload_n 0, 1, [], 0), (.iconst 1, 1, [], 1), (.invokevirtual 39, 3, [1, 201, 2, 8, 1481], 0), (.ireturn, 1, [], 0)]
theorem ok_X9_missing_0 : vBL MT qLen qCh false q_X9_missing.2.2.2.2.1 q_X9_missing.2.2.2.2.2.1 q_X9_missing.2.2.1 q_X9_missing.1.cls q_X9_missing.1.name q_X9_missing.2.1 0 0 I_X9_missing_0 = true := by decide +kernel
def p_X9_missing (a0 : Nat) (h : AH) : Option (Int32 × AH) :=
  if (tg h a0).1 = 8 then (let h103 := wI h a0 0 ((0 : Int32))
  if (tg h103 a0).1 = 8 then (if (rR h103 a0 3) = 0 then (if (tg h103 a0).1 = 8 then ((p_X9_refused a0 ((1 : Int32)) h103).bind fun q106 =>
  some (q106.1, q106.2)) else none)
  else
  if (tg h103 a0).1 = 8 then ((p_X9_compares a0 h103).bind fun h104 =>
  if (tg h104 a0).1 = 8 then (if (tg h104 a0).1 = 8 then ((p_X9_good a0 (rI h104 a0 35) h104).bind fun q105 =>
  some (q105.1, q105.2)) else none) else none) else none) else none) else none
set_option maxRecDepth 100000 in
theorem e_X9_missing_0 {l : Launch} {D : va_G} {dA : Nat → ClassId} {z : Nat} {sa : Nat → Nat} {Hz : Heap} (E : StrOK qLen qCh l D dA z sa Hz) {h0 fin : AH} {x : Int32}  : ∀ (a0 : Nat) (h : AH), p_X9_missing a0 h = some (x, fin) → GM l D dA z sa Hz q_X9_missing h0 (some (.int x)) fin 0 [(0, .ref a0)] [] h := by
  intro a0 h hd
  exact step E (is := I_X9_missing_0) (pc := 0) (K := (kx 18 (fun la st h => gR la 0 fun a0 => sE st (p_X9_missing_18 a0 h)) k0)) (FI := FI_X9_missing) (FV := FV_X9_missing) (FL := fL0) (rt := rtI) (ft := 0) (by exact hd) ok_X9_missing_0 (kx_ok (fun la st h e => by obtain ⟨a0, m_a0, e1⟩ := gR_inv e; obtain ⟨rfl, ez⟩ := sE_inv e1; exact gm_fewer (e_X9_missing_18 E  a0 h ez) (mem_cons m_a0 mem_nil)) k0_ok) (FI_X9_missing_ok E) (FV_X9_missing_ok E) (fL0_ok E) (rtI_ok rfl)
theorem c_X9_missing {l : Launch} {D : va_G} {dA : Nat → ClassId} {z : Nat} {sa : Nat → Nat} {Hz : Heap} (E : StrOK qLen qCh l D dA z sa Hz) {a0 : Nat} {h fin : AH} {x : Int32} (hd : p_X9_missing a0 h = some (x, fin)) : CalOK l D dA z sa Hz q_X9_missing [.ref a0] h (some (.int x)) fin := calOf (by decide +kernel) (Nat.le_of_ble_eq_true rfl) (e_X9_missing_0 E a0 h hd)
def I_X9_isTable_27 : List AI := [(.ireturn, 1, [], 0)]
theorem ok_X9_isTable_27 : vBL MT qLen qCh false q_X9_isTable.2.2.2.2.1 q_X9_isTable.2.2.2.2.2.1 q_X9_isTable.2.2.1 q_X9_isTable.1.cls q_X9_isTable.1.name q_X9_isTable.2.1 0 27 I_X9_isTable_27 = true := by decide +kernel
def p_X9_isTable_27 (y0 : Int32) (h : AH) : Option (Int32 × AH) :=
  if y0 &&& 1 = y0 then some (y0, h) else none
set_option maxRecDepth 100000 in
theorem e_X9_isTable_27 {l : Launch} {D : va_G} {dA : Nat → ClassId} {z : Nat} {sa : Nat → Nat} {Hz : Heap} (E : StrOK qLen qCh l D dA z sa Hz) {h0 fin : AH} {x : Int32}  : ∀ (y0 : Int32) (h : AH), p_X9_isTable_27 y0 h = some (x, fin) → GM l D dA z sa Hz q_X9_isTable h0 (some (.int x)) fin 27 [] [.int y0] h := by
  intro y0 h hd
  exact step E (is := I_X9_isTable_27) (pc := 27) (K := k0) (FI := fI0) (FV := fV0) (FL := fL0) (rt := rtZ) (ft := 0) (by exact hd) ok_X9_isTable_27 k0_ok (fI0_ok E) (fV0_ok E) (fL0_ok E) (rtZ_ok rfl)
def I_X9_isTable_26 : List AI := [(.iconst 0, 1, [], 0)]
theorem ok_X9_isTable_26 : vBL MT qLen qCh false q_X9_isTable.2.2.2.2.1 q_X9_isTable.2.2.2.2.2.1 q_X9_isTable.2.2.1 q_X9_isTable.1.cls q_X9_isTable.1.name q_X9_isTable.2.1 27 26 I_X9_isTable_26 = true := by decide +kernel
def p_X9_isTable_26 (h : AH) : Option (Int32 × AH) :=
  p_X9_isTable_27 ((0 : Int32)) h
set_option maxRecDepth 100000 in
theorem e_X9_isTable_26 {l : Launch} {D : va_G} {dA : Nat → ClassId} {z : Nat} {sa : Nat → Nat} {Hz : Heap} (E : StrOK qLen qCh l D dA z sa Hz) {h0 fin : AH} {x : Int32}  : ∀  (h : AH), p_X9_isTable_26 h = some (x, fin) → GM l D dA z sa Hz q_X9_isTable h0 (some (.int x)) fin 26 [] [] h := by
  intro h hd
  exact step E (is := I_X9_isTable_26) (pc := 26) (K := (kx 27 (fun la st h => sI st fun y0 st => sE st (p_X9_isTable_27 y0 h)) k0)) (FI := fI0) (FV := fV0) (FL := fL0) (rt := rtZ) (ft := 27) (by exact hd) ok_X9_isTable_26 (kx_ok (fun la st h e => by obtain ⟨y0, _, rfl, e1⟩ := sI_inv e; obtain ⟨rfl, ez⟩ := sE_inv e1; exact gm_fewer (e_X9_isTable_27 E  y0 h ez) mem_nil) k0_ok) (fI0_ok E) (fV0_ok E) (fL0_ok E) (rtZ_ok rfl)
def I_X9_isTable_0 : List AI := [(.aload_n 0, 1, [], 0), (.getfield 265, 3, [8, 3, 2, 1348], 0), (.ifnull 22, 3, [26], 0), (.iload_n 1, 1, [], 0), (.ifCond .lt 18, 3, [26], 0), (.iload_n 1, 1, [], 0), (.aload_n 0, 1, [], 0), (.getfield 265, 3, [8, 3, 2, 1348], 0), (.getfield 124, 3, [7, 0, 0, 1491], 0), (.if_icmp .ge 7, 3, [26], 0), (.iconst 1, 1, [], 1), (.goto 4, 3, [27], 0)]
theorem ok_X9_isTable_0 : vBL MT qLen qCh false q_X9_isTable.2.2.2.2.1 q_X9_isTable.2.2.2.2.2.1 q_X9_isTable.2.2.1 q_X9_isTable.1.cls q_X9_isTable.1.name q_X9_isTable.2.1 0 0 I_X9_isTable_0 = true := by decide +kernel
def p_X9_isTable (a0 : Nat) (x1 : Int32) (h : AH) : Option (Int32 × AH) :=
  if (tg h a0).1 = 8 then (if (rR h a0 3) = 0 then (p_X9_isTable_26 h)
  else
  if x1 < 0 then (p_X9_isTable_26 h)
  else
  if (tg h a0).1 = 8 then (if (tg h (rR h a0 3)).1 = 7 then (if x1 < (rI h (rR h a0 3) 0) then (p_X9_isTable_27 ((1 : Int32)) h)
  else
  p_X9_isTable_26 h) else none) else none) else none
set_option maxRecDepth 100000 in
theorem e_X9_isTable_0 {l : Launch} {D : va_G} {dA : Nat → ClassId} {z : Nat} {sa : Nat → Nat} {Hz : Heap} (E : StrOK qLen qCh l D dA z sa Hz) {h0 fin : AH} {x : Int32}  : ∀ (a0 : Nat) (x1 : Int32) (h : AH), p_X9_isTable a0 x1 h = some (x, fin) → GM l D dA z sa Hz q_X9_isTable h0 (some (.int x)) fin 0 [(0, .ref a0), (1, .int x1)] [] h := by
  intro a0 x1 h hd
  exact step E (is := I_X9_isTable_0) (pc := 0) (K := (kx 26 (fun la st h => sE st (p_X9_isTable_26 h)) (kx 27 (fun la st h => sI st fun y0 st => sE st (p_X9_isTable_27 y0 h)) k0))) (FI := fI0) (FV := fV0) (FL := fL0) (rt := rtZ) (ft := 0) (by exact hd) ok_X9_isTable_0 (kx_ok (fun la st h e => by obtain ⟨rfl, ez⟩ := sE_inv e; exact gm_fewer (e_X9_isTable_26 E   h ez) mem_nil) (kx_ok (fun la st h e => by obtain ⟨y0, _, rfl, e1⟩ := sI_inv e; obtain ⟨rfl, ez⟩ := sE_inv e1; exact gm_fewer (e_X9_isTable_27 E  y0 h ez) mem_nil) k0_ok)) (fI0_ok E) (fV0_ok E) (fL0_ok E) (rtZ_ok rfl)
theorem c_X9_isTable {l : Launch} {D : va_G} {dA : Nat → ClassId} {z : Nat} {sa : Nat → Nat} {Hz : Heap} (E : StrOK qLen qCh l D dA z sa Hz) {a0 : Nat} {x1 : Int32} {h fin : AH} {x : Int32} (hd : p_X9_isTable a0 x1 h = some (x, fin)) : CalOK l D dA z sa Hz q_X9_isTable [.ref a0, .int x1] h (some (.int x)) fin := calOf (by decide +kernel) (Nat.le_of_ble_eq_true rfl) (e_X9_isTable_0 E a0 x1 h hd)
def I_X9_entriesOf_45 : List AI := [(.iload_n 2, 1, [], 0), (.ireturn, 1, [], 0)]
theorem ok_X9_entriesOf_45 : vBL MT qLen qCh false q_X9_entriesOf.2.2.2.2.1 q_X9_entriesOf.2.2.2.2.2.1 q_X9_entriesOf.2.2.1 q_X9_entriesOf.1.cls q_X9_entriesOf.1.name q_X9_entriesOf.2.1 0 45 I_X9_entriesOf_45 = true := by decide +kernel
def p_X9_entriesOf_45 (x2 : Int32) (h : AH) : Option (Int32 × AH) :=
  some (x2, h)
set_option maxRecDepth 100000 in
theorem e_X9_entriesOf_45 {l : Launch} {D : va_G} {dA : Nat → ClassId} {z : Nat} {sa : Nat → Nat} {Hz : Heap} (E : StrOK qLen qCh l D dA z sa Hz) {h0 fin : AH} {x : Int32}  : ∀ (x2 : Int32) (h : AH), p_X9_entriesOf_45 x2 h = some (x, fin) → GM l D dA z sa Hz q_X9_entriesOf h0 (some (.int x)) fin 45 [(2, .int x2)] [] h := by
  intro x2 h hd
  exact step E (is := I_X9_entriesOf_45) (pc := 45) (K := k0) (FI := fI0) (FV := fV0) (FL := fL0) (rt := rtI) (ft := 0) (by exact hd) ok_X9_entriesOf_45 k0_ok (fI0_ok E) (fV0_ok E) (fL0_ok E) (rtI_ok rfl)
def I_X9_entriesOf_37 : List AI := [(.ior, 1, [], 0), (.istore_n 2, 1, [], 0), (.iinc 3 1, 3, [], 1), (.goto (-38), 3, [4], 0)]
theorem ok_X9_entriesOf_37 : vBL MT qLen qCh false q_X9_entriesOf.2.2.2.2.1 q_X9_entriesOf.2.2.2.2.2.1 q_X9_entriesOf.2.2.1 q_X9_entriesOf.1.cls q_X9_entriesOf.1.name q_X9_entriesOf.2.1 0 37 I_X9_entriesOf_37 = true := by decide +kernel
def p_X9_entriesOf_37 (k4 : Nat → Int32 → Int32 → Int32 → AH → Option (Int32 × AH)) (a0 : Nat) (x1 : Int32) (x3 : Int32) (y0 : Int32) (y1 : Int32) (h : AH) : Option (Int32 × AH) :=
  let x101 := y1 ||| y0
  k4 a0 x1 x101 (x3 + (1 : Int32)) h
set_option maxRecDepth 100000 in
theorem e_X9_entriesOf_37 {l : Launch} {D : va_G} {dA : Nat → ClassId} {z : Nat} {sa : Nat → Nat} {Hz : Heap} (E : StrOK qLen qCh l D dA z sa Hz) {h0 fin : AH} {x : Int32}  {k4 : Nat → Int32 → Int32 → Int32 → AH → Option (Int32 × AH)} (hk4 : ∀ (a0 : Nat) (x1 : Int32) (x2 : Int32) (x3 : Int32) (h : AH), k4 a0 x1 x2 x3 h = some (x, fin) → GM l D dA z sa Hz q_X9_entriesOf h0 (some (.int x)) fin 4 [(0, .ref a0), (1, .int x1), (2, .int x2), (3, .int x3)] [] h) : ∀ (a0 : Nat) (x1 : Int32) (x3 : Int32) (y0 : Int32) (y1 : Int32) (h : AH), p_X9_entriesOf_37 k4 a0 x1 x3 y0 y1 h = some (x, fin) → GM l D dA z sa Hz q_X9_entriesOf h0 (some (.int x)) fin 37 [(0, .ref a0), (1, .int x1), (3, .int x3)] [.int y0, .int y1] h := by
  intro a0 x1 x3 y0 y1 h hd
  exact step E (is := I_X9_entriesOf_37) (pc := 37) (K := (kx 4 (fun la st h => gR la 0 fun a0 => gI la 1 fun x1 => gI la 2 fun x2 => gI la 3 fun x3 => sE st (k4 a0 x1 x2 x3 h)) k0)) (FI := fI0) (FV := fV0) (FL := fL0) (rt := rtI) (ft := 0) (by exact hd) ok_X9_entriesOf_37 (kx_ok (fun la st h e => by obtain ⟨a0, m_a0, e1⟩ := gR_inv e; obtain ⟨x1, m_x1, e2⟩ := gI_inv e1; obtain ⟨x2, m_x2, e3⟩ := gI_inv e2; obtain ⟨x3, m_x3, e4⟩ := gI_inv e3; obtain ⟨rfl, ez⟩ := sE_inv e4; exact gm_fewer (hk4 a0 x1 x2 x3 h ez) (mem_cons m_a0 (mem_cons m_x1 (mem_cons m_x2 (mem_cons m_x3 mem_nil))))) k0_ok) (fI0_ok E) (fV0_ok E) (fL0_ok E) (rtI_ok rfl)
def I_X9_entriesOf_34 : List AI := [(.iconst 1, 1, [], 1), (.iload_n 3, 1, [], 0), (.ishl, 1, [], 0)]
theorem ok_X9_entriesOf_34 : vBL MT qLen qCh false q_X9_entriesOf.2.2.2.2.1 q_X9_entriesOf.2.2.2.2.2.1 q_X9_entriesOf.2.2.1 q_X9_entriesOf.1.cls q_X9_entriesOf.1.name q_X9_entriesOf.2.1 37 34 I_X9_entriesOf_34 = true := by decide +kernel
def p_X9_entriesOf_34 (k4 : Nat → Int32 → Int32 → Int32 → AH → Option (Int32 × AH)) (a0 : Nat) (x1 : Int32) (x3 : Int32) (y0 : Int32) (h : AH) : Option (Int32 × AH) :=
  p_X9_entriesOf_37 k4 a0 x1 x3 (((1 : Int32)) <<< (x3 &&& 31)) y0 h
set_option maxRecDepth 100000 in
theorem e_X9_entriesOf_34 {l : Launch} {D : va_G} {dA : Nat → ClassId} {z : Nat} {sa : Nat → Nat} {Hz : Heap} (E : StrOK qLen qCh l D dA z sa Hz) {h0 fin : AH} {x : Int32}  {k4 : Nat → Int32 → Int32 → Int32 → AH → Option (Int32 × AH)} (hk4 : ∀ (a0 : Nat) (x1 : Int32) (x2 : Int32) (x3 : Int32) (h : AH), k4 a0 x1 x2 x3 h = some (x, fin) → GM l D dA z sa Hz q_X9_entriesOf h0 (some (.int x)) fin 4 [(0, .ref a0), (1, .int x1), (2, .int x2), (3, .int x3)] [] h) : ∀ (a0 : Nat) (x1 : Int32) (x3 : Int32) (y0 : Int32) (h : AH), p_X9_entriesOf_34 k4 a0 x1 x3 y0 h = some (x, fin) → GM l D dA z sa Hz q_X9_entriesOf h0 (some (.int x)) fin 34 [(0, .ref a0), (1, .int x1), (3, .int x3)] [.int y0] h := by
  intro a0 x1 x3 y0 h hd
  exact step E (is := I_X9_entriesOf_34) (pc := 34) (K := (kx 37 (fun la st h => gR la 0 fun a0 => gI la 1 fun x1 => gI la 3 fun x3 => sI st fun y0 st => sI st fun y1 st => sE st (p_X9_entriesOf_37 k4 a0 x1 x3 y0 y1 h)) k0)) (FI := fI0) (FV := fV0) (FL := fL0) (rt := rtI) (ft := 37) (by exact hd) ok_X9_entriesOf_34 (kx_ok (fun la st h e => by obtain ⟨a0, m_a0, e1⟩ := gR_inv e; obtain ⟨x1, m_x1, e2⟩ := gI_inv e1; obtain ⟨x3, m_x3, e3⟩ := gI_inv e2; obtain ⟨y0, _, rfl, e4⟩ := sI_inv e3; obtain ⟨y1, _, rfl, e5⟩ := sI_inv e4; obtain ⟨rfl, ez⟩ := sE_inv e5; exact gm_fewer (e_X9_entriesOf_37 E hk4 a0 x1 x3 y0 y1 h ez) (mem_cons m_a0 (mem_cons m_x1 (mem_cons m_x3 mem_nil)))) k0_ok) (fI0_ok E) (fV0_ok E) (fL0_ok E) (rtI_ok rfl)
def I_X9_entriesOf_4 : List AI := [(.iload_n 3, 1, [], 0), (.bipush 8, 2, [], 8), (.if_icmp .ge 38, 3, [45], 0), (.iload_n 2, 1, [], 0), (.aload_n 0, 1, [], 0), (.getfield 21, 3, [8, 16, 2, 1361], 0), (.sipush 179, 3, [], 179), (.bipush 8, 2, [], 8), (.iload_n 1, 1, [], 0), (.imul, 1, [], 0), (.iadd, 1, [], 0), (.iload_n 3, 1, [], 0), (.iadd, 1, [], 0), (.iaload, 1, [], 0), (.iconst (-1), 1, [], (-1)), (.if_icmp .ne 7, 3, [34], 0), (.iconst 0, 1, [], 0), (.goto 6, 3, [37], 0)]
theorem ok_X9_entriesOf_4 : vBL MT qLen qCh false q_X9_entriesOf.2.2.2.2.1 q_X9_entriesOf.2.2.2.2.2.1 q_X9_entriesOf.2.2.1 q_X9_entriesOf.1.cls q_X9_entriesOf.1.name q_X9_entriesOf.2.1 0 4 I_X9_entriesOf_4 = true := by decide +kernel
def p_X9_entriesOf_4 : Nat → Nat → Int32 → Int32 → Int32 → AH → Option (Int32 × AH)
  | 0, _, _, _, _, _ => none
  | n + 1, a0, x1, x2, x3, h => if x3 < ((8 : Int32)) then (if (tg h a0).1 = 8 then (if inB h (rR h a0 16) 100 ((((179 : Int32)) + (((8 : Int32)) * x1)) + x3) then (if (rI h (rR h a0 16) ((((179 : Int32)) + (((8 : Int32)) * x1)) + x3).toNatClampNeg) = ((-1 : Int32)) then (p_X9_entriesOf_37 (p_X9_entriesOf_4 n) a0 x1 x3 ((0 : Int32)) x2 h)
    else
    p_X9_entriesOf_37 (p_X9_entriesOf_4 n) a0 x1 x3 (((1 : Int32)) <<< (x3 &&& 31)) x2 h) else none) else none)
    else
    some (x2, h)
set_option maxRecDepth 100000 in
theorem e_X9_entriesOf_4 {l : Launch} {D : va_G} {dA : Nat → ClassId} {z : Nat} {sa : Nat → Nat} {Hz : Heap} (E : StrOK qLen qCh l D dA z sa Hz) {h0 fin : AH} {x : Int32}  : ∀ (n : Nat) (a0 : Nat) (x1 : Int32) (x2 : Int32) (x3 : Int32) (h : AH), p_X9_entriesOf_4 n a0 x1 x2 x3 h = some (x, fin) → GM l D dA z sa Hz q_X9_entriesOf h0 (some (.int x)) fin 4 [(0, .ref a0), (1, .int x1), (2, .int x2), (3, .int x3)] [] h := by
  intro n
  induction n with
  | zero => intro a0 x1 x2 x3 h hd; exact nomatch hd
  | succ n ih =>
    intro a0 x1 x2 x3 h hd
    exact step E (is := I_X9_entriesOf_4) (pc := 4) (K := (kx 45 (fun la st h => gI la 2 fun x2 => sE st (p_X9_entriesOf_45 x2 h)) (kx 34 (fun la st h => gR la 0 fun a0 => gI la 1 fun x1 => gI la 3 fun x3 => sI st fun y0 st => sE st (p_X9_entriesOf_34 (p_X9_entriesOf_4 n) a0 x1 x3 y0 h)) (kx 37 (fun la st h => gR la 0 fun a0 => gI la 1 fun x1 => gI la 3 fun x3 => sI st fun y0 st => sI st fun y1 st => sE st (p_X9_entriesOf_37 (p_X9_entriesOf_4 n) a0 x1 x3 y0 y1 h)) k0)))) (FI := fI0) (FV := fV0) (FL := fL0) (rt := rtI) (ft := 0) (by exact hd) ok_X9_entriesOf_4 (kx_ok (fun la st h e => by obtain ⟨x2, m_x2, e1⟩ := gI_inv e; obtain ⟨rfl, ez⟩ := sE_inv e1; exact gm_fewer (e_X9_entriesOf_45 E  x2 h ez) (mem_cons m_x2 mem_nil)) (kx_ok (fun la st h e => by obtain ⟨a0, m_a0, e1⟩ := gR_inv e; obtain ⟨x1, m_x1, e2⟩ := gI_inv e1; obtain ⟨x3, m_x3, e3⟩ := gI_inv e2; obtain ⟨y0, _, rfl, e4⟩ := sI_inv e3; obtain ⟨rfl, ez⟩ := sE_inv e4; exact gm_fewer (e_X9_entriesOf_34 E ih a0 x1 x3 y0 h ez) (mem_cons m_a0 (mem_cons m_x1 (mem_cons m_x3 mem_nil)))) (kx_ok (fun la st h e => by obtain ⟨a0, m_a0, e1⟩ := gR_inv e; obtain ⟨x1, m_x1, e2⟩ := gI_inv e1; obtain ⟨x3, m_x3, e3⟩ := gI_inv e2; obtain ⟨y0, _, rfl, e4⟩ := sI_inv e3; obtain ⟨y1, _, rfl, e5⟩ := sI_inv e4; obtain ⟨rfl, ez⟩ := sE_inv e5; exact gm_fewer (e_X9_entriesOf_37 E ih a0 x1 x3 y0 y1 h ez) (mem_cons m_a0 (mem_cons m_x1 (mem_cons m_x3 mem_nil)))) k0_ok))) (fI0_ok E) (fV0_ok E) (fL0_ok E) (rtI_ok rfl)
def I_X9_entriesOf_0 : List AI := [(.iconst 0, 1, [], 0), (.istore_n 2, 1, [], 0), (.iconst 0, 1, [], 0), (.istore_n 3, 1, [], 0)]
theorem ok_X9_entriesOf_0 : vBL MT qLen qCh false q_X9_entriesOf.2.2.2.2.1 q_X9_entriesOf.2.2.2.2.2.1 q_X9_entriesOf.2.2.1 q_X9_entriesOf.1.cls q_X9_entriesOf.1.name q_X9_entriesOf.2.1 4 0 I_X9_entriesOf_0 = true := by decide +kernel
def p_X9_entriesOf (a0 : Nat) (x1 : Int32) (h : AH) : Option (Int32 × AH) :=
  p_X9_entriesOf_4 FU a0 x1 ((0 : Int32)) ((0 : Int32)) h
set_option maxRecDepth 100000 in
theorem e_X9_entriesOf_0 {l : Launch} {D : va_G} {dA : Nat → ClassId} {z : Nat} {sa : Nat → Nat} {Hz : Heap} (E : StrOK qLen qCh l D dA z sa Hz) {h0 fin : AH} {x : Int32}  : ∀ (a0 : Nat) (x1 : Int32) (h : AH), p_X9_entriesOf a0 x1 h = some (x, fin) → GM l D dA z sa Hz q_X9_entriesOf h0 (some (.int x)) fin 0 [(0, .ref a0), (1, .int x1)] [] h := by
  intro a0 x1 h hd
  exact step E (is := I_X9_entriesOf_0) (pc := 0) (K := (kx 4 (fun la st h => gR la 0 fun a0 => gI la 1 fun x1 => gI la 2 fun x2 => gI la 3 fun x3 => sE st (p_X9_entriesOf_4 FU a0 x1 x2 x3 h)) k0)) (FI := fI0) (FV := fV0) (FL := fL0) (rt := rtI) (ft := 4) (by exact hd) ok_X9_entriesOf_0 (kx_ok (fun la st h e => by obtain ⟨a0, m_a0, e1⟩ := gR_inv e; obtain ⟨x1, m_x1, e2⟩ := gI_inv e1; obtain ⟨x2, m_x2, e3⟩ := gI_inv e2; obtain ⟨x3, m_x3, e4⟩ := gI_inv e3; obtain ⟨rfl, ez⟩ := sE_inv e4; exact gm_fewer (e_X9_entriesOf_4 E  FU a0 x1 x2 x3 h ez) (mem_cons m_a0 (mem_cons m_x1 (mem_cons m_x2 (mem_cons m_x3 mem_nil))))) k0_ok) (fI0_ok E) (fV0_ok E) (fL0_ok E) (rtI_ok rfl)
theorem c_X9_entriesOf {l : Launch} {D : va_G} {dA : Nat → ClassId} {z : Nat} {sa : Nat → Nat} {Hz : Heap} (E : StrOK qLen qCh l D dA z sa Hz) {a0 : Nat} {x1 : Int32} {h fin : AH} {x : Int32} (hd : p_X9_entriesOf a0 x1 h = some (x, fin)) : CalOK l D dA z sa Hz q_X9_entriesOf [.ref a0, .int x1] h (some (.int x)) fin := calOf (by decide +kernel) (Nat.le_of_ble_eq_true rfl) (e_X9_entriesOf_0 E a0 x1 h hd)
