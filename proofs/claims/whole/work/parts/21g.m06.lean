/-! ===== methods 150 to 174 ===== -/
def FI_X7_rate : Nat → List Value → AH → Option (Int32 × AH) := (cx 9 (fun As h => sR As fun a0 As => sI As fun x1 As => sE As (p_X7_refuse a0 x1 h)) (cx 149 (fun As h => sI As fun x0 As => sI As fun x1 As => sE As (p_X7_divisor x0 x1 h)) (cx 62 (fun As h => sI As fun x0 As => sE As (p_X7_bit x0 h)) (cx 50 (fun As h => sR As fun a0 As => sI As fun x1 As => sE As (p_X7_answer a0 x1 h)) fI0))))
theorem FI_X7_rate_ok {l : Launch} {D : va_G} {dA : Nat → ClassId} {z : Nat} {sa : Nat → Nat} {Hz : Heap} (E : StrOK qLen qCh l D dA z sa Hz) : ∀ mi As h x h', FI_X7_rate mi As h = some (x, h') → CalOK l D dA z sa Hz (MT mi) As h (some (.int x)) h' := (cxI_ok (fun As h x h2 e => by obtain ⟨_, _, rfl, e0⟩ := sR_inv e; obtain ⟨_, _, rfl, e1⟩ := sI_inv e0; obtain ⟨rfl, ez⟩ := sE_inv e1; exact c_X7_refuse E ez) ((cxI_ok (fun As h x h2 e => by obtain ⟨_, _, rfl, e0⟩ := sI_inv e; obtain ⟨_, _, rfl, e1⟩ := sI_inv e0; obtain ⟨rfl, ez⟩ := sE_inv e1; exact c_X7_divisor E ez) ((cxI_ok (fun As h x h2 e => by obtain ⟨_, _, rfl, e0⟩ := sI_inv e; obtain ⟨rfl, ez⟩ := sE_inv e0; exact c_X7_bit E ez) ((cxI_ok (fun As h x h2 e => by obtain ⟨_, _, rfl, e0⟩ := sR_inv e; obtain ⟨_, _, rfl, e1⟩ := sI_inv e0; obtain ⟨rfl, ez⟩ := sE_inv e1; exact c_X7_answer E ez) (fI0_ok E))))))))
def I_X7_rate_72 : List AI := [(.iload_n 3, 1, [], 0), (.idiv, 1, [], 0), (.invokevirtual 68, 3, [1, 50, 2, 6, 633], 0), (.i2l, 1, [], 0), (.lreturn, 1, [], 0)]
theorem ok_X7_rate_72 : vBL MT qLen qCh false q_X7_rate.2.2.2.2.1 q_X7_rate.2.2.2.2.2.1 q_X7_rate.2.2.1 q_X7_rate.1.cls q_X7_rate.1.name q_X7_rate.2.1 0 72 I_X7_rate_72 = true := by decide +kernel
def p_X7_rate_72 (x3 : Int32) (y0 : Int32) (b1 : Nat) (h : AH) : Option (Int64 × AH) :=
  if x3 = 0 then none else
  if (tg h b1).1 = 6 then ((p_X7_answer b1 (y0 / x3) h).bind fun q101 =>
  some (q101.1.toInt64, q101.2)) else none
set_option maxRecDepth 100000 in
theorem e_X7_rate_72 {l : Launch} {D : va_G} {dA : Nat → ClassId} {z : Nat} {sa : Nat → Nat} {Hz : Heap} (E : StrOK qLen qCh l D dA z sa Hz) {h0 fin : AH} {x : Int64}  : ∀ (x3 : Int32) (y0 : Int32) (b1 : Nat) (h : AH), p_X7_rate_72 x3 y0 b1 h = some (x, fin) → GM l D dA z sa Hz q_X7_rate h0 (some (.long x)) fin 72 [(3, .int x3)] [.int y0, .ref b1] h := by
  intro x3 y0 b1 h hd
  exact step E (is := I_X7_rate_72) (pc := 72) (K := k0) (FI := FI_X7_rate) (FV := fV0) (FL := fL0) (rt := rtL) (ft := 0) (by exact hd) ok_X7_rate_72 k0_ok (FI_X7_rate_ok E) (fV0_ok E) (fL0_ok E) (rtL_ok rfl)
def I_X7_rate_65 : List AI := [(.aload_n 0, 1, [], 0), (.getfield 29, 3, [6, 4, 2, 358], 0), (.getfield 224, 3, [1, 3, 0, 325], 0)]
theorem ok_X7_rate_65 : vBL MT qLen qCh false q_X7_rate.2.2.2.2.1 q_X7_rate.2.2.2.2.2.1 q_X7_rate.2.2.1 q_X7_rate.1.cls q_X7_rate.1.name q_X7_rate.2.1 72 65 I_X7_rate_65 = true := by decide +kernel
def p_X7_rate_65 (a0 : Nat) (x3 : Int32) (b0 : Nat) (h : AH) : Option (Int64 × AH) :=
  if (tg h a0).1 = 6 then (if (tg h (rR h a0 4)).1 = 1 then (p_X7_rate_72 x3 (rI h (rR h a0 4) 3) b0 h) else none) else none
set_option maxRecDepth 100000 in
theorem e_X7_rate_65 {l : Launch} {D : va_G} {dA : Nat → ClassId} {z : Nat} {sa : Nat → Nat} {Hz : Heap} (E : StrOK qLen qCh l D dA z sa Hz) {h0 fin : AH} {x : Int64}  : ∀ (a0 : Nat) (x3 : Int32) (b0 : Nat) (h : AH), p_X7_rate_65 a0 x3 b0 h = some (x, fin) → GM l D dA z sa Hz q_X7_rate h0 (some (.long x)) fin 65 [(0, .ref a0), (3, .int x3)] [.ref b0] h := by
  intro a0 x3 b0 h hd
  exact step E (is := I_X7_rate_65) (pc := 65) (K := (kx 72 (fun la st h => gI la 3 fun x3 => sI st fun y0 st => sR st fun b1 st => sE st (p_X7_rate_72 x3 y0 b1 h)) k0)) (FI := FI_X7_rate) (FV := fV0) (FL := fL0) (rt := rtL) (ft := 72) (by exact hd) ok_X7_rate_65 (kx_ok (fun la st h e => by obtain ⟨x3, m_x3, e1⟩ := gI_inv e; obtain ⟨y0, _, rfl, e2⟩ := sI_inv e1; obtain ⟨b1, _, rfl, e3⟩ := sR_inv e2; obtain ⟨rfl, ez⟩ := sE_inv e3; exact gm_fewer (e_X7_rate_72 E  x3 y0 b1 h ez) (mem_cons m_x3 mem_nil)) k0_ok) (FI_X7_rate_ok E) (fV0_ok E) (fL0_ok E) (rtL_ok rfl)
def I_X7_rate_56 : List AI := [(.aload_n 0, 1, [], 0), (.iload_n 1, 1, [], 0), (.ifCond .eq 7, 3, [65], 0), (.iload_n 2, 1, [], 0), (.goto 10, 3, [72], 0)]
theorem ok_X7_rate_56 : vBL MT qLen qCh false q_X7_rate.2.2.2.2.1 q_X7_rate.2.2.2.2.2.1 q_X7_rate.2.2.1 q_X7_rate.1.cls q_X7_rate.1.name q_X7_rate.2.1 0 56 I_X7_rate_56 = true := by decide +kernel
def p_X7_rate_56 (a0 : Nat) (x1 : Int32) (x2 : Int32) (x3 : Int32) (h : AH) : Option (Int64 × AH) :=
  if x1 = 0 then (if (tg h a0).1 = 6 then (if (tg h (rR h a0 4)).1 = 1 then (p_X7_rate_72 x3 (rI h (rR h a0 4) 3) a0 h) else none) else none)
  else
  p_X7_rate_72 x3 x2 a0 h
set_option maxRecDepth 100000 in
theorem e_X7_rate_56 {l : Launch} {D : va_G} {dA : Nat → ClassId} {z : Nat} {sa : Nat → Nat} {Hz : Heap} (E : StrOK qLen qCh l D dA z sa Hz) {h0 fin : AH} {x : Int64}  : ∀ (a0 : Nat) (x1 : Int32) (x2 : Int32) (x3 : Int32) (h : AH), p_X7_rate_56 a0 x1 x2 x3 h = some (x, fin) → GM l D dA z sa Hz q_X7_rate h0 (some (.long x)) fin 56 [(0, .ref a0), (1, .int x1), (2, .int x2), (3, .int x3)] [] h := by
  intro a0 x1 x2 x3 h hd
  exact step E (is := I_X7_rate_56) (pc := 56) (K := (kx 65 (fun la st h => gR la 0 fun a0 => gI la 3 fun x3 => sR st fun b0 st => sE st (p_X7_rate_65 a0 x3 b0 h)) (kx 72 (fun la st h => gI la 3 fun x3 => sI st fun y0 st => sR st fun b1 st => sE st (p_X7_rate_72 x3 y0 b1 h)) k0))) (FI := FI_X7_rate) (FV := fV0) (FL := fL0) (rt := rtL) (ft := 0) (by exact hd) ok_X7_rate_56 (kx_ok (fun la st h e => by obtain ⟨a0, m_a0, e1⟩ := gR_inv e; obtain ⟨x3, m_x3, e2⟩ := gI_inv e1; obtain ⟨b0, _, rfl, e3⟩ := sR_inv e2; obtain ⟨rfl, ez⟩ := sE_inv e3; exact gm_fewer (e_X7_rate_65 E  a0 x3 b0 h ez) (mem_cons m_a0 (mem_cons m_x3 mem_nil))) (kx_ok (fun la st h e => by obtain ⟨x3, m_x3, e1⟩ := gI_inv e; obtain ⟨y0, _, rfl, e2⟩ := sI_inv e1; obtain ⟨b1, _, rfl, e3⟩ := sR_inv e2; obtain ⟨rfl, ez⟩ := sE_inv e3; exact gm_fewer (e_X7_rate_72 E  x3 y0 b1 h ez) (mem_cons m_x3 mem_nil)) k0_ok)) (FI_X7_rate_ok E) (fV0_ok E) (fL0_ok E) (rtL_ok rfl)
def I_X7_rate_14 : List AI := [(.aload_n 0, 1, [], 0), (.getfield 29, 3, [6, 4, 2, 358], 0), (.getfield 224, 3, [1, 3, 0, 325], 0), (.aload_n 0, 1, [], 0), (.getfield 29, 3, [6, 4, 2, 358], 0), (.getfield 197, 3, [1, 4, 0, 327], 0), (.iadd, 1, [], 0), (.istore_n 2, 1, [], 0), (.iload_n 2, 1, [], 0), (.aload_n 0, 1, [], 0), (.getfield 29, 3, [6, 4, 2, 358], 0), (.getfield 224, 3, [1, 3, 0, 325], 0), (.invokestatic 227, 3, [1, 149, 2, 1052], 0), (.istore_n 3, 1, [], 0), (.iload_n 3, 1, [], 0), (.ifCond .ne 13, 3, [56], 0), (.aload_n 0, 1, [], 0), (.iload_n 1, 1, [], 0), (.invokestatic 103, 3, [1, 62, 1, 680], 0), (.invokevirtual 68, 3, [1, 50, 2, 6, 633], 0), (.i2l, 1, [], 0), (.lreturn, 1, [], 0)]
theorem ok_X7_rate_14 : vBL MT qLen qCh false q_X7_rate.2.2.2.2.1 q_X7_rate.2.2.2.2.2.1 q_X7_rate.2.2.1 q_X7_rate.1.cls q_X7_rate.1.name q_X7_rate.2.1 0 14 I_X7_rate_14 = true := by decide +kernel
def p_X7_rate_14 (a0 : Nat) (x1 : Int32) (h : AH) : Option (Int64 × AH) :=
  if (tg h a0).1 = 6 then (if (tg h (rR h a0 4)).1 = 1 then (if (tg h a0).1 = 6 then (if (tg h (rR h a0 4)).1 = 1 then (let x102 := (rI h (rR h a0 4) 3) + (rI h (rR h a0 4) 4)
  if (tg h a0).1 = 6 then (if (tg h (rR h a0 4)).1 = 1 then ((p_X7_divisor x102 (rI h (rR h a0 4) 3) h).bind fun q103 =>
  if q103.1 = 0 then ((p_X7_bit x1 q103.2).bind fun q104 =>
  if (tg q104.2 a0).1 = 6 then ((p_X7_answer a0 q104.1 q104.2).bind fun q105 =>
  some (q105.1.toInt64, q105.2)) else none)
  else
  if x1 = 0 then (if (tg q103.2 a0).1 = 6 then (if (tg q103.2 (rR q103.2 a0 4)).1 = 1 then (p_X7_rate_72 q103.1 (rI q103.2 (rR q103.2 a0 4) 3) a0 q103.2) else none) else none)
  else
  p_X7_rate_72 q103.1 x102 a0 q103.2) else none) else none) else none) else none) else none) else none
set_option maxRecDepth 100000 in
theorem e_X7_rate_14 {l : Launch} {D : va_G} {dA : Nat → ClassId} {z : Nat} {sa : Nat → Nat} {Hz : Heap} (E : StrOK qLen qCh l D dA z sa Hz) {h0 fin : AH} {x : Int64}  : ∀ (a0 : Nat) (x1 : Int32) (h : AH), p_X7_rate_14 a0 x1 h = some (x, fin) → GM l D dA z sa Hz q_X7_rate h0 (some (.long x)) fin 14 [(0, .ref a0), (1, .int x1)] [] h := by
  intro a0 x1 h hd
  exact step E (is := I_X7_rate_14) (pc := 14) (K := (kx 56 (fun la st h => gR la 0 fun a0 => gI la 1 fun x1 => gI la 2 fun x2 => gI la 3 fun x3 => sE st (p_X7_rate_56 a0 x1 x2 x3 h)) k0)) (FI := FI_X7_rate) (FV := fV0) (FL := fL0) (rt := rtL) (ft := 0) (by exact hd) ok_X7_rate_14 (kx_ok (fun la st h e => by obtain ⟨a0, m_a0, e1⟩ := gR_inv e; obtain ⟨x1, m_x1, e2⟩ := gI_inv e1; obtain ⟨x2, m_x2, e3⟩ := gI_inv e2; obtain ⟨x3, m_x3, e4⟩ := gI_inv e3; obtain ⟨rfl, ez⟩ := sE_inv e4; exact gm_fewer (e_X7_rate_56 E  a0 x1 x2 x3 h ez) (mem_cons m_a0 (mem_cons m_x1 (mem_cons m_x2 (mem_cons m_x3 mem_nil))))) k0_ok) (FI_X7_rate_ok E) (fV0_ok E) (fL0_ok E) (rtL_ok rfl)
def I_X7_rate_0 : List AI := [(.aload_n 0, 1, [], 0), (.getfield 107, 3, [6, 3, 3, 357], 0), (.ifCond .ne 10, 3, [14], 0), (.aload_n 0, 1, [], 0), (.iconst 1, 1, [], 1), (.invokevirtual 54, 3, [1, 9, 2, 6, 403], 0), (.i2l, 1, [], 0), (.lreturn, 1, [], 0)]
theorem ok_X7_rate_0 : vBL MT qLen qCh false q_X7_rate.2.2.2.2.1 q_X7_rate.2.2.2.2.2.1 q_X7_rate.2.2.1 q_X7_rate.1.cls q_X7_rate.1.name q_X7_rate.2.1 0 0 I_X7_rate_0 = true := by decide +kernel
def p_X7_rate (a0 : Nat) (x1 : Int32) (h : AH) : Option (Int64 × AH) :=
  if (tg h a0).1 = 6 then (if (rI h a0 3) = 0 then (if (tg h a0).1 = 6 then ((p_X7_refuse a0 ((1 : Int32)) h).bind fun q110 =>
  some (q110.1.toInt64, q110.2)) else none)
  else
  if (tg h a0).1 = 6 then (if (tg h (rR h a0 4)).1 = 1 then (if (tg h a0).1 = 6 then (if (tg h (rR h a0 4)).1 = 1 then (let x106 := (rI h (rR h a0 4) 3) + (rI h (rR h a0 4) 4)
  if (tg h a0).1 = 6 then (if (tg h (rR h a0 4)).1 = 1 then ((p_X7_divisor x106 (rI h (rR h a0 4) 3) h).bind fun q107 =>
  if q107.1 = 0 then ((p_X7_bit x1 q107.2).bind fun q108 =>
  if (tg q108.2 a0).1 = 6 then ((p_X7_answer a0 q108.1 q108.2).bind fun q109 =>
  some (q109.1.toInt64, q109.2)) else none)
  else
  if x1 = 0 then (if (tg q107.2 a0).1 = 6 then (if (tg q107.2 (rR q107.2 a0 4)).1 = 1 then (p_X7_rate_72 q107.1 (rI q107.2 (rR q107.2 a0 4) 3) a0 q107.2) else none) else none)
  else
  p_X7_rate_72 q107.1 x106 a0 q107.2) else none) else none) else none) else none) else none) else none) else none
set_option maxRecDepth 100000 in
theorem e_X7_rate_0 {l : Launch} {D : va_G} {dA : Nat → ClassId} {z : Nat} {sa : Nat → Nat} {Hz : Heap} (E : StrOK qLen qCh l D dA z sa Hz) {h0 fin : AH} {x : Int64}  : ∀ (a0 : Nat) (x1 : Int32) (h : AH), p_X7_rate a0 x1 h = some (x, fin) → GM l D dA z sa Hz q_X7_rate h0 (some (.long x)) fin 0 [(0, .ref a0), (1, .int x1)] [] h := by
  intro a0 x1 h hd
  exact step E (is := I_X7_rate_0) (pc := 0) (K := (kx 14 (fun la st h => gR la 0 fun a0 => gI la 1 fun x1 => sE st (p_X7_rate_14 a0 x1 h)) k0)) (FI := FI_X7_rate) (FV := fV0) (FL := fL0) (rt := rtL) (ft := 0) (by exact hd) ok_X7_rate_0 (kx_ok (fun la st h e => by obtain ⟨a0, m_a0, e1⟩ := gR_inv e; obtain ⟨x1, m_x1, e2⟩ := gI_inv e1; obtain ⟨rfl, ez⟩ := sE_inv e2; exact gm_fewer (e_X7_rate_14 E  a0 x1 h ez) (mem_cons m_a0 (mem_cons m_x1 mem_nil))) k0_ok) (FI_X7_rate_ok E) (fV0_ok E) (fL0_ok E) (rtL_ok rfl)
theorem c_X7_rate {l : Launch} {D : va_G} {dA : Nat → ClassId} {z : Nat} {sa : Nat → Nat} {Hz : Heap} (E : StrOK qLen qCh l D dA z sa Hz) {a0 : Nat} {x1 : Int32} {h fin : AH} {x : Int64} (hd : p_X7_rate a0 x1 h = some (x, fin)) : CalOK l D dA z sa Hz q_X7_rate [.ref a0, .int x1] h (some (.long x)) fin := calOf (by decide +kernel) (Nat.le_of_ble_eq_true rfl) (e_X7_rate_0 E a0 x1 h hd)
def FI_X6_firstUntrue : Nat → List Value → AH → Option (Int32 × AH) := (cx 76 (fun As h => sR As fun a0 As => sI As fun x1 As => sI As fun x2 As => sE As (p_X1_seek a0 x1 x2 h)) fI0)
theorem FI_X6_firstUntrue_ok {l : Launch} {D : va_G} {dA : Nat → ClassId} {z : Nat} {sa : Nat → Nat} {Hz : Heap} (E : StrOK qLen qCh l D dA z sa Hz) : ∀ mi As h x h', FI_X6_firstUntrue mi As h = some (x, h') → CalOK l D dA z sa Hz (MT mi) As h (some (.int x)) h' := (cxI_ok (fun As h x h2 e => by obtain ⟨_, _, rfl, e0⟩ := sR_inv e; obtain ⟨_, _, rfl, e1⟩ := sI_inv e0; obtain ⟨_, _, rfl, e2⟩ := sI_inv e1; obtain ⟨rfl, ez⟩ := sE_inv e2; exact c_X1_seek E ez) (fI0_ok E))
def I_X6_firstUntrue_67 : List AI := [(.bipush (-2), 2, [], (-2)), (.ireturn, 1, [], 0)]
theorem ok_X6_firstUntrue_67 : vBL MT qLen qCh false q_X6_firstUntrue.2.2.2.2.1 q_X6_firstUntrue.2.2.2.2.2.1 q_X6_firstUntrue.2.2.1 q_X6_firstUntrue.1.cls q_X6_firstUntrue.1.name q_X6_firstUntrue.2.1 0 67 I_X6_firstUntrue_67 = true := by decide +kernel
def p_X6_firstUntrue_67 (h : AH) : Option (Int32 × AH) :=
  some (((-2 : Int32)), h)
set_option maxRecDepth 100000 in
theorem e_X6_firstUntrue_67 {l : Launch} {D : va_G} {dA : Nat → ClassId} {z : Nat} {sa : Nat → Nat} {Hz : Heap} (E : StrOK qLen qCh l D dA z sa Hz) {h0 fin : AH} {x : Int32}  : ∀  (h : AH), p_X6_firstUntrue_67 h = some (x, fin) → GM l D dA z sa Hz q_X6_firstUntrue h0 (some (.int x)) fin 67 [] [] h := by
  intro h hd
  exact step E (is := I_X6_firstUntrue_67) (pc := 67) (K := k0) (FI := FI_X6_firstUntrue) (FV := fV0) (FL := fL0) (rt := rtI) (ft := 0) (by exact hd) ok_X6_firstUntrue_67 k0_ok (FI_X6_firstUntrue_ok E) (fV0_ok E) (fL0_ok E) (rtI_ok rfl)
def I_X6_firstUntrue_61 : List AI := [(.iinc 2 1, 3, [], 1), (.goto (-62), 3, [2], 0)]
theorem ok_X6_firstUntrue_61 : vBL MT qLen qCh false q_X6_firstUntrue.2.2.2.2.1 q_X6_firstUntrue.2.2.2.2.2.1 q_X6_firstUntrue.2.2.1 q_X6_firstUntrue.1.cls q_X6_firstUntrue.1.name q_X6_firstUntrue.2.1 0 61 I_X6_firstUntrue_61 = true := by decide +kernel
def p_X6_firstUntrue_61 (k2 : Nat → Nat → Int32 → AH → Option (Int32 × AH)) (a0 : Nat) (a1 : Nat) (x2 : Int32) (h : AH) : Option (Int32 × AH) :=
  k2 a0 a1 (x2 + (1 : Int32)) h
set_option maxRecDepth 100000 in
theorem e_X6_firstUntrue_61 {l : Launch} {D : va_G} {dA : Nat → ClassId} {z : Nat} {sa : Nat → Nat} {Hz : Heap} (E : StrOK qLen qCh l D dA z sa Hz) {h0 fin : AH} {x : Int32}  {k2 : Nat → Nat → Int32 → AH → Option (Int32 × AH)} (hk2 : ∀ (a0 : Nat) (a1 : Nat) (x2 : Int32) (h : AH), k2 a0 a1 x2 h = some (x, fin) → GM l D dA z sa Hz q_X6_firstUntrue h0 (some (.int x)) fin 2 [(0, .ref a0), (1, .ref a1), (2, .int x2)] [] h) : ∀ (a0 : Nat) (a1 : Nat) (x2 : Int32) (h : AH), p_X6_firstUntrue_61 k2 a0 a1 x2 h = some (x, fin) → GM l D dA z sa Hz q_X6_firstUntrue h0 (some (.int x)) fin 61 [(0, .ref a0), (1, .ref a1), (2, .int x2)] [] h := by
  intro a0 a1 x2 h hd
  exact step E (is := I_X6_firstUntrue_61) (pc := 61) (K := (kx 2 (fun la st h => gR la 0 fun a0 => gR la 1 fun a1 => gI la 2 fun x2 => sE st (k2 a0 a1 x2 h)) k0)) (FI := FI_X6_firstUntrue) (FV := fV0) (FL := fL0) (rt := rtI) (ft := 0) (by exact hd) ok_X6_firstUntrue_61 (kx_ok (fun la st h e => by obtain ⟨a0, m_a0, e1⟩ := gR_inv e; obtain ⟨a1, m_a1, e2⟩ := gR_inv e1; obtain ⟨x2, m_x2, e3⟩ := gI_inv e2; obtain ⟨rfl, ez⟩ := sE_inv e3; exact gm_fewer (hk2 a0 a1 x2 h ez) (mem_cons m_a0 (mem_cons m_a1 (mem_cons m_x2 mem_nil)))) k0_ok) (FI_X6_firstUntrue_ok E) (fV0_ok E) (fL0_ok E) (rtI_ok rfl)
def I_X6_firstUntrue_46 : List AI := [(.istore 4, 2, [], 0), (.iload 4, 2, [], 0), (.aload_n 0, 1, [], 0), (.getfield 35, 3, [5, 11, 2, 233], 0), (.iload_n 2, 1, [], 0), (.iaload, 1, [], 0), (.if_icmp .eq 5, 3, [61], 0), (.iload_n 2, 1, [], 0), (.ireturn, 1, [], 0)]
theorem ok_X6_firstUntrue_46 : vBL MT qLen qCh false q_X6_firstUntrue.2.2.2.2.1 q_X6_firstUntrue.2.2.2.2.2.1 q_X6_firstUntrue.2.2.1 q_X6_firstUntrue.1.cls q_X6_firstUntrue.1.name q_X6_firstUntrue.2.1 0 46 I_X6_firstUntrue_46 = true := by decide +kernel
def p_X6_firstUntrue_46 (k2 : Nat → Nat → Int32 → AH → Option (Int32 × AH)) (a0 : Nat) (a1 : Nat) (x2 : Int32) (y0 : Int32) (h : AH) : Option (Int32 × AH) :=
  if (tg h a0).1 = 5 then (if inB h (rR h a0 11) 100 x2 then (if y0 = (rI h (rR h a0 11) x2.toNatClampNeg) then (k2 a0 a1 (x2 + (1 : Int32)) h)
  else
  some (x2, h)) else none) else none
set_option maxRecDepth 100000 in
theorem e_X6_firstUntrue_46 {l : Launch} {D : va_G} {dA : Nat → ClassId} {z : Nat} {sa : Nat → Nat} {Hz : Heap} (E : StrOK qLen qCh l D dA z sa Hz) {h0 fin : AH} {x : Int32}  {k2 : Nat → Nat → Int32 → AH → Option (Int32 × AH)} (hk2 : ∀ (a0 : Nat) (a1 : Nat) (x2 : Int32) (h : AH), k2 a0 a1 x2 h = some (x, fin) → GM l D dA z sa Hz q_X6_firstUntrue h0 (some (.int x)) fin 2 [(0, .ref a0), (1, .ref a1), (2, .int x2)] [] h) : ∀ (a0 : Nat) (a1 : Nat) (x2 : Int32) (y0 : Int32) (h : AH), p_X6_firstUntrue_46 k2 a0 a1 x2 y0 h = some (x, fin) → GM l D dA z sa Hz q_X6_firstUntrue h0 (some (.int x)) fin 46 [(0, .ref a0), (1, .ref a1), (2, .int x2)] [.int y0] h := by
  intro a0 a1 x2 y0 h hd
  exact step E (is := I_X6_firstUntrue_46) (pc := 46) (K := (kx 61 (fun la st h => gR la 0 fun a0 => gR la 1 fun a1 => gI la 2 fun x2 => sE st (p_X6_firstUntrue_61 k2 a0 a1 x2 h)) k0)) (FI := FI_X6_firstUntrue) (FV := fV0) (FL := fL0) (rt := rtI) (ft := 0) (by exact hd) ok_X6_firstUntrue_46 (kx_ok (fun la st h e => by obtain ⟨a0, m_a0, e1⟩ := gR_inv e; obtain ⟨a1, m_a1, e2⟩ := gR_inv e1; obtain ⟨x2, m_x2, e3⟩ := gI_inv e2; obtain ⟨rfl, ez⟩ := sE_inv e3; exact gm_fewer (e_X6_firstUntrue_61 E hk2 a0 a1 x2 h ez) (mem_cons m_a0 (mem_cons m_a1 (mem_cons m_x2 mem_nil)))) k0_ok) (FI_X6_firstUntrue_ok E) (fV0_ok E) (fL0_ok E) (rtI_ok rfl)
def I_X6_firstUntrue_45 : List AI := [(.iload_n 3, 1, [], 0)]
theorem ok_X6_firstUntrue_45 : vBL MT qLen qCh false q_X6_firstUntrue.2.2.2.2.1 q_X6_firstUntrue.2.2.2.2.2.1 q_X6_firstUntrue.2.2.1 q_X6_firstUntrue.1.cls q_X6_firstUntrue.1.name q_X6_firstUntrue.2.1 46 45 I_X6_firstUntrue_45 = true := by decide +kernel
def p_X6_firstUntrue_45 (k2 : Nat → Nat → Int32 → AH → Option (Int32 × AH)) (a0 : Nat) (a1 : Nat) (x2 : Int32) (x3 : Int32) (h : AH) : Option (Int32 × AH) :=
  p_X6_firstUntrue_46 k2 a0 a1 x2 x3 h
set_option maxRecDepth 100000 in
theorem e_X6_firstUntrue_45 {l : Launch} {D : va_G} {dA : Nat → ClassId} {z : Nat} {sa : Nat → Nat} {Hz : Heap} (E : StrOK qLen qCh l D dA z sa Hz) {h0 fin : AH} {x : Int32}  {k2 : Nat → Nat → Int32 → AH → Option (Int32 × AH)} (hk2 : ∀ (a0 : Nat) (a1 : Nat) (x2 : Int32) (h : AH), k2 a0 a1 x2 h = some (x, fin) → GM l D dA z sa Hz q_X6_firstUntrue h0 (some (.int x)) fin 2 [(0, .ref a0), (1, .ref a1), (2, .int x2)] [] h) : ∀ (a0 : Nat) (a1 : Nat) (x2 : Int32) (x3 : Int32) (h : AH), p_X6_firstUntrue_45 k2 a0 a1 x2 x3 h = some (x, fin) → GM l D dA z sa Hz q_X6_firstUntrue h0 (some (.int x)) fin 45 [(0, .ref a0), (1, .ref a1), (2, .int x2), (3, .int x3)] [] h := by
  intro a0 a1 x2 x3 h hd
  exact step E (is := I_X6_firstUntrue_45) (pc := 45) (K := (kx 46 (fun la st h => gR la 0 fun a0 => gR la 1 fun a1 => gI la 2 fun x2 => sI st fun y0 st => sE st (p_X6_firstUntrue_46 k2 a0 a1 x2 y0 h)) k0)) (FI := FI_X6_firstUntrue) (FV := fV0) (FL := fL0) (rt := rtI) (ft := 46) (by exact hd) ok_X6_firstUntrue_45 (kx_ok (fun la st h e => by obtain ⟨a0, m_a0, e1⟩ := gR_inv e; obtain ⟨a1, m_a1, e2⟩ := gR_inv e1; obtain ⟨x2, m_x2, e3⟩ := gI_inv e2; obtain ⟨y0, _, rfl, e4⟩ := sI_inv e3; obtain ⟨rfl, ez⟩ := sE_inv e4; exact gm_fewer (e_X6_firstUntrue_46 E hk2 a0 a1 x2 y0 h ez) (mem_cons m_a0 (mem_cons m_a1 (mem_cons m_x2 mem_nil)))) k0_ok) (FI_X6_firstUntrue_ok E) (fV0_ok E) (fL0_ok E) (rtI_ok rfl)
def I_X6_firstUntrue_2 : List AI := [(.iload_n 2, 1, [], 0), (.aload_n 0, 1, [], 0), (.getfield 57, 3, [5, 12, 0, 234], 0), (.if_icmp .ge 60, 3, [67], 0), (.iload_n 2, 1, [], 0), (.bipush 6, 2, [], 6), (.if_icmp .ge 54, 3, [67], 0), (.aload_n 1, 1, [], 0), (.aload_n 0, 1, [], 0), (.getfield 32, 3, [5, 10, 2, 232], 0), (.iload_n 2, 1, [], 0), (.iaload, 1, [], 0), (.iconst 4, 1, [], 4), (.idiv, 1, [], 0), (.aload_n 0, 1, [], 0), (.getfield 32, 3, [5, 10, 2, 232], 0), (.iload_n 2, 1, [], 0), (.iaload, 1, [], 0), (.iconst 4, 1, [], 4), (.irem, 1, [], 0), (.invokevirtual 72, 3, [1, 76, 3, 0, 1073], 0), (.istore_n 3, 1, [], 0), (.iload_n 3, 1, [], 0), (.ifCond .lt 7, 3, [45], 0), (.iconst 0, 1, [], 0), (.goto 4, 3, [46], 0)]
theorem ok_X6_firstUntrue_2 : vBL MT qLen qCh false q_X6_firstUntrue.2.2.2.2.1 q_X6_firstUntrue.2.2.2.2.2.1 q_X6_firstUntrue.2.2.1 q_X6_firstUntrue.1.cls q_X6_firstUntrue.1.name q_X6_firstUntrue.2.1 0 2 I_X6_firstUntrue_2 = true := by decide +kernel
def p_X6_firstUntrue_2 : Nat → Nat → Nat → Int32 → AH → Option (Int32 × AH)
  | 0, _, _, _, _ => none
  | n + 1, a0, a1, x2, h => if (tg h a0).1 = 5 then (if x2 < (rI h a0 12) then (if x2 < ((6 : Int32)) then (if (tg h a0).1 = 5 then (if inB h (rR h a0 10) 100 x2 then (if ((4 : Int32)) = 0 then none else
    if (tg h a0).1 = 5 then (if inB h (rR h a0 10) 100 x2 then (if ((4 : Int32)) = 0 then none else
    if (tg h a1).1 = 0 then ((p_X1_seek a1 ((rI h (rR h a0 10) x2.toNatClampNeg) / ((4 : Int32))) (irm (rI h (rR h a0 10) x2.toNatClampNeg) ((4 : Int32))) h).bind fun q101 =>
    if q101.1 < 0 then (p_X6_firstUntrue_46 (p_X6_firstUntrue_2 n) a0 a1 x2 q101.1 q101.2)
    else
    p_X6_firstUntrue_46 (p_X6_firstUntrue_2 n) a0 a1 x2 ((0 : Int32)) q101.2) else none) else none) else none) else none) else none)
    else
    p_X6_firstUntrue_67 h)
    else
    p_X6_firstUntrue_67 h) else none
set_option maxRecDepth 100000 in
theorem e_X6_firstUntrue_2 {l : Launch} {D : va_G} {dA : Nat → ClassId} {z : Nat} {sa : Nat → Nat} {Hz : Heap} (E : StrOK qLen qCh l D dA z sa Hz) {h0 fin : AH} {x : Int32}  : ∀ (n : Nat) (a0 : Nat) (a1 : Nat) (x2 : Int32) (h : AH), p_X6_firstUntrue_2 n a0 a1 x2 h = some (x, fin) → GM l D dA z sa Hz q_X6_firstUntrue h0 (some (.int x)) fin 2 [(0, .ref a0), (1, .ref a1), (2, .int x2)] [] h := by
  intro n
  induction n with
  | zero => intro a0 a1 x2 h hd; exact nomatch hd
  | succ n ih =>
    intro a0 a1 x2 h hd
    exact step E (is := I_X6_firstUntrue_2) (pc := 2) (K := (kx 67 (fun la st h => sE st (p_X6_firstUntrue_67 h)) (kx 45 (fun la st h => gR la 0 fun a0 => gR la 1 fun a1 => gI la 2 fun x2 => gI la 3 fun x3 => sE st (p_X6_firstUntrue_45 (p_X6_firstUntrue_2 n) a0 a1 x2 x3 h)) (kx 46 (fun la st h => gR la 0 fun a0 => gR la 1 fun a1 => gI la 2 fun x2 => sI st fun y0 st => sE st (p_X6_firstUntrue_46 (p_X6_firstUntrue_2 n) a0 a1 x2 y0 h)) k0)))) (FI := FI_X6_firstUntrue) (FV := fV0) (FL := fL0) (rt := rtI) (ft := 0) (by exact hd) ok_X6_firstUntrue_2 (kx_ok (fun la st h e => by obtain ⟨rfl, ez⟩ := sE_inv e; exact gm_fewer (e_X6_firstUntrue_67 E   h ez) mem_nil) (kx_ok (fun la st h e => by obtain ⟨a0, m_a0, e1⟩ := gR_inv e; obtain ⟨a1, m_a1, e2⟩ := gR_inv e1; obtain ⟨x2, m_x2, e3⟩ := gI_inv e2; obtain ⟨x3, m_x3, e4⟩ := gI_inv e3; obtain ⟨rfl, ez⟩ := sE_inv e4; exact gm_fewer (e_X6_firstUntrue_45 E ih a0 a1 x2 x3 h ez) (mem_cons m_a0 (mem_cons m_a1 (mem_cons m_x2 (mem_cons m_x3 mem_nil))))) (kx_ok (fun la st h e => by obtain ⟨a0, m_a0, e1⟩ := gR_inv e; obtain ⟨a1, m_a1, e2⟩ := gR_inv e1; obtain ⟨x2, m_x2, e3⟩ := gI_inv e2; obtain ⟨y0, _, rfl, e4⟩ := sI_inv e3; obtain ⟨rfl, ez⟩ := sE_inv e4; exact gm_fewer (e_X6_firstUntrue_46 E ih a0 a1 x2 y0 h ez) (mem_cons m_a0 (mem_cons m_a1 (mem_cons m_x2 mem_nil)))) k0_ok))) (FI_X6_firstUntrue_ok E) (fV0_ok E) (fL0_ok E) (rtI_ok rfl)
def I_X6_firstUntrue_0 : List AI := [(.iconst 0, 1, [], 0), (.istore_n 2, 1, [], 0)]
theorem ok_X6_firstUntrue_0 : vBL MT qLen qCh false q_X6_firstUntrue.2.2.2.2.1 q_X6_firstUntrue.2.2.2.2.2.1 q_X6_firstUntrue.2.2.1 q_X6_firstUntrue.1.cls q_X6_firstUntrue.1.name q_X6_firstUntrue.2.1 2 0 I_X6_firstUntrue_0 = true := by decide +kernel
def p_X6_firstUntrue (a0 : Nat) (a1 : Nat) (h : AH) : Option (Int32 × AH) :=
  p_X6_firstUntrue_2 FU a0 a1 ((0 : Int32)) h
set_option maxRecDepth 100000 in
theorem e_X6_firstUntrue_0 {l : Launch} {D : va_G} {dA : Nat → ClassId} {z : Nat} {sa : Nat → Nat} {Hz : Heap} (E : StrOK qLen qCh l D dA z sa Hz) {h0 fin : AH} {x : Int32}  : ∀ (a0 : Nat) (a1 : Nat) (h : AH), p_X6_firstUntrue a0 a1 h = some (x, fin) → GM l D dA z sa Hz q_X6_firstUntrue h0 (some (.int x)) fin 0 [(0, .ref a0), (1, .ref a1)] [] h := by
  intro a0 a1 h hd
  exact step E (is := I_X6_firstUntrue_0) (pc := 0) (K := (kx 2 (fun la st h => gR la 0 fun a0 => gR la 1 fun a1 => gI la 2 fun x2 => sE st (p_X6_firstUntrue_2 FU a0 a1 x2 h)) k0)) (FI := FI_X6_firstUntrue) (FV := fV0) (FL := fL0) (rt := rtI) (ft := 2) (by exact hd) ok_X6_firstUntrue_0 (kx_ok (fun la st h e => by obtain ⟨a0, m_a0, e1⟩ := gR_inv e; obtain ⟨a1, m_a1, e2⟩ := gR_inv e1; obtain ⟨x2, m_x2, e3⟩ := gI_inv e2; obtain ⟨rfl, ez⟩ := sE_inv e3; exact gm_fewer (e_X6_firstUntrue_2 E  FU a0 a1 x2 h ez) (mem_cons m_a0 (mem_cons m_a1 (mem_cons m_x2 mem_nil)))) k0_ok) (FI_X6_firstUntrue_ok E) (fV0_ok E) (fL0_ok E) (rtI_ok rfl)
theorem c_X6_firstUntrue {l : Launch} {D : va_G} {dA : Nat → ClassId} {z : Nat} {sa : Nat → Nat} {Hz : Heap} (E : StrOK qLen qCh l D dA z sa Hz) {a0 : Nat} {a1 : Nat} {h fin : AH} {x : Int32} (hd : p_X6_firstUntrue a0 a1 h = some (x, fin)) : CalOK l D dA z sa Hz q_X6_firstUntrue [.ref a0, .ref a1] h (some (.int x)) fin := calOf (by decide +kernel) (Nat.le_of_ble_eq_true rfl) (e_X6_firstUntrue_0 E a0 a1 h hd)
def FI_X6_fittingSets : Nat → List Value → AH → Option (Int32 × AH) := (cx 60 (fun As h => sI As fun x0 As => sI As fun x1 As => sE As (p_X7_has x0 x1 h)) (cx 151 (fun As h => sR As fun a0 As => sR As fun a1 As => sE As (p_X6_firstUntrue a0 a1 h)) fI0))
theorem FI_X6_fittingSets_ok {l : Launch} {D : va_G} {dA : Nat → ClassId} {z : Nat} {sa : Nat → Nat} {Hz : Heap} (E : StrOK qLen qCh l D dA z sa Hz) : ∀ mi As h x h', FI_X6_fittingSets mi As h = some (x, h') → CalOK l D dA z sa Hz (MT mi) As h (some (.int x)) h' := (cxI_ok (fun As h x h2 e => by obtain ⟨_, _, rfl, e0⟩ := sI_inv e; obtain ⟨_, _, rfl, e1⟩ := sI_inv e0; obtain ⟨rfl, ez⟩ := sE_inv e1; exact c_X7_has E ez) ((cxI_ok (fun As h x h2 e => by obtain ⟨_, _, rfl, e0⟩ := sR_inv e; obtain ⟨_, _, rfl, e1⟩ := sR_inv e0; obtain ⟨rfl, ez⟩ := sE_inv e1; exact c_X6_firstUntrue E ez) (fI0_ok E))))
def FV_X6_fittingSets : Nat → List Value → AH → Option (AH) := (cx 44 (fun As h => sR As fun a0 As => sR As fun a1 As => sE As (p_X1_copyFrom a0 a1 h)) (cx 30 (fun As h => sR As fun a0 As => sI As fun x1 As => sI As fun x2 As => sI As fun x3 As => sE As (p_X1_setWord a0 x1 x2 x3 h)) fV0))
theorem FV_X6_fittingSets_ok {l : Launch} {D : va_G} {dA : Nat → ClassId} {z : Nat} {sa : Nat → Nat} {Hz : Heap} (E : StrOK qLen qCh l D dA z sa Hz) : ∀ mi As h h', FV_X6_fittingSets mi As h = some h' → CalOK l D dA z sa Hz (MT mi) As h none h' := (cxV_ok (fun As h h2 e => by obtain ⟨_, _, rfl, e0⟩ := sR_inv e; obtain ⟨_, _, rfl, e1⟩ := sR_inv e0; obtain ⟨rfl, ez⟩ := sE_inv e1; exact c_X1_copyFrom E ez) ((cxV_ok (fun As h h2 e => by obtain ⟨_, _, rfl, e0⟩ := sR_inv e; obtain ⟨_, _, rfl, e1⟩ := sI_inv e0; obtain ⟨_, _, rfl, e2⟩ := sI_inv e1; obtain ⟨_, _, rfl, e3⟩ := sI_inv e2; obtain ⟨rfl, ez⟩ := sE_inv e3; exact c_X1_setWord E ez) (fV0_ok E))))
def I_X6_fittingSets_114 : List AI := [(.iload_n 2, 1, [], 0), (.ireturn, 1, [], 0)]
theorem ok_X6_fittingSets_114 : vBL MT qLen qCh false q_X6_fittingSets.2.2.2.2.1 q_X6_fittingSets.2.2.2.2.2.1 q_X6_fittingSets.2.2.1 q_X6_fittingSets.1.cls q_X6_fittingSets.1.name q_X6_fittingSets.2.1 0 114 I_X6_fittingSets_114 = true := by decide +kernel
def p_X6_fittingSets_114 (x2 : Int32) (h : AH) : Option (Int32 × AH) :=
  some (x2, h)
set_option maxRecDepth 100000 in
theorem e_X6_fittingSets_114 {l : Launch} {D : va_G} {dA : Nat → ClassId} {z : Nat} {sa : Nat → Nat} {Hz : Heap} (E : StrOK qLen qCh l D dA z sa Hz) {h0 fin : AH} {x : Int32}  : ∀ (x2 : Int32) (h : AH), p_X6_fittingSets_114 x2 h = some (x, fin) → GM l D dA z sa Hz q_X6_fittingSets h0 (some (.int x)) fin 114 [(2, .int x2)] [] h := by
  intro x2 h hd
  exact step E (is := I_X6_fittingSets_114) (pc := 114) (K := k0) (FI := FI_X6_fittingSets) (FV := FV_X6_fittingSets) (FL := fL0) (rt := rtI) (ft := 0) (by exact hd) ok_X6_fittingSets_114 k0_ok (FI_X6_fittingSets_ok E) (FV_X6_fittingSets_ok E) (fL0_ok E) (rtI_ok rfl)
def I_X6_fittingSets_108 : List AI := [(.iinc 3 1, 3, [], 1), (.goto (-107), 3, [4], 0)]
theorem ok_X6_fittingSets_108 : vBL MT qLen qCh false q_X6_fittingSets.2.2.2.2.1 q_X6_fittingSets.2.2.2.2.2.1 q_X6_fittingSets.2.2.1 q_X6_fittingSets.1.cls q_X6_fittingSets.1.name q_X6_fittingSets.2.1 0 108 I_X6_fittingSets_108 = true := by decide +kernel
def p_X6_fittingSets_108 (k4 : Nat → Nat → Int32 → Int32 → AH → Option (Int32 × AH)) (a0 : Nat) (a1 : Nat) (x2 : Int32) (x3 : Int32) (h : AH) : Option (Int32 × AH) :=
  k4 a0 a1 x2 (x3 + (1 : Int32)) h
set_option maxRecDepth 100000 in
theorem e_X6_fittingSets_108 {l : Launch} {D : va_G} {dA : Nat → ClassId} {z : Nat} {sa : Nat → Nat} {Hz : Heap} (E : StrOK qLen qCh l D dA z sa Hz) {h0 fin : AH} {x : Int32}  {k4 : Nat → Nat → Int32 → Int32 → AH → Option (Int32 × AH)} (hk4 : ∀ (a0 : Nat) (a1 : Nat) (x2 : Int32) (x3 : Int32) (h : AH), k4 a0 a1 x2 x3 h = some (x, fin) → GM l D dA z sa Hz q_X6_fittingSets h0 (some (.int x)) fin 4 [(0, .ref a0), (1, .ref a1), (2, .int x2), (3, .int x3)] [] h) : ∀ (a0 : Nat) (a1 : Nat) (x2 : Int32) (x3 : Int32) (h : AH), p_X6_fittingSets_108 k4 a0 a1 x2 x3 h = some (x, fin) → GM l D dA z sa Hz q_X6_fittingSets h0 (some (.int x)) fin 108 [(0, .ref a0), (1, .ref a1), (2, .int x2), (3, .int x3)] [] h := by
  intro a0 a1 x2 x3 h hd
  exact step E (is := I_X6_fittingSets_108) (pc := 108) (K := (kx 4 (fun la st h => gR la 0 fun a0 => gR la 1 fun a1 => gI la 2 fun x2 => gI la 3 fun x3 => sE st (k4 a0 a1 x2 x3 h)) k0)) (FI := FI_X6_fittingSets) (FV := FV_X6_fittingSets) (FL := fL0) (rt := rtI) (ft := 0) (by exact hd) ok_X6_fittingSets_108 (kx_ok (fun la st h e => by obtain ⟨a0, m_a0, e1⟩ := gR_inv e; obtain ⟨a1, m_a1, e2⟩ := gR_inv e1; obtain ⟨x2, m_x2, e3⟩ := gI_inv e2; obtain ⟨x3, m_x3, e4⟩ := gI_inv e3; obtain ⟨rfl, ez⟩ := sE_inv e4; exact gm_fewer (hk4 a0 a1 x2 x3 h ez) (mem_cons m_a0 (mem_cons m_a1 (mem_cons m_x2 (mem_cons m_x3 mem_nil))))) k0_ok) (FI_X6_fittingSets_ok E) (FV_X6_fittingSets_ok E) (fL0_ok E) (rtI_ok rfl)
def I_X6_fittingSets_94 : List AI := [(.aload_n 0, 1, [], 0), (.aload_n 1, 1, [], 0), (.invokevirtual 83, 3, [1, 151, 2, 5, 1069], 0), (.ifCond .ge 9, 3, [108], 0), (.iload_n 2, 1, [], 0), (.iconst 1, 1, [], 1), (.iload_n 3, 1, [], 0), (.ishl, 1, [], 0), (.ior, 1, [], 0), (.istore_n 2, 1, [], 0)]
theorem ok_X6_fittingSets_94 : vBL MT qLen qCh false q_X6_fittingSets.2.2.2.2.1 q_X6_fittingSets.2.2.2.2.2.1 q_X6_fittingSets.2.2.1 q_X6_fittingSets.1.cls q_X6_fittingSets.1.name q_X6_fittingSets.2.1 108 94 I_X6_fittingSets_94 = true := by decide +kernel
def p_X6_fittingSets_94 (k4 : Nat → Nat → Int32 → Int32 → AH → Option (Int32 × AH)) (a0 : Nat) (a1 : Nat) (x2 : Int32) (x3 : Int32) (h : AH) : Option (Int32 × AH) :=
  if (tg h a0).1 = 5 then ((p_X6_firstUntrue a0 a1 h).bind fun q101 =>
  if q101.1 < 0 then (let x102 := x2 ||| (((1 : Int32)) <<< (x3 &&& 31))
  p_X6_fittingSets_108 k4 a0 a1 x102 x3 q101.2)
  else
  p_X6_fittingSets_108 k4 a0 a1 x2 x3 q101.2) else none
set_option maxRecDepth 100000 in
theorem e_X6_fittingSets_94 {l : Launch} {D : va_G} {dA : Nat → ClassId} {z : Nat} {sa : Nat → Nat} {Hz : Heap} (E : StrOK qLen qCh l D dA z sa Hz) {h0 fin : AH} {x : Int32}  {k4 : Nat → Nat → Int32 → Int32 → AH → Option (Int32 × AH)} (hk4 : ∀ (a0 : Nat) (a1 : Nat) (x2 : Int32) (x3 : Int32) (h : AH), k4 a0 a1 x2 x3 h = some (x, fin) → GM l D dA z sa Hz q_X6_fittingSets h0 (some (.int x)) fin 4 [(0, .ref a0), (1, .ref a1), (2, .int x2), (3, .int x3)] [] h) : ∀ (a0 : Nat) (a1 : Nat) (x2 : Int32) (x3 : Int32) (h : AH), p_X6_fittingSets_94 k4 a0 a1 x2 x3 h = some (x, fin) → GM l D dA z sa Hz q_X6_fittingSets h0 (some (.int x)) fin 94 [(0, .ref a0), (1, .ref a1), (2, .int x2), (3, .int x3)] [] h := by
  intro a0 a1 x2 x3 h hd
  exact step E (is := I_X6_fittingSets_94) (pc := 94) (K := (kx 108 (fun la st h => gR la 0 fun a0 => gR la 1 fun a1 => gI la 2 fun x2 => gI la 3 fun x3 => sE st (p_X6_fittingSets_108 k4 a0 a1 x2 x3 h)) k0)) (FI := FI_X6_fittingSets) (FV := FV_X6_fittingSets) (FL := fL0) (rt := rtI) (ft := 108) (by exact hd) ok_X6_fittingSets_94 (kx_ok (fun la st h e => by obtain ⟨a0, m_a0, e1⟩ := gR_inv e; obtain ⟨a1, m_a1, e2⟩ := gR_inv e1; obtain ⟨x2, m_x2, e3⟩ := gI_inv e2; obtain ⟨x3, m_x3, e4⟩ := gI_inv e3; obtain ⟨rfl, ez⟩ := sE_inv e4; exact gm_fewer (e_X6_fittingSets_108 E hk4 a0 a1 x2 x3 h ez) (mem_cons m_a0 (mem_cons m_a1 (mem_cons m_x2 (mem_cons m_x3 mem_nil))))) k0_ok) (FI_X6_fittingSets_ok E) (FV_X6_fittingSets_ok E) (fL0_ok E) (rtI_ok rfl)
def I_X6_fittingSets_88 : List AI := [(.iinc 4 1, 3, [], 1), (.goto (-60), 3, [31], 0)]
theorem ok_X6_fittingSets_88 : vBL MT qLen qCh false q_X6_fittingSets.2.2.2.2.1 q_X6_fittingSets.2.2.2.2.2.1 q_X6_fittingSets.2.2.1 q_X6_fittingSets.1.cls q_X6_fittingSets.1.name q_X6_fittingSets.2.1 0 88 I_X6_fittingSets_88 = true := by decide +kernel
def p_X6_fittingSets_88 (k31 : Nat → Nat → Int32 → Int32 → Int32 → AH → Option (Int32 × AH)) (a0 : Nat) (a1 : Nat) (x2 : Int32) (x3 : Int32) (x4 : Int32) (h : AH) : Option (Int32 × AH) :=
  k31 a0 a1 x2 x3 (x4 + (1 : Int32)) h
set_option maxRecDepth 100000 in
theorem e_X6_fittingSets_88 {l : Launch} {D : va_G} {dA : Nat → ClassId} {z : Nat} {sa : Nat → Nat} {Hz : Heap} (E : StrOK qLen qCh l D dA z sa Hz) {h0 fin : AH} {x : Int32}  {k31 : Nat → Nat → Int32 → Int32 → Int32 → AH → Option (Int32 × AH)} (hk31 : ∀ (a0 : Nat) (a1 : Nat) (x2 : Int32) (x3 : Int32) (x4 : Int32) (h : AH), k31 a0 a1 x2 x3 x4 h = some (x, fin) → GM l D dA z sa Hz q_X6_fittingSets h0 (some (.int x)) fin 31 [(0, .ref a0), (1, .ref a1), (2, .int x2), (3, .int x3), (4, .int x4)] [] h) : ∀ (a0 : Nat) (a1 : Nat) (x2 : Int32) (x3 : Int32) (x4 : Int32) (h : AH), p_X6_fittingSets_88 k31 a0 a1 x2 x3 x4 h = some (x, fin) → GM l D dA z sa Hz q_X6_fittingSets h0 (some (.int x)) fin 88 [(0, .ref a0), (1, .ref a1), (2, .int x2), (3, .int x3), (4, .int x4)] [] h := by
  intro a0 a1 x2 x3 x4 h hd
  exact step E (is := I_X6_fittingSets_88) (pc := 88) (K := (kx 31 (fun la st h => gR la 0 fun a0 => gR la 1 fun a1 => gI la 2 fun x2 => gI la 3 fun x3 => gI la 4 fun x4 => sE st (k31 a0 a1 x2 x3 x4 h)) k0)) (FI := FI_X6_fittingSets) (FV := FV_X6_fittingSets) (FL := fL0) (rt := rtI) (ft := 0) (by exact hd) ok_X6_fittingSets_88 (kx_ok (fun la st h e => by obtain ⟨a0, m_a0, e1⟩ := gR_inv e; obtain ⟨a1, m_a1, e2⟩ := gR_inv e1; obtain ⟨x2, m_x2, e3⟩ := gI_inv e2; obtain ⟨x3, m_x3, e4⟩ := gI_inv e3; obtain ⟨x4, m_x4, e5⟩ := gI_inv e4; obtain ⟨rfl, ez⟩ := sE_inv e5; exact gm_fewer (hk31 a0 a1 x2 x3 x4 h ez) (mem_cons m_a0 (mem_cons m_a1 (mem_cons m_x2 (mem_cons m_x3 (mem_cons m_x4 mem_nil)))))) k0_ok) (FI_X6_fittingSets_ok E) (FV_X6_fittingSets_ok E) (fL0_ok E) (rtI_ok rfl)
def I_X6_fittingSets_31 : List AI := [(.iload 4, 2, [], 0), (.aload_n 0, 1, [], 0), (.getfield 54, 3, [5, 9, 0, 229], 0), (.if_icmp .ge 57, 3, [94], 0), (.iload 4, 2, [], 0), (.iconst 4, 1, [], 4), (.if_icmp .ge 51, 3, [94], 0), (.iload_n 3, 1, [], 0), (.iconst 1, 1, [], 1), (.iload 4, 2, [], 0), (.ishl, 1, [], 0), (.invokestatic 79, 3, [1, 60, 2, 1068], 0), (.ifCond .eq 34, 3, [88], 0), (.aload_n 1, 1, [], 0), (.aload_n 0, 1, [], 0), (.getfield 26, 3, [5, 7, 2, 227], 0), (.iload 4, 2, [], 0), (.iaload, 1, [], 0), (.bipush 8, 2, [], 8), (.idiv, 1, [], 0), (.aload_n 0, 1, [], 0), (.getfield 26, 3, [5, 7, 2, 227], 0), (.iload 4, 2, [], 0), (.iaload, 1, [], 0), (.bipush 8, 2, [], 8), (.irem, 1, [], 0), (.aload_n 0, 1, [], 0), (.getfield 29, 3, [5, 8, 2, 228], 0), (.iload 4, 2, [], 0), (.iaload, 1, [], 0), (.invokevirtual 68, 3, [2, 30, 4, 0, 557], 0)]
theorem ok_X6_fittingSets_31 : vBL MT qLen qCh false q_X6_fittingSets.2.2.2.2.1 q_X6_fittingSets.2.2.2.2.2.1 q_X6_fittingSets.2.2.1 q_X6_fittingSets.1.cls q_X6_fittingSets.1.name q_X6_fittingSets.2.1 88 31 I_X6_fittingSets_31 = true := by decide +kernel
def p_X6_fittingSets_31 (k4 : Nat → Nat → Int32 → Int32 → AH → Option (Int32 × AH)) : Nat → Nat → Nat → Int32 → Int32 → Int32 → AH → Option (Int32 × AH)
  | 0, _, _, _, _, _, _ => none
  | n + 1, a0, a1, x2, x3, x4, h => if (tg h a0).1 = 5 then (if x4 < (rI h a0 9) then (if x4 < ((4 : Int32)) then ((p_X7_has x3 (((1 : Int32)) <<< (x4 &&& 31)) h).bind fun q103 =>
    if q103.1 = 0 then (p_X6_fittingSets_88 (p_X6_fittingSets_31 k4 n) a0 a1 x2 x3 x4 q103.2)
    else
    if (tg q103.2 a0).1 = 5 then (if inB q103.2 (rR q103.2 a0 7) 100 x4 then (if ((8 : Int32)) = 0 then none else
    if (tg q103.2 a0).1 = 5 then (if inB q103.2 (rR q103.2 a0 7) 100 x4 then (if ((8 : Int32)) = 0 then none else
    if (tg q103.2 a0).1 = 5 then (if inB q103.2 (rR q103.2 a0 8) 100 x4 then (if (tg q103.2 a1).1 = 0 then ((p_X1_setWord a1 ((rI q103.2 (rR q103.2 a0 7) x4.toNatClampNeg) / ((8 : Int32))) (irm (rI q103.2 (rR q103.2 a0 7) x4.toNatClampNeg) ((8 : Int32))) (rI q103.2 (rR q103.2 a0 8) x4.toNatClampNeg) q103.2).bind fun h104 =>
    p_X6_fittingSets_88 (p_X6_fittingSets_31 k4 n) a0 a1 x2 x3 x4 h104) else none) else none) else none) else none) else none) else none) else none)
    else
    p_X6_fittingSets_94 k4 a0 a1 x2 x3 h)
    else
    p_X6_fittingSets_94 k4 a0 a1 x2 x3 h) else none
set_option maxRecDepth 100000 in
theorem e_X6_fittingSets_31 {l : Launch} {D : va_G} {dA : Nat → ClassId} {z : Nat} {sa : Nat → Nat} {Hz : Heap} (E : StrOK qLen qCh l D dA z sa Hz) {h0 fin : AH} {x : Int32}  {k4 : Nat → Nat → Int32 → Int32 → AH → Option (Int32 × AH)} (hk4 : ∀ (a0 : Nat) (a1 : Nat) (x2 : Int32) (x3 : Int32) (h : AH), k4 a0 a1 x2 x3 h = some (x, fin) → GM l D dA z sa Hz q_X6_fittingSets h0 (some (.int x)) fin 4 [(0, .ref a0), (1, .ref a1), (2, .int x2), (3, .int x3)] [] h) : ∀ (n : Nat) (a0 : Nat) (a1 : Nat) (x2 : Int32) (x3 : Int32) (x4 : Int32) (h : AH), p_X6_fittingSets_31 k4 n a0 a1 x2 x3 x4 h = some (x, fin) → GM l D dA z sa Hz q_X6_fittingSets h0 (some (.int x)) fin 31 [(0, .ref a0), (1, .ref a1), (2, .int x2), (3, .int x3), (4, .int x4)] [] h := by
  intro n
  induction n with
  | zero => intro a0 a1 x2 x3 x4 h hd; exact nomatch hd
  | succ n ih =>
    intro a0 a1 x2 x3 x4 h hd
    exact step E (is := I_X6_fittingSets_31) (pc := 31) (K := (kx 94 (fun la st h => gR la 0 fun a0 => gR la 1 fun a1 => gI la 2 fun x2 => gI la 3 fun x3 => sE st (p_X6_fittingSets_94 k4 a0 a1 x2 x3 h)) (kx 88 (fun la st h => gR la 0 fun a0 => gR la 1 fun a1 => gI la 2 fun x2 => gI la 3 fun x3 => gI la 4 fun x4 => sE st (p_X6_fittingSets_88 (p_X6_fittingSets_31 k4 n) a0 a1 x2 x3 x4 h)) k0))) (FI := FI_X6_fittingSets) (FV := FV_X6_fittingSets) (FL := fL0) (rt := rtI) (ft := 88) (by exact hd) ok_X6_fittingSets_31 (kx_ok (fun la st h e => by obtain ⟨a0, m_a0, e1⟩ := gR_inv e; obtain ⟨a1, m_a1, e2⟩ := gR_inv e1; obtain ⟨x2, m_x2, e3⟩ := gI_inv e2; obtain ⟨x3, m_x3, e4⟩ := gI_inv e3; obtain ⟨rfl, ez⟩ := sE_inv e4; exact gm_fewer (e_X6_fittingSets_94 E hk4 a0 a1 x2 x3 h ez) (mem_cons m_a0 (mem_cons m_a1 (mem_cons m_x2 (mem_cons m_x3 mem_nil))))) (kx_ok (fun la st h e => by obtain ⟨a0, m_a0, e1⟩ := gR_inv e; obtain ⟨a1, m_a1, e2⟩ := gR_inv e1; obtain ⟨x2, m_x2, e3⟩ := gI_inv e2; obtain ⟨x3, m_x3, e4⟩ := gI_inv e3; obtain ⟨x4, m_x4, e5⟩ := gI_inv e4; obtain ⟨rfl, ez⟩ := sE_inv e5; exact gm_fewer (e_X6_fittingSets_88 E ih a0 a1 x2 x3 x4 h ez) (mem_cons m_a0 (mem_cons m_a1 (mem_cons m_x2 (mem_cons m_x3 (mem_cons m_x4 mem_nil)))))) k0_ok)) (FI_X6_fittingSets_ok E) (FV_X6_fittingSets_ok E) (fL0_ok E) (rtI_ok rfl)
def I_X6_fittingSets_4 : List AI := [(.iload_n 3, 1, [], 0), (.iconst 1, 1, [], 1), (.aload_n 0, 1, [], 0), (.getfield 54, 3, [5, 9, 0, 229], 0), (.ishl, 1, [], 0), (.if_icmp .ge 103, 3, [114], 0), (.iload_n 3, 1, [], 0), (.bipush 16, 2, [], 16), (.if_icmp .ge 97, 3, [114], 0), (.aload_n 1, 1, [], 0), (.aload_n 0, 1, [], 0), (.getfield 12, 3, [5, 0, 2, 210], 0), (.invokevirtual 75, 3, [2, 44, 2, 0, 1067], 0), (.iconst 0, 1, [], 0), (.istore 4, 2, [], 0)]
theorem ok_X6_fittingSets_4 : vBL MT qLen qCh false q_X6_fittingSets.2.2.2.2.1 q_X6_fittingSets.2.2.2.2.2.1 q_X6_fittingSets.2.2.1 q_X6_fittingSets.1.cls q_X6_fittingSets.1.name q_X6_fittingSets.2.1 31 4 I_X6_fittingSets_4 = true := by decide +kernel
def p_X6_fittingSets_4 : Nat → Nat → Nat → Int32 → Int32 → AH → Option (Int32 × AH)
  | 0, _, _, _, _, _ => none
  | n + 1, a0, a1, x2, x3, h => if (tg h a0).1 = 5 then (if x3 < (((1 : Int32)) <<< ((rI h a0 9) &&& 31)) then (if x3 < ((16 : Int32)) then (if (tg h a0).1 = 5 then (if (tg h a1).1 = 0 then ((p_X1_copyFrom a1 (rR h a0 0) h).bind fun h105 =>
    p_X6_fittingSets_31 (p_X6_fittingSets_4 n) FU a0 a1 x2 x3 ((0 : Int32)) h105) else none) else none)
    else
    p_X6_fittingSets_114 x2 h)
    else
    p_X6_fittingSets_114 x2 h) else none
set_option maxRecDepth 100000 in
theorem e_X6_fittingSets_4 {l : Launch} {D : va_G} {dA : Nat → ClassId} {z : Nat} {sa : Nat → Nat} {Hz : Heap} (E : StrOK qLen qCh l D dA z sa Hz) {h0 fin : AH} {x : Int32}  : ∀ (n : Nat) (a0 : Nat) (a1 : Nat) (x2 : Int32) (x3 : Int32) (h : AH), p_X6_fittingSets_4 n a0 a1 x2 x3 h = some (x, fin) → GM l D dA z sa Hz q_X6_fittingSets h0 (some (.int x)) fin 4 [(0, .ref a0), (1, .ref a1), (2, .int x2), (3, .int x3)] [] h := by
  intro n
  induction n with
  | zero => intro a0 a1 x2 x3 h hd; exact nomatch hd
  | succ n ih =>
    intro a0 a1 x2 x3 h hd
    exact step E (is := I_X6_fittingSets_4) (pc := 4) (K := (kx 114 (fun la st h => gI la 2 fun x2 => sE st (p_X6_fittingSets_114 x2 h)) (kx 31 (fun la st h => gR la 0 fun a0 => gR la 1 fun a1 => gI la 2 fun x2 => gI la 3 fun x3 => gI la 4 fun x4 => sE st (p_X6_fittingSets_31 (p_X6_fittingSets_4 n) FU a0 a1 x2 x3 x4 h)) k0))) (FI := FI_X6_fittingSets) (FV := FV_X6_fittingSets) (FL := fL0) (rt := rtI) (ft := 31) (by exact hd) ok_X6_fittingSets_4 (kx_ok (fun la st h e => by obtain ⟨x2, m_x2, e1⟩ := gI_inv e; obtain ⟨rfl, ez⟩ := sE_inv e1; exact gm_fewer (e_X6_fittingSets_114 E  x2 h ez) (mem_cons m_x2 mem_nil)) (kx_ok (fun la st h e => by obtain ⟨a0, m_a0, e1⟩ := gR_inv e; obtain ⟨a1, m_a1, e2⟩ := gR_inv e1; obtain ⟨x2, m_x2, e3⟩ := gI_inv e2; obtain ⟨x3, m_x3, e4⟩ := gI_inv e3; obtain ⟨x4, m_x4, e5⟩ := gI_inv e4; obtain ⟨rfl, ez⟩ := sE_inv e5; exact gm_fewer (e_X6_fittingSets_31 E ih FU a0 a1 x2 x3 x4 h ez) (mem_cons m_a0 (mem_cons m_a1 (mem_cons m_x2 (mem_cons m_x3 (mem_cons m_x4 mem_nil)))))) k0_ok)) (FI_X6_fittingSets_ok E) (FV_X6_fittingSets_ok E) (fL0_ok E) (rtI_ok rfl)
def I_X6_fittingSets_0 : List AI := [(.iconst 0, 1, [], 0), (.istore_n 2, 1, [], 0), (.iconst 0, 1, [], 0), (.istore_n 3, 1, [], 0)]
theorem ok_X6_fittingSets_0 : vBL MT qLen qCh false q_X6_fittingSets.2.2.2.2.1 q_X6_fittingSets.2.2.2.2.2.1 q_X6_fittingSets.2.2.1 q_X6_fittingSets.1.cls q_X6_fittingSets.1.name q_X6_fittingSets.2.1 4 0 I_X6_fittingSets_0 = true := by decide +kernel
def p_X6_fittingSets (a0 : Nat) (a1 : Nat) (h : AH) : Option (Int32 × AH) :=
  p_X6_fittingSets_4 FU a0 a1 ((0 : Int32)) ((0 : Int32)) h
set_option maxRecDepth 100000 in
theorem e_X6_fittingSets_0 {l : Launch} {D : va_G} {dA : Nat → ClassId} {z : Nat} {sa : Nat → Nat} {Hz : Heap} (E : StrOK qLen qCh l D dA z sa Hz) {h0 fin : AH} {x : Int32}  : ∀ (a0 : Nat) (a1 : Nat) (h : AH), p_X6_fittingSets a0 a1 h = some (x, fin) → GM l D dA z sa Hz q_X6_fittingSets h0 (some (.int x)) fin 0 [(0, .ref a0), (1, .ref a1)] [] h := by
  intro a0 a1 h hd
  exact step E (is := I_X6_fittingSets_0) (pc := 0) (K := (kx 4 (fun la st h => gR la 0 fun a0 => gR la 1 fun a1 => gI la 2 fun x2 => gI la 3 fun x3 => sE st (p_X6_fittingSets_4 FU a0 a1 x2 x3 h)) k0)) (FI := FI_X6_fittingSets) (FV := FV_X6_fittingSets) (FL := fL0) (rt := rtI) (ft := 4) (by exact hd) ok_X6_fittingSets_0 (kx_ok (fun la st h e => by obtain ⟨a0, m_a0, e1⟩ := gR_inv e; obtain ⟨a1, m_a1, e2⟩ := gR_inv e1; obtain ⟨x2, m_x2, e3⟩ := gI_inv e2; obtain ⟨x3, m_x3, e4⟩ := gI_inv e3; obtain ⟨rfl, ez⟩ := sE_inv e4; exact gm_fewer (e_X6_fittingSets_4 E  FU a0 a1 x2 x3 h ez) (mem_cons m_a0 (mem_cons m_a1 (mem_cons m_x2 (mem_cons m_x3 mem_nil))))) k0_ok) (FI_X6_fittingSets_ok E) (FV_X6_fittingSets_ok E) (fL0_ok E) (rtI_ok rfl)
theorem c_X6_fittingSets {l : Launch} {D : va_G} {dA : Nat → ClassId} {z : Nat} {sa : Nat → Nat} {Hz : Heap} (E : StrOK qLen qCh l D dA z sa Hz) {a0 : Nat} {a1 : Nat} {h fin : AH} {x : Int32} (hd : p_X6_fittingSets a0 a1 h = some (x, fin)) : CalOK l D dA z sa Hz q_X6_fittingSets [.ref a0, .ref a1] h (some (.int x)) fin := calOf (by decide +kernel) (Nat.le_of_ble_eq_true rfl) (e_X6_fittingSets_0 E a0 a1 h hd)
def FI_X7_fitting : Nat → List Value → AH → Option (Int32 × AH) := (cx 152 (fun As h => sR As fun a0 As => sR As fun a1 As => sE As (p_X6_fittingSets a0 a1 h)) fI0)
theorem FI_X7_fitting_ok {l : Launch} {D : va_G} {dA : Nat → ClassId} {z : Nat} {sa : Nat → Nat} {Hz : Heap} (E : StrOK qLen qCh l D dA z sa Hz) : ∀ mi As h x h', FI_X7_fitting mi As h = some (x, h') → CalOK l D dA z sa Hz (MT mi) As h (some (.int x)) h' := (cxI_ok (fun As h x h2 e => by obtain ⟨_, _, rfl, e0⟩ := sR_inv e; obtain ⟨_, _, rfl, e1⟩ := sR_inv e0; obtain ⟨rfl, ez⟩ := sE_inv e1; exact c_X6_fittingSets E ez) (fI0_ok E))
def I_X7_fitting_0 : List AI := [(.aload_n 0, 1, [], 0), (.getfield 19, 3, [6, 1, 2, 355], 0), (.aload_n 0, 1, [], 0), (.getfield 33, 3, [6, 5, 2, 359], 0), (.getfield 87, 3, [1, 1, 2, 321], 0), (.invokevirtual 366, 3, [1, 152, 2, 5, 1063], 0), (.ireturn, 1, [], 0)]
theorem ok_X7_fitting_0 : vBL MT qLen qCh false q_X7_fitting.2.2.2.2.1 q_X7_fitting.2.2.2.2.2.1 q_X7_fitting.2.2.1 q_X7_fitting.1.cls q_X7_fitting.1.name q_X7_fitting.2.1 0 0 I_X7_fitting_0 = true := by decide +kernel
def p_X7_fitting (a0 : Nat) (h : AH) : Option (Int32 × AH) :=
  if (tg h a0).1 = 6 then (if (tg h a0).1 = 6 then (if (tg h (rR h a0 5)).1 = 1 then (if (tg h (rR h a0 1)).1 = 5 then ((p_X6_fittingSets (rR h a0 1) (rR h (rR h a0 5) 1) h).bind fun q101 =>
  some (q101.1, q101.2)) else none) else none) else none) else none
set_option maxRecDepth 100000 in
theorem e_X7_fitting_0 {l : Launch} {D : va_G} {dA : Nat → ClassId} {z : Nat} {sa : Nat → Nat} {Hz : Heap} (E : StrOK qLen qCh l D dA z sa Hz) {h0 fin : AH} {x : Int32}  : ∀ (a0 : Nat) (h : AH), p_X7_fitting a0 h = some (x, fin) → GM l D dA z sa Hz q_X7_fitting h0 (some (.int x)) fin 0 [(0, .ref a0)] [] h := by
  intro a0 h hd
  exact step E (is := I_X7_fitting_0) (pc := 0) (K := k0) (FI := FI_X7_fitting) (FV := fV0) (FL := fL0) (rt := rtI) (ft := 0) (by exact hd) ok_X7_fitting_0 k0_ok (FI_X7_fitting_ok E) (fV0_ok E) (fL0_ok E) (rtI_ok rfl)
theorem c_X7_fitting {l : Launch} {D : va_G} {dA : Nat → ClassId} {z : Nat} {sa : Nat → Nat} {Hz : Heap} (E : StrOK qLen qCh l D dA z sa Hz) {a0 : Nat} {h fin : AH} {x : Int32} (hd : p_X7_fitting a0 h = some (x, fin)) : CalOK l D dA z sa Hz q_X7_fitting [.ref a0] h (some (.int x)) fin := calOf (by decide +kernel) (Nat.le_of_ble_eq_true rfl) (e_X7_fitting_0 E a0 h hd)
def I_J6_bitCount_0f7a4_0 : List AI := [(.iload_n 0, 1, [], 0), (.iload_n 0, 1, [], 0), (.iconst 1, 1, [], 1), (.iushr, 1, [], 0), (.ldc_w 265, 3, [0, 1077], 1431655765), (.iand, 1, [], 0), (.isub, 1, [], 0), (.istore_n 0, 1, [], 0), (.iload_n 0, 1, [], 0), (.ldc_w 266, 3, [0, 1078], 858993459), (.iand, 1, [], 0), (.iload_n 0, 1, [], 0), (.iconst 2, 1, [], 2), (.iushr, 1, [], 0), (.ldc_w 266, 3, [0, 1078], 858993459), (.iand, 1, [], 0), (.iadd, 1, [], 0), (.istore_n 0, 1, [], 0), (.iload_n 0, 1, [], 0), (.iload_n 0, 1, [], 0), (.iconst 4, 1, [], 4), (.iushr, 1, [], 0), (.iadd, 1, [], 0), (.ldc_w 267, 3, [0, 1079], 252645135), (.iand, 1, [], 0), (.istore_n 0, 1, [], 0), (.iload_n 0, 1, [], 0), (.iload_n 0, 1, [], 0), (.bipush 8, 2, [], 8), (.iushr, 1, [], 0), (.iadd, 1, [], 0), (.istore_n 0, 1, [], 0), (.iload_n 0, 1, [], 0), (.iload_n 0, 1, [], 0), (.bipush 16, 2, [], 16), (.iushr, 1, [], 0), (.iadd, 1, [], 0), (.istore_n 0, 1, [], 0), (.iload_n 0, 1, [], 0), (.bipush 63, 2, [], 63), (.iand, 1, [], 0), (.ireturn, 1, [], 0)]
theorem ok_J6_bitCount_0f7a4_0 : vBL MT qLen qCh false q_J6_bitCount_0f7a4.2.2.2.2.1 q_J6_bitCount_0f7a4.2.2.2.2.2.1 q_J6_bitCount_0f7a4.2.2.1 q_J6_bitCount_0f7a4.1.cls q_J6_bitCount_0f7a4.1.name q_J6_bitCount_0f7a4.2.1 0 0 I_J6_bitCount_0f7a4_0 = true := by decide +kernel
def p_J6_bitCount_0f7a4 (x0 : Int32) (h : AH) : Option (Int32 × AH) :=
  let x101 := x0 - (((x0.toUInt32 >>> (((1 : Int32)) &&& 31).toUInt32).toInt32) &&& ((1431655765 : Int32)))
  let x102 := (x101 &&& ((858993459 : Int32))) + (((x101.toUInt32 >>> (((2 : Int32)) &&& 31).toUInt32).toInt32) &&& ((858993459 : Int32)))
  let x103 := (x102 + ((x102.toUInt32 >>> (((4 : Int32)) &&& 31).toUInt32).toInt32)) &&& ((252645135 : Int32))
  let x104 := x103 + ((x103.toUInt32 >>> (((8 : Int32)) &&& 31).toUInt32).toInt32)
  let x105 := x104 + ((x104.toUInt32 >>> (((16 : Int32)) &&& 31).toUInt32).toInt32)
  some ((x105 &&& ((63 : Int32))), h)
set_option maxRecDepth 100000 in
theorem e_J6_bitCount_0f7a4_0 {l : Launch} {D : va_G} {dA : Nat → ClassId} {z : Nat} {sa : Nat → Nat} {Hz : Heap} (E : StrOK qLen qCh l D dA z sa Hz) {h0 fin : AH} {x : Int32}  : ∀ (x0 : Int32) (h : AH), p_J6_bitCount_0f7a4 x0 h = some (x, fin) → GM l D dA z sa Hz q_J6_bitCount_0f7a4 h0 (some (.int x)) fin 0 [(0, .int x0)] [] h := by
  intro x0 h hd
  exact step E (is := I_J6_bitCount_0f7a4_0) (pc := 0) (K := k0) (FI := fI0) (FV := fV0) (FL := fL0) (rt := rtI) (ft := 0) (by exact hd) ok_J6_bitCount_0f7a4_0 k0_ok (fI0_ok E) (fV0_ok E) (fL0_ok E) (rtI_ok rfl)
theorem c_J6_bitCount_0f7a4 {l : Launch} {D : va_G} {dA : Nat → ClassId} {z : Nat} {sa : Nat → Nat} {Hz : Heap} (E : StrOK qLen qCh l D dA z sa Hz) {x0 : Int32} {h fin : AH} {x : Int32} (hd : p_J6_bitCount_0f7a4 x0 h = some (x, fin)) : CalOK l D dA z sa Hz q_J6_bitCount_0f7a4 [.int x0] h (some (.int x)) fin := calOf (by decide +kernel) (Nat.le_of_ble_eq_true rfl) (e_J6_bitCount_0f7a4_0 E x0 h hd)
def FI_X7_fits : Nat → List Value → AH → Option (Int32 × AH) := (cx 153 (fun As h => sR As fun a0 As => sE As (p_X7_fitting a0 h)) (cx 154 (fun As h => sI As fun x0 As => sE As (p_J6_bitCount_0f7a4 x0 h)) (cx 50 (fun As h => sR As fun a0 As => sI As fun x1 As => sE As (p_X7_answer a0 x1 h)) (cx 9 (fun As h => sR As fun a0 As => sI As fun x1 As => sE As (p_X7_refuse a0 x1 h)) fI0))))
theorem FI_X7_fits_ok {l : Launch} {D : va_G} {dA : Nat → ClassId} {z : Nat} {sa : Nat → Nat} {Hz : Heap} (E : StrOK qLen qCh l D dA z sa Hz) : ∀ mi As h x h', FI_X7_fits mi As h = some (x, h') → CalOK l D dA z sa Hz (MT mi) As h (some (.int x)) h' := (cxI_ok (fun As h x h2 e => by obtain ⟨_, _, rfl, e0⟩ := sR_inv e; obtain ⟨rfl, ez⟩ := sE_inv e0; exact c_X7_fitting E ez) ((cxI_ok (fun As h x h2 e => by obtain ⟨_, _, rfl, e0⟩ := sI_inv e; obtain ⟨rfl, ez⟩ := sE_inv e0; exact c_J6_bitCount_0f7a4 E ez) ((cxI_ok (fun As h x h2 e => by obtain ⟨_, _, rfl, e0⟩ := sR_inv e; obtain ⟨_, _, rfl, e1⟩ := sI_inv e0; obtain ⟨rfl, ez⟩ := sE_inv e1; exact c_X7_answer E ez) ((cxI_ok (fun As h x h2 e => by obtain ⟨_, _, rfl, e0⟩ := sR_inv e; obtain ⟨_, _, rfl, e1⟩ := sI_inv e0; obtain ⟨rfl, ez⟩ := sE_inv e1; exact c_X7_refuse E ez) (fI0_ok E))))))))
def I_X7_fits_26 : List AI := [(.ireturn, 1, [], 0)]
theorem ok_X7_fits_26 : vBL MT qLen qCh false q_X7_fits.2.2.2.2.1 q_X7_fits.2.2.2.2.2.1 q_X7_fits.2.2.1 q_X7_fits.1.cls q_X7_fits.1.name q_X7_fits.2.1 0 26 I_X7_fits_26 = true := by decide +kernel
def p_X7_fits_26 (y0 : Int32) (h : AH) : Option (Int32 × AH) :=
  some (y0, h)
set_option maxRecDepth 100000 in
theorem e_X7_fits_26 {l : Launch} {D : va_G} {dA : Nat → ClassId} {z : Nat} {sa : Nat → Nat} {Hz : Heap} (E : StrOK qLen qCh l D dA z sa Hz) {h0 fin : AH} {x : Int32}  : ∀ (y0 : Int32) (h : AH), p_X7_fits_26 y0 h = some (x, fin) → GM l D dA z sa Hz q_X7_fits h0 (some (.int x)) fin 26 [] [.int y0] h := by
  intro y0 h hd
  exact step E (is := I_X7_fits_26) (pc := 26) (K := k0) (FI := FI_X7_fits) (FV := fV0) (FL := fL0) (rt := rtI) (ft := 0) (by exact hd) ok_X7_fits_26 k0_ok (FI_X7_fits_ok E) (fV0_ok E) (fL0_ok E) (rtI_ok rfl)
def I_X7_fits_21 : List AI := [(.aload_n 0, 1, [], 0), (.iconst 1, 1, [], 1), (.invokevirtual 54, 3, [1, 9, 2, 6, 403], 0)]
theorem ok_X7_fits_21 : vBL MT qLen qCh false q_X7_fits.2.2.2.2.1 q_X7_fits.2.2.2.2.2.1 q_X7_fits.2.2.1 q_X7_fits.1.cls q_X7_fits.1.name q_X7_fits.2.1 26 21 I_X7_fits_21 = true := by decide +kernel
def p_X7_fits_21 (a0 : Nat) (h : AH) : Option (Int32 × AH) :=
  if (tg h a0).1 = 6 then ((p_X7_refuse a0 ((1 : Int32)) h).bind fun q101 =>
  p_X7_fits_26 q101.1 q101.2) else none
set_option maxRecDepth 100000 in
theorem e_X7_fits_21 {l : Launch} {D : va_G} {dA : Nat → ClassId} {z : Nat} {sa : Nat → Nat} {Hz : Heap} (E : StrOK qLen qCh l D dA z sa Hz) {h0 fin : AH} {x : Int32}  : ∀ (a0 : Nat) (h : AH), p_X7_fits_21 a0 h = some (x, fin) → GM l D dA z sa Hz q_X7_fits h0 (some (.int x)) fin 21 [(0, .ref a0)] [] h := by
  intro a0 h hd
  exact step E (is := I_X7_fits_21) (pc := 21) (K := (kx 26 (fun la st h => sI st fun y0 st => sE st (p_X7_fits_26 y0 h)) k0)) (FI := FI_X7_fits) (FV := fV0) (FL := fL0) (rt := rtI) (ft := 26) (by exact hd) ok_X7_fits_21 (kx_ok (fun la st h e => by obtain ⟨y0, _, rfl, e1⟩ := sI_inv e; obtain ⟨rfl, ez⟩ := sE_inv e1; exact gm_fewer (e_X7_fits_26 E  y0 h ez) mem_nil) k0_ok) (FI_X7_fits_ok E) (fV0_ok E) (fL0_ok E) (rtI_ok rfl)
def I_X7_fits_0 : List AI := [(.aload_n 0, 1, [], 0), (.getfield 107, 3, [6, 3, 3, 357], 0), (.ifCond .eq 17, 3, [21], 0), (.aload_n 0, 1, [], 0), (.aload_n 0, 1, [], 0), (.invokevirtual 230, 3, [1, 153, 1, 6, 1059], 0), (.invokestatic 233, 3, [1, 154, 1, 1074], 0), (.invokevirtual 68, 3, [1, 50, 2, 6, 633], 0), (.goto 8, 3, [26], 0)]
theorem ok_X7_fits_0 : vBL MT qLen qCh false q_X7_fits.2.2.2.2.1 q_X7_fits.2.2.2.2.2.1 q_X7_fits.2.2.1 q_X7_fits.1.cls q_X7_fits.1.name q_X7_fits.2.1 0 0 I_X7_fits_0 = true := by decide +kernel
def p_X7_fits (a0 : Nat) (h : AH) : Option (Int32 × AH) :=
  if (tg h a0).1 = 6 then (if (rI h a0 3) = 0 then (if (tg h a0).1 = 6 then ((p_X7_refuse a0 ((1 : Int32)) h).bind fun q102 =>
  p_X7_fits_26 q102.1 q102.2) else none)
  else
  if (tg h a0).1 = 6 then ((p_X7_fitting a0 h).bind fun q103 =>
  (p_J6_bitCount_0f7a4 q103.1 q103.2).bind fun q104 =>
  if (tg q104.2 a0).1 = 6 then ((p_X7_answer a0 q104.1 q104.2).bind fun q105 =>
  p_X7_fits_26 q105.1 q105.2) else none) else none) else none
set_option maxRecDepth 100000 in
theorem e_X7_fits_0 {l : Launch} {D : va_G} {dA : Nat → ClassId} {z : Nat} {sa : Nat → Nat} {Hz : Heap} (E : StrOK qLen qCh l D dA z sa Hz) {h0 fin : AH} {x : Int32}  : ∀ (a0 : Nat) (h : AH), p_X7_fits a0 h = some (x, fin) → GM l D dA z sa Hz q_X7_fits h0 (some (.int x)) fin 0 [(0, .ref a0)] [] h := by
  intro a0 h hd
  exact step E (is := I_X7_fits_0) (pc := 0) (K := (kx 21 (fun la st h => gR la 0 fun a0 => sE st (p_X7_fits_21 a0 h)) (kx 26 (fun la st h => sI st fun y0 st => sE st (p_X7_fits_26 y0 h)) k0))) (FI := FI_X7_fits) (FV := fV0) (FL := fL0) (rt := rtI) (ft := 0) (by exact hd) ok_X7_fits_0 (kx_ok (fun la st h e => by obtain ⟨a0, m_a0, e1⟩ := gR_inv e; obtain ⟨rfl, ez⟩ := sE_inv e1; exact gm_fewer (e_X7_fits_21 E  a0 h ez) (mem_cons m_a0 mem_nil)) (kx_ok (fun la st h e => by obtain ⟨y0, _, rfl, e1⟩ := sI_inv e; obtain ⟨rfl, ez⟩ := sE_inv e1; exact gm_fewer (e_X7_fits_26 E  y0 h ez) mem_nil) k0_ok)) (FI_X7_fits_ok E) (fV0_ok E) (fL0_ok E) (rtI_ok rfl)
theorem c_X7_fits {l : Launch} {D : va_G} {dA : Nat → ClassId} {z : Nat} {sa : Nat → Nat} {Hz : Heap} (E : StrOK qLen qCh l D dA z sa Hz) {a0 : Nat} {h fin : AH} {x : Int32} (hd : p_X7_fits a0 h = some (x, fin)) : CalOK l D dA z sa Hz q_X7_fits [.ref a0] h (some (.int x)) fin := calOf (by decide +kernel) (Nat.le_of_ble_eq_true rfl) (e_X7_fits_0 E a0 h hd)
def FI_X0_setAt : Nat → List Value → AH → Option (Int32 × AH) := (cx 60 (fun As h => sI As fun x0 As => sI As fun x1 As => sE As (p_X7_has x0 x1 h)) fI0)
theorem FI_X0_setAt_ok {l : Launch} {D : va_G} {dA : Nat → ClassId} {z : Nat} {sa : Nat → Nat} {Hz : Heap} (E : StrOK qLen qCh l D dA z sa Hz) : ∀ mi As h x h', FI_X0_setAt mi As h = some (x, h') → CalOK l D dA z sa Hz (MT mi) As h (some (.int x)) h' := (cxI_ok (fun As h x h2 e => by obtain ⟨_, _, rfl, e0⟩ := sI_inv e; obtain ⟨_, _, rfl, e1⟩ := sI_inv e0; obtain ⟨rfl, ez⟩ := sE_inv e1; exact c_X7_has E ez) (fI0_ok E))
def I_X0_setAt_35 : List AI := [(.iconst (-1), 1, [], (-1)), (.ireturn, 1, [], 0)]
theorem ok_X0_setAt_35 : vBL MT qLen qCh false q_X0_setAt.2.2.2.2.1 q_X0_setAt.2.2.2.2.2.1 q_X0_setAt.2.2.1 q_X0_setAt.1.cls q_X0_setAt.1.name q_X0_setAt.2.1 0 35 I_X0_setAt_35 = true := by decide +kernel
def p_X0_setAt_35 (h : AH) : Option (Int32 × AH) :=
  some (((-1 : Int32)), h)
set_option maxRecDepth 100000 in
theorem e_X0_setAt_35 {l : Launch} {D : va_G} {dA : Nat → ClassId} {z : Nat} {sa : Nat → Nat} {Hz : Heap} (E : StrOK qLen qCh l D dA z sa Hz) {h0 fin : AH} {x : Int32}  : ∀  (h : AH), p_X0_setAt_35 h = some (x, fin) → GM l D dA z sa Hz q_X0_setAt h0 (some (.int x)) fin 35 [] [] h := by
  intro h hd
  exact step E (is := I_X0_setAt_35) (pc := 35) (K := k0) (FI := FI_X0_setAt) (FV := fV0) (FL := fL0) (rt := rtI) (ft := 0) (by exact hd) ok_X0_setAt_35 k0_ok (FI_X0_setAt_ok E) (fV0_ok E) (fL0_ok E) (rtI_ok rfl)
def I_X0_setAt_29 : List AI := [(.iinc 3 1, 3, [], 1), (.goto (-28), 3, [4], 0)]
theorem ok_X0_setAt_29 : vBL MT qLen qCh false q_X0_setAt.2.2.2.2.1 q_X0_setAt.2.2.2.2.2.1 q_X0_setAt.2.2.1 q_X0_setAt.1.cls q_X0_setAt.1.name q_X0_setAt.2.1 0 29 I_X0_setAt_29 = true := by decide +kernel
def p_X0_setAt_29 (k4 : Int32 → Int32 → Int32 → AH → Option (Int32 × AH)) (x0 : Int32) (x2 : Int32) (x3 : Int32) (h : AH) : Option (Int32 × AH) :=
  k4 x0 x2 (x3 + (1 : Int32)) h
set_option maxRecDepth 100000 in
theorem e_X0_setAt_29 {l : Launch} {D : va_G} {dA : Nat → ClassId} {z : Nat} {sa : Nat → Nat} {Hz : Heap} (E : StrOK qLen qCh l D dA z sa Hz) {h0 fin : AH} {x : Int32}  {k4 : Int32 → Int32 → Int32 → AH → Option (Int32 × AH)} (hk4 : ∀ (x0 : Int32) (x2 : Int32) (x3 : Int32) (h : AH), k4 x0 x2 x3 h = some (x, fin) → GM l D dA z sa Hz q_X0_setAt h0 (some (.int x)) fin 4 [(0, .int x0), (2, .int x2), (3, .int x3)] [] h) : ∀ (x0 : Int32) (x2 : Int32) (x3 : Int32) (h : AH), p_X0_setAt_29 k4 x0 x2 x3 h = some (x, fin) → GM l D dA z sa Hz q_X0_setAt h0 (some (.int x)) fin 29 [(0, .int x0), (2, .int x2), (3, .int x3)] [] h := by
  intro x0 x2 x3 h hd
  exact step E (is := I_X0_setAt_29) (pc := 29) (K := (kx 4 (fun la st h => gI la 0 fun x0 => gI la 2 fun x2 => gI la 3 fun x3 => sE st (k4 x0 x2 x3 h)) k0)) (FI := FI_X0_setAt) (FV := fV0) (FL := fL0) (rt := rtI) (ft := 0) (by exact hd) ok_X0_setAt_29 (kx_ok (fun la st h e => by obtain ⟨x0, m_x0, e1⟩ := gI_inv e; obtain ⟨x2, m_x2, e2⟩ := gI_inv e1; obtain ⟨x3, m_x3, e3⟩ := gI_inv e2; obtain ⟨rfl, ez⟩ := sE_inv e3; exact gm_fewer (hk4 x0 x2 x3 h ez) (mem_cons m_x0 (mem_cons m_x2 (mem_cons m_x3 mem_nil)))) k0_ok) (FI_X0_setAt_ok E) (fV0_ok E) (fL0_ok E) (rtI_ok rfl)
def I_X0_setAt_26 : List AI := [(.iinc 2 (-1), 3, [], (-1))]
theorem ok_X0_setAt_26 : vBL MT qLen qCh false q_X0_setAt.2.2.2.2.1 q_X0_setAt.2.2.2.2.2.1 q_X0_setAt.2.2.1 q_X0_setAt.1.cls q_X0_setAt.1.name q_X0_setAt.2.1 29 26 I_X0_setAt_26 = true := by decide +kernel
def p_X0_setAt_26 (k4 : Int32 → Int32 → Int32 → AH → Option (Int32 × AH)) (x0 : Int32) (x2 : Int32) (x3 : Int32) (h : AH) : Option (Int32 × AH) :=
  p_X0_setAt_29 k4 x0 (x2 + (-1 : Int32)) x3 h
set_option maxRecDepth 100000 in
theorem e_X0_setAt_26 {l : Launch} {D : va_G} {dA : Nat → ClassId} {z : Nat} {sa : Nat → Nat} {Hz : Heap} (E : StrOK qLen qCh l D dA z sa Hz) {h0 fin : AH} {x : Int32}  {k4 : Int32 → Int32 → Int32 → AH → Option (Int32 × AH)} (hk4 : ∀ (x0 : Int32) (x2 : Int32) (x3 : Int32) (h : AH), k4 x0 x2 x3 h = some (x, fin) → GM l D dA z sa Hz q_X0_setAt h0 (some (.int x)) fin 4 [(0, .int x0), (2, .int x2), (3, .int x3)] [] h) : ∀ (x0 : Int32) (x2 : Int32) (x3 : Int32) (h : AH), p_X0_setAt_26 k4 x0 x2 x3 h = some (x, fin) → GM l D dA z sa Hz q_X0_setAt h0 (some (.int x)) fin 26 [(0, .int x0), (2, .int x2), (3, .int x3)] [] h := by
  intro x0 x2 x3 h hd
  exact step E (is := I_X0_setAt_26) (pc := 26) (K := (kx 29 (fun la st h => gI la 0 fun x0 => gI la 2 fun x2 => gI la 3 fun x3 => sE st (p_X0_setAt_29 k4 x0 x2 x3 h)) k0)) (FI := FI_X0_setAt) (FV := fV0) (FL := fL0) (rt := rtI) (ft := 29) (by exact hd) ok_X0_setAt_26 (kx_ok (fun la st h e => by obtain ⟨x0, m_x0, e1⟩ := gI_inv e; obtain ⟨x2, m_x2, e2⟩ := gI_inv e1; obtain ⟨x3, m_x3, e3⟩ := gI_inv e2; obtain ⟨rfl, ez⟩ := sE_inv e3; exact gm_fewer (e_X0_setAt_29 E hk4 x0 x2 x3 h ez) (mem_cons m_x0 (mem_cons m_x2 (mem_cons m_x3 mem_nil)))) k0_ok) (FI_X0_setAt_ok E) (fV0_ok E) (fL0_ok E) (rtI_ok rfl)
def I_X0_setAt_4 : List AI := [(.iload_n 3, 1, [], 0), (.bipush 16, 2, [], 16), (.if_icmp .ge 28, 3, [35], 0), (.iload_n 0, 1, [], 0), (.iconst 1, 1, [], 1), (.iload_n 3, 1, [], 0), (.ishl, 1, [], 0), (.invokestatic 11, 3, [1, 60, 2, 1087], 0), (.ifCond .eq 12, 3, [29], 0), (.iload_n 2, 1, [], 0), (.ifCond .ne 5, 3, [26], 0), (.iload_n 3, 1, [], 0), (.ireturn, 1, [], 0)]
theorem ok_X0_setAt_4 : vBL MT qLen qCh false q_X0_setAt.2.2.2.2.1 q_X0_setAt.2.2.2.2.2.1 q_X0_setAt.2.2.1 q_X0_setAt.1.cls q_X0_setAt.1.name q_X0_setAt.2.1 0 4 I_X0_setAt_4 = true := by decide +kernel
def p_X0_setAt_4 : Nat → Int32 → Int32 → Int32 → AH → Option (Int32 × AH)
  | 0, _, _, _, _ => none
  | n + 1, x0, x2, x3, h => if x3 < ((16 : Int32)) then ((p_X7_has x0 (((1 : Int32)) <<< (x3 &&& 31)) h).bind fun q101 =>
    if q101.1 = 0 then (p_X0_setAt_29 (p_X0_setAt_4 n) x0 x2 x3 q101.2)
    else
    if x2 = 0 then (some (x3, q101.2))
    else
    p_X0_setAt_29 (p_X0_setAt_4 n) x0 (x2 + (-1 : Int32)) x3 q101.2)
    else
    some (((-1 : Int32)), h)
set_option maxRecDepth 100000 in
theorem e_X0_setAt_4 {l : Launch} {D : va_G} {dA : Nat → ClassId} {z : Nat} {sa : Nat → Nat} {Hz : Heap} (E : StrOK qLen qCh l D dA z sa Hz) {h0 fin : AH} {x : Int32}  : ∀ (n : Nat) (x0 : Int32) (x2 : Int32) (x3 : Int32) (h : AH), p_X0_setAt_4 n x0 x2 x3 h = some (x, fin) → GM l D dA z sa Hz q_X0_setAt h0 (some (.int x)) fin 4 [(0, .int x0), (2, .int x2), (3, .int x3)] [] h := by
  intro n
  induction n with
  | zero => intro x0 x2 x3 h hd; exact nomatch hd
  | succ n ih =>
    intro x0 x2 x3 h hd
    exact step E (is := I_X0_setAt_4) (pc := 4) (K := (kx 35 (fun la st h => sE st (p_X0_setAt_35 h)) (kx 29 (fun la st h => gI la 0 fun x0 => gI la 2 fun x2 => gI la 3 fun x3 => sE st (p_X0_setAt_29 (p_X0_setAt_4 n) x0 x2 x3 h)) (kx 26 (fun la st h => gI la 0 fun x0 => gI la 2 fun x2 => gI la 3 fun x3 => sE st (p_X0_setAt_26 (p_X0_setAt_4 n) x0 x2 x3 h)) k0)))) (FI := FI_X0_setAt) (FV := fV0) (FL := fL0) (rt := rtI) (ft := 0) (by exact hd) ok_X0_setAt_4 (kx_ok (fun la st h e => by obtain ⟨rfl, ez⟩ := sE_inv e; exact gm_fewer (e_X0_setAt_35 E   h ez) mem_nil) (kx_ok (fun la st h e => by obtain ⟨x0, m_x0, e1⟩ := gI_inv e; obtain ⟨x2, m_x2, e2⟩ := gI_inv e1; obtain ⟨x3, m_x3, e3⟩ := gI_inv e2; obtain ⟨rfl, ez⟩ := sE_inv e3; exact gm_fewer (e_X0_setAt_29 E ih x0 x2 x3 h ez) (mem_cons m_x0 (mem_cons m_x2 (mem_cons m_x3 mem_nil)))) (kx_ok (fun la st h e => by obtain ⟨x0, m_x0, e1⟩ := gI_inv e; obtain ⟨x2, m_x2, e2⟩ := gI_inv e1; obtain ⟨x3, m_x3, e3⟩ := gI_inv e2; obtain ⟨rfl, ez⟩ := sE_inv e3; exact gm_fewer (e_X0_setAt_26 E ih x0 x2 x3 h ez) (mem_cons m_x0 (mem_cons m_x2 (mem_cons m_x3 mem_nil)))) k0_ok))) (FI_X0_setAt_ok E) (fV0_ok E) (fL0_ok E) (rtI_ok rfl)
def I_X0_setAt_0 : List AI := [(.iload_n 1, 1, [], 0), (.istore_n 2, 1, [], 0), (.iconst 0, 1, [], 0), (.istore_n 3, 1, [], 0)]
theorem ok_X0_setAt_0 : vBL MT qLen qCh false q_X0_setAt.2.2.2.2.1 q_X0_setAt.2.2.2.2.2.1 q_X0_setAt.2.2.1 q_X0_setAt.1.cls q_X0_setAt.1.name q_X0_setAt.2.1 4 0 I_X0_setAt_0 = true := by decide +kernel
def p_X0_setAt (x0 : Int32) (x1 : Int32) (h : AH) : Option (Int32 × AH) :=
  p_X0_setAt_4 FU x0 x1 ((0 : Int32)) h
set_option maxRecDepth 100000 in
theorem e_X0_setAt_0 {l : Launch} {D : va_G} {dA : Nat → ClassId} {z : Nat} {sa : Nat → Nat} {Hz : Heap} (E : StrOK qLen qCh l D dA z sa Hz) {h0 fin : AH} {x : Int32}  : ∀ (x0 : Int32) (x1 : Int32) (h : AH), p_X0_setAt x0 x1 h = some (x, fin) → GM l D dA z sa Hz q_X0_setAt h0 (some (.int x)) fin 0 [(0, .int x0), (1, .int x1)] [] h := by
  intro x0 x1 h hd
  exact step E (is := I_X0_setAt_0) (pc := 0) (K := (kx 4 (fun la st h => gI la 0 fun x0 => gI la 2 fun x2 => gI la 3 fun x3 => sE st (p_X0_setAt_4 FU x0 x2 x3 h)) k0)) (FI := FI_X0_setAt) (FV := fV0) (FL := fL0) (rt := rtI) (ft := 4) (by exact hd) ok_X0_setAt_0 (kx_ok (fun la st h e => by obtain ⟨x0, m_x0, e1⟩ := gI_inv e; obtain ⟨x2, m_x2, e2⟩ := gI_inv e1; obtain ⟨x3, m_x3, e3⟩ := gI_inv e2; obtain ⟨rfl, ez⟩ := sE_inv e3; exact gm_fewer (e_X0_setAt_4 E  FU x0 x2 x3 h ez) (mem_cons m_x0 (mem_cons m_x2 (mem_cons m_x3 mem_nil)))) k0_ok) (FI_X0_setAt_ok E) (fV0_ok E) (fL0_ok E) (rtI_ok rfl)
theorem c_X0_setAt {l : Launch} {D : va_G} {dA : Nat → ClassId} {z : Nat} {sa : Nat → Nat} {Hz : Heap} (E : StrOK qLen qCh l D dA z sa Hz) {x0 : Int32} {x1 : Int32} {h fin : AH} {x : Int32} (hd : p_X0_setAt x0 x1 h = some (x, fin)) : CalOK l D dA z sa Hz q_X0_setAt [.int x0, .int x1] h (some (.int x)) fin := calOf (by decide +kernel) (Nat.le_of_ble_eq_true rfl) (e_X0_setAt_0 E x0 x1 h hd)
def FI_X7_fitAt : Nat → List Value → AH → Option (Int32 × AH) := (cx 153 (fun As h => sR As fun a0 As => sE As (p_X7_fitting a0 h)) (cx 156 (fun As h => sI As fun x0 As => sI As fun x1 As => sE As (p_X0_setAt x0 x1 h)) (cx 9 (fun As h => sR As fun a0 As => sI As fun x1 As => sE As (p_X7_refuse a0 x1 h)) (cx 50 (fun As h => sR As fun a0 As => sI As fun x1 As => sE As (p_X7_answer a0 x1 h)) fI0))))
theorem FI_X7_fitAt_ok {l : Launch} {D : va_G} {dA : Nat → ClassId} {z : Nat} {sa : Nat → Nat} {Hz : Heap} (E : StrOK qLen qCh l D dA z sa Hz) : ∀ mi As h x h', FI_X7_fitAt mi As h = some (x, h') → CalOK l D dA z sa Hz (MT mi) As h (some (.int x)) h' := (cxI_ok (fun As h x h2 e => by obtain ⟨_, _, rfl, e0⟩ := sR_inv e; obtain ⟨rfl, ez⟩ := sE_inv e0; exact c_X7_fitting E ez) ((cxI_ok (fun As h x h2 e => by obtain ⟨_, _, rfl, e0⟩ := sI_inv e; obtain ⟨_, _, rfl, e1⟩ := sI_inv e0; obtain ⟨rfl, ez⟩ := sE_inv e1; exact c_X0_setAt E ez) ((cxI_ok (fun As h x h2 e => by obtain ⟨_, _, rfl, e0⟩ := sR_inv e; obtain ⟨_, _, rfl, e1⟩ := sI_inv e0; obtain ⟨rfl, ez⟩ := sE_inv e1; exact c_X7_refuse E ez) ((cxI_ok (fun As h x h2 e => by obtain ⟨_, _, rfl, e0⟩ := sR_inv e; obtain ⟨_, _, rfl, e1⟩ := sI_inv e0; obtain ⟨rfl, ez⟩ := sE_inv e1; exact c_X7_answer E ez) (fI0_ok E))))))))
def I_X7_fitAt_38 : List AI := [(.ireturn, 1, [], 0)]
theorem ok_X7_fitAt_38 : vBL MT qLen qCh false q_X7_fitAt.2.2.2.2.1 q_X7_fitAt.2.2.2.2.2.1 q_X7_fitAt.2.2.1 q_X7_fitAt.1.cls q_X7_fitAt.1.name q_X7_fitAt.2.1 0 38 I_X7_fitAt_38 = true := by decide +kernel
def p_X7_fitAt_38 (y0 : Int32) (h : AH) : Option (Int32 × AH) :=
  some (y0, h)
set_option maxRecDepth 100000 in
theorem e_X7_fitAt_38 {l : Launch} {D : va_G} {dA : Nat → ClassId} {z : Nat} {sa : Nat → Nat} {Hz : Heap} (E : StrOK qLen qCh l D dA z sa Hz) {h0 fin : AH} {x : Int32}  : ∀ (y0 : Int32) (h : AH), p_X7_fitAt_38 y0 h = some (x, fin) → GM l D dA z sa Hz q_X7_fitAt h0 (some (.int x)) fin 38 [] [.int y0] h := by
  intro y0 h hd
  exact step E (is := I_X7_fitAt_38) (pc := 38) (K := k0) (FI := FI_X7_fitAt) (FV := fV0) (FL := fL0) (rt := rtI) (ft := 0) (by exact hd) ok_X7_fitAt_38 k0_ok (FI_X7_fitAt_ok E) (fV0_ok E) (fL0_ok E) (rtI_ok rfl)
def I_X7_fitAt_33 : List AI := [(.aload_n 0, 1, [], 0), (.iload_n 2, 1, [], 0), (.invokevirtual 68, 3, [1, 50, 2, 6, 633], 0)]
theorem ok_X7_fitAt_33 : vBL MT qLen qCh false q_X7_fitAt.2.2.2.2.1 q_X7_fitAt.2.2.2.2.2.1 q_X7_fitAt.2.2.1 q_X7_fitAt.1.cls q_X7_fitAt.1.name q_X7_fitAt.2.1 38 33 I_X7_fitAt_33 = true := by decide +kernel
def p_X7_fitAt_33 (a0 : Nat) (x2 : Int32) (h : AH) : Option (Int32 × AH) :=
  if (tg h a0).1 = 6 then ((p_X7_answer a0 x2 h).bind fun q101 =>
  p_X7_fitAt_38 q101.1 q101.2) else none
set_option maxRecDepth 100000 in
theorem e_X7_fitAt_33 {l : Launch} {D : va_G} {dA : Nat → ClassId} {z : Nat} {sa : Nat → Nat} {Hz : Heap} (E : StrOK qLen qCh l D dA z sa Hz) {h0 fin : AH} {x : Int32}  : ∀ (a0 : Nat) (x2 : Int32) (h : AH), p_X7_fitAt_33 a0 x2 h = some (x, fin) → GM l D dA z sa Hz q_X7_fitAt h0 (some (.int x)) fin 33 [(0, .ref a0), (2, .int x2)] [] h := by
  intro a0 x2 h hd
  exact step E (is := I_X7_fitAt_33) (pc := 33) (K := (kx 38 (fun la st h => sI st fun y0 st => sE st (p_X7_fitAt_38 y0 h)) k0)) (FI := FI_X7_fitAt) (FV := fV0) (FL := fL0) (rt := rtI) (ft := 38) (by exact hd) ok_X7_fitAt_33 (kx_ok (fun la st h e => by obtain ⟨y0, _, rfl, e1⟩ := sI_inv e; obtain ⟨rfl, ez⟩ := sE_inv e1; exact gm_fewer (e_X7_fitAt_38 E  y0 h ez) mem_nil) k0_ok) (FI_X7_fitAt_ok E) (fV0_ok E) (fL0_ok E) (rtI_ok rfl)
def I_X7_fitAt_19 : List AI := [(.istore_n 2, 1, [], 0), (.iload_n 2, 1, [], 0), (.iconst (-1), 1, [], (-1)), (.if_icmp .ne 11, 3, [33], 0), (.aload_n 0, 1, [], 0), (.iconst 1, 1, [], 1), (.invokevirtual 54, 3, [1, 9, 2, 6, 403], 0), (.goto 8, 3, [38], 0)]
theorem ok_X7_fitAt_19 : vBL MT qLen qCh false q_X7_fitAt.2.2.2.2.1 q_X7_fitAt.2.2.2.2.2.1 q_X7_fitAt.2.2.1 q_X7_fitAt.1.cls q_X7_fitAt.1.name q_X7_fitAt.2.1 0 19 I_X7_fitAt_19 = true := by decide +kernel
def p_X7_fitAt_19 (a0 : Nat) (y0 : Int32) (h : AH) : Option (Int32 × AH) :=
  if y0 = ((-1 : Int32)) then (if (tg h a0).1 = 6 then ((p_X7_refuse a0 ((1 : Int32)) h).bind fun q103 =>
  p_X7_fitAt_38 q103.1 q103.2) else none)
  else
  if (tg h a0).1 = 6 then ((p_X7_answer a0 y0 h).bind fun q102 =>
  p_X7_fitAt_38 q102.1 q102.2) else none
set_option maxRecDepth 100000 in
theorem e_X7_fitAt_19 {l : Launch} {D : va_G} {dA : Nat → ClassId} {z : Nat} {sa : Nat → Nat} {Hz : Heap} (E : StrOK qLen qCh l D dA z sa Hz) {h0 fin : AH} {x : Int32}  : ∀ (a0 : Nat) (y0 : Int32) (h : AH), p_X7_fitAt_19 a0 y0 h = some (x, fin) → GM l D dA z sa Hz q_X7_fitAt h0 (some (.int x)) fin 19 [(0, .ref a0)] [.int y0] h := by
  intro a0 y0 h hd
  exact step E (is := I_X7_fitAt_19) (pc := 19) (K := (kx 33 (fun la st h => gR la 0 fun a0 => gI la 2 fun x2 => sE st (p_X7_fitAt_33 a0 x2 h)) (kx 38 (fun la st h => sI st fun y0 st => sE st (p_X7_fitAt_38 y0 h)) k0))) (FI := FI_X7_fitAt) (FV := fV0) (FL := fL0) (rt := rtI) (ft := 0) (by exact hd) ok_X7_fitAt_19 (kx_ok (fun la st h e => by obtain ⟨a0, m_a0, e1⟩ := gR_inv e; obtain ⟨x2, m_x2, e2⟩ := gI_inv e1; obtain ⟨rfl, ez⟩ := sE_inv e2; exact gm_fewer (e_X7_fitAt_33 E  a0 x2 h ez) (mem_cons m_a0 (mem_cons m_x2 mem_nil))) (kx_ok (fun la st h e => by obtain ⟨y0, _, rfl, e1⟩ := sI_inv e; obtain ⟨rfl, ez⟩ := sE_inv e1; exact gm_fewer (e_X7_fitAt_38 E  y0 h ez) mem_nil) k0_ok)) (FI_X7_fitAt_ok E) (fV0_ok E) (fL0_ok E) (rtI_ok rfl)
def I_X7_fitAt_18 : List AI := [(.iconst (-1), 1, [], (-1))]
theorem ok_X7_fitAt_18 : vBL MT qLen qCh false q_X7_fitAt.2.2.2.2.1 q_X7_fitAt.2.2.2.2.2.1 q_X7_fitAt.2.2.1 q_X7_fitAt.1.cls q_X7_fitAt.1.name q_X7_fitAt.2.1 19 18 I_X7_fitAt_18 = true := by decide +kernel
def p_X7_fitAt_18 (a0 : Nat) (h : AH) : Option (Int32 × AH) :=
  p_X7_fitAt_19 a0 ((-1 : Int32)) h
set_option maxRecDepth 100000 in
theorem e_X7_fitAt_18 {l : Launch} {D : va_G} {dA : Nat → ClassId} {z : Nat} {sa : Nat → Nat} {Hz : Heap} (E : StrOK qLen qCh l D dA z sa Hz) {h0 fin : AH} {x : Int32}  : ∀ (a0 : Nat) (h : AH), p_X7_fitAt_18 a0 h = some (x, fin) → GM l D dA z sa Hz q_X7_fitAt h0 (some (.int x)) fin 18 [(0, .ref a0)] [] h := by
  intro a0 h hd
  exact step E (is := I_X7_fitAt_18) (pc := 18) (K := (kx 19 (fun la st h => gR la 0 fun a0 => sI st fun y0 st => sE st (p_X7_fitAt_19 a0 y0 h)) k0)) (FI := FI_X7_fitAt) (FV := fV0) (FL := fL0) (rt := rtI) (ft := 19) (by exact hd) ok_X7_fitAt_18 (kx_ok (fun la st h e => by obtain ⟨a0, m_a0, e1⟩ := gR_inv e; obtain ⟨y0, _, rfl, e2⟩ := sI_inv e1; obtain ⟨rfl, ez⟩ := sE_inv e2; exact gm_fewer (e_X7_fitAt_19 E  a0 y0 h ez) (mem_cons m_a0 mem_nil)) k0_ok) (FI_X7_fitAt_ok E) (fV0_ok E) (fL0_ok E) (rtI_ok rfl)
def I_X7_fitAt_0 : List AI := [(.aload_n 0, 1, [], 0), (.getfield 107, 3, [6, 3, 3, 357], 0), (.ifCond .eq 14, 3, [18], 0), (.aload_n 0, 1, [], 0), (.invokevirtual 230, 3, [1, 153, 1, 6, 1059], 0), (.iload_n 1, 1, [], 0), (.invokestatic 238, 3, [1, 156, 2, 1084], 0), (.goto 4, 3, [19], 0)]
theorem ok_X7_fitAt_0 : vBL MT qLen qCh false q_X7_fitAt.2.2.2.2.1 q_X7_fitAt.2.2.2.2.2.1 q_X7_fitAt.2.2.1 q_X7_fitAt.1.cls q_X7_fitAt.1.name q_X7_fitAt.2.1 0 0 I_X7_fitAt_0 = true := by decide +kernel
def p_X7_fitAt (a0 : Nat) (x1 : Int32) (h : AH) : Option (Int32 × AH) :=
  if (tg h a0).1 = 6 then (if (rI h a0 3) = 0 then (p_X7_fitAt_19 a0 ((-1 : Int32)) h)
  else
  if (tg h a0).1 = 6 then ((p_X7_fitting a0 h).bind fun q104 =>
  (p_X0_setAt q104.1 x1 q104.2).bind fun q105 =>
  p_X7_fitAt_19 a0 q105.1 q105.2) else none) else none
set_option maxRecDepth 100000 in
theorem e_X7_fitAt_0 {l : Launch} {D : va_G} {dA : Nat → ClassId} {z : Nat} {sa : Nat → Nat} {Hz : Heap} (E : StrOK qLen qCh l D dA z sa Hz) {h0 fin : AH} {x : Int32}  : ∀ (a0 : Nat) (x1 : Int32) (h : AH), p_X7_fitAt a0 x1 h = some (x, fin) → GM l D dA z sa Hz q_X7_fitAt h0 (some (.int x)) fin 0 [(0, .ref a0), (1, .int x1)] [] h := by
  intro a0 x1 h hd
  exact step E (is := I_X7_fitAt_0) (pc := 0) (K := (kx 18 (fun la st h => gR la 0 fun a0 => sE st (p_X7_fitAt_18 a0 h)) (kx 19 (fun la st h => gR la 0 fun a0 => sI st fun y0 st => sE st (p_X7_fitAt_19 a0 y0 h)) k0))) (FI := FI_X7_fitAt) (FV := fV0) (FL := fL0) (rt := rtI) (ft := 0) (by exact hd) ok_X7_fitAt_0 (kx_ok (fun la st h e => by obtain ⟨a0, m_a0, e1⟩ := gR_inv e; obtain ⟨rfl, ez⟩ := sE_inv e1; exact gm_fewer (e_X7_fitAt_18 E  a0 h ez) (mem_cons m_a0 mem_nil)) (kx_ok (fun la st h e => by obtain ⟨a0, m_a0, e1⟩ := gR_inv e; obtain ⟨y0, _, rfl, e2⟩ := sI_inv e1; obtain ⟨rfl, ez⟩ := sE_inv e2; exact gm_fewer (e_X7_fitAt_19 E  a0 y0 h ez) (mem_cons m_a0 mem_nil)) k0_ok)) (FI_X7_fitAt_ok E) (fV0_ok E) (fL0_ok E) (rtI_ok rfl)
theorem c_X7_fitAt {l : Launch} {D : va_G} {dA : Nat → ClassId} {z : Nat} {sa : Nat → Nat} {Hz : Heap} (E : StrOK qLen qCh l D dA z sa Hz) {a0 : Nat} {x1 : Int32} {h fin : AH} {x : Int32} (hd : p_X7_fitAt a0 x1 h = some (x, fin)) : CalOK l D dA z sa Hz q_X7_fitAt [.ref a0, .int x1] h (some (.int x)) fin := calOf (by decide +kernel) (Nat.le_of_ble_eq_true rfl) (e_X7_fitAt_0 E a0 x1 h hd)
def FI_X0_inSome : Nat → List Value → AH → Option (Int32 × AH) := (cx 60 (fun As h => sI As fun x0 As => sI As fun x1 As => sE As (p_X7_has x0 x1 h)) fI0)
theorem FI_X0_inSome_ok {l : Launch} {D : va_G} {dA : Nat → ClassId} {z : Nat} {sa : Nat → Nat} {Hz : Heap} (E : StrOK qLen qCh l D dA z sa Hz) : ∀ mi As h x h', FI_X0_inSome mi As h = some (x, h') → CalOK l D dA z sa Hz (MT mi) As h (some (.int x)) h' := (cxI_ok (fun As h x h2 e => by obtain ⟨_, _, rfl, e0⟩ := sI_inv e; obtain ⟨_, _, rfl, e1⟩ := sI_inv e0; obtain ⟨rfl, ez⟩ := sE_inv e1; exact c_X7_has E ez) (fI0_ok E))
def I_X0_inSome_30 : List AI := [(.iload_n 1, 1, [], 0), (.ireturn, 1, [], 0)]
theorem ok_X0_inSome_30 : vBL MT qLen qCh false q_X0_inSome.2.2.2.2.1 q_X0_inSome.2.2.2.2.2.1 q_X0_inSome.2.2.1 q_X0_inSome.1.cls q_X0_inSome.1.name q_X0_inSome.2.1 0 30 I_X0_inSome_30 = true := by decide +kernel
def p_X0_inSome_30 (x1 : Int32) (h : AH) : Option (Int32 × AH) :=
  some (x1, h)
set_option maxRecDepth 100000 in
theorem e_X0_inSome_30 {l : Launch} {D : va_G} {dA : Nat → ClassId} {z : Nat} {sa : Nat → Nat} {Hz : Heap} (E : StrOK qLen qCh l D dA z sa Hz) {h0 fin : AH} {x : Int32}  : ∀ (x1 : Int32) (h : AH), p_X0_inSome_30 x1 h = some (x, fin) → GM l D dA z sa Hz q_X0_inSome h0 (some (.int x)) fin 30 [(1, .int x1)] [] h := by
  intro x1 h hd
  exact step E (is := I_X0_inSome_30) (pc := 30) (K := k0) (FI := FI_X0_inSome) (FV := fV0) (FL := fL0) (rt := rtI) (ft := 0) (by exact hd) ok_X0_inSome_30 k0_ok (FI_X0_inSome_ok E) (fV0_ok E) (fL0_ok E) (rtI_ok rfl)
def I_X0_inSome_24 : List AI := [(.iinc 2 1, 3, [], 1), (.goto (-23), 3, [4], 0)]
theorem ok_X0_inSome_24 : vBL MT qLen qCh false q_X0_inSome.2.2.2.2.1 q_X0_inSome.2.2.2.2.2.1 q_X0_inSome.2.2.1 q_X0_inSome.1.cls q_X0_inSome.1.name q_X0_inSome.2.1 0 24 I_X0_inSome_24 = true := by decide +kernel
def p_X0_inSome_24 (k4 : Int32 → Int32 → Int32 → AH → Option (Int32 × AH)) (x0 : Int32) (x1 : Int32) (x2 : Int32) (h : AH) : Option (Int32 × AH) :=
  k4 x0 x1 (x2 + (1 : Int32)) h
set_option maxRecDepth 100000 in
theorem e_X0_inSome_24 {l : Launch} {D : va_G} {dA : Nat → ClassId} {z : Nat} {sa : Nat → Nat} {Hz : Heap} (E : StrOK qLen qCh l D dA z sa Hz) {h0 fin : AH} {x : Int32}  {k4 : Int32 → Int32 → Int32 → AH → Option (Int32 × AH)} (hk4 : ∀ (x0 : Int32) (x1 : Int32) (x2 : Int32) (h : AH), k4 x0 x1 x2 h = some (x, fin) → GM l D dA z sa Hz q_X0_inSome h0 (some (.int x)) fin 4 [(0, .int x0), (1, .int x1), (2, .int x2)] [] h) : ∀ (x0 : Int32) (x1 : Int32) (x2 : Int32) (h : AH), p_X0_inSome_24 k4 x0 x1 x2 h = some (x, fin) → GM l D dA z sa Hz q_X0_inSome h0 (some (.int x)) fin 24 [(0, .int x0), (1, .int x1), (2, .int x2)] [] h := by
  intro x0 x1 x2 h hd
  exact step E (is := I_X0_inSome_24) (pc := 24) (K := (kx 4 (fun la st h => gI la 0 fun x0 => gI la 1 fun x1 => gI la 2 fun x2 => sE st (k4 x0 x1 x2 h)) k0)) (FI := FI_X0_inSome) (FV := fV0) (FL := fL0) (rt := rtI) (ft := 0) (by exact hd) ok_X0_inSome_24 (kx_ok (fun la st h e => by obtain ⟨x0, m_x0, e1⟩ := gI_inv e; obtain ⟨x1, m_x1, e2⟩ := gI_inv e1; obtain ⟨x2, m_x2, e3⟩ := gI_inv e2; obtain ⟨rfl, ez⟩ := sE_inv e3; exact gm_fewer (hk4 x0 x1 x2 h ez) (mem_cons m_x0 (mem_cons m_x1 (mem_cons m_x2 mem_nil)))) k0_ok) (FI_X0_inSome_ok E) (fV0_ok E) (fL0_ok E) (rtI_ok rfl)
def I_X0_inSome_4 : List AI := [(.iload_n 2, 1, [], 0), (.bipush 16, 2, [], 16), (.if_icmp .ge 23, 3, [30], 0), (.iload_n 0, 1, [], 0), (.iconst 1, 1, [], 1), (.iload_n 2, 1, [], 0), (.ishl, 1, [], 0), (.invokestatic 11, 3, [1, 60, 2, 1087], 0), (.ifCond .eq 7, 3, [24], 0), (.iload_n 1, 1, [], 0), (.iload_n 2, 1, [], 0), (.ior, 1, [], 0), (.istore_n 1, 1, [], 0)]
theorem ok_X0_inSome_4 : vBL MT qLen qCh false q_X0_inSome.2.2.2.2.1 q_X0_inSome.2.2.2.2.2.1 q_X0_inSome.2.2.1 q_X0_inSome.1.cls q_X0_inSome.1.name q_X0_inSome.2.1 24 4 I_X0_inSome_4 = true := by decide +kernel
def p_X0_inSome_4 : Nat → Int32 → Int32 → Int32 → AH → Option (Int32 × AH)
  | 0, _, _, _, _ => none
  | n + 1, x0, x1, x2, h => if x2 < ((16 : Int32)) then ((p_X7_has x0 (((1 : Int32)) <<< (x2 &&& 31)) h).bind fun q101 =>
    if q101.1 = 0 then (p_X0_inSome_24 (p_X0_inSome_4 n) x0 x1 x2 q101.2)
    else
    let x102 := x1 ||| x2
    p_X0_inSome_24 (p_X0_inSome_4 n) x0 x102 x2 q101.2)
    else
    some (x1, h)
set_option maxRecDepth 100000 in
theorem e_X0_inSome_4 {l : Launch} {D : va_G} {dA : Nat → ClassId} {z : Nat} {sa : Nat → Nat} {Hz : Heap} (E : StrOK qLen qCh l D dA z sa Hz) {h0 fin : AH} {x : Int32}  : ∀ (n : Nat) (x0 : Int32) (x1 : Int32) (x2 : Int32) (h : AH), p_X0_inSome_4 n x0 x1 x2 h = some (x, fin) → GM l D dA z sa Hz q_X0_inSome h0 (some (.int x)) fin 4 [(0, .int x0), (1, .int x1), (2, .int x2)] [] h := by
  intro n
  induction n with
  | zero => intro x0 x1 x2 h hd; exact nomatch hd
  | succ n ih =>
    intro x0 x1 x2 h hd
    exact step E (is := I_X0_inSome_4) (pc := 4) (K := (kx 30 (fun la st h => gI la 1 fun x1 => sE st (p_X0_inSome_30 x1 h)) (kx 24 (fun la st h => gI la 0 fun x0 => gI la 1 fun x1 => gI la 2 fun x2 => sE st (p_X0_inSome_24 (p_X0_inSome_4 n) x0 x1 x2 h)) k0))) (FI := FI_X0_inSome) (FV := fV0) (FL := fL0) (rt := rtI) (ft := 24) (by exact hd) ok_X0_inSome_4 (kx_ok (fun la st h e => by obtain ⟨x1, m_x1, e1⟩ := gI_inv e; obtain ⟨rfl, ez⟩ := sE_inv e1; exact gm_fewer (e_X0_inSome_30 E  x1 h ez) (mem_cons m_x1 mem_nil)) (kx_ok (fun la st h e => by obtain ⟨x0, m_x0, e1⟩ := gI_inv e; obtain ⟨x1, m_x1, e2⟩ := gI_inv e1; obtain ⟨x2, m_x2, e3⟩ := gI_inv e2; obtain ⟨rfl, ez⟩ := sE_inv e3; exact gm_fewer (e_X0_inSome_24 E ih x0 x1 x2 h ez) (mem_cons m_x0 (mem_cons m_x1 (mem_cons m_x2 mem_nil)))) k0_ok)) (FI_X0_inSome_ok E) (fV0_ok E) (fL0_ok E) (rtI_ok rfl)
def I_X0_inSome_0 : List AI := [(.iconst 0, 1, [], 0), (.istore_n 1, 1, [], 0), (.iconst 0, 1, [], 0), (.istore_n 2, 1, [], 0)]
theorem ok_X0_inSome_0 : vBL MT qLen qCh false q_X0_inSome.2.2.2.2.1 q_X0_inSome.2.2.2.2.2.1 q_X0_inSome.2.2.1 q_X0_inSome.1.cls q_X0_inSome.1.name q_X0_inSome.2.1 4 0 I_X0_inSome_0 = true := by decide +kernel
def p_X0_inSome (x0 : Int32) (h : AH) : Option (Int32 × AH) :=
  p_X0_inSome_4 FU x0 ((0 : Int32)) ((0 : Int32)) h
set_option maxRecDepth 100000 in
theorem e_X0_inSome_0 {l : Launch} {D : va_G} {dA : Nat → ClassId} {z : Nat} {sa : Nat → Nat} {Hz : Heap} (E : StrOK qLen qCh l D dA z sa Hz) {h0 fin : AH} {x : Int32}  : ∀ (x0 : Int32) (h : AH), p_X0_inSome x0 h = some (x, fin) → GM l D dA z sa Hz q_X0_inSome h0 (some (.int x)) fin 0 [(0, .int x0)] [] h := by
  intro x0 h hd
  exact step E (is := I_X0_inSome_0) (pc := 0) (K := (kx 4 (fun la st h => gI la 0 fun x0 => gI la 1 fun x1 => gI la 2 fun x2 => sE st (p_X0_inSome_4 FU x0 x1 x2 h)) k0)) (FI := FI_X0_inSome) (FV := fV0) (FL := fL0) (rt := rtI) (ft := 4) (by exact hd) ok_X0_inSome_0 (kx_ok (fun la st h e => by obtain ⟨x0, m_x0, e1⟩ := gI_inv e; obtain ⟨x1, m_x1, e2⟩ := gI_inv e1; obtain ⟨x2, m_x2, e3⟩ := gI_inv e2; obtain ⟨rfl, ez⟩ := sE_inv e3; exact gm_fewer (e_X0_inSome_4 E  FU x0 x1 x2 h ez) (mem_cons m_x0 (mem_cons m_x1 (mem_cons m_x2 mem_nil)))) k0_ok) (FI_X0_inSome_ok E) (fV0_ok E) (fL0_ok E) (rtI_ok rfl)
theorem c_X0_inSome {l : Launch} {D : va_G} {dA : Nat → ClassId} {z : Nat} {sa : Nat → Nat} {Hz : Heap} (E : StrOK qLen qCh l D dA z sa Hz) {x0 : Int32} {h fin : AH} {x : Int32} (hd : p_X0_inSome x0 h = some (x, fin)) : CalOK l D dA z sa Hz q_X0_inSome [.int x0] h (some (.int x)) fin := calOf (by decide +kernel) (Nat.le_of_ble_eq_true rfl) (e_X0_inSome_0 E x0 h hd)
def FI_X7_could : Nat → List Value → AH → Option (Int32 × AH) := (cx 153 (fun As h => sR As fun a0 As => sE As (p_X7_fitting a0 h)) (cx 158 (fun As h => sI As fun x0 As => sE As (p_X0_inSome x0 h)) (cx 50 (fun As h => sR As fun a0 As => sI As fun x1 As => sE As (p_X7_answer a0 x1 h)) (cx 9 (fun As h => sR As fun a0 As => sI As fun x1 As => sE As (p_X7_refuse a0 x1 h)) fI0))))
theorem FI_X7_could_ok {l : Launch} {D : va_G} {dA : Nat → ClassId} {z : Nat} {sa : Nat → Nat} {Hz : Heap} (E : StrOK qLen qCh l D dA z sa Hz) : ∀ mi As h x h', FI_X7_could mi As h = some (x, h') → CalOK l D dA z sa Hz (MT mi) As h (some (.int x)) h' := (cxI_ok (fun As h x h2 e => by obtain ⟨_, _, rfl, e0⟩ := sR_inv e; obtain ⟨rfl, ez⟩ := sE_inv e0; exact c_X7_fitting E ez) ((cxI_ok (fun As h x h2 e => by obtain ⟨_, _, rfl, e0⟩ := sI_inv e; obtain ⟨rfl, ez⟩ := sE_inv e0; exact c_X0_inSome E ez) ((cxI_ok (fun As h x h2 e => by obtain ⟨_, _, rfl, e0⟩ := sR_inv e; obtain ⟨_, _, rfl, e1⟩ := sI_inv e0; obtain ⟨rfl, ez⟩ := sE_inv e1; exact c_X7_answer E ez) ((cxI_ok (fun As h x h2 e => by obtain ⟨_, _, rfl, e0⟩ := sR_inv e; obtain ⟨_, _, rfl, e1⟩ := sI_inv e0; obtain ⟨rfl, ez⟩ := sE_inv e1; exact c_X7_refuse E ez) (fI0_ok E))))))))
def I_X7_could_26 : List AI := [(.ireturn, 1, [], 0)]
theorem ok_X7_could_26 : vBL MT qLen qCh false q_X7_could.2.2.2.2.1 q_X7_could.2.2.2.2.2.1 q_X7_could.2.2.1 q_X7_could.1.cls q_X7_could.1.name q_X7_could.2.1 0 26 I_X7_could_26 = true := by decide +kernel
def p_X7_could_26 (y0 : Int32) (h : AH) : Option (Int32 × AH) :=
  some (y0, h)
set_option maxRecDepth 100000 in
theorem e_X7_could_26 {l : Launch} {D : va_G} {dA : Nat → ClassId} {z : Nat} {sa : Nat → Nat} {Hz : Heap} (E : StrOK qLen qCh l D dA z sa Hz) {h0 fin : AH} {x : Int32}  : ∀ (y0 : Int32) (h : AH), p_X7_could_26 y0 h = some (x, fin) → GM l D dA z sa Hz q_X7_could h0 (some (.int x)) fin 26 [] [.int y0] h := by
  intro y0 h hd
  exact step E (is := I_X7_could_26) (pc := 26) (K := k0) (FI := FI_X7_could) (FV := fV0) (FL := fL0) (rt := rtI) (ft := 0) (by exact hd) ok_X7_could_26 k0_ok (FI_X7_could_ok E) (fV0_ok E) (fL0_ok E) (rtI_ok rfl)
def I_X7_could_21 : List AI := [(.aload_n 0, 1, [], 0), (.iconst 1, 1, [], 1), (.invokevirtual 54, 3, [1, 9, 2, 6, 403], 0)]
theorem ok_X7_could_21 : vBL MT qLen qCh false q_X7_could.2.2.2.2.1 q_X7_could.2.2.2.2.2.1 q_X7_could.2.2.1 q_X7_could.1.cls q_X7_could.1.name q_X7_could.2.1 26 21 I_X7_could_21 = true := by decide +kernel
def p_X7_could_21 (a0 : Nat) (h : AH) : Option (Int32 × AH) :=
  if (tg h a0).1 = 6 then ((p_X7_refuse a0 ((1 : Int32)) h).bind fun q101 =>
  p_X7_could_26 q101.1 q101.2) else none
set_option maxRecDepth 100000 in
theorem e_X7_could_21 {l : Launch} {D : va_G} {dA : Nat → ClassId} {z : Nat} {sa : Nat → Nat} {Hz : Heap} (E : StrOK qLen qCh l D dA z sa Hz) {h0 fin : AH} {x : Int32}  : ∀ (a0 : Nat) (h : AH), p_X7_could_21 a0 h = some (x, fin) → GM l D dA z sa Hz q_X7_could h0 (some (.int x)) fin 21 [(0, .ref a0)] [] h := by
  intro a0 h hd
  exact step E (is := I_X7_could_21) (pc := 21) (K := (kx 26 (fun la st h => sI st fun y0 st => sE st (p_X7_could_26 y0 h)) k0)) (FI := FI_X7_could) (FV := fV0) (FL := fL0) (rt := rtI) (ft := 26) (by exact hd) ok_X7_could_21 (kx_ok (fun la st h e => by obtain ⟨y0, _, rfl, e1⟩ := sI_inv e; obtain ⟨rfl, ez⟩ := sE_inv e1; exact gm_fewer (e_X7_could_26 E  y0 h ez) mem_nil) k0_ok) (FI_X7_could_ok E) (fV0_ok E) (fL0_ok E) (rtI_ok rfl)
def I_X7_could_0 : List AI := [(.aload_n 0, 1, [], 0), (.getfield 107, 3, [6, 3, 3, 357], 0), (.ifCond .eq 17, 3, [21], 0), (.aload_n 0, 1, [], 0), (.aload_n 0, 1, [], 0), (.invokevirtual 230, 3, [1, 153, 1, 6, 1059], 0), (.invokestatic 243, 3, [1, 158, 1, 1092], 0), (.invokevirtual 68, 3, [1, 50, 2, 6, 633], 0), (.goto 8, 3, [26], 0)]
theorem ok_X7_could_0 : vBL MT qLen qCh false q_X7_could.2.2.2.2.1 q_X7_could.2.2.2.2.2.1 q_X7_could.2.2.1 q_X7_could.1.cls q_X7_could.1.name q_X7_could.2.1 0 0 I_X7_could_0 = true := by decide +kernel
def p_X7_could (a0 : Nat) (h : AH) : Option (Int32 × AH) :=
  if (tg h a0).1 = 6 then (if (rI h a0 3) = 0 then (if (tg h a0).1 = 6 then ((p_X7_refuse a0 ((1 : Int32)) h).bind fun q102 =>
  p_X7_could_26 q102.1 q102.2) else none)
  else
  if (tg h a0).1 = 6 then ((p_X7_fitting a0 h).bind fun q103 =>
  (p_X0_inSome q103.1 q103.2).bind fun q104 =>
  if (tg q104.2 a0).1 = 6 then ((p_X7_answer a0 q104.1 q104.2).bind fun q105 =>
  p_X7_could_26 q105.1 q105.2) else none) else none) else none
set_option maxRecDepth 100000 in
theorem e_X7_could_0 {l : Launch} {D : va_G} {dA : Nat → ClassId} {z : Nat} {sa : Nat → Nat} {Hz : Heap} (E : StrOK qLen qCh l D dA z sa Hz) {h0 fin : AH} {x : Int32}  : ∀ (a0 : Nat) (h : AH), p_X7_could a0 h = some (x, fin) → GM l D dA z sa Hz q_X7_could h0 (some (.int x)) fin 0 [(0, .ref a0)] [] h := by
  intro a0 h hd
  exact step E (is := I_X7_could_0) (pc := 0) (K := (kx 21 (fun la st h => gR la 0 fun a0 => sE st (p_X7_could_21 a0 h)) (kx 26 (fun la st h => sI st fun y0 st => sE st (p_X7_could_26 y0 h)) k0))) (FI := FI_X7_could) (FV := fV0) (FL := fL0) (rt := rtI) (ft := 0) (by exact hd) ok_X7_could_0 (kx_ok (fun la st h e => by obtain ⟨a0, m_a0, e1⟩ := gR_inv e; obtain ⟨rfl, ez⟩ := sE_inv e1; exact gm_fewer (e_X7_could_21 E  a0 h ez) (mem_cons m_a0 mem_nil)) (kx_ok (fun la st h e => by obtain ⟨y0, _, rfl, e1⟩ := sI_inv e; obtain ⟨rfl, ez⟩ := sE_inv e1; exact gm_fewer (e_X7_could_26 E  y0 h ez) mem_nil) k0_ok)) (FI_X7_could_ok E) (fV0_ok E) (fL0_ok E) (rtI_ok rfl)
theorem c_X7_could {l : Launch} {D : va_G} {dA : Nat → ClassId} {z : Nat} {sa : Nat → Nat} {Hz : Heap} (E : StrOK qLen qCh l D dA z sa Hz) {a0 : Nat} {h fin : AH} {x : Int32} (hd : p_X7_could a0 h = some (x, fin)) : CalOK l D dA z sa Hz q_X7_could [.ref a0] h (some (.int x)) fin := calOf (by decide +kernel) (Nat.le_of_ble_eq_true rfl) (e_X7_could_0 E a0 h hd)
def FI_X0_inAll : Nat → List Value → AH → Option (Int32 × AH) := (cx 60 (fun As h => sI As fun x0 As => sI As fun x1 As => sE As (p_X7_has x0 x1 h)) fI0)
theorem FI_X0_inAll_ok {l : Launch} {D : va_G} {dA : Nat → ClassId} {z : Nat} {sa : Nat → Nat} {Hz : Heap} (E : StrOK qLen qCh l D dA z sa Hz) : ∀ mi As h x h', FI_X0_inAll mi As h = some (x, h') → CalOK l D dA z sa Hz (MT mi) As h (some (.int x)) h' := (cxI_ok (fun As h x h2 e => by obtain ⟨_, _, rfl, e0⟩ := sI_inv e; obtain ⟨_, _, rfl, e1⟩ := sI_inv e0; obtain ⟨rfl, ez⟩ := sE_inv e1; exact c_X7_has E ez) (fI0_ok E))
def I_X0_inAll_40 : List AI := [(.ireturn, 1, [], 0)]
theorem ok_X0_inAll_40 : vBL MT qLen qCh false q_X0_inAll.2.2.2.2.1 q_X0_inAll.2.2.2.2.2.1 q_X0_inAll.2.2.1 q_X0_inAll.1.cls q_X0_inAll.1.name q_X0_inAll.2.1 0 40 I_X0_inAll_40 = true := by decide +kernel
def p_X0_inAll_40 (y0 : Int32) (h : AH) : Option (Int32 × AH) :=
  some (y0, h)
set_option maxRecDepth 100000 in
theorem e_X0_inAll_40 {l : Launch} {D : va_G} {dA : Nat → ClassId} {z : Nat} {sa : Nat → Nat} {Hz : Heap} (E : StrOK qLen qCh l D dA z sa Hz) {h0 fin : AH} {x : Int32}  : ∀ (y0 : Int32) (h : AH), p_X0_inAll_40 y0 h = some (x, fin) → GM l D dA z sa Hz q_X0_inAll h0 (some (.int x)) fin 40 [] [.int y0] h := by
  intro y0 h hd
  exact step E (is := I_X0_inAll_40) (pc := 40) (K := k0) (FI := FI_X0_inAll) (FV := fV0) (FL := fL0) (rt := rtI) (ft := 0) (by exact hd) ok_X0_inAll_40 k0_ok (FI_X0_inAll_ok E) (fV0_ok E) (fL0_ok E) (rtI_ok rfl)
def I_X0_inAll_39 : List AI := [(.iload_n 1, 1, [], 0)]
theorem ok_X0_inAll_39 : vBL MT qLen qCh false q_X0_inAll.2.2.2.2.1 q_X0_inAll.2.2.2.2.2.1 q_X0_inAll.2.2.1 q_X0_inAll.1.cls q_X0_inAll.1.name q_X0_inAll.2.1 40 39 I_X0_inAll_39 = true := by decide +kernel
def p_X0_inAll_39 (x1 : Int32) (h : AH) : Option (Int32 × AH) :=
  p_X0_inAll_40 x1 h
set_option maxRecDepth 100000 in
theorem e_X0_inAll_39 {l : Launch} {D : va_G} {dA : Nat → ClassId} {z : Nat} {sa : Nat → Nat} {Hz : Heap} (E : StrOK qLen qCh l D dA z sa Hz) {h0 fin : AH} {x : Int32}  : ∀ (x1 : Int32) (h : AH), p_X0_inAll_39 x1 h = some (x, fin) → GM l D dA z sa Hz q_X0_inAll h0 (some (.int x)) fin 39 [(1, .int x1)] [] h := by
  intro x1 h hd
  exact step E (is := I_X0_inAll_39) (pc := 39) (K := (kx 40 (fun la st h => sI st fun y0 st => sE st (p_X0_inAll_40 y0 h)) k0)) (FI := FI_X0_inAll) (FV := fV0) (FL := fL0) (rt := rtI) (ft := 40) (by exact hd) ok_X0_inAll_39 (kx_ok (fun la st h e => by obtain ⟨y0, _, rfl, e1⟩ := sI_inv e; obtain ⟨rfl, ez⟩ := sE_inv e1; exact gm_fewer (e_X0_inAll_40 E  y0 h ez) mem_nil) k0_ok) (FI_X0_inAll_ok E) (fV0_ok E) (fL0_ok E) (rtI_ok rfl)
def I_X0_inAll_31 : List AI := [(.iload_n 0, 1, [], 0), (.ifCond .ne 7, 3, [39], 0), (.iconst 0, 1, [], 0), (.goto 4, 3, [40], 0)]
theorem ok_X0_inAll_31 : vBL MT qLen qCh false q_X0_inAll.2.2.2.2.1 q_X0_inAll.2.2.2.2.2.1 q_X0_inAll.2.2.1 q_X0_inAll.1.cls q_X0_inAll.1.name q_X0_inAll.2.1 0 31 I_X0_inAll_31 = true := by decide +kernel
def p_X0_inAll_31 (x0 : Int32) (x1 : Int32) (h : AH) : Option (Int32 × AH) :=
  if x0 = 0 then (p_X0_inAll_40 ((0 : Int32)) h)
  else
  p_X0_inAll_40 x1 h
set_option maxRecDepth 100000 in
theorem e_X0_inAll_31 {l : Launch} {D : va_G} {dA : Nat → ClassId} {z : Nat} {sa : Nat → Nat} {Hz : Heap} (E : StrOK qLen qCh l D dA z sa Hz) {h0 fin : AH} {x : Int32}  : ∀ (x0 : Int32) (x1 : Int32) (h : AH), p_X0_inAll_31 x0 x1 h = some (x, fin) → GM l D dA z sa Hz q_X0_inAll h0 (some (.int x)) fin 31 [(0, .int x0), (1, .int x1)] [] h := by
  intro x0 x1 h hd
  exact step E (is := I_X0_inAll_31) (pc := 31) (K := (kx 39 (fun la st h => gI la 1 fun x1 => sE st (p_X0_inAll_39 x1 h)) (kx 40 (fun la st h => sI st fun y0 st => sE st (p_X0_inAll_40 y0 h)) k0))) (FI := FI_X0_inAll) (FV := fV0) (FL := fL0) (rt := rtI) (ft := 0) (by exact hd) ok_X0_inAll_31 (kx_ok (fun la st h e => by obtain ⟨x1, m_x1, e1⟩ := gI_inv e; obtain ⟨rfl, ez⟩ := sE_inv e1; exact gm_fewer (e_X0_inAll_39 E  x1 h ez) (mem_cons m_x1 mem_nil)) (kx_ok (fun la st h e => by obtain ⟨y0, _, rfl, e1⟩ := sI_inv e; obtain ⟨rfl, ez⟩ := sE_inv e1; exact gm_fewer (e_X0_inAll_40 E  y0 h ez) mem_nil) k0_ok)) (FI_X0_inAll_ok E) (fV0_ok E) (fL0_ok E) (rtI_ok rfl)
def I_X0_inAll_25 : List AI := [(.iinc 2 1, 3, [], 1), (.goto (-23), 3, [5], 0)]
theorem ok_X0_inAll_25 : vBL MT qLen qCh false q_X0_inAll.2.2.2.2.1 q_X0_inAll.2.2.2.2.2.1 q_X0_inAll.2.2.1 q_X0_inAll.1.cls q_X0_inAll.1.name q_X0_inAll.2.1 0 25 I_X0_inAll_25 = true := by decide +kernel
def p_X0_inAll_25 (k5 : Int32 → Int32 → Int32 → AH → Option (Int32 × AH)) (x0 : Int32) (x1 : Int32) (x2 : Int32) (h : AH) : Option (Int32 × AH) :=
  k5 x0 x1 (x2 + (1 : Int32)) h
set_option maxRecDepth 100000 in
theorem e_X0_inAll_25 {l : Launch} {D : va_G} {dA : Nat → ClassId} {z : Nat} {sa : Nat → Nat} {Hz : Heap} (E : StrOK qLen qCh l D dA z sa Hz) {h0 fin : AH} {x : Int32}  {k5 : Int32 → Int32 → Int32 → AH → Option (Int32 × AH)} (hk5 : ∀ (x0 : Int32) (x1 : Int32) (x2 : Int32) (h : AH), k5 x0 x1 x2 h = some (x, fin) → GM l D dA z sa Hz q_X0_inAll h0 (some (.int x)) fin 5 [(0, .int x0), (1, .int x1), (2, .int x2)] [] h) : ∀ (x0 : Int32) (x1 : Int32) (x2 : Int32) (h : AH), p_X0_inAll_25 k5 x0 x1 x2 h = some (x, fin) → GM l D dA z sa Hz q_X0_inAll h0 (some (.int x)) fin 25 [(0, .int x0), (1, .int x1), (2, .int x2)] [] h := by
  intro x0 x1 x2 h hd
  exact step E (is := I_X0_inAll_25) (pc := 25) (K := (kx 5 (fun la st h => gI la 0 fun x0 => gI la 1 fun x1 => gI la 2 fun x2 => sE st (k5 x0 x1 x2 h)) k0)) (FI := FI_X0_inAll) (FV := fV0) (FL := fL0) (rt := rtI) (ft := 0) (by exact hd) ok_X0_inAll_25 (kx_ok (fun la st h e => by obtain ⟨x0, m_x0, e1⟩ := gI_inv e; obtain ⟨x1, m_x1, e2⟩ := gI_inv e1; obtain ⟨x2, m_x2, e3⟩ := gI_inv e2; obtain ⟨rfl, ez⟩ := sE_inv e3; exact gm_fewer (hk5 x0 x1 x2 h ez) (mem_cons m_x0 (mem_cons m_x1 (mem_cons m_x2 mem_nil)))) k0_ok) (FI_X0_inAll_ok E) (fV0_ok E) (fL0_ok E) (rtI_ok rfl)
def I_X0_inAll_5 : List AI := [(.iload_n 2, 1, [], 0), (.bipush 16, 2, [], 16), (.if_icmp .ge 23, 3, [31], 0), (.iload_n 0, 1, [], 0), (.iconst 1, 1, [], 1), (.iload_n 2, 1, [], 0), (.ishl, 1, [], 0), (.invokestatic 11, 3, [1, 60, 2, 1087], 0), (.ifCond .eq 7, 3, [25], 0), (.iload_n 1, 1, [], 0), (.iload_n 2, 1, [], 0), (.iand, 1, [], 0), (.istore_n 1, 1, [], 0)]
theorem ok_X0_inAll_5 : vBL MT qLen qCh false q_X0_inAll.2.2.2.2.1 q_X0_inAll.2.2.2.2.2.1 q_X0_inAll.2.2.1 q_X0_inAll.1.cls q_X0_inAll.1.name q_X0_inAll.2.1 25 5 I_X0_inAll_5 = true := by decide +kernel
def p_X0_inAll_5 : Nat → Int32 → Int32 → Int32 → AH → Option (Int32 × AH)
  | 0, _, _, _, _ => none
  | n + 1, x0, x1, x2, h => if x2 < ((16 : Int32)) then ((p_X7_has x0 (((1 : Int32)) <<< (x2 &&& 31)) h).bind fun q101 =>
    if q101.1 = 0 then (p_X0_inAll_25 (p_X0_inAll_5 n) x0 x1 x2 q101.2)
    else
    let x102 := x1 &&& x2
    p_X0_inAll_25 (p_X0_inAll_5 n) x0 x102 x2 q101.2)
    else
    if x0 = 0 then (p_X0_inAll_40 ((0 : Int32)) h)
    else
    p_X0_inAll_40 x1 h
set_option maxRecDepth 100000 in
theorem e_X0_inAll_5 {l : Launch} {D : va_G} {dA : Nat → ClassId} {z : Nat} {sa : Nat → Nat} {Hz : Heap} (E : StrOK qLen qCh l D dA z sa Hz) {h0 fin : AH} {x : Int32}  : ∀ (n : Nat) (x0 : Int32) (x1 : Int32) (x2 : Int32) (h : AH), p_X0_inAll_5 n x0 x1 x2 h = some (x, fin) → GM l D dA z sa Hz q_X0_inAll h0 (some (.int x)) fin 5 [(0, .int x0), (1, .int x1), (2, .int x2)] [] h := by
  intro n
  induction n with
  | zero => intro x0 x1 x2 h hd; exact nomatch hd
  | succ n ih =>
    intro x0 x1 x2 h hd
    exact step E (is := I_X0_inAll_5) (pc := 5) (K := (kx 31 (fun la st h => gI la 0 fun x0 => gI la 1 fun x1 => sE st (p_X0_inAll_31 x0 x1 h)) (kx 25 (fun la st h => gI la 0 fun x0 => gI la 1 fun x1 => gI la 2 fun x2 => sE st (p_X0_inAll_25 (p_X0_inAll_5 n) x0 x1 x2 h)) k0))) (FI := FI_X0_inAll) (FV := fV0) (FL := fL0) (rt := rtI) (ft := 25) (by exact hd) ok_X0_inAll_5 (kx_ok (fun la st h e => by obtain ⟨x0, m_x0, e1⟩ := gI_inv e; obtain ⟨x1, m_x1, e2⟩ := gI_inv e1; obtain ⟨rfl, ez⟩ := sE_inv e2; exact gm_fewer (e_X0_inAll_31 E  x0 x1 h ez) (mem_cons m_x0 (mem_cons m_x1 mem_nil))) (kx_ok (fun la st h e => by obtain ⟨x0, m_x0, e1⟩ := gI_inv e; obtain ⟨x1, m_x1, e2⟩ := gI_inv e1; obtain ⟨x2, m_x2, e3⟩ := gI_inv e2; obtain ⟨rfl, ez⟩ := sE_inv e3; exact gm_fewer (e_X0_inAll_25 E ih x0 x1 x2 h ez) (mem_cons m_x0 (mem_cons m_x1 (mem_cons m_x2 mem_nil)))) k0_ok)) (FI_X0_inAll_ok E) (fV0_ok E) (fL0_ok E) (rtI_ok rfl)
def I_X0_inAll_0 : List AI := [(.bipush 15, 2, [], 15), (.istore_n 1, 1, [], 0), (.iconst 0, 1, [], 0), (.istore_n 2, 1, [], 0)]
theorem ok_X0_inAll_0 : vBL MT qLen qCh false q_X0_inAll.2.2.2.2.1 q_X0_inAll.2.2.2.2.2.1 q_X0_inAll.2.2.1 q_X0_inAll.1.cls q_X0_inAll.1.name q_X0_inAll.2.1 5 0 I_X0_inAll_0 = true := by decide +kernel
def p_X0_inAll (x0 : Int32) (h : AH) : Option (Int32 × AH) :=
  p_X0_inAll_5 FU x0 ((15 : Int32)) ((0 : Int32)) h
set_option maxRecDepth 100000 in
theorem e_X0_inAll_0 {l : Launch} {D : va_G} {dA : Nat → ClassId} {z : Nat} {sa : Nat → Nat} {Hz : Heap} (E : StrOK qLen qCh l D dA z sa Hz) {h0 fin : AH} {x : Int32}  : ∀ (x0 : Int32) (h : AH), p_X0_inAll x0 h = some (x, fin) → GM l D dA z sa Hz q_X0_inAll h0 (some (.int x)) fin 0 [(0, .int x0)] [] h := by
  intro x0 h hd
  exact step E (is := I_X0_inAll_0) (pc := 0) (K := (kx 5 (fun la st h => gI la 0 fun x0 => gI la 1 fun x1 => gI la 2 fun x2 => sE st (p_X0_inAll_5 FU x0 x1 x2 h)) k0)) (FI := FI_X0_inAll) (FV := fV0) (FL := fL0) (rt := rtI) (ft := 5) (by exact hd) ok_X0_inAll_0 (kx_ok (fun la st h e => by obtain ⟨x0, m_x0, e1⟩ := gI_inv e; obtain ⟨x1, m_x1, e2⟩ := gI_inv e1; obtain ⟨x2, m_x2, e3⟩ := gI_inv e2; obtain ⟨rfl, ez⟩ := sE_inv e3; exact gm_fewer (e_X0_inAll_5 E  FU x0 x1 x2 h ez) (mem_cons m_x0 (mem_cons m_x1 (mem_cons m_x2 mem_nil)))) k0_ok) (FI_X0_inAll_ok E) (fV0_ok E) (fL0_ok E) (rtI_ok rfl)
theorem c_X0_inAll {l : Launch} {D : va_G} {dA : Nat → ClassId} {z : Nat} {sa : Nat → Nat} {Hz : Heap} (E : StrOK qLen qCh l D dA z sa Hz) {x0 : Int32} {h fin : AH} {x : Int32} (hd : p_X0_inAll x0 h = some (x, fin)) : CalOK l D dA z sa Hz q_X0_inAll [.int x0] h (some (.int x)) fin := calOf (by decide +kernel) (Nat.le_of_ble_eq_true rfl) (e_X0_inAll_0 E x0 h hd)
def FI_X7_surely : Nat → List Value → AH → Option (Int32 × AH) := (cx 153 (fun As h => sR As fun a0 As => sE As (p_X7_fitting a0 h)) (cx 160 (fun As h => sI As fun x0 As => sE As (p_X0_inAll x0 h)) (cx 50 (fun As h => sR As fun a0 As => sI As fun x1 As => sE As (p_X7_answer a0 x1 h)) (cx 9 (fun As h => sR As fun a0 As => sI As fun x1 As => sE As (p_X7_refuse a0 x1 h)) fI0))))
theorem FI_X7_surely_ok {l : Launch} {D : va_G} {dA : Nat → ClassId} {z : Nat} {sa : Nat → Nat} {Hz : Heap} (E : StrOK qLen qCh l D dA z sa Hz) : ∀ mi As h x h', FI_X7_surely mi As h = some (x, h') → CalOK l D dA z sa Hz (MT mi) As h (some (.int x)) h' := (cxI_ok (fun As h x h2 e => by obtain ⟨_, _, rfl, e0⟩ := sR_inv e; obtain ⟨rfl, ez⟩ := sE_inv e0; exact c_X7_fitting E ez) ((cxI_ok (fun As h x h2 e => by obtain ⟨_, _, rfl, e0⟩ := sI_inv e; obtain ⟨rfl, ez⟩ := sE_inv e0; exact c_X0_inAll E ez) ((cxI_ok (fun As h x h2 e => by obtain ⟨_, _, rfl, e0⟩ := sR_inv e; obtain ⟨_, _, rfl, e1⟩ := sI_inv e0; obtain ⟨rfl, ez⟩ := sE_inv e1; exact c_X7_answer E ez) ((cxI_ok (fun As h x h2 e => by obtain ⟨_, _, rfl, e0⟩ := sR_inv e; obtain ⟨_, _, rfl, e1⟩ := sI_inv e0; obtain ⟨rfl, ez⟩ := sE_inv e1; exact c_X7_refuse E ez) (fI0_ok E))))))))
def I_X7_surely_26 : List AI := [(.ireturn, 1, [], 0)]
theorem ok_X7_surely_26 : vBL MT qLen qCh false q_X7_surely.2.2.2.2.1 q_X7_surely.2.2.2.2.2.1 q_X7_surely.2.2.1 q_X7_surely.1.cls q_X7_surely.1.name q_X7_surely.2.1 0 26 I_X7_surely_26 = true := by decide +kernel
def p_X7_surely_26 (y0 : Int32) (h : AH) : Option (Int32 × AH) :=
  some (y0, h)
set_option maxRecDepth 100000 in
theorem e_X7_surely_26 {l : Launch} {D : va_G} {dA : Nat → ClassId} {z : Nat} {sa : Nat → Nat} {Hz : Heap} (E : StrOK qLen qCh l D dA z sa Hz) {h0 fin : AH} {x : Int32}  : ∀ (y0 : Int32) (h : AH), p_X7_surely_26 y0 h = some (x, fin) → GM l D dA z sa Hz q_X7_surely h0 (some (.int x)) fin 26 [] [.int y0] h := by
  intro y0 h hd
  exact step E (is := I_X7_surely_26) (pc := 26) (K := k0) (FI := FI_X7_surely) (FV := fV0) (FL := fL0) (rt := rtI) (ft := 0) (by exact hd) ok_X7_surely_26 k0_ok (FI_X7_surely_ok E) (fV0_ok E) (fL0_ok E) (rtI_ok rfl)
def I_X7_surely_21 : List AI := [(.aload_n 0, 1, [], 0), (.iconst 1, 1, [], 1), (.invokevirtual 54, 3, [1, 9, 2, 6, 403], 0)]
theorem ok_X7_surely_21 : vBL MT qLen qCh false q_X7_surely.2.2.2.2.1 q_X7_surely.2.2.2.2.2.1 q_X7_surely.2.2.1 q_X7_surely.1.cls q_X7_surely.1.name q_X7_surely.2.1 26 21 I_X7_surely_21 = true := by decide +kernel
def p_X7_surely_21 (a0 : Nat) (h : AH) : Option (Int32 × AH) :=
  if (tg h a0).1 = 6 then ((p_X7_refuse a0 ((1 : Int32)) h).bind fun q101 =>
  p_X7_surely_26 q101.1 q101.2) else none
set_option maxRecDepth 100000 in
theorem e_X7_surely_21 {l : Launch} {D : va_G} {dA : Nat → ClassId} {z : Nat} {sa : Nat → Nat} {Hz : Heap} (E : StrOK qLen qCh l D dA z sa Hz) {h0 fin : AH} {x : Int32}  : ∀ (a0 : Nat) (h : AH), p_X7_surely_21 a0 h = some (x, fin) → GM l D dA z sa Hz q_X7_surely h0 (some (.int x)) fin 21 [(0, .ref a0)] [] h := by
  intro a0 h hd
  exact step E (is := I_X7_surely_21) (pc := 21) (K := (kx 26 (fun la st h => sI st fun y0 st => sE st (p_X7_surely_26 y0 h)) k0)) (FI := FI_X7_surely) (FV := fV0) (FL := fL0) (rt := rtI) (ft := 26) (by exact hd) ok_X7_surely_21 (kx_ok (fun la st h e => by obtain ⟨y0, _, rfl, e1⟩ := sI_inv e; obtain ⟨rfl, ez⟩ := sE_inv e1; exact gm_fewer (e_X7_surely_26 E  y0 h ez) mem_nil) k0_ok) (FI_X7_surely_ok E) (fV0_ok E) (fL0_ok E) (rtI_ok rfl)
def I_X7_surely_0 : List AI := [(.aload_n 0, 1, [], 0), (.getfield 107, 3, [6, 3, 3, 357], 0), (.ifCond .eq 17, 3, [21], 0), (.aload_n 0, 1, [], 0), (.aload_n 0, 1, [], 0), (.invokevirtual 230, 3, [1, 153, 1, 6, 1059], 0), (.invokestatic 246, 3, [1, 160, 1, 1099], 0), (.invokevirtual 68, 3, [1, 50, 2, 6, 633], 0), (.goto 8, 3, [26], 0)]
theorem ok_X7_surely_0 : vBL MT qLen qCh false q_X7_surely.2.2.2.2.1 q_X7_surely.2.2.2.2.2.1 q_X7_surely.2.2.1 q_X7_surely.1.cls q_X7_surely.1.name q_X7_surely.2.1 0 0 I_X7_surely_0 = true := by decide +kernel
def p_X7_surely (a0 : Nat) (h : AH) : Option (Int32 × AH) :=
  if (tg h a0).1 = 6 then (if (rI h a0 3) = 0 then (if (tg h a0).1 = 6 then ((p_X7_refuse a0 ((1 : Int32)) h).bind fun q102 =>
  p_X7_surely_26 q102.1 q102.2) else none)
  else
  if (tg h a0).1 = 6 then ((p_X7_fitting a0 h).bind fun q103 =>
  (p_X0_inAll q103.1 q103.2).bind fun q104 =>
  if (tg q104.2 a0).1 = 6 then ((p_X7_answer a0 q104.1 q104.2).bind fun q105 =>
  p_X7_surely_26 q105.1 q105.2) else none) else none) else none
set_option maxRecDepth 100000 in
theorem e_X7_surely_0 {l : Launch} {D : va_G} {dA : Nat → ClassId} {z : Nat} {sa : Nat → Nat} {Hz : Heap} (E : StrOK qLen qCh l D dA z sa Hz) {h0 fin : AH} {x : Int32}  : ∀ (a0 : Nat) (h : AH), p_X7_surely a0 h = some (x, fin) → GM l D dA z sa Hz q_X7_surely h0 (some (.int x)) fin 0 [(0, .ref a0)] [] h := by
  intro a0 h hd
  exact step E (is := I_X7_surely_0) (pc := 0) (K := (kx 21 (fun la st h => gR la 0 fun a0 => sE st (p_X7_surely_21 a0 h)) (kx 26 (fun la st h => sI st fun y0 st => sE st (p_X7_surely_26 y0 h)) k0))) (FI := FI_X7_surely) (FV := fV0) (FL := fL0) (rt := rtI) (ft := 0) (by exact hd) ok_X7_surely_0 (kx_ok (fun la st h e => by obtain ⟨a0, m_a0, e1⟩ := gR_inv e; obtain ⟨rfl, ez⟩ := sE_inv e1; exact gm_fewer (e_X7_surely_21 E  a0 h ez) (mem_cons m_a0 mem_nil)) (kx_ok (fun la st h e => by obtain ⟨y0, _, rfl, e1⟩ := sI_inv e; obtain ⟨rfl, ez⟩ := sE_inv e1; exact gm_fewer (e_X7_surely_26 E  y0 h ez) mem_nil) k0_ok)) (FI_X7_surely_ok E) (fV0_ok E) (fL0_ok E) (rtI_ok rfl)
theorem c_X7_surely {l : Launch} {D : va_G} {dA : Nat → ClassId} {z : Nat} {sa : Nat → Nat} {Hz : Heap} (E : StrOK qLen qCh l D dA z sa Hz) {a0 : Nat} {h fin : AH} {x : Int32} (hd : p_X7_surely a0 h = some (x, fin)) : CalOK l D dA z sa Hz q_X7_surely [.ref a0] h (some (.int x)) fin := calOf (by decide +kernel) (Nat.le_of_ble_eq_true rfl) (e_X7_surely_0 E a0 h hd)
def FI_X0_leftAtMost : Nat → List Value → AH → Option (Int32 × AH) := (cx 60 (fun As h => sI As fun x0 As => sI As fun x1 As => sE As (p_X7_has x0 x1 h)) (cx 62 (fun As h => sI As fun x0 As => sE As (p_X7_bit x0 h)) (cx 154 (fun As h => sI As fun x0 As => sE As (p_J6_bitCount_0f7a4 x0 h)) fI0)))
theorem FI_X0_leftAtMost_ok {l : Launch} {D : va_G} {dA : Nat → ClassId} {z : Nat} {sa : Nat → Nat} {Hz : Heap} (E : StrOK qLen qCh l D dA z sa Hz) : ∀ mi As h x h', FI_X0_leftAtMost mi As h = some (x, h') → CalOK l D dA z sa Hz (MT mi) As h (some (.int x)) h' := (cxI_ok (fun As h x h2 e => by obtain ⟨_, _, rfl, e0⟩ := sI_inv e; obtain ⟨_, _, rfl, e1⟩ := sI_inv e0; obtain ⟨rfl, ez⟩ := sE_inv e1; exact c_X7_has E ez) ((cxI_ok (fun As h x h2 e => by obtain ⟨_, _, rfl, e0⟩ := sI_inv e; obtain ⟨rfl, ez⟩ := sE_inv e0; exact c_X7_bit E ez) ((cxI_ok (fun As h x h2 e => by obtain ⟨_, _, rfl, e0⟩ := sI_inv e; obtain ⟨rfl, ez⟩ := sE_inv e0; exact c_J6_bitCount_0f7a4 E ez) (fI0_ok E))))))
def I_X0_leftAtMost_47 : List AI := [(.iload_n 2, 1, [], 0), (.iload_n 0, 1, [], 0), (.invokestatic 19, 3, [1, 154, 1, 1113], 0), (.iload_n 2, 1, [], 0), (.isub, 1, [], 0), (.invokestatic 25, 3, [5, 1114], 0), (.ireturn, 1, [], 0)]
theorem ok_X0_leftAtMost_47 : vBL MT qLen qCh false q_X0_leftAtMost.2.2.2.2.1 q_X0_leftAtMost.2.2.2.2.2.1 q_X0_leftAtMost.2.2.1 q_X0_leftAtMost.1.cls q_X0_leftAtMost.1.name q_X0_leftAtMost.2.1 0 47 I_X0_leftAtMost_47 = true := by decide +kernel
def p_X0_leftAtMost_47 (x0 : Int32) (x2 : Int32) (h : AH) : Option (Int32 × AH) :=
  (p_J6_bitCount_0f7a4 x0 h).bind fun q101 =>
  some ((if x2 < (q101.1 - x2) then (q101.1 - x2) else x2), q101.2)
set_option maxRecDepth 100000 in
theorem e_X0_leftAtMost_47 {l : Launch} {D : va_G} {dA : Nat → ClassId} {z : Nat} {sa : Nat → Nat} {Hz : Heap} (E : StrOK qLen qCh l D dA z sa Hz) {h0 fin : AH} {x : Int32}  : ∀ (x0 : Int32) (x2 : Int32) (h : AH), p_X0_leftAtMost_47 x0 x2 h = some (x, fin) → GM l D dA z sa Hz q_X0_leftAtMost h0 (some (.int x)) fin 47 [(0, .int x0), (2, .int x2)] [] h := by
  intro x0 x2 h hd
  exact step E (is := I_X0_leftAtMost_47) (pc := 47) (K := k0) (FI := FI_X0_leftAtMost) (FV := fV0) (FL := fL0) (rt := rtI) (ft := 0) (by exact hd) ok_X0_leftAtMost_47 k0_ok (FI_X0_leftAtMost_ok E) (fV0_ok E) (fL0_ok E) (rtI_ok rfl)
def I_X0_leftAtMost_36 : List AI := [(.invokestatic 15, 3, [1, 62, 1, 1112], 0), (.iadd, 1, [], 0), (.istore_n 2, 1, [], 0), (.iinc 3 1, 3, [], 1), (.goto (-40), 3, [4], 0)]
theorem ok_X0_leftAtMost_36 : vBL MT qLen qCh false q_X0_leftAtMost.2.2.2.2.1 q_X0_leftAtMost.2.2.2.2.2.1 q_X0_leftAtMost.2.2.1 q_X0_leftAtMost.1.cls q_X0_leftAtMost.1.name q_X0_leftAtMost.2.1 0 36 I_X0_leftAtMost_36 = true := by decide +kernel
def p_X0_leftAtMost_36 (k4 : Int32 → Int32 → Int32 → Int32 → AH → Option (Int32 × AH)) (x0 : Int32) (x1 : Int32) (x3 : Int32) (y0 : Int32) (y1 : Int32) (h : AH) : Option (Int32 × AH) :=
  (p_X7_bit y0 h).bind fun q102 =>
  let x103 := y1 + q102.1
  k4 x0 x1 x103 (x3 + (1 : Int32)) q102.2
set_option maxRecDepth 100000 in
theorem e_X0_leftAtMost_36 {l : Launch} {D : va_G} {dA : Nat → ClassId} {z : Nat} {sa : Nat → Nat} {Hz : Heap} (E : StrOK qLen qCh l D dA z sa Hz) {h0 fin : AH} {x : Int32}  {k4 : Int32 → Int32 → Int32 → Int32 → AH → Option (Int32 × AH)} (hk4 : ∀ (x0 : Int32) (x1 : Int32) (x2 : Int32) (x3 : Int32) (h : AH), k4 x0 x1 x2 x3 h = some (x, fin) → GM l D dA z sa Hz q_X0_leftAtMost h0 (some (.int x)) fin 4 [(0, .int x0), (1, .int x1), (2, .int x2), (3, .int x3)] [] h) : ∀ (x0 : Int32) (x1 : Int32) (x3 : Int32) (y0 : Int32) (y1 : Int32) (h : AH), p_X0_leftAtMost_36 k4 x0 x1 x3 y0 y1 h = some (x, fin) → GM l D dA z sa Hz q_X0_leftAtMost h0 (some (.int x)) fin 36 [(0, .int x0), (1, .int x1), (3, .int x3)] [.int y0, .int y1] h := by
  intro x0 x1 x3 y0 y1 h hd
  exact step E (is := I_X0_leftAtMost_36) (pc := 36) (K := (kx 4 (fun la st h => gI la 0 fun x0 => gI la 1 fun x1 => gI la 2 fun x2 => gI la 3 fun x3 => sE st (k4 x0 x1 x2 x3 h)) k0)) (FI := FI_X0_leftAtMost) (FV := fV0) (FL := fL0) (rt := rtI) (ft := 0) (by exact hd) ok_X0_leftAtMost_36 (kx_ok (fun la st h e => by obtain ⟨x0, m_x0, e1⟩ := gI_inv e; obtain ⟨x1, m_x1, e2⟩ := gI_inv e1; obtain ⟨x2, m_x2, e3⟩ := gI_inv e2; obtain ⟨x3, m_x3, e4⟩ := gI_inv e3; obtain ⟨rfl, ez⟩ := sE_inv e4; exact gm_fewer (hk4 x0 x1 x2 x3 h ez) (mem_cons m_x0 (mem_cons m_x1 (mem_cons m_x2 (mem_cons m_x3 mem_nil))))) k0_ok) (FI_X0_leftAtMost_ok E) (fV0_ok E) (fL0_ok E) (rtI_ok rfl)
def I_X0_leftAtMost_35 : List AI := [(.iconst 0, 1, [], 0)]
theorem ok_X0_leftAtMost_35 : vBL MT qLen qCh false q_X0_leftAtMost.2.2.2.2.1 q_X0_leftAtMost.2.2.2.2.2.1 q_X0_leftAtMost.2.2.1 q_X0_leftAtMost.1.cls q_X0_leftAtMost.1.name q_X0_leftAtMost.2.1 36 35 I_X0_leftAtMost_35 = true := by decide +kernel
def p_X0_leftAtMost_35 (k4 : Int32 → Int32 → Int32 → Int32 → AH → Option (Int32 × AH)) (x0 : Int32) (x1 : Int32) (x3 : Int32) (y0 : Int32) (h : AH) : Option (Int32 × AH) :=
  p_X0_leftAtMost_36 k4 x0 x1 x3 ((0 : Int32)) y0 h
set_option maxRecDepth 100000 in
theorem e_X0_leftAtMost_35 {l : Launch} {D : va_G} {dA : Nat → ClassId} {z : Nat} {sa : Nat → Nat} {Hz : Heap} (E : StrOK qLen qCh l D dA z sa Hz) {h0 fin : AH} {x : Int32}  {k4 : Int32 → Int32 → Int32 → Int32 → AH → Option (Int32 × AH)} (hk4 : ∀ (x0 : Int32) (x1 : Int32) (x2 : Int32) (x3 : Int32) (h : AH), k4 x0 x1 x2 x3 h = some (x, fin) → GM l D dA z sa Hz q_X0_leftAtMost h0 (some (.int x)) fin 4 [(0, .int x0), (1, .int x1), (2, .int x2), (3, .int x3)] [] h) : ∀ (x0 : Int32) (x1 : Int32) (x3 : Int32) (y0 : Int32) (h : AH), p_X0_leftAtMost_35 k4 x0 x1 x3 y0 h = some (x, fin) → GM l D dA z sa Hz q_X0_leftAtMost h0 (some (.int x)) fin 35 [(0, .int x0), (1, .int x1), (3, .int x3)] [.int y0] h := by
  intro x0 x1 x3 y0 h hd
  exact step E (is := I_X0_leftAtMost_35) (pc := 35) (K := (kx 36 (fun la st h => gI la 0 fun x0 => gI la 1 fun x1 => gI la 3 fun x3 => sI st fun y0 st => sI st fun y1 st => sE st (p_X0_leftAtMost_36 k4 x0 x1 x3 y0 y1 h)) k0)) (FI := FI_X0_leftAtMost) (FV := fV0) (FL := fL0) (rt := rtI) (ft := 36) (by exact hd) ok_X0_leftAtMost_35 (kx_ok (fun la st h e => by obtain ⟨x0, m_x0, e1⟩ := gI_inv e; obtain ⟨x1, m_x1, e2⟩ := gI_inv e1; obtain ⟨x3, m_x3, e3⟩ := gI_inv e2; obtain ⟨y0, _, rfl, e4⟩ := sI_inv e3; obtain ⟨y1, _, rfl, e5⟩ := sI_inv e4; obtain ⟨rfl, ez⟩ := sE_inv e5; exact gm_fewer (e_X0_leftAtMost_36 E hk4 x0 x1 x3 y0 y1 h ez) (mem_cons m_x0 (mem_cons m_x1 (mem_cons m_x3 mem_nil)))) k0_ok) (FI_X0_leftAtMost_ok E) (fV0_ok E) (fL0_ok E) (rtI_ok rfl)
def I_X0_leftAtMost_4 : List AI := [(.iload_n 3, 1, [], 0), (.bipush 16, 2, [], 16), (.if_icmp .ge 40, 3, [47], 0), (.iload_n 2, 1, [], 0), (.iload_n 0, 1, [], 0), (.iconst 1, 1, [], 1), (.iload_n 3, 1, [], 0), (.ishl, 1, [], 0), (.invokestatic 11, 3, [1, 60, 2, 1087], 0), (.ifCond .eq 17, 3, [35], 0), (.iload_n 3, 1, [], 0), (.iconst 1, 1, [], 1), (.iload_n 1, 1, [], 0), (.ishl, 1, [], 0), (.invokestatic 11, 3, [1, 60, 2, 1087], 0), (.ifCond .eq 7, 3, [35], 0), (.iconst 1, 1, [], 1), (.goto 4, 3, [36], 0)]
theorem ok_X0_leftAtMost_4 : vBL MT qLen qCh false q_X0_leftAtMost.2.2.2.2.1 q_X0_leftAtMost.2.2.2.2.2.1 q_X0_leftAtMost.2.2.1 q_X0_leftAtMost.1.cls q_X0_leftAtMost.1.name q_X0_leftAtMost.2.1 0 4 I_X0_leftAtMost_4 = true := by decide +kernel
def p_X0_leftAtMost_4 : Nat → Int32 → Int32 → Int32 → Int32 → AH → Option (Int32 × AH)
  | 0, _, _, _, _, _ => none
  | n + 1, x0, x1, x2, x3, h => if x3 < ((16 : Int32)) then ((p_X7_has x0 (((1 : Int32)) <<< (x3 &&& 31)) h).bind fun q105 =>
    if q105.1 = 0 then (p_X0_leftAtMost_35 (p_X0_leftAtMost_4 n) x0 x1 x3 x2 q105.2)
    else
    (p_X7_has x3 (((1 : Int32)) <<< (x1 &&& 31)) q105.2).bind fun q106 =>
    if q106.1 = 0 then (p_X0_leftAtMost_35 (p_X0_leftAtMost_4 n) x0 x1 x3 x2 q106.2)
    else
    p_X0_leftAtMost_36 (p_X0_leftAtMost_4 n) x0 x1 x3 ((1 : Int32)) x2 q106.2)
    else
    (p_J6_bitCount_0f7a4 x0 h).bind fun q104 =>
    some ((if x2 < (q104.1 - x2) then (q104.1 - x2) else x2), q104.2)
set_option maxRecDepth 100000 in
theorem e_X0_leftAtMost_4 {l : Launch} {D : va_G} {dA : Nat → ClassId} {z : Nat} {sa : Nat → Nat} {Hz : Heap} (E : StrOK qLen qCh l D dA z sa Hz) {h0 fin : AH} {x : Int32}  : ∀ (n : Nat) (x0 : Int32) (x1 : Int32) (x2 : Int32) (x3 : Int32) (h : AH), p_X0_leftAtMost_4 n x0 x1 x2 x3 h = some (x, fin) → GM l D dA z sa Hz q_X0_leftAtMost h0 (some (.int x)) fin 4 [(0, .int x0), (1, .int x1), (2, .int x2), (3, .int x3)] [] h := by
  intro n
  induction n with
  | zero => intro x0 x1 x2 x3 h hd; exact nomatch hd
  | succ n ih =>
    intro x0 x1 x2 x3 h hd
    exact step E (is := I_X0_leftAtMost_4) (pc := 4) (K := (kx 47 (fun la st h => gI la 0 fun x0 => gI la 2 fun x2 => sE st (p_X0_leftAtMost_47 x0 x2 h)) (kx 35 (fun la st h => gI la 0 fun x0 => gI la 1 fun x1 => gI la 3 fun x3 => sI st fun y0 st => sE st (p_X0_leftAtMost_35 (p_X0_leftAtMost_4 n) x0 x1 x3 y0 h)) (kx 36 (fun la st h => gI la 0 fun x0 => gI la 1 fun x1 => gI la 3 fun x3 => sI st fun y0 st => sI st fun y1 st => sE st (p_X0_leftAtMost_36 (p_X0_leftAtMost_4 n) x0 x1 x3 y0 y1 h)) k0)))) (FI := FI_X0_leftAtMost) (FV := fV0) (FL := fL0) (rt := rtI) (ft := 0) (by exact hd) ok_X0_leftAtMost_4 (kx_ok (fun la st h e => by obtain ⟨x0, m_x0, e1⟩ := gI_inv e; obtain ⟨x2, m_x2, e2⟩ := gI_inv e1; obtain ⟨rfl, ez⟩ := sE_inv e2; exact gm_fewer (e_X0_leftAtMost_47 E  x0 x2 h ez) (mem_cons m_x0 (mem_cons m_x2 mem_nil))) (kx_ok (fun la st h e => by obtain ⟨x0, m_x0, e1⟩ := gI_inv e; obtain ⟨x1, m_x1, e2⟩ := gI_inv e1; obtain ⟨x3, m_x3, e3⟩ := gI_inv e2; obtain ⟨y0, _, rfl, e4⟩ := sI_inv e3; obtain ⟨rfl, ez⟩ := sE_inv e4; exact gm_fewer (e_X0_leftAtMost_35 E ih x0 x1 x3 y0 h ez) (mem_cons m_x0 (mem_cons m_x1 (mem_cons m_x3 mem_nil)))) (kx_ok (fun la st h e => by obtain ⟨x0, m_x0, e1⟩ := gI_inv e; obtain ⟨x1, m_x1, e2⟩ := gI_inv e1; obtain ⟨x3, m_x3, e3⟩ := gI_inv e2; obtain ⟨y0, _, rfl, e4⟩ := sI_inv e3; obtain ⟨y1, _, rfl, e5⟩ := sI_inv e4; obtain ⟨rfl, ez⟩ := sE_inv e5; exact gm_fewer (e_X0_leftAtMost_36 E ih x0 x1 x3 y0 y1 h ez) (mem_cons m_x0 (mem_cons m_x1 (mem_cons m_x3 mem_nil)))) k0_ok))) (FI_X0_leftAtMost_ok E) (fV0_ok E) (fL0_ok E) (rtI_ok rfl)
def I_X0_leftAtMost_0 : List AI := [(.iconst 0, 1, [], 0), (.istore_n 2, 1, [], 0), (.iconst 0, 1, [], 0), (.istore_n 3, 1, [], 0)]
theorem ok_X0_leftAtMost_0 : vBL MT qLen qCh false q_X0_leftAtMost.2.2.2.2.1 q_X0_leftAtMost.2.2.2.2.2.1 q_X0_leftAtMost.2.2.1 q_X0_leftAtMost.1.cls q_X0_leftAtMost.1.name q_X0_leftAtMost.2.1 4 0 I_X0_leftAtMost_0 = true := by decide +kernel
def p_X0_leftAtMost (x0 : Int32) (x1 : Int32) (h : AH) : Option (Int32 × AH) :=
  p_X0_leftAtMost_4 FU x0 x1 ((0 : Int32)) ((0 : Int32)) h
set_option maxRecDepth 100000 in
theorem e_X0_leftAtMost_0 {l : Launch} {D : va_G} {dA : Nat → ClassId} {z : Nat} {sa : Nat → Nat} {Hz : Heap} (E : StrOK qLen qCh l D dA z sa Hz) {h0 fin : AH} {x : Int32}  : ∀ (x0 : Int32) (x1 : Int32) (h : AH), p_X0_leftAtMost x0 x1 h = some (x, fin) → GM l D dA z sa Hz q_X0_leftAtMost h0 (some (.int x)) fin 0 [(0, .int x0), (1, .int x1)] [] h := by
  intro x0 x1 h hd
  exact step E (is := I_X0_leftAtMost_0) (pc := 0) (K := (kx 4 (fun la st h => gI la 0 fun x0 => gI la 1 fun x1 => gI la 2 fun x2 => gI la 3 fun x3 => sE st (p_X0_leftAtMost_4 FU x0 x1 x2 x3 h)) k0)) (FI := FI_X0_leftAtMost) (FV := fV0) (FL := fL0) (rt := rtI) (ft := 4) (by exact hd) ok_X0_leftAtMost_0 (kx_ok (fun la st h e => by obtain ⟨x0, m_x0, e1⟩ := gI_inv e; obtain ⟨x1, m_x1, e2⟩ := gI_inv e1; obtain ⟨x2, m_x2, e3⟩ := gI_inv e2; obtain ⟨x3, m_x3, e4⟩ := gI_inv e3; obtain ⟨rfl, ez⟩ := sE_inv e4; exact gm_fewer (e_X0_leftAtMost_4 E  FU x0 x1 x2 x3 h ez) (mem_cons m_x0 (mem_cons m_x1 (mem_cons m_x2 (mem_cons m_x3 mem_nil))))) k0_ok) (FI_X0_leftAtMost_ok E) (fV0_ok E) (fL0_ok E) (rtI_ok rfl)
theorem c_X0_leftAtMost {l : Launch} {D : va_G} {dA : Nat → ClassId} {z : Nat} {sa : Nat → Nat} {Hz : Heap} (E : StrOK qLen qCh l D dA z sa Hz) {x0 : Int32} {x1 : Int32} {h fin : AH} {x : Int32} (hd : p_X0_leftAtMost x0 x1 h = some (x, fin)) : CalOK l D dA z sa Hz q_X0_leftAtMost [.int x0, .int x1] h (some (.int x)) fin := calOf (by decide +kernel) (Nat.le_of_ble_eq_true rfl) (e_X0_leftAtMost_0 E x0 x1 h hd)
def FI_X0_bestToAsk : Nat → List Value → AH → Option (Int32 × AH) := (cx 162 (fun As h => sI As fun x0 As => sI As fun x1 As => sE As (p_X0_leftAtMost x0 x1 h)) fI0)
theorem FI_X0_bestToAsk_ok {l : Launch} {D : va_G} {dA : Nat → ClassId} {z : Nat} {sa : Nat → Nat} {Hz : Heap} (E : StrOK qLen qCh l D dA z sa Hz) : ∀ mi As h x h', FI_X0_bestToAsk mi As h = some (x, h') → CalOK l D dA z sa Hz (MT mi) As h (some (.int x)) h' := (cxI_ok (fun As h x h2 e => by obtain ⟨_, _, rfl, e0⟩ := sI_inv e; obtain ⟨_, _, rfl, e1⟩ := sI_inv e0; obtain ⟨rfl, ez⟩ := sE_inv e1; exact c_X0_leftAtMost E ez) (fI0_ok E))
def I_X0_bestToAsk_39 : List AI := [(.iload_n 2, 1, [], 0), (.ireturn, 1, [], 0)]
theorem ok_X0_bestToAsk_39 : vBL MT qLen qCh false q_X0_bestToAsk.2.2.2.2.1 q_X0_bestToAsk.2.2.2.2.2.1 q_X0_bestToAsk.2.2.1 q_X0_bestToAsk.1.cls q_X0_bestToAsk.1.name q_X0_bestToAsk.2.1 0 39 I_X0_bestToAsk_39 = true := by decide +kernel
def p_X0_bestToAsk_39 (x2 : Int32) (h : AH) : Option (Int32 × AH) :=
  some (x2, h)
set_option maxRecDepth 100000 in
theorem e_X0_bestToAsk_39 {l : Launch} {D : va_G} {dA : Nat → ClassId} {z : Nat} {sa : Nat → Nat} {Hz : Heap} (E : StrOK qLen qCh l D dA z sa Hz) {h0 fin : AH} {x : Int32}  : ∀ (x2 : Int32) (h : AH), p_X0_bestToAsk_39 x2 h = some (x, fin) → GM l D dA z sa Hz q_X0_bestToAsk h0 (some (.int x)) fin 39 [(2, .int x2)] [] h := by
  intro x2 h hd
  exact step E (is := I_X0_bestToAsk_39) (pc := 39) (K := k0) (FI := FI_X0_bestToAsk) (FV := fV0) (FL := fL0) (rt := rtI) (ft := 0) (by exact hd) ok_X0_bestToAsk_39 k0_ok (FI_X0_bestToAsk_ok E) (fV0_ok E) (fL0_ok E) (rtI_ok rfl)
def I_X0_bestToAsk_33 : List AI := [(.iinc 3 1, 3, [], 1), (.goto (-31), 3, [5], 0)]
theorem ok_X0_bestToAsk_33 : vBL MT qLen qCh false q_X0_bestToAsk.2.2.2.2.1 q_X0_bestToAsk.2.2.2.2.2.1 q_X0_bestToAsk.2.2.1 q_X0_bestToAsk.1.cls q_X0_bestToAsk.1.name q_X0_bestToAsk.2.1 0 33 I_X0_bestToAsk_33 = true := by decide +kernel
def p_X0_bestToAsk_33 (k5 : Int32 → Int32 → Int32 → Int32 → AH → Option (Int32 × AH)) (x0 : Int32) (x1 : Int32) (x2 : Int32) (x3 : Int32) (h : AH) : Option (Int32 × AH) :=
  k5 x0 x1 x2 (x3 + (1 : Int32)) h
set_option maxRecDepth 100000 in
theorem e_X0_bestToAsk_33 {l : Launch} {D : va_G} {dA : Nat → ClassId} {z : Nat} {sa : Nat → Nat} {Hz : Heap} (E : StrOK qLen qCh l D dA z sa Hz) {h0 fin : AH} {x : Int32}  {k5 : Int32 → Int32 → Int32 → Int32 → AH → Option (Int32 × AH)} (hk5 : ∀ (x0 : Int32) (x1 : Int32) (x2 : Int32) (x3 : Int32) (h : AH), k5 x0 x1 x2 x3 h = some (x, fin) → GM l D dA z sa Hz q_X0_bestToAsk h0 (some (.int x)) fin 5 [(0, .int x0), (1, .int x1), (2, .int x2), (3, .int x3)] [] h) : ∀ (x0 : Int32) (x1 : Int32) (x2 : Int32) (x3 : Int32) (h : AH), p_X0_bestToAsk_33 k5 x0 x1 x2 x3 h = some (x, fin) → GM l D dA z sa Hz q_X0_bestToAsk h0 (some (.int x)) fin 33 [(0, .int x0), (1, .int x1), (2, .int x2), (3, .int x3)] [] h := by
  intro x0 x1 x2 x3 h hd
  exact step E (is := I_X0_bestToAsk_33) (pc := 33) (K := (kx 5 (fun la st h => gI la 0 fun x0 => gI la 1 fun x1 => gI la 2 fun x2 => gI la 3 fun x3 => sE st (k5 x0 x1 x2 x3 h)) k0)) (FI := FI_X0_bestToAsk) (FV := fV0) (FL := fL0) (rt := rtI) (ft := 0) (by exact hd) ok_X0_bestToAsk_33 (kx_ok (fun la st h e => by obtain ⟨x0, m_x0, e1⟩ := gI_inv e; obtain ⟨x1, m_x1, e2⟩ := gI_inv e1; obtain ⟨x2, m_x2, e3⟩ := gI_inv e2; obtain ⟨x3, m_x3, e4⟩ := gI_inv e3; obtain ⟨rfl, ez⟩ := sE_inv e4; exact gm_fewer (hk5 x0 x1 x2 x3 h ez) (mem_cons m_x0 (mem_cons m_x1 (mem_cons m_x2 (mem_cons m_x3 mem_nil))))) k0_ok) (FI_X0_bestToAsk_ok E) (fV0_ok E) (fL0_ok E) (rtI_ok rfl)
def I_X0_bestToAsk_31 : List AI := [(.iload_n 3, 1, [], 0), (.istore_n 2, 1, [], 0)]
theorem ok_X0_bestToAsk_31 : vBL MT qLen qCh false q_X0_bestToAsk.2.2.2.2.1 q_X0_bestToAsk.2.2.2.2.2.1 q_X0_bestToAsk.2.2.1 q_X0_bestToAsk.1.cls q_X0_bestToAsk.1.name q_X0_bestToAsk.2.1 33 31 I_X0_bestToAsk_31 = true := by decide +kernel
def p_X0_bestToAsk_31 (k5 : Int32 → Int32 → Int32 → Int32 → AH → Option (Int32 × AH)) (x0 : Int32) (x1 : Int32) (x3 : Int32) (h : AH) : Option (Int32 × AH) :=
  p_X0_bestToAsk_33 k5 x0 x1 x3 x3 h
set_option maxRecDepth 100000 in
theorem e_X0_bestToAsk_31 {l : Launch} {D : va_G} {dA : Nat → ClassId} {z : Nat} {sa : Nat → Nat} {Hz : Heap} (E : StrOK qLen qCh l D dA z sa Hz) {h0 fin : AH} {x : Int32}  {k5 : Int32 → Int32 → Int32 → Int32 → AH → Option (Int32 × AH)} (hk5 : ∀ (x0 : Int32) (x1 : Int32) (x2 : Int32) (x3 : Int32) (h : AH), k5 x0 x1 x2 x3 h = some (x, fin) → GM l D dA z sa Hz q_X0_bestToAsk h0 (some (.int x)) fin 5 [(0, .int x0), (1, .int x1), (2, .int x2), (3, .int x3)] [] h) : ∀ (x0 : Int32) (x1 : Int32) (x3 : Int32) (h : AH), p_X0_bestToAsk_31 k5 x0 x1 x3 h = some (x, fin) → GM l D dA z sa Hz q_X0_bestToAsk h0 (some (.int x)) fin 31 [(0, .int x0), (1, .int x1), (3, .int x3)] [] h := by
  intro x0 x1 x3 h hd
  exact step E (is := I_X0_bestToAsk_31) (pc := 31) (K := (kx 33 (fun la st h => gI la 0 fun x0 => gI la 1 fun x1 => gI la 2 fun x2 => gI la 3 fun x3 => sE st (p_X0_bestToAsk_33 k5 x0 x1 x2 x3 h)) k0)) (FI := FI_X0_bestToAsk) (FV := fV0) (FL := fL0) (rt := rtI) (ft := 33) (by exact hd) ok_X0_bestToAsk_31 (kx_ok (fun la st h e => by obtain ⟨x0, m_x0, e1⟩ := gI_inv e; obtain ⟨x1, m_x1, e2⟩ := gI_inv e1; obtain ⟨x2, m_x2, e3⟩ := gI_inv e2; obtain ⟨x3, m_x3, e4⟩ := gI_inv e3; obtain ⟨rfl, ez⟩ := sE_inv e4; exact gm_fewer (e_X0_bestToAsk_33 E hk5 x0 x1 x2 x3 h ez) (mem_cons m_x0 (mem_cons m_x1 (mem_cons m_x2 (mem_cons m_x3 mem_nil))))) k0_ok) (FI_X0_bestToAsk_ok E) (fV0_ok E) (fL0_ok E) (rtI_ok rfl)
def I_X0_bestToAsk_5 : List AI := [(.iload_n 3, 1, [], 0), (.iload_n 1, 1, [], 0), (.if_icmp .ge 32, 3, [39], 0), (.iload_n 0, 1, [], 0), (.ifCond .eq 28, 3, [39], 0), (.iload_n 2, 1, [], 0), (.ifCond .lt 16, 3, [31], 0), (.iload_n 0, 1, [], 0), (.iload_n 3, 1, [], 0), (.invokestatic 31, 3, [1, 162, 2, 1109], 0), (.iload_n 0, 1, [], 0), (.iload_n 2, 1, [], 0), (.invokestatic 31, 3, [1, 162, 2, 1109], 0), (.if_icmp .ge 5, 3, [33], 0)]
theorem ok_X0_bestToAsk_5 : vBL MT qLen qCh false q_X0_bestToAsk.2.2.2.2.1 q_X0_bestToAsk.2.2.2.2.2.1 q_X0_bestToAsk.2.2.1 q_X0_bestToAsk.1.cls q_X0_bestToAsk.1.name q_X0_bestToAsk.2.1 31 5 I_X0_bestToAsk_5 = true := by decide +kernel
def p_X0_bestToAsk_5 : Nat → Int32 → Int32 → Int32 → Int32 → AH → Option (Int32 × AH)
  | 0, _, _, _, _, _ => none
  | n + 1, x0, x1, x2, x3, h => if x3 < x1 then (if x0 = 0 then (p_X0_bestToAsk_39 x2 h)
    else
    if x2 < 0 then (p_X0_bestToAsk_31 (p_X0_bestToAsk_5 n) x0 x1 x3 h)
    else
    (p_X0_leftAtMost x0 x3 h).bind fun q101 =>
    (p_X0_leftAtMost x0 x2 q101.2).bind fun q102 =>
    if q101.1 < q102.1 then (p_X0_bestToAsk_31 (p_X0_bestToAsk_5 n) x0 x1 x3 q102.2)
    else
    p_X0_bestToAsk_33 (p_X0_bestToAsk_5 n) x0 x1 x2 x3 q102.2)
    else
    p_X0_bestToAsk_39 x2 h
set_option maxRecDepth 100000 in
theorem e_X0_bestToAsk_5 {l : Launch} {D : va_G} {dA : Nat → ClassId} {z : Nat} {sa : Nat → Nat} {Hz : Heap} (E : StrOK qLen qCh l D dA z sa Hz) {h0 fin : AH} {x : Int32}  : ∀ (n : Nat) (x0 : Int32) (x1 : Int32) (x2 : Int32) (x3 : Int32) (h : AH), p_X0_bestToAsk_5 n x0 x1 x2 x3 h = some (x, fin) → GM l D dA z sa Hz q_X0_bestToAsk h0 (some (.int x)) fin 5 [(0, .int x0), (1, .int x1), (2, .int x2), (3, .int x3)] [] h := by
  intro n
  induction n with
  | zero => intro x0 x1 x2 x3 h hd; exact nomatch hd
  | succ n ih =>
    intro x0 x1 x2 x3 h hd
    exact step E (is := I_X0_bestToAsk_5) (pc := 5) (K := (kx 39 (fun la st h => gI la 2 fun x2 => sE st (p_X0_bestToAsk_39 x2 h)) (kx 31 (fun la st h => gI la 0 fun x0 => gI la 1 fun x1 => gI la 3 fun x3 => sE st (p_X0_bestToAsk_31 (p_X0_bestToAsk_5 n) x0 x1 x3 h)) (kx 33 (fun la st h => gI la 0 fun x0 => gI la 1 fun x1 => gI la 2 fun x2 => gI la 3 fun x3 => sE st (p_X0_bestToAsk_33 (p_X0_bestToAsk_5 n) x0 x1 x2 x3 h)) k0)))) (FI := FI_X0_bestToAsk) (FV := fV0) (FL := fL0) (rt := rtI) (ft := 31) (by exact hd) ok_X0_bestToAsk_5 (kx_ok (fun la st h e => by obtain ⟨x2, m_x2, e1⟩ := gI_inv e; obtain ⟨rfl, ez⟩ := sE_inv e1; exact gm_fewer (e_X0_bestToAsk_39 E  x2 h ez) (mem_cons m_x2 mem_nil)) (kx_ok (fun la st h e => by obtain ⟨x0, m_x0, e1⟩ := gI_inv e; obtain ⟨x1, m_x1, e2⟩ := gI_inv e1; obtain ⟨x3, m_x3, e3⟩ := gI_inv e2; obtain ⟨rfl, ez⟩ := sE_inv e3; exact gm_fewer (e_X0_bestToAsk_31 E ih x0 x1 x3 h ez) (mem_cons m_x0 (mem_cons m_x1 (mem_cons m_x3 mem_nil)))) (kx_ok (fun la st h e => by obtain ⟨x0, m_x0, e1⟩ := gI_inv e; obtain ⟨x1, m_x1, e2⟩ := gI_inv e1; obtain ⟨x2, m_x2, e3⟩ := gI_inv e2; obtain ⟨x3, m_x3, e4⟩ := gI_inv e3; obtain ⟨rfl, ez⟩ := sE_inv e4; exact gm_fewer (e_X0_bestToAsk_33 E ih x0 x1 x2 x3 h ez) (mem_cons m_x0 (mem_cons m_x1 (mem_cons m_x2 (mem_cons m_x3 mem_nil))))) k0_ok))) (FI_X0_bestToAsk_ok E) (fV0_ok E) (fL0_ok E) (rtI_ok rfl)
def I_X0_bestToAsk_0 : List AI := [(.bipush (-2), 2, [], (-2)), (.istore_n 2, 1, [], 0), (.iconst 0, 1, [], 0), (.istore_n 3, 1, [], 0)]
theorem ok_X0_bestToAsk_0 : vBL MT qLen qCh false q_X0_bestToAsk.2.2.2.2.1 q_X0_bestToAsk.2.2.2.2.2.1 q_X0_bestToAsk.2.2.1 q_X0_bestToAsk.1.cls q_X0_bestToAsk.1.name q_X0_bestToAsk.2.1 5 0 I_X0_bestToAsk_0 = true := by decide +kernel
def p_X0_bestToAsk (x0 : Int32) (x1 : Int32) (h : AH) : Option (Int32 × AH) :=
  p_X0_bestToAsk_5 FU x0 x1 ((-2 : Int32)) ((0 : Int32)) h
set_option maxRecDepth 100000 in
theorem e_X0_bestToAsk_0 {l : Launch} {D : va_G} {dA : Nat → ClassId} {z : Nat} {sa : Nat → Nat} {Hz : Heap} (E : StrOK qLen qCh l D dA z sa Hz) {h0 fin : AH} {x : Int32}  : ∀ (x0 : Int32) (x1 : Int32) (h : AH), p_X0_bestToAsk x0 x1 h = some (x, fin) → GM l D dA z sa Hz q_X0_bestToAsk h0 (some (.int x)) fin 0 [(0, .int x0), (1, .int x1)] [] h := by
  intro x0 x1 h hd
  exact step E (is := I_X0_bestToAsk_0) (pc := 0) (K := (kx 5 (fun la st h => gI la 0 fun x0 => gI la 1 fun x1 => gI la 2 fun x2 => gI la 3 fun x3 => sE st (p_X0_bestToAsk_5 FU x0 x1 x2 x3 h)) k0)) (FI := FI_X0_bestToAsk) (FV := fV0) (FL := fL0) (rt := rtI) (ft := 5) (by exact hd) ok_X0_bestToAsk_0 (kx_ok (fun la st h e => by obtain ⟨x0, m_x0, e1⟩ := gI_inv e; obtain ⟨x1, m_x1, e2⟩ := gI_inv e1; obtain ⟨x2, m_x2, e3⟩ := gI_inv e2; obtain ⟨x3, m_x3, e4⟩ := gI_inv e3; obtain ⟨rfl, ez⟩ := sE_inv e4; exact gm_fewer (e_X0_bestToAsk_5 E  FU x0 x1 x2 x3 h ez) (mem_cons m_x0 (mem_cons m_x1 (mem_cons m_x2 (mem_cons m_x3 mem_nil))))) k0_ok) (FI_X0_bestToAsk_ok E) (fV0_ok E) (fL0_ok E) (rtI_ok rfl)
theorem c_X0_bestToAsk {l : Launch} {D : va_G} {dA : Nat → ClassId} {z : Nat} {sa : Nat → Nat} {Hz : Heap} (E : StrOK qLen qCh l D dA z sa Hz) {x0 : Int32} {x1 : Int32} {h fin : AH} {x : Int32} (hd : p_X0_bestToAsk x0 x1 h = some (x, fin)) : CalOK l D dA z sa Hz q_X0_bestToAsk [.int x0, .int x1] h (some (.int x)) fin := calOf (by decide +kernel) (Nat.le_of_ble_eq_true rfl) (e_X0_bestToAsk_0 E x0 x1 h hd)
def FI_X7_ask : Nat → List Value → AH → Option (Int32 × AH) := (cx 153 (fun As h => sR As fun a0 As => sE As (p_X7_fitting a0 h)) (cx 163 (fun As h => sI As fun x0 As => sI As fun x1 As => sE As (p_X0_bestToAsk x0 x1 h)) (cx 50 (fun As h => sR As fun a0 As => sI As fun x1 As => sE As (p_X7_answer a0 x1 h)) (cx 9 (fun As h => sR As fun a0 As => sI As fun x1 As => sE As (p_X7_refuse a0 x1 h)) fI0))))
theorem FI_X7_ask_ok {l : Launch} {D : va_G} {dA : Nat → ClassId} {z : Nat} {sa : Nat → Nat} {Hz : Heap} (E : StrOK qLen qCh l D dA z sa Hz) : ∀ mi As h x h', FI_X7_ask mi As h = some (x, h') → CalOK l D dA z sa Hz (MT mi) As h (some (.int x)) h' := (cxI_ok (fun As h x h2 e => by obtain ⟨_, _, rfl, e0⟩ := sR_inv e; obtain ⟨rfl, ez⟩ := sE_inv e0; exact c_X7_fitting E ez) ((cxI_ok (fun As h x h2 e => by obtain ⟨_, _, rfl, e0⟩ := sI_inv e; obtain ⟨_, _, rfl, e1⟩ := sI_inv e0; obtain ⟨rfl, ez⟩ := sE_inv e1; exact c_X0_bestToAsk E ez) ((cxI_ok (fun As h x h2 e => by obtain ⟨_, _, rfl, e0⟩ := sR_inv e; obtain ⟨_, _, rfl, e1⟩ := sI_inv e0; obtain ⟨rfl, ez⟩ := sE_inv e1; exact c_X7_answer E ez) ((cxI_ok (fun As h x h2 e => by obtain ⟨_, _, rfl, e0⟩ := sR_inv e; obtain ⟨_, _, rfl, e1⟩ := sI_inv e0; obtain ⟨rfl, ez⟩ := sE_inv e1; exact c_X7_refuse E ez) (fI0_ok E))))))))
def I_X7_ask_33 : List AI := [(.ireturn, 1, [], 0)]
theorem ok_X7_ask_33 : vBL MT qLen qCh false q_X7_ask.2.2.2.2.1 q_X7_ask.2.2.2.2.2.1 q_X7_ask.2.2.1 q_X7_ask.1.cls q_X7_ask.1.name q_X7_ask.2.1 0 33 I_X7_ask_33 = true := by decide +kernel
def p_X7_ask_33 (y0 : Int32) (h : AH) : Option (Int32 × AH) :=
  some (y0, h)
set_option maxRecDepth 100000 in
theorem e_X7_ask_33 {l : Launch} {D : va_G} {dA : Nat → ClassId} {z : Nat} {sa : Nat → Nat} {Hz : Heap} (E : StrOK qLen qCh l D dA z sa Hz) {h0 fin : AH} {x : Int32}  : ∀ (y0 : Int32) (h : AH), p_X7_ask_33 y0 h = some (x, fin) → GM l D dA z sa Hz q_X7_ask h0 (some (.int x)) fin 33 [] [.int y0] h := by
  intro y0 h hd
  exact step E (is := I_X7_ask_33) (pc := 33) (K := k0) (FI := FI_X7_ask) (FV := fV0) (FL := fL0) (rt := rtI) (ft := 0) (by exact hd) ok_X7_ask_33 k0_ok (FI_X7_ask_ok E) (fV0_ok E) (fL0_ok E) (rtI_ok rfl)
def I_X7_ask_28 : List AI := [(.aload_n 0, 1, [], 0), (.iconst 1, 1, [], 1), (.invokevirtual 54, 3, [1, 9, 2, 6, 403], 0)]
theorem ok_X7_ask_28 : vBL MT qLen qCh false q_X7_ask.2.2.2.2.1 q_X7_ask.2.2.2.2.2.1 q_X7_ask.2.2.1 q_X7_ask.1.cls q_X7_ask.1.name q_X7_ask.2.1 33 28 I_X7_ask_28 = true := by decide +kernel
def p_X7_ask_28 (a0 : Nat) (h : AH) : Option (Int32 × AH) :=
  if (tg h a0).1 = 6 then ((p_X7_refuse a0 ((1 : Int32)) h).bind fun q101 =>
  p_X7_ask_33 q101.1 q101.2) else none
set_option maxRecDepth 100000 in
theorem e_X7_ask_28 {l : Launch} {D : va_G} {dA : Nat → ClassId} {z : Nat} {sa : Nat → Nat} {Hz : Heap} (E : StrOK qLen qCh l D dA z sa Hz) {h0 fin : AH} {x : Int32}  : ∀ (a0 : Nat) (h : AH), p_X7_ask_28 a0 h = some (x, fin) → GM l D dA z sa Hz q_X7_ask h0 (some (.int x)) fin 28 [(0, .ref a0)] [] h := by
  intro a0 h hd
  exact step E (is := I_X7_ask_28) (pc := 28) (K := (kx 33 (fun la st h => sI st fun y0 st => sE st (p_X7_ask_33 y0 h)) k0)) (FI := FI_X7_ask) (FV := fV0) (FL := fL0) (rt := rtI) (ft := 33) (by exact hd) ok_X7_ask_28 (kx_ok (fun la st h e => by obtain ⟨y0, _, rfl, e1⟩ := sI_inv e; obtain ⟨rfl, ez⟩ := sE_inv e1; exact gm_fewer (e_X7_ask_33 E  y0 h ez) mem_nil) k0_ok) (FI_X7_ask_ok E) (fV0_ok E) (fL0_ok E) (rtI_ok rfl)
def I_X7_ask_0 : List AI := [(.aload_n 0, 1, [], 0), (.getfield 107, 3, [6, 3, 3, 357], 0), (.ifCond .eq 24, 3, [28], 0), (.aload_n 0, 1, [], 0), (.aload_n 0, 1, [], 0), (.invokevirtual 230, 3, [1, 153, 1, 6, 1059], 0), (.aload_n 0, 1, [], 0), (.getfield 19, 3, [6, 1, 2, 355], 0), (.getfield 249, 3, [5, 9, 0, 231], 0), (.invokestatic 252, 3, [1, 163, 2, 1106], 0), (.invokevirtual 68, 3, [1, 50, 2, 6, 633], 0), (.goto 8, 3, [33], 0)]
theorem ok_X7_ask_0 : vBL MT qLen qCh false q_X7_ask.2.2.2.2.1 q_X7_ask.2.2.2.2.2.1 q_X7_ask.2.2.1 q_X7_ask.1.cls q_X7_ask.1.name q_X7_ask.2.1 0 0 I_X7_ask_0 = true := by decide +kernel
def p_X7_ask (a0 : Nat) (h : AH) : Option (Int32 × AH) :=
  if (tg h a0).1 = 6 then (if (rI h a0 3) = 0 then (if (tg h a0).1 = 6 then ((p_X7_refuse a0 ((1 : Int32)) h).bind fun q102 =>
  p_X7_ask_33 q102.1 q102.2) else none)
  else
  if (tg h a0).1 = 6 then ((p_X7_fitting a0 h).bind fun q103 =>
  if (tg q103.2 a0).1 = 6 then (if (tg q103.2 (rR q103.2 a0 1)).1 = 5 then ((p_X0_bestToAsk q103.1 (rI q103.2 (rR q103.2 a0 1) 9) q103.2).bind fun q104 =>
  if (tg q104.2 a0).1 = 6 then ((p_X7_answer a0 q104.1 q104.2).bind fun q105 =>
  p_X7_ask_33 q105.1 q105.2) else none) else none) else none) else none) else none
set_option maxRecDepth 100000 in
theorem e_X7_ask_0 {l : Launch} {D : va_G} {dA : Nat → ClassId} {z : Nat} {sa : Nat → Nat} {Hz : Heap} (E : StrOK qLen qCh l D dA z sa Hz) {h0 fin : AH} {x : Int32}  : ∀ (a0 : Nat) (h : AH), p_X7_ask a0 h = some (x, fin) → GM l D dA z sa Hz q_X7_ask h0 (some (.int x)) fin 0 [(0, .ref a0)] [] h := by
  intro a0 h hd
  exact step E (is := I_X7_ask_0) (pc := 0) (K := (kx 28 (fun la st h => gR la 0 fun a0 => sE st (p_X7_ask_28 a0 h)) (kx 33 (fun la st h => sI st fun y0 st => sE st (p_X7_ask_33 y0 h)) k0))) (FI := FI_X7_ask) (FV := fV0) (FL := fL0) (rt := rtI) (ft := 0) (by exact hd) ok_X7_ask_0 (kx_ok (fun la st h e => by obtain ⟨a0, m_a0, e1⟩ := gR_inv e; obtain ⟨rfl, ez⟩ := sE_inv e1; exact gm_fewer (e_X7_ask_28 E  a0 h ez) (mem_cons m_a0 mem_nil)) (kx_ok (fun la st h e => by obtain ⟨y0, _, rfl, e1⟩ := sI_inv e; obtain ⟨rfl, ez⟩ := sE_inv e1; exact gm_fewer (e_X7_ask_33 E  y0 h ez) mem_nil) k0_ok)) (FI_X7_ask_ok E) (fV0_ok E) (fL0_ok E) (rtI_ok rfl)
theorem c_X7_ask {l : Launch} {D : va_G} {dA : Nat → ClassId} {z : Nat} {sa : Nat → Nat} {Hz : Heap} (E : StrOK qLen qCh l D dA z sa Hz) {a0 : Nat} {h fin : AH} {x : Int32} (hd : p_X7_ask a0 h = some (x, fin)) : CalOK l D dA z sa Hz q_X7_ask [.ref a0] h (some (.int x)) fin := calOf (by decide +kernel) (Nat.le_of_ble_eq_true rfl) (e_X7_ask_0 E a0 h hd)
def FI_X7_askLeaves : Nat → List Value → AH → Option (Int32 × AH) := (cx 9 (fun As h => sR As fun a0 As => sI As fun x1 As => sE As (p_X7_refuse a0 x1 h)) (cx 153 (fun As h => sR As fun a0 As => sE As (p_X7_fitting a0 h)) (cx 163 (fun As h => sI As fun x0 As => sI As fun x1 As => sE As (p_X0_bestToAsk x0 x1 h)) (cx 162 (fun As h => sI As fun x0 As => sI As fun x1 As => sE As (p_X0_leftAtMost x0 x1 h)) (cx 50 (fun As h => sR As fun a0 As => sI As fun x1 As => sE As (p_X7_answer a0 x1 h)) fI0)))))
theorem FI_X7_askLeaves_ok {l : Launch} {D : va_G} {dA : Nat → ClassId} {z : Nat} {sa : Nat → Nat} {Hz : Heap} (E : StrOK qLen qCh l D dA z sa Hz) : ∀ mi As h x h', FI_X7_askLeaves mi As h = some (x, h') → CalOK l D dA z sa Hz (MT mi) As h (some (.int x)) h' := (cxI_ok (fun As h x h2 e => by obtain ⟨_, _, rfl, e0⟩ := sR_inv e; obtain ⟨_, _, rfl, e1⟩ := sI_inv e0; obtain ⟨rfl, ez⟩ := sE_inv e1; exact c_X7_refuse E ez) ((cxI_ok (fun As h x h2 e => by obtain ⟨_, _, rfl, e0⟩ := sR_inv e; obtain ⟨rfl, ez⟩ := sE_inv e0; exact c_X7_fitting E ez) ((cxI_ok (fun As h x h2 e => by obtain ⟨_, _, rfl, e0⟩ := sI_inv e; obtain ⟨_, _, rfl, e1⟩ := sI_inv e0; obtain ⟨rfl, ez⟩ := sE_inv e1; exact c_X0_bestToAsk E ez) ((cxI_ok (fun As h x h2 e => by obtain ⟨_, _, rfl, e0⟩ := sI_inv e; obtain ⟨_, _, rfl, e1⟩ := sI_inv e0; obtain ⟨rfl, ez⟩ := sE_inv e1; exact c_X0_leftAtMost E ez) ((cxI_ok (fun As h x h2 e => by obtain ⟨_, _, rfl, e0⟩ := sR_inv e; obtain ⟨_, _, rfl, e1⟩ := sI_inv e0; obtain ⟨rfl, ez⟩ := sE_inv e1; exact c_X7_answer E ez) (fI0_ok E))))))))))
def I_X7_askLeaves_45 : List AI := [(.invokevirtual 68, 3, [1, 50, 2, 6, 633], 0), (.ireturn, 1, [], 0)]
theorem ok_X7_askLeaves_45 : vBL MT qLen qCh false q_X7_askLeaves.2.2.2.2.1 q_X7_askLeaves.2.2.2.2.2.1 q_X7_askLeaves.2.2.1 q_X7_askLeaves.1.cls q_X7_askLeaves.1.name q_X7_askLeaves.2.1 0 45 I_X7_askLeaves_45 = true := by decide +kernel
def p_X7_askLeaves_45 (y0 : Int32) (b1 : Nat) (h : AH) : Option (Int32 × AH) :=
  if (tg h b1).1 = 6 then ((p_X7_answer b1 y0 h).bind fun q101 =>
  some (q101.1, q101.2)) else none
set_option maxRecDepth 100000 in
theorem e_X7_askLeaves_45 {l : Launch} {D : va_G} {dA : Nat → ClassId} {z : Nat} {sa : Nat → Nat} {Hz : Heap} (E : StrOK qLen qCh l D dA z sa Hz) {h0 fin : AH} {x : Int32}  : ∀ (y0 : Int32) (b1 : Nat) (h : AH), p_X7_askLeaves_45 y0 b1 h = some (x, fin) → GM l D dA z sa Hz q_X7_askLeaves h0 (some (.int x)) fin 45 [] [.int y0, .ref b1] h := by
  intro y0 b1 h hd
  exact step E (is := I_X7_askLeaves_45) (pc := 45) (K := k0) (FI := FI_X7_askLeaves) (FV := fV0) (FL := fL0) (rt := rtI) (ft := 0) (by exact hd) ok_X7_askLeaves_45 k0_ok (FI_X7_askLeaves_ok E) (fV0_ok E) (fL0_ok E) (rtI_ok rfl)
def I_X7_askLeaves_40 : List AI := [(.iload_n 1, 1, [], 0), (.iload_n 2, 1, [], 0), (.invokestatic 255, 3, [1, 162, 2, 1121], 0)]
theorem ok_X7_askLeaves_40 : vBL MT qLen qCh false q_X7_askLeaves.2.2.2.2.1 q_X7_askLeaves.2.2.2.2.2.1 q_X7_askLeaves.2.2.1 q_X7_askLeaves.1.cls q_X7_askLeaves.1.name q_X7_askLeaves.2.1 45 40 I_X7_askLeaves_40 = true := by decide +kernel
def p_X7_askLeaves_40 (x1 : Int32) (x2 : Int32) (b0 : Nat) (h : AH) : Option (Int32 × AH) :=
  (p_X0_leftAtMost x1 x2 h).bind fun q102 =>
  p_X7_askLeaves_45 q102.1 b0 q102.2
set_option maxRecDepth 100000 in
theorem e_X7_askLeaves_40 {l : Launch} {D : va_G} {dA : Nat → ClassId} {z : Nat} {sa : Nat → Nat} {Hz : Heap} (E : StrOK qLen qCh l D dA z sa Hz) {h0 fin : AH} {x : Int32}  : ∀ (x1 : Int32) (x2 : Int32) (b0 : Nat) (h : AH), p_X7_askLeaves_40 x1 x2 b0 h = some (x, fin) → GM l D dA z sa Hz q_X7_askLeaves h0 (some (.int x)) fin 40 [(1, .int x1), (2, .int x2)] [.ref b0] h := by
  intro x1 x2 b0 h hd
  exact step E (is := I_X7_askLeaves_40) (pc := 40) (K := (kx 45 (fun la st h => sI st fun y0 st => sR st fun b1 st => sE st (p_X7_askLeaves_45 y0 b1 h)) k0)) (FI := FI_X7_askLeaves) (FV := fV0) (FL := fL0) (rt := rtI) (ft := 45) (by exact hd) ok_X7_askLeaves_40 (kx_ok (fun la st h e => by obtain ⟨y0, _, rfl, e1⟩ := sI_inv e; obtain ⟨b1, _, rfl, e2⟩ := sR_inv e1; obtain ⟨rfl, ez⟩ := sE_inv e2; exact gm_fewer (e_X7_askLeaves_45 E  y0 b1 h ez) mem_nil) k0_ok) (FI_X7_askLeaves_ok E) (fV0_ok E) (fL0_ok E) (rtI_ok rfl)
def I_X7_askLeaves_13 : List AI := [(.aload_n 0, 1, [], 0), (.invokevirtual 230, 3, [1, 153, 1, 6, 1059], 0), (.istore_n 1, 1, [], 0), (.iload_n 1, 1, [], 0), (.aload_n 0, 1, [], 0), (.getfield 19, 3, [6, 1, 2, 355], 0), (.getfield 249, 3, [5, 9, 0, 231], 0), (.invokestatic 252, 3, [1, 163, 2, 1106], 0), (.istore_n 2, 1, [], 0), (.aload_n 0, 1, [], 0), (.iload_n 2, 1, [], 0), (.ifCond .ge 8, 3, [40], 0), (.bipush (-2), 2, [], (-2)), (.goto 8, 3, [45], 0)]
theorem ok_X7_askLeaves_13 : vBL MT qLen qCh false q_X7_askLeaves.2.2.2.2.1 q_X7_askLeaves.2.2.2.2.2.1 q_X7_askLeaves.2.2.1 q_X7_askLeaves.1.cls q_X7_askLeaves.1.name q_X7_askLeaves.2.1 0 13 I_X7_askLeaves_13 = true := by decide +kernel
def p_X7_askLeaves_13 (a0 : Nat) (h : AH) : Option (Int32 × AH) :=
  if (tg h a0).1 = 6 then ((p_X7_fitting a0 h).bind fun q103 =>
  if (tg q103.2 a0).1 = 6 then (if (tg q103.2 (rR q103.2 a0 1)).1 = 5 then ((p_X0_bestToAsk q103.1 (rI q103.2 (rR q103.2 a0 1) 9) q103.2).bind fun q104 =>
  if q104.1 < 0 then (p_X7_askLeaves_45 ((-2 : Int32)) a0 q104.2)
  else
  (p_X0_leftAtMost q103.1 q104.1 q104.2).bind fun q105 =>
  p_X7_askLeaves_45 q105.1 a0 q105.2) else none) else none) else none
set_option maxRecDepth 100000 in
theorem e_X7_askLeaves_13 {l : Launch} {D : va_G} {dA : Nat → ClassId} {z : Nat} {sa : Nat → Nat} {Hz : Heap} (E : StrOK qLen qCh l D dA z sa Hz) {h0 fin : AH} {x : Int32}  : ∀ (a0 : Nat) (h : AH), p_X7_askLeaves_13 a0 h = some (x, fin) → GM l D dA z sa Hz q_X7_askLeaves h0 (some (.int x)) fin 13 [(0, .ref a0)] [] h := by
  intro a0 h hd
  exact step E (is := I_X7_askLeaves_13) (pc := 13) (K := (kx 40 (fun la st h => gI la 1 fun x1 => gI la 2 fun x2 => sR st fun b0 st => sE st (p_X7_askLeaves_40 x1 x2 b0 h)) (kx 45 (fun la st h => sI st fun y0 st => sR st fun b1 st => sE st (p_X7_askLeaves_45 y0 b1 h)) k0))) (FI := FI_X7_askLeaves) (FV := fV0) (FL := fL0) (rt := rtI) (ft := 0) (by exact hd) ok_X7_askLeaves_13 (kx_ok (fun la st h e => by obtain ⟨x1, m_x1, e1⟩ := gI_inv e; obtain ⟨x2, m_x2, e2⟩ := gI_inv e1; obtain ⟨b0, _, rfl, e3⟩ := sR_inv e2; obtain ⟨rfl, ez⟩ := sE_inv e3; exact gm_fewer (e_X7_askLeaves_40 E  x1 x2 b0 h ez) (mem_cons m_x1 (mem_cons m_x2 mem_nil))) (kx_ok (fun la st h e => by obtain ⟨y0, _, rfl, e1⟩ := sI_inv e; obtain ⟨b1, _, rfl, e2⟩ := sR_inv e1; obtain ⟨rfl, ez⟩ := sE_inv e2; exact gm_fewer (e_X7_askLeaves_45 E  y0 b1 h ez) mem_nil) k0_ok)) (FI_X7_askLeaves_ok E) (fV0_ok E) (fL0_ok E) (rtI_ok rfl)
def I_X7_askLeaves_0 : List AI := [(.aload_n 0, 1, [], 0), (.getfield 107, 3, [6, 3, 3, 357], 0), (.ifCond .ne 9, 3, [13], 0), (.aload_n 0, 1, [], 0), (.iconst 1, 1, [], 1), (.invokevirtual 54, 3, [1, 9, 2, 6, 403], 0), (.ireturn, 1, [], 0)]
theorem ok_X7_askLeaves_0 : vBL MT qLen qCh false q_X7_askLeaves.2.2.2.2.1 q_X7_askLeaves.2.2.2.2.2.1 q_X7_askLeaves.2.2.1 q_X7_askLeaves.1.cls q_X7_askLeaves.1.name q_X7_askLeaves.2.1 0 0 I_X7_askLeaves_0 = true := by decide +kernel
def p_X7_askLeaves (a0 : Nat) (h : AH) : Option (Int32 × AH) :=
  if (tg h a0).1 = 6 then (if (rI h a0 3) = 0 then (if (tg h a0).1 = 6 then ((p_X7_refuse a0 ((1 : Int32)) h).bind fun q109 =>
  some (q109.1, q109.2)) else none)
  else
  if (tg h a0).1 = 6 then ((p_X7_fitting a0 h).bind fun q106 =>
  if (tg q106.2 a0).1 = 6 then (if (tg q106.2 (rR q106.2 a0 1)).1 = 5 then ((p_X0_bestToAsk q106.1 (rI q106.2 (rR q106.2 a0 1) 9) q106.2).bind fun q107 =>
  if q107.1 < 0 then (p_X7_askLeaves_45 ((-2 : Int32)) a0 q107.2)
  else
  (p_X0_leftAtMost q106.1 q107.1 q107.2).bind fun q108 =>
  p_X7_askLeaves_45 q108.1 a0 q108.2) else none) else none) else none) else none
set_option maxRecDepth 100000 in
theorem e_X7_askLeaves_0 {l : Launch} {D : va_G} {dA : Nat → ClassId} {z : Nat} {sa : Nat → Nat} {Hz : Heap} (E : StrOK qLen qCh l D dA z sa Hz) {h0 fin : AH} {x : Int32}  : ∀ (a0 : Nat) (h : AH), p_X7_askLeaves a0 h = some (x, fin) → GM l D dA z sa Hz q_X7_askLeaves h0 (some (.int x)) fin 0 [(0, .ref a0)] [] h := by
  intro a0 h hd
  exact step E (is := I_X7_askLeaves_0) (pc := 0) (K := (kx 13 (fun la st h => gR la 0 fun a0 => sE st (p_X7_askLeaves_13 a0 h)) k0)) (FI := FI_X7_askLeaves) (FV := fV0) (FL := fL0) (rt := rtI) (ft := 0) (by exact hd) ok_X7_askLeaves_0 (kx_ok (fun la st h e => by obtain ⟨a0, m_a0, e1⟩ := gR_inv e; obtain ⟨rfl, ez⟩ := sE_inv e1; exact gm_fewer (e_X7_askLeaves_13 E  a0 h ez) (mem_cons m_a0 mem_nil)) k0_ok) (FI_X7_askLeaves_ok E) (fV0_ok E) (fL0_ok E) (rtI_ok rfl)
theorem c_X7_askLeaves {l : Launch} {D : va_G} {dA : Nat → ClassId} {z : Nat} {sa : Nat → Nat} {Hz : Heap} (E : StrOK qLen qCh l D dA z sa Hz) {a0 : Nat} {h fin : AH} {x : Int32} (hd : p_X7_askLeaves a0 h = some (x, fin)) : CalOK l D dA z sa Hz q_X7_askLeaves [.ref a0] h (some (.int x)) fin := calOf (by decide +kernel) (Nat.le_of_ble_eq_true rfl) (e_X7_askLeaves_0 E a0 h hd)
def FI_X7_judge : Nat → List Value → AH → Option (Int32 × AH) := (cx 151 (fun As h => sR As fun a0 As => sR As fun a1 As => sE As (p_X6_firstUntrue a0 a1 h)) (cx 50 (fun As h => sR As fun a0 As => sI As fun x1 As => sE As (p_X7_answer a0 x1 h)) (cx 9 (fun As h => sR As fun a0 As => sI As fun x1 As => sE As (p_X7_refuse a0 x1 h)) fI0)))
theorem FI_X7_judge_ok {l : Launch} {D : va_G} {dA : Nat → ClassId} {z : Nat} {sa : Nat → Nat} {Hz : Heap} (E : StrOK qLen qCh l D dA z sa Hz) : ∀ mi As h x h', FI_X7_judge mi As h = some (x, h') → CalOK l D dA z sa Hz (MT mi) As h (some (.int x)) h' := (cxI_ok (fun As h x h2 e => by obtain ⟨_, _, rfl, e0⟩ := sR_inv e; obtain ⟨_, _, rfl, e1⟩ := sR_inv e0; obtain ⟨rfl, ez⟩ := sE_inv e1; exact c_X6_firstUntrue E ez) ((cxI_ok (fun As h x h2 e => by obtain ⟨_, _, rfl, e0⟩ := sR_inv e; obtain ⟨_, _, rfl, e1⟩ := sI_inv e0; obtain ⟨rfl, ez⟩ := sE_inv e1; exact c_X7_answer E ez) ((cxI_ok (fun As h x h2 e => by obtain ⟨_, _, rfl, e0⟩ := sR_inv e; obtain ⟨_, _, rfl, e1⟩ := sI_inv e0; obtain ⟨rfl, ez⟩ := sE_inv e1; exact c_X7_refuse E ez) (fI0_ok E))))))
def I_X7_judge_33 : List AI := [(.ireturn, 1, [], 0)]
theorem ok_X7_judge_33 : vBL MT qLen qCh false q_X7_judge.2.2.2.2.1 q_X7_judge.2.2.2.2.2.1 q_X7_judge.2.2.1 q_X7_judge.1.cls q_X7_judge.1.name q_X7_judge.2.1 0 33 I_X7_judge_33 = true := by decide +kernel
def p_X7_judge_33 (y0 : Int32) (h : AH) : Option (Int32 × AH) :=
  some (y0, h)
set_option maxRecDepth 100000 in
theorem e_X7_judge_33 {l : Launch} {D : va_G} {dA : Nat → ClassId} {z : Nat} {sa : Nat → Nat} {Hz : Heap} (E : StrOK qLen qCh l D dA z sa Hz) {h0 fin : AH} {x : Int32}  : ∀ (y0 : Int32) (h : AH), p_X7_judge_33 y0 h = some (x, fin) → GM l D dA z sa Hz q_X7_judge h0 (some (.int x)) fin 33 [] [.int y0] h := by
  intro y0 h hd
  exact step E (is := I_X7_judge_33) (pc := 33) (K := k0) (FI := FI_X7_judge) (FV := fV0) (FL := fL0) (rt := rtI) (ft := 0) (by exact hd) ok_X7_judge_33 k0_ok (FI_X7_judge_ok E) (fV0_ok E) (fL0_ok E) (rtI_ok rfl)
def I_X7_judge_28 : List AI := [(.aload_n 0, 1, [], 0), (.iconst 1, 1, [], 1), (.invokevirtual 54, 3, [1, 9, 2, 6, 403], 0)]
theorem ok_X7_judge_28 : vBL MT qLen qCh false q_X7_judge.2.2.2.2.1 q_X7_judge.2.2.2.2.2.1 q_X7_judge.2.2.1 q_X7_judge.1.cls q_X7_judge.1.name q_X7_judge.2.1 33 28 I_X7_judge_28 = true := by decide +kernel
def p_X7_judge_28 (a0 : Nat) (h : AH) : Option (Int32 × AH) :=
  if (tg h a0).1 = 6 then ((p_X7_refuse a0 ((1 : Int32)) h).bind fun q101 =>
  p_X7_judge_33 q101.1 q101.2) else none
set_option maxRecDepth 100000 in
theorem e_X7_judge_28 {l : Launch} {D : va_G} {dA : Nat → ClassId} {z : Nat} {sa : Nat → Nat} {Hz : Heap} (E : StrOK qLen qCh l D dA z sa Hz) {h0 fin : AH} {x : Int32}  : ∀ (a0 : Nat) (h : AH), p_X7_judge_28 a0 h = some (x, fin) → GM l D dA z sa Hz q_X7_judge h0 (some (.int x)) fin 28 [(0, .ref a0)] [] h := by
  intro a0 h hd
  exact step E (is := I_X7_judge_28) (pc := 28) (K := (kx 33 (fun la st h => sI st fun y0 st => sE st (p_X7_judge_33 y0 h)) k0)) (FI := FI_X7_judge) (FV := fV0) (FL := fL0) (rt := rtI) (ft := 33) (by exact hd) ok_X7_judge_28 (kx_ok (fun la st h e => by obtain ⟨y0, _, rfl, e1⟩ := sI_inv e; obtain ⟨rfl, ez⟩ := sE_inv e1; exact gm_fewer (e_X7_judge_33 E  y0 h ez) mem_nil) k0_ok) (FI_X7_judge_ok E) (fV0_ok E) (fL0_ok E) (rtI_ok rfl)
def I_X7_judge_0 : List AI := [(.aload_n 0, 1, [], 0), (.getfield 107, 3, [6, 3, 3, 357], 0), (.ifCond .eq 24, 3, [28], 0), (.aload_n 0, 1, [], 0), (.aload_n 0, 1, [], 0), (.getfield 19, 3, [6, 1, 2, 355], 0), (.aload_n 0, 1, [], 0), (.getfield 19, 3, [6, 1, 2, 355], 0), (.getfield 258, 3, [5, 0, 2, 212], 0), (.invokevirtual 261, 3, [1, 151, 2, 5, 1126], 0), (.invokevirtual 68, 3, [1, 50, 2, 6, 633], 0), (.goto 8, 3, [33], 0)]
theorem ok_X7_judge_0 : vBL MT qLen qCh false q_X7_judge.2.2.2.2.1 q_X7_judge.2.2.2.2.2.1 q_X7_judge.2.2.1 q_X7_judge.1.cls q_X7_judge.1.name q_X7_judge.2.1 0 0 I_X7_judge_0 = true := by decide +kernel
def p_X7_judge (a0 : Nat) (h : AH) : Option (Int32 × AH) :=
  if (tg h a0).1 = 6 then (if (rI h a0 3) = 0 then (if (tg h a0).1 = 6 then ((p_X7_refuse a0 ((1 : Int32)) h).bind fun q102 =>
  p_X7_judge_33 q102.1 q102.2) else none)
  else
  if (tg h a0).1 = 6 then (if (tg h a0).1 = 6 then (if (tg h (rR h a0 1)).1 = 5 then (if (tg h (rR h a0 1)).1 = 5 then ((p_X6_firstUntrue (rR h a0 1) (rR h (rR h a0 1) 0) h).bind fun q103 =>
  if (tg q103.2 a0).1 = 6 then ((p_X7_answer a0 q103.1 q103.2).bind fun q104 =>
  p_X7_judge_33 q104.1 q104.2) else none) else none) else none) else none) else none) else none
set_option maxRecDepth 100000 in
theorem e_X7_judge_0 {l : Launch} {D : va_G} {dA : Nat → ClassId} {z : Nat} {sa : Nat → Nat} {Hz : Heap} (E : StrOK qLen qCh l D dA z sa Hz) {h0 fin : AH} {x : Int32}  : ∀ (a0 : Nat) (h : AH), p_X7_judge a0 h = some (x, fin) → GM l D dA z sa Hz q_X7_judge h0 (some (.int x)) fin 0 [(0, .ref a0)] [] h := by
  intro a0 h hd
  exact step E (is := I_X7_judge_0) (pc := 0) (K := (kx 28 (fun la st h => gR la 0 fun a0 => sE st (p_X7_judge_28 a0 h)) (kx 33 (fun la st h => sI st fun y0 st => sE st (p_X7_judge_33 y0 h)) k0))) (FI := FI_X7_judge) (FV := fV0) (FL := fL0) (rt := rtI) (ft := 0) (by exact hd) ok_X7_judge_0 (kx_ok (fun la st h e => by obtain ⟨a0, m_a0, e1⟩ := gR_inv e; obtain ⟨rfl, ez⟩ := sE_inv e1; exact gm_fewer (e_X7_judge_28 E  a0 h ez) (mem_cons m_a0 mem_nil)) (kx_ok (fun la st h e => by obtain ⟨y0, _, rfl, e1⟩ := sI_inv e; obtain ⟨rfl, ez⟩ := sE_inv e1; exact gm_fewer (e_X7_judge_33 E  y0 h ez) mem_nil) k0_ok)) (FI_X7_judge_ok E) (fV0_ok E) (fL0_ok E) (rtI_ok rfl)
theorem c_X7_judge {l : Launch} {D : va_G} {dA : Nat → ClassId} {z : Nat} {sa : Nat → Nat} {Hz : Heap} (E : StrOK qLen qCh l D dA z sa Hz) {a0 : Nat} {h fin : AH} {x : Int32} (hd : p_X7_judge a0 h = some (x, fin)) : CalOK l D dA z sa Hz q_X7_judge [.ref a0] h (some (.int x)) fin := calOf (by decide +kernel) (Nat.le_of_ble_eq_true rfl) (e_X7_judge_0 E a0 h hd)
def FV_X7_keep : Nat → List Value → AH → Option (AH) := (cx 141 (fun As h => sR As fun a0 As => sR As fun a1 As => sE As (p_X4_copyFrom a0 a1 h)) fV0)
theorem FV_X7_keep_ok {l : Launch} {D : va_G} {dA : Nat → ClassId} {z : Nat} {sa : Nat → Nat} {Hz : Heap} (E : StrOK qLen qCh l D dA z sa Hz) : ∀ mi As h h', FV_X7_keep mi As h = some h' → CalOK l D dA z sa Hz (MT mi) As h none h' := (cxV_ok (fun As h h2 e => by obtain ⟨_, _, rfl, e0⟩ := sR_inv e; obtain ⟨_, _, rfl, e1⟩ := sR_inv e0; obtain ⟨rfl, ez⟩ := sE_inv e1; exact c_X4_copyFrom E ez) (fV0_ok E))
def I_X7_keep_51 : List AI := [(.return_, 1, [], 0)]
theorem ok_X7_keep_51 : vBL MT qLen qCh false q_X7_keep.2.2.2.2.1 q_X7_keep.2.2.2.2.2.1 q_X7_keep.2.2.1 q_X7_keep.1.cls q_X7_keep.1.name q_X7_keep.2.1 0 51 I_X7_keep_51 = true := by decide +kernel
def p_X7_keep_51 (h : AH) : Option (AH) :=
  some h
set_option maxRecDepth 100000 in
theorem e_X7_keep_51 {l : Launch} {D : va_G} {dA : Nat → ClassId} {z : Nat} {sa : Nat → Nat} {Hz : Heap} (E : StrOK qLen qCh l D dA z sa Hz) {h0 fin : AH}  : ∀  (h : AH), p_X7_keep_51 h = some fin → GM l D dA z sa Hz q_X7_keep h0 none fin 51 [] [] h := by
  intro h hd
  exact step E (is := I_X7_keep_51) (pc := 51) (K := k0) (FI := fI0) (FV := FV_X7_keep) (FL := fL0) (rt := rtV) (ft := 0) (by exact hd) ok_X7_keep_51 k0_ok (fI0_ok E) (FV_X7_keep_ok E) (fL0_ok E) (rtV_ok rfl)
def I_X7_keep_0 : List AI := [(.aload_n 0, 1, [], 0), (.aload_n 0, 1, [], 0), (.getfield 323, 3, [6, 7, 0, 361], 0), (.iconst 1, 1, [], 1), (.iadd, 1, [], 0), (.bipush 15, 2, [], 15), (.iand, 1, [], 0), (.putfield 323, 3, [6, 7, 0, 361], 0), (.aload_n 0, 1, [], 0), (.getfield 38, 3, [6, 6, 2, 360], 0), (.aload_n 0, 1, [], 0), (.getfield 323, 3, [6, 7, 0, 361], 0), (.aaload, 1, [], 0), (.aload_n 0, 1, [], 0), (.getfield 29, 3, [6, 4, 2, 358], 0), (.getfield 206, 3, [1, 0, 2, 319], 0), (.invokevirtual 326, 3, [2, 141, 2, 3, 1135], 0), (.aload_n 0, 1, [], 0), (.getfield 320, 3, [6, 8, 0, 362], 0), (.bipush 16, 2, [], 16), (.if_icmp .ge 13, 3, [51], 0), (.aload_n 0, 1, [], 0), (.dup, 1, [], 0), (.getfield 320, 3, [6, 8, 0, 362], 0), (.iconst 1, 1, [], 1), (.iadd, 1, [], 0), (.putfield 320, 3, [6, 8, 0, 362], 0)]
theorem ok_X7_keep_0 : vBL MT qLen qCh false q_X7_keep.2.2.2.2.1 q_X7_keep.2.2.2.2.2.1 q_X7_keep.2.2.1 q_X7_keep.1.cls q_X7_keep.1.name q_X7_keep.2.1 51 0 I_X7_keep_0 = true := by decide +kernel
def p_X7_keep (a0 : Nat) (h : AH) : Option (AH) :=
  if (tg h a0).1 = 6 then (if (tg h a0).1 = 6 then (let h101 := wI h a0 7 (((rI h a0 7) + ((1 : Int32))) &&& ((15 : Int32)))
  if (tg h101 a0).1 = 6 then (if (tg h101 a0).1 = 6 then (if inB h101 (rR h101 a0 6) 104 (rI h101 a0 7) then (if (tg h101 a0).1 = 6 then (if (tg h101 (rR h101 a0 4)).1 = 1 then (if (tg h101 (rR h101 (rR h101 a0 6) (rI h101 a0 7).toNatClampNeg)).1 = 3 then ((p_X4_copyFrom (rR h101 (rR h101 a0 6) (rI h101 a0 7).toNatClampNeg) (rR h101 (rR h101 a0 4) 0) h101).bind fun h102 =>
  if (tg h102 a0).1 = 6 then (if (rI h102 a0 8) < ((16 : Int32)) then (if (tg h102 a0).1 = 6 then (if (tg h102 a0).1 = 6 then (let h103 := wI h102 a0 8 ((rI h102 a0 8) + ((1 : Int32)))
  p_X7_keep_51 h103) else none) else none)
  else
  p_X7_keep_51 h102) else none) else none) else none) else none) else none) else none) else none) else none) else none
set_option maxRecDepth 100000 in
theorem e_X7_keep_0 {l : Launch} {D : va_G} {dA : Nat → ClassId} {z : Nat} {sa : Nat → Nat} {Hz : Heap} (E : StrOK qLen qCh l D dA z sa Hz) {h0 fin : AH}  : ∀ (a0 : Nat) (h : AH), p_X7_keep a0 h = some fin → GM l D dA z sa Hz q_X7_keep h0 none fin 0 [(0, .ref a0)] [] h := by
  intro a0 h hd
  exact step E (is := I_X7_keep_0) (pc := 0) (K := (kx 51 (fun la st h => sE st (p_X7_keep_51 h)) k0)) (FI := fI0) (FV := FV_X7_keep) (FL := fL0) (rt := rtV) (ft := 51) (by exact hd) ok_X7_keep_0 (kx_ok (fun la st h e => by obtain ⟨rfl, ez⟩ := sE_inv e; exact gm_fewer (e_X7_keep_51 E   h ez) mem_nil) k0_ok) (fI0_ok E) (FV_X7_keep_ok E) (fL0_ok E) (rtV_ok rfl)
theorem c_X7_keep {l : Launch} {D : va_G} {dA : Nat → ClassId} {z : Nat} {sa : Nat → Nat} {Hz : Heap} (E : StrOK qLen qCh l D dA z sa Hz) {a0 : Nat} {h fin : AH} (hd : p_X7_keep a0 h = some fin) : CalOK l D dA z sa Hz q_X7_keep [.ref a0] h none fin := calOf (by decide +kernel) (Nat.le_of_ble_eq_true rfl) (e_X7_keep_0 E a0 h hd)
def FI_X7_access : Nat → List Value → AH → Option (Int32 × AH) := (cx 68 (fun As h => sR As fun a0 As => sI As fun x1 As => sE As (p_X7_isPage a0 x1 h)) (cx 9 (fun As h => sR As fun a0 As => sI As fun x1 As => sE As (p_X7_refuse a0 x1 h)) (cx 69 (fun As h => sI As fun x0 As => sI As fun x1 As => sE As (p_X7_mode x0 x1 h)) (cx 134 (fun As h => sR As fun a0 As => sI As fun x1 As => sI As fun x2 As => sE As (p_X2_reach a0 x1 x2 h)) (cx 50 (fun As h => sR As fun a0 As => sI As fun x1 As => sE As (p_X7_answer a0 x1 h)) fI0)))))
theorem FI_X7_access_ok {l : Launch} {D : va_G} {dA : Nat → ClassId} {z : Nat} {sa : Nat → Nat} {Hz : Heap} (E : StrOK qLen qCh l D dA z sa Hz) : ∀ mi As h x h', FI_X7_access mi As h = some (x, h') → CalOK l D dA z sa Hz (MT mi) As h (some (.int x)) h' := (cxI_ok (fun As h x h2 e => by obtain ⟨_, _, rfl, e0⟩ := sR_inv e; obtain ⟨_, _, rfl, e1⟩ := sI_inv e0; obtain ⟨rfl, ez⟩ := sE_inv e1; exact c_X7_isPage E ez) ((cxI_ok (fun As h x h2 e => by obtain ⟨_, _, rfl, e0⟩ := sR_inv e; obtain ⟨_, _, rfl, e1⟩ := sI_inv e0; obtain ⟨rfl, ez⟩ := sE_inv e1; exact c_X7_refuse E ez) ((cxI_ok (fun As h x h2 e => by obtain ⟨_, _, rfl, e0⟩ := sI_inv e; obtain ⟨_, _, rfl, e1⟩ := sI_inv e0; obtain ⟨rfl, ez⟩ := sE_inv e1; exact c_X7_mode E ez) ((cxI_ok (fun As h x h2 e => by obtain ⟨_, _, rfl, e0⟩ := sR_inv e; obtain ⟨_, _, rfl, e1⟩ := sI_inv e0; obtain ⟨_, _, rfl, e2⟩ := sI_inv e1; obtain ⟨rfl, ez⟩ := sE_inv e2; exact c_X2_reach E ez) ((cxI_ok (fun As h x h2 e => by obtain ⟨_, _, rfl, e0⟩ := sR_inv e; obtain ⟨_, _, rfl, e1⟩ := sI_inv e0; obtain ⟨rfl, ez⟩ := sE_inv e1; exact c_X7_answer E ez) (fI0_ok E))))))))))
def FV_X7_access : Nat → List Value → AH → Option (AH) := (cx 167 (fun As h => sR As fun a0 As => sE As (p_X7_keep a0 h)) fV0)
theorem FV_X7_access_ok {l : Launch} {D : va_G} {dA : Nat → ClassId} {z : Nat} {sa : Nat → Nat} {Hz : Heap} (E : StrOK qLen qCh l D dA z sa Hz) : ∀ mi As h h', FV_X7_access mi As h = some h' → CalOK l D dA z sa Hz (MT mi) As h none h' := (cxV_ok (fun As h h2 e => by obtain ⟨_, _, rfl, e0⟩ := sR_inv e; obtain ⟨rfl, ez⟩ := sE_inv e0; exact c_X7_keep E ez) (fV0_ok E))
def I_X7_access_14 : List AI := [(.aload_n 0, 1, [], 0), (.invokevirtual 265, 3, [2, 167, 1, 6, 1131], 0), (.aload_n 0, 1, [], 0), (.aload_n 0, 1, [], 0), (.getfield 29, 3, [6, 4, 2, 358], 0), (.iload_n 1, 1, [], 0), (.iload_n 2, 1, [], 0), (.iload_n 3, 1, [], 0), (.invokestatic 123, 3, [1, 69, 2, 708], 0), (.invokevirtual 214, 3, [1, 134, 3, 1, 942], 0), (.invokevirtual 68, 3, [1, 50, 2, 6, 633], 0), (.ireturn, 1, [], 0)]
theorem ok_X7_access_14 : vBL MT qLen qCh false q_X7_access.2.2.2.2.1 q_X7_access.2.2.2.2.2.1 q_X7_access.2.2.1 q_X7_access.1.cls q_X7_access.1.name q_X7_access.2.1 0 14 I_X7_access_14 = true := by decide +kernel
def p_X7_access_14 (a0 : Nat) (x1 : Int32) (x2 : Int32) (x3 : Int32) (h : AH) : Option (Int32 × AH) :=
  if (tg h a0).1 = 6 then ((p_X7_keep a0 h).bind fun h101 =>
  if (tg h101 a0).1 = 6 then ((p_X7_mode x2 x3 h101).bind fun q102 =>
  if (tg q102.2 (rR h101 a0 4)).1 = 1 then ((p_X2_reach (rR h101 a0 4) x1 q102.1 q102.2).bind fun q103 =>
  if (tg q103.2 a0).1 = 6 then ((p_X7_answer a0 q103.1 q103.2).bind fun q104 =>
  some (q104.1, q104.2)) else none) else none) else none) else none
set_option maxRecDepth 100000 in
theorem e_X7_access_14 {l : Launch} {D : va_G} {dA : Nat → ClassId} {z : Nat} {sa : Nat → Nat} {Hz : Heap} (E : StrOK qLen qCh l D dA z sa Hz) {h0 fin : AH} {x : Int32}  : ∀ (a0 : Nat) (x1 : Int32) (x2 : Int32) (x3 : Int32) (h : AH), p_X7_access_14 a0 x1 x2 x3 h = some (x, fin) → GM l D dA z sa Hz q_X7_access h0 (some (.int x)) fin 14 [(0, .ref a0), (1, .int x1), (2, .int x2), (3, .int x3)] [] h := by
  intro a0 x1 x2 x3 h hd
  exact step E (is := I_X7_access_14) (pc := 14) (K := k0) (FI := FI_X7_access) (FV := FV_X7_access) (FL := fL0) (rt := rtI) (ft := 0) (by exact hd) ok_X7_access_14 k0_ok (FI_X7_access_ok E) (FV_X7_access_ok E) (fL0_ok E) (rtI_ok rfl)
def I_X7_access_0 : List AI := [(.aload_n 0, 1, [], 0), (.iload_n 1, 1, [], 0), (.invokevirtual 120, 3, [1, 68, 2, 6, 704], 0), (.ifCond .ne 9, 3, [14], 0), (.aload_n 0, 1, [], 0), (.iconst 1, 1, [], 1), (.invokevirtual 54, 3, [1, 9, 2, 6, 403], 0), (.ireturn, 1, [], 0)]
theorem ok_X7_access_0 : vBL MT qLen qCh false q_X7_access.2.2.2.2.1 q_X7_access.2.2.2.2.2.1 q_X7_access.2.2.1 q_X7_access.1.cls q_X7_access.1.name q_X7_access.2.1 0 0 I_X7_access_0 = true := by decide +kernel
def p_X7_access (a0 : Nat) (x1 : Int32) (x2 : Int32) (x3 : Int32) (h : AH) : Option (Int32 × AH) :=
  if (tg h a0).1 = 6 then ((p_X7_isPage a0 x1 h).bind fun q105 =>
  if q105.1 = 0 then (if (tg q105.2 a0).1 = 6 then ((p_X7_refuse a0 ((1 : Int32)) q105.2).bind fun q110 =>
  some (q110.1, q110.2)) else none)
  else
  if (tg q105.2 a0).1 = 6 then ((p_X7_keep a0 q105.2).bind fun h106 =>
  if (tg h106 a0).1 = 6 then ((p_X7_mode x2 x3 h106).bind fun q107 =>
  if (tg q107.2 (rR h106 a0 4)).1 = 1 then ((p_X2_reach (rR h106 a0 4) x1 q107.1 q107.2).bind fun q108 =>
  if (tg q108.2 a0).1 = 6 then ((p_X7_answer a0 q108.1 q108.2).bind fun q109 =>
  some (q109.1, q109.2)) else none) else none) else none) else none) else none
set_option maxRecDepth 100000 in
theorem e_X7_access_0 {l : Launch} {D : va_G} {dA : Nat → ClassId} {z : Nat} {sa : Nat → Nat} {Hz : Heap} (E : StrOK qLen qCh l D dA z sa Hz) {h0 fin : AH} {x : Int32}  : ∀ (a0 : Nat) (x1 : Int32) (x2 : Int32) (x3 : Int32) (h : AH), p_X7_access a0 x1 x2 x3 h = some (x, fin) → GM l D dA z sa Hz q_X7_access h0 (some (.int x)) fin 0 [(0, .ref a0), (1, .int x1), (2, .int x2), (3, .int x3)] [] h := by
  intro a0 x1 x2 x3 h hd
  exact step E (is := I_X7_access_0) (pc := 0) (K := (kx 14 (fun la st h => gR la 0 fun a0 => gI la 1 fun x1 => gI la 2 fun x2 => gI la 3 fun x3 => sE st (p_X7_access_14 a0 x1 x2 x3 h)) k0)) (FI := FI_X7_access) (FV := FV_X7_access) (FL := fL0) (rt := rtI) (ft := 0) (by exact hd) ok_X7_access_0 (kx_ok (fun la st h e => by obtain ⟨a0, m_a0, e1⟩ := gR_inv e; obtain ⟨x1, m_x1, e2⟩ := gI_inv e1; obtain ⟨x2, m_x2, e3⟩ := gI_inv e2; obtain ⟨x3, m_x3, e4⟩ := gI_inv e3; obtain ⟨rfl, ez⟩ := sE_inv e4; exact gm_fewer (e_X7_access_14 E  a0 x1 x2 x3 h ez) (mem_cons m_a0 (mem_cons m_x1 (mem_cons m_x2 (mem_cons m_x3 mem_nil))))) k0_ok) (FI_X7_access_ok E) (FV_X7_access_ok E) (fL0_ok E) (rtI_ok rfl)
theorem c_X7_access {l : Launch} {D : va_G} {dA : Nat → ClassId} {z : Nat} {sa : Nat → Nat} {Hz : Heap} (E : StrOK qLen qCh l D dA z sa Hz) {a0 : Nat} {x1 : Int32} {x2 : Int32} {x3 : Int32} {h fin : AH} {x : Int32} (hd : p_X7_access a0 x1 x2 x3 h = some (x, fin)) : CalOK l D dA z sa Hz q_X7_access [.ref a0, .int x1, .int x2, .int x3] h (some (.int x)) fin := calOf (by decide +kernel) (Nat.le_of_ble_eq_true rfl) (e_X7_access_0 E a0 x1 x2 x3 h hd)
def I_X7_isWord_16 : List AI := [(.ireturn, 1, [], 0)]
theorem ok_X7_isWord_16 : vBL MT qLen qCh false q_X7_isWord.2.2.2.2.1 q_X7_isWord.2.2.2.2.2.1 q_X7_isWord.2.2.1 q_X7_isWord.1.cls q_X7_isWord.1.name q_X7_isWord.2.1 0 16 I_X7_isWord_16 = true := by decide +kernel
def p_X7_isWord_16 (y0 : Int32) (h : AH) : Option (Int32 × AH) :=
  if y0 &&& 1 = y0 then some (y0, h) else none
set_option maxRecDepth 100000 in
theorem e_X7_isWord_16 {l : Launch} {D : va_G} {dA : Nat → ClassId} {z : Nat} {sa : Nat → Nat} {Hz : Heap} (E : StrOK qLen qCh l D dA z sa Hz) {h0 fin : AH} {x : Int32}  : ∀ (y0 : Int32) (h : AH), p_X7_isWord_16 y0 h = some (x, fin) → GM l D dA z sa Hz q_X7_isWord h0 (some (.int x)) fin 16 [] [.int y0] h := by
  intro y0 h hd
  exact step E (is := I_X7_isWord_16) (pc := 16) (K := k0) (FI := fI0) (FV := fV0) (FL := fL0) (rt := rtZ) (ft := 0) (by exact hd) ok_X7_isWord_16 k0_ok (fI0_ok E) (fV0_ok E) (fL0_ok E) (rtZ_ok rfl)
def I_X7_isWord_15 : List AI := [(.iconst 0, 1, [], 0)]
theorem ok_X7_isWord_15 : vBL MT qLen qCh false q_X7_isWord.2.2.2.2.1 q_X7_isWord.2.2.2.2.2.1 q_X7_isWord.2.2.1 q_X7_isWord.1.cls q_X7_isWord.1.name q_X7_isWord.2.1 16 15 I_X7_isWord_15 = true := by decide +kernel
def p_X7_isWord_15 (h : AH) : Option (Int32 × AH) :=
  p_X7_isWord_16 ((0 : Int32)) h
set_option maxRecDepth 100000 in
theorem e_X7_isWord_15 {l : Launch} {D : va_G} {dA : Nat → ClassId} {z : Nat} {sa : Nat → Nat} {Hz : Heap} (E : StrOK qLen qCh l D dA z sa Hz) {h0 fin : AH} {x : Int32}  : ∀  (h : AH), p_X7_isWord_15 h = some (x, fin) → GM l D dA z sa Hz q_X7_isWord h0 (some (.int x)) fin 15 [] [] h := by
  intro h hd
  exact step E (is := I_X7_isWord_15) (pc := 15) (K := (kx 16 (fun la st h => sI st fun y0 st => sE st (p_X7_isWord_16 y0 h)) k0)) (FI := fI0) (FV := fV0) (FL := fL0) (rt := rtZ) (ft := 16) (by exact hd) ok_X7_isWord_15 (kx_ok (fun la st h e => by obtain ⟨y0, _, rfl, e1⟩ := sI_inv e; obtain ⟨rfl, ez⟩ := sE_inv e1; exact gm_fewer (e_X7_isWord_16 E  y0 h ez) mem_nil) k0_ok) (fI0_ok E) (fV0_ok E) (fL0_ok E) (rtZ_ok rfl)
def I_X7_isWord_0 : List AI := [(.iload_n 0, 1, [], 0), (.ifCond .lt 14, 3, [15], 0), (.iload_n 0, 1, [], 0), (.sipush 4095, 3, [], 4095), (.if_icmp .gt 7, 3, [15], 0), (.iconst 1, 1, [], 1), (.goto 4, 3, [16], 0)]
theorem ok_X7_isWord_0 : vBL MT qLen qCh false q_X7_isWord.2.2.2.2.1 q_X7_isWord.2.2.2.2.2.1 q_X7_isWord.2.2.1 q_X7_isWord.1.cls q_X7_isWord.1.name q_X7_isWord.2.1 0 0 I_X7_isWord_0 = true := by decide +kernel
def p_X7_isWord (x0 : Int32) (h : AH) : Option (Int32 × AH) :=
  if x0 < 0 then (p_X7_isWord_15 h)
  else
  if ((4095 : Int32)) < x0 then (p_X7_isWord_15 h)
  else
  p_X7_isWord_16 ((1 : Int32)) h
set_option maxRecDepth 100000 in
theorem e_X7_isWord_0 {l : Launch} {D : va_G} {dA : Nat → ClassId} {z : Nat} {sa : Nat → Nat} {Hz : Heap} (E : StrOK qLen qCh l D dA z sa Hz) {h0 fin : AH} {x : Int32}  : ∀ (x0 : Int32) (h : AH), p_X7_isWord x0 h = some (x, fin) → GM l D dA z sa Hz q_X7_isWord h0 (some (.int x)) fin 0 [(0, .int x0)] [] h := by
  intro x0 h hd
  exact step E (is := I_X7_isWord_0) (pc := 0) (K := (kx 15 (fun la st h => sE st (p_X7_isWord_15 h)) (kx 16 (fun la st h => sI st fun y0 st => sE st (p_X7_isWord_16 y0 h)) k0))) (FI := fI0) (FV := fV0) (FL := fL0) (rt := rtZ) (ft := 0) (by exact hd) ok_X7_isWord_0 (kx_ok (fun la st h e => by obtain ⟨rfl, ez⟩ := sE_inv e; exact gm_fewer (e_X7_isWord_15 E   h ez) mem_nil) (kx_ok (fun la st h e => by obtain ⟨y0, _, rfl, e1⟩ := sI_inv e; obtain ⟨rfl, ez⟩ := sE_inv e1; exact gm_fewer (e_X7_isWord_16 E  y0 h ez) mem_nil) k0_ok)) (fI0_ok E) (fV0_ok E) (fL0_ok E) (rtZ_ok rfl)
theorem c_X7_isWord {l : Launch} {D : va_G} {dA : Nat → ClassId} {z : Nat} {sa : Nat → Nat} {Hz : Heap} (E : StrOK qLen qCh l D dA z sa Hz) {x0 : Int32} {h fin : AH} {x : Int32} (hd : p_X7_isWord x0 h = some (x, fin)) : CalOK l D dA z sa Hz q_X7_isWord [.int x0] h (some (.int x)) fin := calOf (by decide +kernel) (Nat.le_of_ble_eq_true rfl) (e_X7_isWord_0 E x0 h hd)
def FI_X3_remove : Nat → List Value → AH → Option (Int32 × AH) := (cx 130 (fun As h => sI As fun x0 As => sI As fun x1 As => sE As (p_X3_spot x0 x1 h)) (cx 62 (fun As h => sI As fun x0 As => sE As (p_X7_bit x0 h)) fI0))
theorem FI_X3_remove_ok {l : Launch} {D : va_G} {dA : Nat → ClassId} {z : Nat} {sa : Nat → Nat} {Hz : Heap} (E : StrOK qLen qCh l D dA z sa Hz) : ∀ mi As h x h', FI_X3_remove mi As h = some (x, h') → CalOK l D dA z sa Hz (MT mi) As h (some (.int x)) h' := (cxI_ok (fun As h x h2 e => by obtain ⟨_, _, rfl, e0⟩ := sI_inv e; obtain ⟨_, _, rfl, e1⟩ := sI_inv e0; obtain ⟨rfl, ez⟩ := sE_inv e1; exact c_X3_spot E ez) ((cxI_ok (fun As h x h2 e => by obtain ⟨_, _, rfl, e0⟩ := sI_inv e; obtain ⟨rfl, ez⟩ := sE_inv e0; exact c_X7_bit E ez) (fI0_ok E))))
def I_X3_remove_20 : List AI := [(.invokestatic 52, 3, [1, 62, 1, 860], 0), (.istore 4, 2, [], 0), (.aload_n 0, 1, [], 0), (.getfield 21, 3, [2, 3, 2, 288], 0), (.iload_n 3, 1, [], 0), (.bipush (-2), 2, [], (-2)), (.iastore, 1, [], 0), (.iload 4, 2, [], 0), (.ireturn, 1, [], 0)]
theorem ok_X3_remove_20 : vBL MT qLen qCh false q_X3_remove.2.2.2.2.1 q_X3_remove.2.2.2.2.2.1 q_X3_remove.2.2.1 q_X3_remove.1.cls q_X3_remove.1.name q_X3_remove.2.1 0 20 I_X3_remove_20 = true := by decide +kernel
def p_X3_remove_20 (a0 : Nat) (x3 : Int32) (y0 : Int32) (h : AH) : Option (Int32 × AH) :=
  (p_X7_bit y0 h).bind fun q101 =>
  if (tg q101.2 a0).1 = 2 then (if inB q101.2 (rR q101.2 a0 3) 100 x3 then (let h102 := wI q101.2 (rR q101.2 a0 3) x3.toNatClampNeg ((-2 : Int32))
  some (q101.1, h102)) else none) else none
set_option maxRecDepth 100000 in
theorem e_X3_remove_20 {l : Launch} {D : va_G} {dA : Nat → ClassId} {z : Nat} {sa : Nat → Nat} {Hz : Heap} (E : StrOK qLen qCh l D dA z sa Hz) {h0 fin : AH} {x : Int32}  : ∀ (a0 : Nat) (x3 : Int32) (y0 : Int32) (h : AH), p_X3_remove_20 a0 x3 y0 h = some (x, fin) → GM l D dA z sa Hz q_X3_remove h0 (some (.int x)) fin 20 [(0, .ref a0), (3, .int x3)] [.int y0] h := by
  intro a0 x3 y0 h hd
  exact step E (is := I_X3_remove_20) (pc := 20) (K := k0) (FI := FI_X3_remove) (FV := fV0) (FL := fL0) (rt := rtI) (ft := 0) (by exact hd) ok_X3_remove_20 k0_ok (FI_X3_remove_ok E) (fV0_ok E) (fL0_ok E) (rtI_ok rfl)
def I_X3_remove_19 : List AI := [(.iconst 0, 1, [], 0)]
theorem ok_X3_remove_19 : vBL MT qLen qCh false q_X3_remove.2.2.2.2.1 q_X3_remove.2.2.2.2.2.1 q_X3_remove.2.2.1 q_X3_remove.1.cls q_X3_remove.1.name q_X3_remove.2.1 20 19 I_X3_remove_19 = true := by decide +kernel
def p_X3_remove_19 (a0 : Nat) (x3 : Int32) (h : AH) : Option (Int32 × AH) :=
  p_X3_remove_20 a0 x3 ((0 : Int32)) h
set_option maxRecDepth 100000 in
theorem e_X3_remove_19 {l : Launch} {D : va_G} {dA : Nat → ClassId} {z : Nat} {sa : Nat → Nat} {Hz : Heap} (E : StrOK qLen qCh l D dA z sa Hz) {h0 fin : AH} {x : Int32}  : ∀ (a0 : Nat) (x3 : Int32) (h : AH), p_X3_remove_19 a0 x3 h = some (x, fin) → GM l D dA z sa Hz q_X3_remove h0 (some (.int x)) fin 19 [(0, .ref a0), (3, .int x3)] [] h := by
  intro a0 x3 h hd
  exact step E (is := I_X3_remove_19) (pc := 19) (K := (kx 20 (fun la st h => gR la 0 fun a0 => gI la 3 fun x3 => sI st fun y0 st => sE st (p_X3_remove_20 a0 x3 y0 h)) k0)) (FI := FI_X3_remove) (FV := fV0) (FL := fL0) (rt := rtI) (ft := 20) (by exact hd) ok_X3_remove_19 (kx_ok (fun la st h e => by obtain ⟨a0, m_a0, e1⟩ := gR_inv e; obtain ⟨x3, m_x3, e2⟩ := gI_inv e1; obtain ⟨y0, _, rfl, e3⟩ := sI_inv e2; obtain ⟨rfl, ez⟩ := sE_inv e3; exact gm_fewer (e_X3_remove_20 E  a0 x3 y0 h ez) (mem_cons m_a0 (mem_cons m_x3 mem_nil))) k0_ok) (FI_X3_remove_ok E) (fV0_ok E) (fL0_ok E) (rtI_ok rfl)
def I_X3_remove_0 : List AI := [(.iload_n 1, 1, [], 0), (.iload_n 2, 1, [], 0), (.invokestatic 48, 3, [1, 130, 2, 986], 0), (.istore_n 3, 1, [], 0), (.aload_n 0, 1, [], 0), (.getfield 21, 3, [2, 3, 2, 288], 0), (.iload_n 3, 1, [], 0), (.iaload, 1, [], 0), (.ifCond .lt 7, 3, [19], 0), (.iconst 1, 1, [], 1), (.goto 4, 3, [20], 0)]
theorem ok_X3_remove_0 : vBL MT qLen qCh false q_X3_remove.2.2.2.2.1 q_X3_remove.2.2.2.2.2.1 q_X3_remove.2.2.1 q_X3_remove.1.cls q_X3_remove.1.name q_X3_remove.2.1 0 0 I_X3_remove_0 = true := by decide +kernel
def p_X3_remove (a0 : Nat) (x1 : Int32) (x2 : Int32) (h : AH) : Option (Int32 × AH) :=
  (p_X3_spot x1 x2 h).bind fun q103 =>
  if (tg q103.2 a0).1 = 2 then (if inB q103.2 (rR q103.2 a0 3) 100 q103.1 then (if (rI q103.2 (rR q103.2 a0 3) q103.1.toNatClampNeg) < 0 then (p_X3_remove_20 a0 q103.1 ((0 : Int32)) q103.2)
  else
  p_X3_remove_20 a0 q103.1 ((1 : Int32)) q103.2) else none) else none
set_option maxRecDepth 100000 in
theorem e_X3_remove_0 {l : Launch} {D : va_G} {dA : Nat → ClassId} {z : Nat} {sa : Nat → Nat} {Hz : Heap} (E : StrOK qLen qCh l D dA z sa Hz) {h0 fin : AH} {x : Int32}  : ∀ (a0 : Nat) (x1 : Int32) (x2 : Int32) (h : AH), p_X3_remove a0 x1 x2 h = some (x, fin) → GM l D dA z sa Hz q_X3_remove h0 (some (.int x)) fin 0 [(0, .ref a0), (1, .int x1), (2, .int x2)] [] h := by
  intro a0 x1 x2 h hd
  exact step E (is := I_X3_remove_0) (pc := 0) (K := (kx 19 (fun la st h => gR la 0 fun a0 => gI la 3 fun x3 => sE st (p_X3_remove_19 a0 x3 h)) (kx 20 (fun la st h => gR la 0 fun a0 => gI la 3 fun x3 => sI st fun y0 st => sE st (p_X3_remove_20 a0 x3 y0 h)) k0))) (FI := FI_X3_remove) (FV := fV0) (FL := fL0) (rt := rtI) (ft := 0) (by exact hd) ok_X3_remove_0 (kx_ok (fun la st h e => by obtain ⟨a0, m_a0, e1⟩ := gR_inv e; obtain ⟨x3, m_x3, e2⟩ := gI_inv e1; obtain ⟨rfl, ez⟩ := sE_inv e2; exact gm_fewer (e_X3_remove_19 E  a0 x3 h ez) (mem_cons m_a0 (mem_cons m_x3 mem_nil))) (kx_ok (fun la st h e => by obtain ⟨a0, m_a0, e1⟩ := gR_inv e; obtain ⟨x3, m_x3, e2⟩ := gI_inv e1; obtain ⟨y0, _, rfl, e3⟩ := sI_inv e2; obtain ⟨rfl, ez⟩ := sE_inv e3; exact gm_fewer (e_X3_remove_20 E  a0 x3 y0 h ez) (mem_cons m_a0 (mem_cons m_x3 mem_nil))) k0_ok)) (FI_X3_remove_ok E) (fV0_ok E) (fL0_ok E) (rtI_ok rfl)
theorem c_X3_remove {l : Launch} {D : va_G} {dA : Nat → ClassId} {z : Nat} {sa : Nat → Nat} {Hz : Heap} (E : StrOK qLen qCh l D dA z sa Hz) {a0 : Nat} {x1 : Int32} {x2 : Int32} {h fin : AH} {x : Int32} (hd : p_X3_remove a0 x1 x2 h = some (x, fin)) : CalOK l D dA z sa Hz q_X3_remove [.ref a0, .int x1, .int x2] h (some (.int x)) fin := calOf (by decide +kernel) (Nat.le_of_ble_eq_true rfl) (e_X3_remove_0 E a0 x1 x2 h hd)
def FI_X3_loosen : Nat → List Value → AH → Option (Int32 × AH) := (cx 87 (fun As h => sR As fun a0 As => sI As fun x1 As => sI As fun x2 As => sE As (p_X3_find a0 x1 x2 h)) (cx 170 (fun As h => sR As fun a0 As => sI As fun x1 As => sI As fun x2 As => sE As (p_X3_remove a0 x1 x2 h)) fI0))
theorem FI_X3_loosen_ok {l : Launch} {D : va_G} {dA : Nat → ClassId} {z : Nat} {sa : Nat → Nat} {Hz : Heap} (E : StrOK qLen qCh l D dA z sa Hz) : ∀ mi As h x h', FI_X3_loosen mi As h = some (x, h') → CalOK l D dA z sa Hz (MT mi) As h (some (.int x)) h' := (cxI_ok (fun As h x h2 e => by obtain ⟨_, _, rfl, e0⟩ := sR_inv e; obtain ⟨_, _, rfl, e1⟩ := sI_inv e0; obtain ⟨_, _, rfl, e2⟩ := sI_inv e1; obtain ⟨rfl, ez⟩ := sE_inv e2; exact c_X3_find E ez) ((cxI_ok (fun As h x h2 e => by obtain ⟨_, _, rfl, e0⟩ := sR_inv e; obtain ⟨_, _, rfl, e1⟩ := sI_inv e0; obtain ⟨_, _, rfl, e2⟩ := sI_inv e1; obtain ⟨rfl, ez⟩ := sE_inv e2; exact c_X3_remove E ez) (fI0_ok E))))
def I_X3_loosen_44 : List AI := [(.return_, 1, [], 0)]
theorem ok_X3_loosen_44 : vBL MT qLen qCh false q_X3_loosen.2.2.2.2.1 q_X3_loosen.2.2.2.2.2.1 q_X3_loosen.2.2.1 q_X3_loosen.1.cls q_X3_loosen.1.name q_X3_loosen.2.1 0 44 I_X3_loosen_44 = true := by decide +kernel
def p_X3_loosen_44 (h : AH) : Option (AH) :=
  some h
set_option maxRecDepth 100000 in
theorem e_X3_loosen_44 {l : Launch} {D : va_G} {dA : Nat → ClassId} {z : Nat} {sa : Nat → Nat} {Hz : Heap} (E : StrOK qLen qCh l D dA z sa Hz) {h0 fin : AH}  : ∀  (h : AH), p_X3_loosen_44 h = some fin → GM l D dA z sa Hz q_X3_loosen h0 none fin 44 [] [] h := by
  intro h hd
  exact step E (is := I_X3_loosen_44) (pc := 44) (K := k0) (FI := FI_X3_loosen) (FV := fV0) (FL := fL0) (rt := rtV) (ft := 0) (by exact hd) ok_X3_loosen_44 k0_ok (FI_X3_loosen_ok E) (fV0_ok E) (fL0_ok E) (rtV_ok rfl)
def I_X3_loosen_18 : List AI := [(.aload_n 0, 1, [], 0), (.iconst 1, 1, [], 1), (.iload_n 1, 1, [], 0), (.invokevirtual 56, 3, [1, 87, 3, 2, 795], 0), (.istore 4, 2, [], 0), (.iload 4, 2, [], 0), (.ifCond .lt 16, 3, [44], 0), (.aload_n 0, 1, [], 0), (.dup, 1, [], 0), (.getfield 41, 3, [2, 4, 0, 289], 0), (.iconst 1, 1, [], 1), (.iload 4, 2, [], 0), (.ishl, 1, [], 0), (.ior, 1, [], 0), (.putfield 41, 3, [2, 4, 0, 289], 0)]
theorem ok_X3_loosen_18 : vBL MT qLen qCh false q_X3_loosen.2.2.2.2.1 q_X3_loosen.2.2.2.2.2.1 q_X3_loosen.2.2.1 q_X3_loosen.1.cls q_X3_loosen.1.name q_X3_loosen.2.1 44 18 I_X3_loosen_18 = true := by decide +kernel
def p_X3_loosen_18 (a0 : Nat) (x1 : Int32) (h : AH) : Option (AH) :=
  if (tg h a0).1 = 2 then ((p_X3_find a0 ((1 : Int32)) x1 h).bind fun q101 =>
  if q101.1 < 0 then (p_X3_loosen_44 q101.2)
  else
  if (tg q101.2 a0).1 = 2 then (if (tg q101.2 a0).1 = 2 then (let h102 := wI q101.2 a0 4 ((rI q101.2 a0 4) ||| (((1 : Int32)) <<< (q101.1 &&& 31)))
  p_X3_loosen_44 h102) else none) else none) else none
set_option maxRecDepth 100000 in
theorem e_X3_loosen_18 {l : Launch} {D : va_G} {dA : Nat → ClassId} {z : Nat} {sa : Nat → Nat} {Hz : Heap} (E : StrOK qLen qCh l D dA z sa Hz) {h0 fin : AH}  : ∀ (a0 : Nat) (x1 : Int32) (h : AH), p_X3_loosen_18 a0 x1 h = some fin → GM l D dA z sa Hz q_X3_loosen h0 none fin 18 [(0, .ref a0), (1, .int x1)] [] h := by
  intro a0 x1 h hd
  exact step E (is := I_X3_loosen_18) (pc := 18) (K := (kx 44 (fun la st h => sE st (p_X3_loosen_44 h)) k0)) (FI := FI_X3_loosen) (FV := fV0) (FL := fL0) (rt := rtV) (ft := 44) (by exact hd) ok_X3_loosen_18 (kx_ok (fun la st h e => by obtain ⟨rfl, ez⟩ := sE_inv e; exact gm_fewer (e_X3_loosen_44 E   h ez) mem_nil) k0_ok) (FI_X3_loosen_ok E) (fV0_ok E) (fL0_ok E) (rtV_ok rfl)
def I_X3_loosen_0 : List AI := [(.aload_n 0, 1, [], 0), (.iconst 0, 1, [], 0), (.iload_n 1, 1, [], 0), (.invokevirtual 56, 3, [1, 87, 3, 2, 795], 0), (.istore_n 3, 1, [], 0), (.iload_n 3, 1, [], 0), (.ifCond .lt 10, 3, [18], 0), (.aload_n 0, 1, [], 0), (.iload_n 3, 1, [], 0), (.iload_n 2, 1, [], 0), (.invokevirtual 75, 3, [1, 170, 3, 2, 1158], 0), (.pop, 1, [], 0)]
theorem ok_X3_loosen_0 : vBL MT qLen qCh false q_X3_loosen.2.2.2.2.1 q_X3_loosen.2.2.2.2.2.1 q_X3_loosen.2.2.1 q_X3_loosen.1.cls q_X3_loosen.1.name q_X3_loosen.2.1 18 0 I_X3_loosen_0 = true := by decide +kernel
def p_X3_loosen (a0 : Nat) (x1 : Int32) (x2 : Int32) (h : AH) : Option (AH) :=
  if (tg h a0).1 = 2 then ((p_X3_find a0 ((0 : Int32)) x1 h).bind fun q103 =>
  if q103.1 < 0 then (p_X3_loosen_18 a0 x1 q103.2)
  else
  if (tg q103.2 a0).1 = 2 then ((p_X3_remove a0 q103.1 x2 q103.2).bind fun q104 =>
  p_X3_loosen_18 a0 x1 q104.2) else none) else none
set_option maxRecDepth 100000 in
theorem e_X3_loosen_0 {l : Launch} {D : va_G} {dA : Nat → ClassId} {z : Nat} {sa : Nat → Nat} {Hz : Heap} (E : StrOK qLen qCh l D dA z sa Hz) {h0 fin : AH}  : ∀ (a0 : Nat) (x1 : Int32) (x2 : Int32) (h : AH), p_X3_loosen a0 x1 x2 h = some fin → GM l D dA z sa Hz q_X3_loosen h0 none fin 0 [(0, .ref a0), (1, .int x1), (2, .int x2)] [] h := by
  intro a0 x1 x2 h hd
  exact step E (is := I_X3_loosen_0) (pc := 0) (K := (kx 18 (fun la st h => gR la 0 fun a0 => gI la 1 fun x1 => sE st (p_X3_loosen_18 a0 x1 h)) k0)) (FI := FI_X3_loosen) (FV := fV0) (FL := fL0) (rt := rtV) (ft := 18) (by exact hd) ok_X3_loosen_0 (kx_ok (fun la st h e => by obtain ⟨a0, m_a0, e1⟩ := gR_inv e; obtain ⟨x1, m_x1, e2⟩ := gI_inv e1; obtain ⟨rfl, ez⟩ := sE_inv e2; exact gm_fewer (e_X3_loosen_18 E  a0 x1 h ez) (mem_cons m_a0 (mem_cons m_x1 mem_nil))) k0_ok) (FI_X3_loosen_ok E) (fV0_ok E) (fL0_ok E) (rtV_ok rfl)
theorem c_X3_loosen {l : Launch} {D : va_G} {dA : Nat → ClassId} {z : Nat} {sa : Nat → Nat} {Hz : Heap} (E : StrOK qLen qCh l D dA z sa Hz) {a0 : Nat} {x1 : Int32} {x2 : Int32} {h fin : AH} (hd : p_X3_loosen a0 x1 x2 h = some fin) : CalOK l D dA z sa Hz q_X3_loosen [.ref a0, .int x1, .int x2] h none fin := calOf (by decide +kernel) (Nat.le_of_ble_eq_true rfl) (e_X3_loosen_0 E a0 x1 x2 h hd)
def FI_X3_allowWrite : Nat → List Value → AH → Option (Int32 × AH) := (cx 130 (fun As h => sI As fun x0 As => sI As fun x1 As => sE As (p_X3_spot x0 x1 h)) fI0)
theorem FI_X3_allowWrite_ok {l : Launch} {D : va_G} {dA : Nat → ClassId} {z : Nat} {sa : Nat → Nat} {Hz : Heap} (E : StrOK qLen qCh l D dA z sa Hz) : ∀ mi As h x h', FI_X3_allowWrite mi As h = some (x, h') → CalOK l D dA z sa Hz (MT mi) As h (some (.int x)) h' := (cxI_ok (fun As h x h2 e => by obtain ⟨_, _, rfl, e0⟩ := sI_inv e; obtain ⟨_, _, rfl, e1⟩ := sI_inv e0; obtain ⟨rfl, ez⟩ := sE_inv e1; exact c_X3_spot E ez) (fI0_ok E))
def I_X3_allowWrite_25 : List AI := [(.return_, 1, [], 0)]
theorem ok_X3_allowWrite_25 : vBL MT qLen qCh false q_X3_allowWrite.2.2.2.2.1 q_X3_allowWrite.2.2.2.2.2.1 q_X3_allowWrite.2.2.1 q_X3_allowWrite.1.cls q_X3_allowWrite.1.name q_X3_allowWrite.2.1 0 25 I_X3_allowWrite_25 = true := by decide +kernel
def p_X3_allowWrite_25 (h : AH) : Option (AH) :=
  some h
set_option maxRecDepth 100000 in
theorem e_X3_allowWrite_25 {l : Launch} {D : va_G} {dA : Nat → ClassId} {z : Nat} {sa : Nat → Nat} {Hz : Heap} (E : StrOK qLen qCh l D dA z sa Hz) {h0 fin : AH}  : ∀  (h : AH), p_X3_allowWrite_25 h = some fin → GM l D dA z sa Hz q_X3_allowWrite h0 none fin 25 [] [] h := by
  intro h hd
  exact step E (is := I_X3_allowWrite_25) (pc := 25) (K := k0) (FI := FI_X3_allowWrite) (FV := fV0) (FL := fL0) (rt := rtV) (ft := 0) (by exact hd) ok_X3_allowWrite_25 k0_ok (FI_X3_allowWrite_ok E) (fV0_ok E) (fL0_ok E) (rtV_ok rfl)
def I_X3_allowWrite_0 : List AI := [(.iload_n 1, 1, [], 0), (.iload_n 2, 1, [], 0), (.invokestatic 48, 3, [1, 130, 2, 986], 0), (.istore_n 3, 1, [], 0), (.aload_n 0, 1, [], 0), (.getfield 21, 3, [2, 3, 2, 288], 0), (.iload_n 3, 1, [], 0), (.iaload, 1, [], 0), (.ifCond .lt 13, 3, [25], 0), (.aload_n 0, 1, [], 0), (.getfield 21, 3, [2, 3, 2, 288], 0), (.iload_n 3, 1, [], 0), (.dup2, 1, [], 0), (.iaload, 1, [], 0), (.iconst 2, 1, [], 2), (.ior, 1, [], 0), (.iastore, 1, [], 0)]
theorem ok_X3_allowWrite_0 : vBL MT qLen qCh false q_X3_allowWrite.2.2.2.2.1 q_X3_allowWrite.2.2.2.2.2.1 q_X3_allowWrite.2.2.1 q_X3_allowWrite.1.cls q_X3_allowWrite.1.name q_X3_allowWrite.2.1 25 0 I_X3_allowWrite_0 = true := by decide +kernel
def p_X3_allowWrite (a0 : Nat) (x1 : Int32) (x2 : Int32) (h : AH) : Option (AH) :=
  (p_X3_spot x1 x2 h).bind fun q101 =>
  if (tg q101.2 a0).1 = 2 then (if inB q101.2 (rR q101.2 a0 3) 100 q101.1 then (if (rI q101.2 (rR q101.2 a0 3) q101.1.toNatClampNeg) < 0 then (p_X3_allowWrite_25 q101.2)
  else
  if (tg q101.2 a0).1 = 2 then (if inB q101.2 (rR q101.2 a0 3) 100 q101.1 then (if inB q101.2 (rR q101.2 a0 3) 100 q101.1 then (let h102 := wI q101.2 (rR q101.2 a0 3) q101.1.toNatClampNeg ((rI q101.2 (rR q101.2 a0 3) q101.1.toNatClampNeg) ||| ((2 : Int32)))
  p_X3_allowWrite_25 h102) else none) else none) else none) else none) else none
set_option maxRecDepth 100000 in
theorem e_X3_allowWrite_0 {l : Launch} {D : va_G} {dA : Nat → ClassId} {z : Nat} {sa : Nat → Nat} {Hz : Heap} (E : StrOK qLen qCh l D dA z sa Hz) {h0 fin : AH}  : ∀ (a0 : Nat) (x1 : Int32) (x2 : Int32) (h : AH), p_X3_allowWrite a0 x1 x2 h = some fin → GM l D dA z sa Hz q_X3_allowWrite h0 none fin 0 [(0, .ref a0), (1, .int x1), (2, .int x2)] [] h := by
  intro a0 x1 x2 h hd
  exact step E (is := I_X3_allowWrite_0) (pc := 0) (K := (kx 25 (fun la st h => sE st (p_X3_allowWrite_25 h)) k0)) (FI := FI_X3_allowWrite) (FV := fV0) (FL := fL0) (rt := rtV) (ft := 25) (by exact hd) ok_X3_allowWrite_0 (kx_ok (fun la st h e => by obtain ⟨rfl, ez⟩ := sE_inv e; exact gm_fewer (e_X3_allowWrite_25 E   h ez) mem_nil) k0_ok) (FI_X3_allowWrite_ok E) (fV0_ok E) (fL0_ok E) (rtV_ok rfl)
theorem c_X3_allowWrite {l : Launch} {D : va_G} {dA : Nat → ClassId} {z : Nat} {sa : Nat → Nat} {Hz : Heap} (E : StrOK qLen qCh l D dA z sa Hz) {a0 : Nat} {x1 : Int32} {x2 : Int32} {h fin : AH} (hd : p_X3_allowWrite a0 x1 x2 h = some fin) : CalOK l D dA z sa Hz q_X3_allowWrite [.ref a0, .int x1, .int x2] h none fin := calOf (by decide +kernel) (Nat.le_of_ble_eq_true rfl) (e_X3_allowWrite_0 E a0 x1 x2 h hd)
def FI_X2_putBehindFault : Nat → List Value → AH → Option (Int32 × AH) := (cx 75 (fun As h => sR As fun a0 As => sI As fun x1 As => sE As (p_X1_frameTold a0 x1 h)) (cx 115 (fun As h => sR As fun a0 As => sI As fun x1 As => sE As (p_X3_watches a0 x1 h)) (cx 89 (fun As h => sR As fun a0 As => sI As fun x1 As => sI As fun x2 As => sE As (p_X3_upperEntry a0 x1 x2 h)) fI0)))
theorem FI_X2_putBehindFault_ok {l : Launch} {D : va_G} {dA : Nat → ClassId} {z : Nat} {sa : Nat → Nat} {Hz : Heap} (E : StrOK qLen qCh l D dA z sa Hz) : ∀ mi As h x h', FI_X2_putBehindFault mi As h = some (x, h') → CalOK l D dA z sa Hz (MT mi) As h (some (.int x)) h' := (cxI_ok (fun As h x h2 e => by obtain ⟨_, _, rfl, e0⟩ := sR_inv e; obtain ⟨_, _, rfl, e1⟩ := sI_inv e0; obtain ⟨rfl, ez⟩ := sE_inv e1; exact c_X1_frameTold E ez) ((cxI_ok (fun As h x h2 e => by obtain ⟨_, _, rfl, e0⟩ := sR_inv e; obtain ⟨_, _, rfl, e1⟩ := sI_inv e0; obtain ⟨rfl, ez⟩ := sE_inv e1; exact c_X3_watches E ez) ((cxI_ok (fun As h x h2 e => by obtain ⟨_, _, rfl, e0⟩ := sR_inv e; obtain ⟨_, _, rfl, e1⟩ := sI_inv e0; obtain ⟨_, _, rfl, e2⟩ := sI_inv e1; obtain ⟨rfl, ez⟩ := sE_inv e2; exact c_X3_upperEntry E ez) (fI0_ok E))))))
def FV_X2_putBehindFault : Nat → List Value → AH → Option (AH) := (cx 30 (fun As h => sR As fun a0 As => sI As fun x1 As => sI As fun x2 As => sI As fun x3 As => sE As (p_X1_setWord a0 x1 x2 x3 h)) (cx 171 (fun As h => sR As fun a0 As => sI As fun x1 As => sI As fun x2 As => sE As (p_X3_loosen a0 x1 x2 h)) (cx 172 (fun As h => sR As fun a0 As => sI As fun x1 As => sI As fun x2 As => sE As (p_X3_allowWrite a0 x1 x2 h)) fV0)))
theorem FV_X2_putBehindFault_ok {l : Launch} {D : va_G} {dA : Nat → ClassId} {z : Nat} {sa : Nat → Nat} {Hz : Heap} (E : StrOK qLen qCh l D dA z sa Hz) : ∀ mi As h h', FV_X2_putBehindFault mi As h = some h' → CalOK l D dA z sa Hz (MT mi) As h none h' := (cxV_ok (fun As h h2 e => by obtain ⟨_, _, rfl, e0⟩ := sR_inv e; obtain ⟨_, _, rfl, e1⟩ := sI_inv e0; obtain ⟨_, _, rfl, e2⟩ := sI_inv e1; obtain ⟨_, _, rfl, e3⟩ := sI_inv e2; obtain ⟨rfl, ez⟩ := sE_inv e3; exact c_X1_setWord E ez) ((cxV_ok (fun As h h2 e => by obtain ⟨_, _, rfl, e0⟩ := sR_inv e; obtain ⟨_, _, rfl, e1⟩ := sI_inv e0; obtain ⟨_, _, rfl, e2⟩ := sI_inv e1; obtain ⟨rfl, ez⟩ := sE_inv e2; exact c_X3_loosen E ez) ((cxV_ok (fun As h h2 e => by obtain ⟨_, _, rfl, e0⟩ := sR_inv e; obtain ⟨_, _, rfl, e1⟩ := sI_inv e0; obtain ⟨_, _, rfl, e2⟩ := sI_inv e1; obtain ⟨rfl, ez⟩ := sE_inv e2; exact c_X3_allowWrite E ez) (fV0_ok E))))))
def I_X2_putBehindFault_100 : List AI := [(.return_, 1, [], 0)]
theorem ok_X2_putBehindFault_100 : vBL MT qLen qCh false q_X2_putBehindFault.2.2.2.2.1 q_X2_putBehindFault.2.2.2.2.2.1 q_X2_putBehindFault.2.2.1 q_X2_putBehindFault.1.cls q_X2_putBehindFault.1.name q_X2_putBehindFault.2.1 0 100 I_X2_putBehindFault_100 = true := by decide +kernel
def p_X2_putBehindFault_100 (h : AH) : Option (AH) :=
  some h
set_option maxRecDepth 100000 in
theorem e_X2_putBehindFault_100 {l : Launch} {D : va_G} {dA : Nat → ClassId} {z : Nat} {sa : Nat → Nat} {Hz : Heap} (E : StrOK qLen qCh l D dA z sa Hz) {h0 fin : AH}  : ∀  (h : AH), p_X2_putBehindFault_100 h = some fin → GM l D dA z sa Hz q_X2_putBehindFault h0 none fin 100 [] [] h := by
  intro h hd
  exact step E (is := I_X2_putBehindFault_100) (pc := 100) (K := k0) (FI := FI_X2_putBehindFault) (FV := FV_X2_putBehindFault) (FL := fL0) (rt := rtV) (ft := 0) (by exact hd) ok_X2_putBehindFault_100 k0_ok (FI_X2_putBehindFault_ok E) (FV_X2_putBehindFault_ok E) (fL0_ok E) (rtV_ok rfl)
def I_X2_putBehindFault_34 : List AI := [(.aload_n 0, 1, [], 0), (.dup, 1, [], 0), (.getfield 56, 3, [1, 6, 0, 330], 0), (.iconst 1, 1, [], 1), (.iadd, 1, [], 0), (.putfield 56, 3, [1, 6, 0, 330], 0), (.aload_n 0, 1, [], 0), (.getfield 27, 3, [1, 2, 2, 322], 0), (.aload_n 0, 1, [], 0), (.getfield 22, 3, [1, 1, 2, 320], 0), (.getfield 62, 3, [0, 4, 0, 195], 0), (.iload_n 1, 1, [], 0), (.invokevirtual 151, 3, [1, 89, 3, 2, 1153], 0), (.istore 5, 2, [], 0), (.aload_n 0, 1, [], 0), (.getfield 27, 3, [1, 2, 2, 322], 0), (.iload 4, 2, [], 0), (.iload_n 2, 1, [], 0), (.invokevirtual 154, 3, [2, 171, 3, 2, 1154], 0), (.iload 5, 2, [], 0), (.ifCond .lt 27, 3, [100], 0), (.aload_n 0, 1, [], 0), (.getfield 27, 3, [1, 2, 2, 322], 0), (.iload 4, 2, [], 0), (.invokevirtual 120, 3, [1, 115, 2, 2, 996], 0), (.ifCond .ne 15, 3, [100], 0), (.aload_n 0, 1, [], 0), (.getfield 27, 3, [1, 2, 2, 322], 0), (.iload 5, 2, [], 0), (.iconst 4, 1, [], 4), (.idiv, 1, [], 0), (.iload_n 1, 1, [], 0), (.invokevirtual 157, 3, [2, 172, 3, 2, 1162], 0)]
theorem ok_X2_putBehindFault_34 : vBL MT qLen qCh false q_X2_putBehindFault.2.2.2.2.1 q_X2_putBehindFault.2.2.2.2.2.1 q_X2_putBehindFault.2.2.1 q_X2_putBehindFault.1.cls q_X2_putBehindFault.1.name q_X2_putBehindFault.2.1 100 34 I_X2_putBehindFault_34 = true := by decide +kernel
def p_X2_putBehindFault_34 (a0 : Nat) (x1 : Int32) (x2 : Int32) (x4 : Int32) (h : AH) : Option (AH) :=
  if (tg h a0).1 = 1 then (if (tg h a0).1 = 1 then (let h101 := wI h a0 6 ((rI h a0 6) + ((1 : Int32)))
  if (tg h101 a0).1 = 1 then (if (tg h101 a0).1 = 1 then (if (tg h101 (rR h101 a0 1)).1 = 0 then (if (tg h101 (rR h101 a0 2)).1 = 2 then ((p_X3_upperEntry (rR h101 a0 2) (rI h101 (rR h101 a0 1) 4) x1 h101).bind fun q102 =>
  if (tg q102.2 a0).1 = 1 then (if (tg q102.2 (rR q102.2 a0 2)).1 = 2 then ((p_X3_loosen (rR q102.2 a0 2) x4 x2 q102.2).bind fun h103 =>
  if q102.1 < 0 then (p_X2_putBehindFault_100 h103)
  else
  if (tg h103 a0).1 = 1 then (if (tg h103 (rR h103 a0 2)).1 = 2 then ((p_X3_watches (rR h103 a0 2) x4 h103).bind fun q104 =>
  if q104.1 = 0 then (if (tg q104.2 a0).1 = 1 then (if ((4 : Int32)) = 0 then none else
  if (tg q104.2 (rR q104.2 a0 2)).1 = 2 then ((p_X3_allowWrite (rR q104.2 a0 2) (q102.1 / ((4 : Int32))) x1 q104.2).bind fun h105 =>
  p_X2_putBehindFault_100 h105) else none) else none)
  else
  p_X2_putBehindFault_100 q104.2) else none) else none) else none) else none) else none) else none) else none) else none) else none) else none
set_option maxRecDepth 100000 in
theorem e_X2_putBehindFault_34 {l : Launch} {D : va_G} {dA : Nat → ClassId} {z : Nat} {sa : Nat → Nat} {Hz : Heap} (E : StrOK qLen qCh l D dA z sa Hz) {h0 fin : AH}  : ∀ (a0 : Nat) (x1 : Int32) (x2 : Int32) (x4 : Int32) (h : AH), p_X2_putBehindFault_34 a0 x1 x2 x4 h = some fin → GM l D dA z sa Hz q_X2_putBehindFault h0 none fin 34 [(0, .ref a0), (1, .int x1), (2, .int x2), (4, .int x4)] [] h := by
  intro a0 x1 x2 x4 h hd
  exact step E (is := I_X2_putBehindFault_34) (pc := 34) (K := (kx 100 (fun la st h => sE st (p_X2_putBehindFault_100 h)) k0)) (FI := FI_X2_putBehindFault) (FV := FV_X2_putBehindFault) (FL := fL0) (rt := rtV) (ft := 100) (by exact hd) ok_X2_putBehindFault_34 (kx_ok (fun la st h e => by obtain ⟨rfl, ez⟩ := sE_inv e; exact gm_fewer (e_X2_putBehindFault_100 E   h ez) mem_nil) k0_ok) (FI_X2_putBehindFault_ok E) (FV_X2_putBehindFault_ok E) (fL0_ok E) (rtV_ok rfl)
def I_X2_putBehindFault_0 : List AI := [(.aload_n 0, 1, [], 0), (.getfield 22, 3, [1, 1, 2, 320], 0), (.iload_n 1, 1, [], 0), (.invokevirtual 110, 3, [1, 75, 2, 0, 990], 0), (.istore 4, 2, [], 0), (.aload_n 0, 1, [], 0), (.getfield 22, 3, [1, 1, 2, 320], 0), (.iload 4, 2, [], 0), (.iload_n 2, 1, [], 0), (.iload_n 3, 1, [], 0), (.invokevirtual 145, 3, [2, 30, 4, 0, 1148], 0), (.aload_n 0, 1, [], 0), (.getfield 27, 3, [1, 2, 2, 322], 0), (.iload 4, 2, [], 0), (.invokevirtual 120, 3, [1, 115, 2, 2, 996], 0), (.ifCond .ne 4, 3, [34], 0), (.return_, 1, [], 0)]
theorem ok_X2_putBehindFault_0 : vBL MT qLen qCh false q_X2_putBehindFault.2.2.2.2.1 q_X2_putBehindFault.2.2.2.2.2.1 q_X2_putBehindFault.2.2.1 q_X2_putBehindFault.1.cls q_X2_putBehindFault.1.name q_X2_putBehindFault.2.1 0 0 I_X2_putBehindFault_0 = true := by decide +kernel
def p_X2_putBehindFault (a0 : Nat) (x1 : Int32) (x2 : Int32) (x3 : Int32) (h : AH) : Option (AH) :=
  if (tg h a0).1 = 1 then (if (tg h (rR h a0 1)).1 = 0 then ((p_X1_frameTold (rR h a0 1) x1 h).bind fun q106 =>
  if (tg q106.2 a0).1 = 1 then (if (tg q106.2 (rR q106.2 a0 1)).1 = 0 then ((p_X1_setWord (rR q106.2 a0 1) q106.1 x2 x3 q106.2).bind fun h107 =>
  if (tg h107 a0).1 = 1 then (if (tg h107 (rR h107 a0 2)).1 = 2 then ((p_X3_watches (rR h107 a0 2) q106.1 h107).bind fun q108 =>
  if q108.1 = 0 then (some q108.2)
  else
  if (tg q108.2 a0).1 = 1 then (if (tg q108.2 a0).1 = 1 then (let h109 := wI q108.2 a0 6 ((rI q108.2 a0 6) + ((1 : Int32)))
  if (tg h109 a0).1 = 1 then (if (tg h109 a0).1 = 1 then (if (tg h109 (rR h109 a0 1)).1 = 0 then (if (tg h109 (rR h109 a0 2)).1 = 2 then ((p_X3_upperEntry (rR h109 a0 2) (rI h109 (rR h109 a0 1) 4) x1 h109).bind fun q110 =>
  if (tg q110.2 a0).1 = 1 then (if (tg q110.2 (rR q110.2 a0 2)).1 = 2 then ((p_X3_loosen (rR q110.2 a0 2) q106.1 x2 q110.2).bind fun h111 =>
  if q110.1 < 0 then (p_X2_putBehindFault_100 h111)
  else
  if (tg h111 a0).1 = 1 then (if (tg h111 (rR h111 a0 2)).1 = 2 then ((p_X3_watches (rR h111 a0 2) q106.1 h111).bind fun q112 =>
  if q112.1 = 0 then (if (tg q112.2 a0).1 = 1 then (if ((4 : Int32)) = 0 then none else
  if (tg q112.2 (rR q112.2 a0 2)).1 = 2 then ((p_X3_allowWrite (rR q112.2 a0 2) (q110.1 / ((4 : Int32))) x1 q112.2).bind fun h113 =>
  p_X2_putBehindFault_100 h113) else none) else none)
  else
  p_X2_putBehindFault_100 q112.2) else none) else none) else none) else none) else none) else none) else none) else none) else none) else none) else none) else none) else none) else none) else none) else none
set_option maxRecDepth 100000 in
theorem e_X2_putBehindFault_0 {l : Launch} {D : va_G} {dA : Nat → ClassId} {z : Nat} {sa : Nat → Nat} {Hz : Heap} (E : StrOK qLen qCh l D dA z sa Hz) {h0 fin : AH}  : ∀ (a0 : Nat) (x1 : Int32) (x2 : Int32) (x3 : Int32) (h : AH), p_X2_putBehindFault a0 x1 x2 x3 h = some fin → GM l D dA z sa Hz q_X2_putBehindFault h0 none fin 0 [(0, .ref a0), (1, .int x1), (2, .int x2), (3, .int x3)] [] h := by
  intro a0 x1 x2 x3 h hd
  exact step E (is := I_X2_putBehindFault_0) (pc := 0) (K := (kx 34 (fun la st h => gR la 0 fun a0 => gI la 1 fun x1 => gI la 2 fun x2 => gI la 4 fun x4 => sE st (p_X2_putBehindFault_34 a0 x1 x2 x4 h)) k0)) (FI := FI_X2_putBehindFault) (FV := FV_X2_putBehindFault) (FL := fL0) (rt := rtV) (ft := 0) (by exact hd) ok_X2_putBehindFault_0 (kx_ok (fun la st h e => by obtain ⟨a0, m_a0, e1⟩ := gR_inv e; obtain ⟨x1, m_x1, e2⟩ := gI_inv e1; obtain ⟨x2, m_x2, e3⟩ := gI_inv e2; obtain ⟨x4, m_x4, e4⟩ := gI_inv e3; obtain ⟨rfl, ez⟩ := sE_inv e4; exact gm_fewer (e_X2_putBehindFault_34 E  a0 x1 x2 x4 h ez) (mem_cons m_a0 (mem_cons m_x1 (mem_cons m_x2 (mem_cons m_x4 mem_nil))))) k0_ok) (FI_X2_putBehindFault_ok E) (FV_X2_putBehindFault_ok E) (fL0_ok E) (rtV_ok rfl)
theorem c_X2_putBehindFault {l : Launch} {D : va_G} {dA : Nat → ClassId} {z : Nat} {sa : Nat → Nat} {Hz : Heap} (E : StrOK qLen qCh l D dA z sa Hz) {a0 : Nat} {x1 : Int32} {x2 : Int32} {x3 : Int32} {h fin : AH} (hd : p_X2_putBehindFault a0 x1 x2 x3 h = some fin) : CalOK l D dA z sa Hz q_X2_putBehindFault [.ref a0, .int x1, .int x2, .int x3] h none fin := calOf (by decide +kernel) (Nat.le_of_ble_eq_true rfl) (e_X2_putBehindFault_0 E a0 x1 x2 x3 h hd)
def FI_X2_put : Nat → List Value → AH → Option (Int32 × AH) := (cx 90 (fun As h => sR As fun a0 As => sI As fun x1 As => sI As fun x2 As => sI As fun x3 As => sE As (p_X3_hitEntry a0 x1 x2 x3 h)) (cx 134 (fun As h => sR As fun a0 As => sI As fun x1 As => sI As fun x2 As => sE As (p_X2_reach a0 x1 x2 h)) fI0))
theorem FI_X2_put_ok {l : Launch} {D : va_G} {dA : Nat → ClassId} {z : Nat} {sa : Nat → Nat} {Hz : Heap} (E : StrOK qLen qCh l D dA z sa Hz) : ∀ mi As h x h', FI_X2_put mi As h = some (x, h') → CalOK l D dA z sa Hz (MT mi) As h (some (.int x)) h' := (cxI_ok (fun As h x h2 e => by obtain ⟨_, _, rfl, e0⟩ := sR_inv e; obtain ⟨_, _, rfl, e1⟩ := sI_inv e0; obtain ⟨_, _, rfl, e2⟩ := sI_inv e1; obtain ⟨_, _, rfl, e3⟩ := sI_inv e2; obtain ⟨rfl, ez⟩ := sE_inv e3; exact c_X3_hitEntry E ez) ((cxI_ok (fun As h x h2 e => by obtain ⟨_, _, rfl, e0⟩ := sR_inv e; obtain ⟨_, _, rfl, e1⟩ := sI_inv e0; obtain ⟨_, _, rfl, e2⟩ := sI_inv e1; obtain ⟨rfl, ez⟩ := sE_inv e2; exact c_X2_reach E ez) (fI0_ok E))))
def FV_X2_put : Nat → List Value → AH → Option (AH) := (cx 30 (fun As h => sR As fun a0 As => sI As fun x1 As => sI As fun x2 As => sI As fun x3 As => sE As (p_X1_setWord a0 x1 x2 x3 h)) (cx 173 (fun As h => sR As fun a0 As => sI As fun x1 As => sI As fun x2 As => sI As fun x3 As => sE As (p_X2_putBehindFault a0 x1 x2 x3 h)) fV0))
theorem FV_X2_put_ok {l : Launch} {D : va_G} {dA : Nat → ClassId} {z : Nat} {sa : Nat → Nat} {Hz : Heap} (E : StrOK qLen qCh l D dA z sa Hz) : ∀ mi As h h', FV_X2_put mi As h = some h' → CalOK l D dA z sa Hz (MT mi) As h none h' := (cxV_ok (fun As h h2 e => by obtain ⟨_, _, rfl, e0⟩ := sR_inv e; obtain ⟨_, _, rfl, e1⟩ := sI_inv e0; obtain ⟨_, _, rfl, e2⟩ := sI_inv e1; obtain ⟨_, _, rfl, e3⟩ := sI_inv e2; obtain ⟨rfl, ez⟩ := sE_inv e3; exact c_X1_setWord E ez) ((cxV_ok (fun As h h2 e => by obtain ⟨_, _, rfl, e0⟩ := sR_inv e; obtain ⟨_, _, rfl, e1⟩ := sI_inv e0; obtain ⟨_, _, rfl, e2⟩ := sI_inv e1; obtain ⟨_, _, rfl, e3⟩ := sI_inv e2; obtain ⟨rfl, ez⟩ := sE_inv e3; exact c_X2_putBehindFault E ez) (fV0_ok E))))
def I_X2_put_64 : List AI := [(.iload 6, 2, [], 0), (.ireturn, 1, [], 0)]
theorem ok_X2_put_64 : vBL MT qLen qCh false q_X2_put.2.2.2.2.1 q_X2_put.2.2.2.2.2.1 q_X2_put.2.2.1 q_X2_put.1.cls q_X2_put.1.name q_X2_put.2.1 0 64 I_X2_put_64 = true := by decide +kernel
def p_X2_put_64 (x6 : Int32) (h : AH) : Option (Int32 × AH) :=
  some (x6, h)
set_option maxRecDepth 100000 in
theorem e_X2_put_64 {l : Launch} {D : va_G} {dA : Nat → ClassId} {z : Nat} {sa : Nat → Nat} {Hz : Heap} (E : StrOK qLen qCh l D dA z sa Hz) {h0 fin : AH} {x : Int32}  : ∀ (x6 : Int32) (h : AH), p_X2_put_64 x6 h = some (x, fin) → GM l D dA z sa Hz q_X2_put h0 (some (.int x)) fin 64 [(6, .int x6)] [] h := by
  intro x6 h hd
  exact step E (is := I_X2_put_64) (pc := 64) (K := k0) (FI := FI_X2_put) (FV := FV_X2_put) (FL := fL0) (rt := rtI) (ft := 0) (by exact hd) ok_X2_put_64 k0_ok (FI_X2_put_ok E) (FV_X2_put_ok E) (fL0_ok E) (rtI_ok rfl)
def I_X2_put_57 : List AI := [(.aload_n 0, 1, [], 0), (.iload_n 1, 1, [], 0), (.iload_n 2, 1, [], 0), (.iload_n 3, 1, [], 0), (.invokevirtual 148, 3, [2, 173, 4, 1, 1149], 0)]
theorem ok_X2_put_57 : vBL MT qLen qCh false q_X2_put.2.2.2.2.1 q_X2_put.2.2.2.2.2.1 q_X2_put.2.2.1 q_X2_put.1.cls q_X2_put.1.name q_X2_put.2.1 64 57 I_X2_put_57 = true := by decide +kernel
def p_X2_put_57 (a0 : Nat) (x1 : Int32) (x2 : Int32) (x3 : Int32) (x6 : Int32) (h : AH) : Option (Int32 × AH) :=
  if (tg h a0).1 = 1 then ((p_X2_putBehindFault a0 x1 x2 x3 h).bind fun h101 =>
  p_X2_put_64 x6 h101) else none
set_option maxRecDepth 100000 in
theorem e_X2_put_57 {l : Launch} {D : va_G} {dA : Nat → ClassId} {z : Nat} {sa : Nat → Nat} {Hz : Heap} (E : StrOK qLen qCh l D dA z sa Hz) {h0 fin : AH} {x : Int32}  : ∀ (a0 : Nat) (x1 : Int32) (x2 : Int32) (x3 : Int32) (x6 : Int32) (h : AH), p_X2_put_57 a0 x1 x2 x3 x6 h = some (x, fin) → GM l D dA z sa Hz q_X2_put h0 (some (.int x)) fin 57 [(0, .ref a0), (1, .int x1), (2, .int x2), (3, .int x3), (6, .int x6)] [] h := by
  intro a0 x1 x2 x3 x6 h hd
  exact step E (is := I_X2_put_57) (pc := 57) (K := (kx 64 (fun la st h => gI la 6 fun x6 => sE st (p_X2_put_64 x6 h)) k0)) (FI := FI_X2_put) (FV := FV_X2_put) (FL := fL0) (rt := rtI) (ft := 64) (by exact hd) ok_X2_put_57 (kx_ok (fun la st h e => by obtain ⟨x6, m_x6, e1⟩ := gI_inv e; obtain ⟨rfl, ez⟩ := sE_inv e1; exact gm_fewer (e_X2_put_64 E  x6 h ez) (mem_cons m_x6 mem_nil)) k0_ok) (FI_X2_put_ok E) (FV_X2_put_ok E) (fL0_ok E) (rtI_ok rfl)
def I_X2_put_36 : List AI := [(.iload 5, 2, [], 0), (.ifCond .lt 19, 3, [57], 0), (.aload_n 0, 1, [], 0), (.getfield 22, 3, [1, 1, 2, 320], 0), (.iload 5, 2, [], 0), (.iconst 4, 1, [], 4), (.idiv, 1, [], 0), (.iload_n 2, 1, [], 0), (.iload_n 3, 1, [], 0), (.invokevirtual 145, 3, [2, 30, 4, 0, 1148], 0), (.goto 10, 3, [64], 0)]
theorem ok_X2_put_36 : vBL MT qLen qCh false q_X2_put.2.2.2.2.1 q_X2_put.2.2.2.2.2.1 q_X2_put.2.2.1 q_X2_put.1.cls q_X2_put.1.name q_X2_put.2.1 0 36 I_X2_put_36 = true := by decide +kernel
def p_X2_put_36 (a0 : Nat) (x1 : Int32) (x2 : Int32) (x3 : Int32) (x5 : Int32) (x6 : Int32) (h : AH) : Option (Int32 × AH) :=
  if x5 < 0 then (if (tg h a0).1 = 1 then ((p_X2_putBehindFault a0 x1 x2 x3 h).bind fun h102 =>
  p_X2_put_64 x6 h102) else none)
  else
  if (tg h a0).1 = 1 then (if ((4 : Int32)) = 0 then none else
  if (tg h (rR h a0 1)).1 = 0 then ((p_X1_setWord (rR h a0 1) (x5 / ((4 : Int32))) x2 x3 h).bind fun h103 =>
  p_X2_put_64 x6 h103) else none) else none
set_option maxRecDepth 100000 in
theorem e_X2_put_36 {l : Launch} {D : va_G} {dA : Nat → ClassId} {z : Nat} {sa : Nat → Nat} {Hz : Heap} (E : StrOK qLen qCh l D dA z sa Hz) {h0 fin : AH} {x : Int32}  : ∀ (a0 : Nat) (x1 : Int32) (x2 : Int32) (x3 : Int32) (x5 : Int32) (x6 : Int32) (h : AH), p_X2_put_36 a0 x1 x2 x3 x5 x6 h = some (x, fin) → GM l D dA z sa Hz q_X2_put h0 (some (.int x)) fin 36 [(0, .ref a0), (1, .int x1), (2, .int x2), (3, .int x3), (5, .int x5), (6, .int x6)] [] h := by
  intro a0 x1 x2 x3 x5 x6 h hd
  exact step E (is := I_X2_put_36) (pc := 36) (K := (kx 57 (fun la st h => gR la 0 fun a0 => gI la 1 fun x1 => gI la 2 fun x2 => gI la 3 fun x3 => gI la 6 fun x6 => sE st (p_X2_put_57 a0 x1 x2 x3 x6 h)) (kx 64 (fun la st h => gI la 6 fun x6 => sE st (p_X2_put_64 x6 h)) k0))) (FI := FI_X2_put) (FV := FV_X2_put) (FL := fL0) (rt := rtI) (ft := 0) (by exact hd) ok_X2_put_36 (kx_ok (fun la st h e => by obtain ⟨a0, m_a0, e1⟩ := gR_inv e; obtain ⟨x1, m_x1, e2⟩ := gI_inv e1; obtain ⟨x2, m_x2, e3⟩ := gI_inv e2; obtain ⟨x3, m_x3, e4⟩ := gI_inv e3; obtain ⟨x6, m_x6, e5⟩ := gI_inv e4; obtain ⟨rfl, ez⟩ := sE_inv e5; exact gm_fewer (e_X2_put_57 E  a0 x1 x2 x3 x6 h ez) (mem_cons m_a0 (mem_cons m_x1 (mem_cons m_x2 (mem_cons m_x3 (mem_cons m_x6 mem_nil)))))) (kx_ok (fun la st h e => by obtain ⟨x6, m_x6, e1⟩ := gI_inv e; obtain ⟨rfl, ez⟩ := sE_inv e1; exact gm_fewer (e_X2_put_64 E  x6 h ez) (mem_cons m_x6 mem_nil)) k0_ok)) (FI_X2_put_ok E) (FV_X2_put_ok E) (fL0_ok E) (rtI_ok rfl)
def I_X2_put_0 : List AI := [(.aload_n 0, 1, [], 0), (.getfield 27, 3, [1, 2, 2, 322], 0), (.aload_n 0, 1, [], 0), (.getfield 22, 3, [1, 1, 2, 320], 0), (.getfield 62, 3, [0, 4, 0, 195], 0), (.iload_n 1, 1, [], 0), (.iload 4, 2, [], 0), (.invokevirtual 65, 3, [1, 90, 4, 2, 787], 0), (.istore 5, 2, [], 0), (.aload_n 0, 1, [], 0), (.iload_n 1, 1, [], 0), (.iload 4, 2, [], 0), (.invokevirtual 142, 3, [1, 134, 3, 1, 1147], 0), (.istore 6, 2, [], 0), (.iload 6, 2, [], 0), (.ifCond .ge 6, 3, [36], 0), (.iload 6, 2, [], 0), (.ireturn, 1, [], 0)]
theorem ok_X2_put_0 : vBL MT qLen qCh false q_X2_put.2.2.2.2.1 q_X2_put.2.2.2.2.2.1 q_X2_put.2.2.1 q_X2_put.1.cls q_X2_put.1.name q_X2_put.2.1 0 0 I_X2_put_0 = true := by decide +kernel
def p_X2_put (a0 : Nat) (x1 : Int32) (x2 : Int32) (x3 : Int32) (x4 : Int32) (h : AH) : Option (Int32 × AH) :=
  if (tg h a0).1 = 1 then (if (tg h a0).1 = 1 then (if (tg h (rR h a0 1)).1 = 0 then (if (tg h (rR h a0 2)).1 = 2 then ((p_X3_hitEntry (rR h a0 2) (rI h (rR h a0 1) 4) x1 x4 h).bind fun q104 =>
  if (tg q104.2 a0).1 = 1 then ((p_X2_reach a0 x1 x4 q104.2).bind fun q105 =>
  if q105.1 < 0 then (some (q105.1, q105.2))
  else
  if q104.1 < 0 then (if (tg q105.2 a0).1 = 1 then ((p_X2_putBehindFault a0 x1 x2 x3 q105.2).bind fun h106 =>
  p_X2_put_64 q105.1 h106) else none)
  else
  if (tg q105.2 a0).1 = 1 then (if ((4 : Int32)) = 0 then none else
  if (tg q105.2 (rR q105.2 a0 1)).1 = 0 then ((p_X1_setWord (rR q105.2 a0 1) (q104.1 / ((4 : Int32))) x2 x3 q105.2).bind fun h107 =>
  p_X2_put_64 q105.1 h107) else none) else none) else none) else none) else none) else none) else none
set_option maxRecDepth 100000 in
theorem e_X2_put_0 {l : Launch} {D : va_G} {dA : Nat → ClassId} {z : Nat} {sa : Nat → Nat} {Hz : Heap} (E : StrOK qLen qCh l D dA z sa Hz) {h0 fin : AH} {x : Int32}  : ∀ (a0 : Nat) (x1 : Int32) (x2 : Int32) (x3 : Int32) (x4 : Int32) (h : AH), p_X2_put a0 x1 x2 x3 x4 h = some (x, fin) → GM l D dA z sa Hz q_X2_put h0 (some (.int x)) fin 0 [(0, .ref a0), (1, .int x1), (2, .int x2), (3, .int x3), (4, .int x4)] [] h := by
  intro a0 x1 x2 x3 x4 h hd
  exact step E (is := I_X2_put_0) (pc := 0) (K := (kx 36 (fun la st h => gR la 0 fun a0 => gI la 1 fun x1 => gI la 2 fun x2 => gI la 3 fun x3 => gI la 5 fun x5 => gI la 6 fun x6 => sE st (p_X2_put_36 a0 x1 x2 x3 x5 x6 h)) k0)) (FI := FI_X2_put) (FV := FV_X2_put) (FL := fL0) (rt := rtI) (ft := 0) (by exact hd) ok_X2_put_0 (kx_ok (fun la st h e => by obtain ⟨a0, m_a0, e1⟩ := gR_inv e; obtain ⟨x1, m_x1, e2⟩ := gI_inv e1; obtain ⟨x2, m_x2, e3⟩ := gI_inv e2; obtain ⟨x3, m_x3, e4⟩ := gI_inv e3; obtain ⟨x5, m_x5, e5⟩ := gI_inv e4; obtain ⟨x6, m_x6, e6⟩ := gI_inv e5; obtain ⟨rfl, ez⟩ := sE_inv e6; exact gm_fewer (e_X2_put_36 E  a0 x1 x2 x3 x5 x6 h ez) (mem_cons m_a0 (mem_cons m_x1 (mem_cons m_x2 (mem_cons m_x3 (mem_cons m_x5 (mem_cons m_x6 mem_nil))))))) k0_ok) (FI_X2_put_ok E) (FV_X2_put_ok E) (fL0_ok E) (rtI_ok rfl)
theorem c_X2_put {l : Launch} {D : va_G} {dA : Nat → ClassId} {z : Nat} {sa : Nat → Nat} {Hz : Heap} (E : StrOK qLen qCh l D dA z sa Hz) {a0 : Nat} {x1 : Int32} {x2 : Int32} {x3 : Int32} {x4 : Int32} {h fin : AH} {x : Int32} (hd : p_X2_put a0 x1 x2 x3 x4 h = some (x, fin)) : CalOK l D dA z sa Hz q_X2_put [.ref a0, .int x1, .int x2, .int x3, .int x4] h (some (.int x)) fin := calOf (by decide +kernel) (Nat.le_of_ble_eq_true rfl) (e_X2_put_0 E a0 x1 x2 x3 x4 h hd)
