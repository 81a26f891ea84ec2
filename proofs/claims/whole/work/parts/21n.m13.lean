/-! ===== methods 325 to 340 ===== -/
def FI_X9_flush : Nat → List Value → AH → Option (Int32 × AH) := (cx 250 (fun As h => sR As fun a0 As => sI As fun x1 As => sE As (p_X9_isAsked a0 x1 h)) (cx 201 (fun As h => sR As fun a0 As => sI As fun x1 As => sE As (p_X9_refused a0 x1 h)) (cx 266 (fun As h => sR As fun a0 As => sI As fun x1 As => sI As fun x2 As => sI As fun x3 As => sE As (p_X9_hitAt a0 x1 x2 x3 h)) (cx 233 (fun As h => sR As fun a0 As => sI As fun x1 As => sE As (p_X9_good a0 x1 h)) fI0))))
theorem FI_X9_flush_ok {l : Launch} {D : va_G} {dA : Nat → ClassId} {z : Nat} {sa : Nat → Nat} {Hz : Heap} (E : StrOK qLen qCh l D dA z sa Hz) : ∀ mi As h x h', FI_X9_flush mi As h = some (x, h') → CalOK l D dA z sa Hz (MT mi) As h (some (.int x)) h' := (cxI_ok (fun As h x h2 e => by obtain ⟨_, _, rfl, e0⟩ := sR_inv e; obtain ⟨_, _, rfl, e1⟩ := sI_inv e0; obtain ⟨rfl, ez⟩ := sE_inv e1; exact c_X9_isAsked E ez) ((cxI_ok (fun As h x h2 e => by obtain ⟨_, _, rfl, e0⟩ := sR_inv e; obtain ⟨_, _, rfl, e1⟩ := sI_inv e0; obtain ⟨rfl, ez⟩ := sE_inv e1; exact c_X9_refused E ez) ((cxI_ok (fun As h x h2 e => by obtain ⟨_, _, rfl, e0⟩ := sR_inv e; obtain ⟨_, _, rfl, e1⟩ := sI_inv e0; obtain ⟨_, _, rfl, e2⟩ := sI_inv e1; obtain ⟨_, _, rfl, e3⟩ := sI_inv e2; obtain ⟨rfl, ez⟩ := sE_inv e3; exact c_X9_hitAt E ez) ((cxI_ok (fun As h x h2 e => by obtain ⟨_, _, rfl, e0⟩ := sR_inv e; obtain ⟨_, _, rfl, e1⟩ := sI_inv e0; obtain ⟨rfl, ez⟩ := sE_inv e1; exact c_X9_good E ez) (fI0_ok E))))))))
def FV_X9_flush : Nat → List Value → AH → Option (AH) := (cx 318 (fun As h => sR As fun a0 As => sE As (p_X9_remembers a0 h)) (cx 232 (fun As h => sR As fun a0 As => sE As (p_X9_remains a0 h)) fV0))
theorem FV_X9_flush_ok {l : Launch} {D : va_G} {dA : Nat → ClassId} {z : Nat} {sa : Nat → Nat} {Hz : Heap} (E : StrOK qLen qCh l D dA z sa Hz) : ∀ mi As h h', FV_X9_flush mi As h = some h' → CalOK l D dA z sa Hz (MT mi) As h none h' := (cxV_ok (fun As h h2 e => by obtain ⟨_, _, rfl, e0⟩ := sR_inv e; obtain ⟨rfl, ez⟩ := sE_inv e0; exact c_X9_remembers E ez) ((cxV_ok (fun As h h2 e => by obtain ⟨_, _, rfl, e0⟩ := sR_inv e; obtain ⟨rfl, ez⟩ := sE_inv e0; exact c_X9_remains E ez) (fV0_ok E))))
def I_X9_flush_58 : List AI := [(.invokevirtual 43, 3, [1, 233, 2, 8, 1694], 0), (.ireturn, 1, [], 0)]
theorem ok_X9_flush_58 : vBL MT qLen qCh false q_X9_flush.2.2.2.2.1 q_X9_flush.2.2.2.2.2.1 q_X9_flush.2.2.1 q_X9_flush.1.cls q_X9_flush.1.name q_X9_flush.2.1 0 58 I_X9_flush_58 = true := by decide +kernel
def p_X9_flush_58 (y0 : Int32) (b1 : Nat) (h : AH) : Option (Int32 × AH) :=
  if (tg h b1).1 = 8 then ((p_X9_good b1 y0 h).bind fun q101 =>
  some (q101.1, q101.2)) else none
set_option maxRecDepth 100000 in
theorem e_X9_flush_58 {l : Launch} {D : va_G} {dA : Nat → ClassId} {z : Nat} {sa : Nat → Nat} {Hz : Heap} (E : StrOK qLen qCh l D dA z sa Hz) {h0 fin : AH} {x : Int32}  : ∀ (y0 : Int32) (b1 : Nat) (h : AH), p_X9_flush_58 y0 b1 h = some (x, fin) → GM l D dA z sa Hz q_X9_flush h0 (some (.int x)) fin 58 [] [.int y0, .ref b1] h := by
  intro y0 b1 h hd
  exact step E (is := I_X9_flush_58) (pc := 58) (K := k0) (FI := FI_X9_flush) (FV := FV_X9_flush) (FL := fL0) (rt := rtI) (ft := 0) (by exact hd) ok_X9_flush_58 k0_ok (FI_X9_flush_ok E) (FV_X9_flush_ok E) (fL0_ok E) (rtI_ok rfl)
def I_X9_flush_57 : List AI := [(.iconst 1, 1, [], 1)]
theorem ok_X9_flush_57 : vBL MT qLen qCh false q_X9_flush.2.2.2.2.1 q_X9_flush.2.2.2.2.2.1 q_X9_flush.2.2.1 q_X9_flush.1.cls q_X9_flush.1.name q_X9_flush.2.1 58 57 I_X9_flush_57 = true := by decide +kernel
def p_X9_flush_57 (b0 : Nat) (h : AH) : Option (Int32 × AH) :=
  p_X9_flush_58 ((1 : Int32)) b0 h
set_option maxRecDepth 100000 in
theorem e_X9_flush_57 {l : Launch} {D : va_G} {dA : Nat → ClassId} {z : Nat} {sa : Nat → Nat} {Hz : Heap} (E : StrOK qLen qCh l D dA z sa Hz) {h0 fin : AH} {x : Int32}  : ∀ (b0 : Nat) (h : AH), p_X9_flush_57 b0 h = some (x, fin) → GM l D dA z sa Hz q_X9_flush h0 (some (.int x)) fin 57 [] [.ref b0] h := by
  intro b0 h hd
  exact step E (is := I_X9_flush_57) (pc := 57) (K := (kx 58 (fun la st h => sI st fun y0 st => sR st fun b1 st => sE st (p_X9_flush_58 y0 b1 h)) k0)) (FI := FI_X9_flush) (FV := FV_X9_flush) (FL := fL0) (rt := rtI) (ft := 58) (by exact hd) ok_X9_flush_57 (kx_ok (fun la st h e => by obtain ⟨y0, _, rfl, e1⟩ := sI_inv e; obtain ⟨b1, _, rfl, e2⟩ := sR_inv e1; obtain ⟨rfl, ez⟩ := sE_inv e2; exact gm_fewer (e_X9_flush_58 E  y0 b1 h ez) mem_nil) k0_ok) (FI_X9_flush_ok E) (FV_X9_flush_ok E) (fL0_ok E) (rtI_ok rfl)
def I_X9_flush_43 : List AI := [(.aload_n 0, 1, [], 0), (.invokevirtual 270, 3, [2, 232, 1, 8, 1690], 0), (.aload_n 0, 1, [], 0), (.iload_n 2, 1, [], 0), (.iconst (-1), 1, [], (-1)), (.if_icmp .ne 7, 3, [57], 0), (.iconst 0, 1, [], 0), (.goto 4, 3, [58], 0)]
theorem ok_X9_flush_43 : vBL MT qLen qCh false q_X9_flush.2.2.2.2.1 q_X9_flush.2.2.2.2.2.1 q_X9_flush.2.2.1 q_X9_flush.1.cls q_X9_flush.1.name q_X9_flush.2.1 0 43 I_X9_flush_43 = true := by decide +kernel
def p_X9_flush_43 (a0 : Nat) (x2 : Int32) (h : AH) : Option (Int32 × AH) :=
  if (tg h a0).1 = 8 then ((p_X9_remains a0 h).bind fun h102 =>
  if x2 = ((-1 : Int32)) then (p_X9_flush_58 ((0 : Int32)) a0 h102)
  else
  p_X9_flush_58 ((1 : Int32)) a0 h102) else none
set_option maxRecDepth 100000 in
theorem e_X9_flush_43 {l : Launch} {D : va_G} {dA : Nat → ClassId} {z : Nat} {sa : Nat → Nat} {Hz : Heap} (E : StrOK qLen qCh l D dA z sa Hz) {h0 fin : AH} {x : Int32}  : ∀ (a0 : Nat) (x2 : Int32) (h : AH), p_X9_flush_43 a0 x2 h = some (x, fin) → GM l D dA z sa Hz q_X9_flush h0 (some (.int x)) fin 43 [(0, .ref a0), (2, .int x2)] [] h := by
  intro a0 x2 h hd
  exact step E (is := I_X9_flush_43) (pc := 43) (K := (kx 57 (fun la st h => sR st fun b0 st => sE st (p_X9_flush_57 b0 h)) (kx 58 (fun la st h => sI st fun y0 st => sR st fun b1 st => sE st (p_X9_flush_58 y0 b1 h)) k0))) (FI := FI_X9_flush) (FV := FV_X9_flush) (FL := fL0) (rt := rtI) (ft := 0) (by exact hd) ok_X9_flush_43 (kx_ok (fun la st h e => by obtain ⟨b0, _, rfl, e1⟩ := sR_inv e; obtain ⟨rfl, ez⟩ := sE_inv e1; exact gm_fewer (e_X9_flush_57 E  b0 h ez) mem_nil) (kx_ok (fun la st h e => by obtain ⟨y0, _, rfl, e1⟩ := sI_inv e; obtain ⟨b1, _, rfl, e2⟩ := sR_inv e1; obtain ⟨rfl, ez⟩ := sE_inv e2; exact gm_fewer (e_X9_flush_58 E  y0 b1 h ez) mem_nil) k0_ok)) (FI_X9_flush_ok E) (FV_X9_flush_ok E) (fL0_ok E) (rtI_ok rfl)
def I_X9_flush_19 : List AI := [(.aload_n 0, 1, [], 0), (.invokevirtual 480, 3, [2, 318, 1, 8, 2030], 0), (.aload_n 0, 1, [], 0), (.iload_n 1, 1, [], 0), (.iconst 0, 1, [], 0), (.iconst 0, 1, [], 0), (.invokevirtual 365, 3, [1, 266, 4, 8, 1815], 0), (.istore_n 2, 1, [], 0), (.iload_n 2, 1, [], 0), (.iconst (-1), 1, [], (-1)), (.if_icmp .eq 10, 3, [43], 0), (.aload_n 0, 1, [], 0), (.getfield 21, 3, [8, 16, 2, 1361], 0), (.iload_n 2, 1, [], 0), (.iconst (-1), 1, [], (-1)), (.iastore, 1, [], 0)]
theorem ok_X9_flush_19 : vBL MT qLen qCh false q_X9_flush.2.2.2.2.1 q_X9_flush.2.2.2.2.2.1 q_X9_flush.2.2.1 q_X9_flush.1.cls q_X9_flush.1.name q_X9_flush.2.1 43 19 I_X9_flush_19 = true := by decide +kernel
def p_X9_flush_19 (a0 : Nat) (x1 : Int32) (h : AH) : Option (Int32 × AH) :=
  if (tg h a0).1 = 8 then ((p_X9_remembers a0 h).bind fun h103 =>
  if (tg h103 a0).1 = 8 then ((p_X9_hitAt a0 x1 ((0 : Int32)) ((0 : Int32)) h103).bind fun q104 =>
  if q104.1 = ((-1 : Int32)) then (p_X9_flush_43 a0 q104.1 q104.2)
  else
  if (tg q104.2 a0).1 = 8 then (if inB q104.2 (rR q104.2 a0 16) 100 q104.1 then (let h105 := wI q104.2 (rR q104.2 a0 16) q104.1.toNatClampNeg ((-1 : Int32))
  p_X9_flush_43 a0 q104.1 h105) else none) else none) else none) else none
set_option maxRecDepth 100000 in
theorem e_X9_flush_19 {l : Launch} {D : va_G} {dA : Nat → ClassId} {z : Nat} {sa : Nat → Nat} {Hz : Heap} (E : StrOK qLen qCh l D dA z sa Hz) {h0 fin : AH} {x : Int32}  : ∀ (a0 : Nat) (x1 : Int32) (h : AH), p_X9_flush_19 a0 x1 h = some (x, fin) → GM l D dA z sa Hz q_X9_flush h0 (some (.int x)) fin 19 [(0, .ref a0), (1, .int x1)] [] h := by
  intro a0 x1 h hd
  exact step E (is := I_X9_flush_19) (pc := 19) (K := (kx 43 (fun la st h => gR la 0 fun a0 => gI la 2 fun x2 => sE st (p_X9_flush_43 a0 x2 h)) k0)) (FI := FI_X9_flush) (FV := FV_X9_flush) (FL := fL0) (rt := rtI) (ft := 43) (by exact hd) ok_X9_flush_19 (kx_ok (fun la st h e => by obtain ⟨a0, m_a0, e1⟩ := gR_inv e; obtain ⟨x2, m_x2, e2⟩ := gI_inv e1; obtain ⟨rfl, ez⟩ := sE_inv e2; exact gm_fewer (e_X9_flush_43 E  a0 x2 h ez) (mem_cons m_a0 (mem_cons m_x2 mem_nil))) k0_ok) (FI_X9_flush_ok E) (FV_X9_flush_ok E) (fL0_ok E) (rtI_ok rfl)
def I_X9_flush_0 : List AI := [(.aload_n 0, 1, [], 0), (.iconst 0, 1, [], 0), (.putfield 33, 3, [8, 0, 0, 1345], 0), (.aload_n 0, 1, [], 0), (.iload_n 1, 1, [], 0), (.invokevirtual 404, 3, [1, 250, 2, 8, 1756], 0), (.ifCond .ne 9, 3, [19], 0), (.aload_n 0, 1, [], 0), (.iconst 1, 1, [], 1), (.invokevirtual 39, 3, [1, 201, 2, 8, 1481], 0), (.ireturn, 1, [], 0)]
theorem ok_X9_flush_0 : vBL MT qLen qCh false q_X9_flush.2.2.2.2.1 q_X9_flush.2.2.2.2.2.1 q_X9_flush.2.2.1 q_X9_flush.1.cls q_X9_flush.1.name q_X9_flush.2.1 0 0 I_X9_flush_0 = true := by decide +kernel
def p_X9_flush (a0 : Nat) (x1 : Int32) (h : AH) : Option (Int32 × AH) :=
  if (tg h a0).1 = 8 then (let h106 := wI h a0 0 ((0 : Int32))
  if (tg h106 a0).1 = 8 then ((p_X9_isAsked a0 x1 h106).bind fun q107 =>
  if q107.1 = 0 then (if (tg q107.2 a0).1 = 8 then ((p_X9_refused a0 ((1 : Int32)) q107.2).bind fun q111 =>
  some (q111.1, q111.2)) else none)
  else
  if (tg q107.2 a0).1 = 8 then ((p_X9_remembers a0 q107.2).bind fun h108 =>
  if (tg h108 a0).1 = 8 then ((p_X9_hitAt a0 x1 ((0 : Int32)) ((0 : Int32)) h108).bind fun q109 =>
  if q109.1 = ((-1 : Int32)) then (p_X9_flush_43 a0 q109.1 q109.2)
  else
  if (tg q109.2 a0).1 = 8 then (if inB q109.2 (rR q109.2 a0 16) 100 q109.1 then (let h110 := wI q109.2 (rR q109.2 a0 16) q109.1.toNatClampNeg ((-1 : Int32))
  p_X9_flush_43 a0 q109.1 h110) else none) else none) else none) else none) else none) else none
set_option maxRecDepth 100000 in
theorem e_X9_flush_0 {l : Launch} {D : va_G} {dA : Nat → ClassId} {z : Nat} {sa : Nat → Nat} {Hz : Heap} (E : StrOK qLen qCh l D dA z sa Hz) {h0 fin : AH} {x : Int32}  : ∀ (a0 : Nat) (x1 : Int32) (h : AH), p_X9_flush a0 x1 h = some (x, fin) → GM l D dA z sa Hz q_X9_flush h0 (some (.int x)) fin 0 [(0, .ref a0), (1, .int x1)] [] h := by
  intro a0 x1 h hd
  exact step E (is := I_X9_flush_0) (pc := 0) (K := (kx 19 (fun la st h => gR la 0 fun a0 => gI la 1 fun x1 => sE st (p_X9_flush_19 a0 x1 h)) k0)) (FI := FI_X9_flush) (FV := FV_X9_flush) (FL := fL0) (rt := rtI) (ft := 0) (by exact hd) ok_X9_flush_0 (kx_ok (fun la st h e => by obtain ⟨a0, m_a0, e1⟩ := gR_inv e; obtain ⟨x1, m_x1, e2⟩ := gI_inv e1; obtain ⟨rfl, ez⟩ := sE_inv e2; exact gm_fewer (e_X9_flush_19 E  a0 x1 h ez) (mem_cons m_a0 (mem_cons m_x1 mem_nil))) k0_ok) (FI_X9_flush_ok E) (FV_X9_flush_ok E) (fL0_ok E) (rtI_ok rfl)
theorem c_X9_flush {l : Launch} {D : va_G} {dA : Nat → ClassId} {z : Nat} {sa : Nat → Nat} {Hz : Heap} (E : StrOK qLen qCh l D dA z sa Hz) {a0 : Nat} {x1 : Int32} {h fin : AH} {x : Int32} (hd : p_X9_flush a0 x1 h = some (x, fin)) : CalOK l D dA z sa Hz q_X9_flush [.ref a0, .int x1] h (some (.int x)) fin := calOf (by decide +kernel) (Nat.le_of_ble_eq_true rfl) (e_X9_flush_0 E a0 x1 h hd)
def I_X9_takesEntry_24 : List AI := [(.iconst 0, 1, [], 0), (.ireturn, 1, [], 0)]
theorem ok_X9_takesEntry_24 : vBL MT qLen qCh false q_X9_takesEntry.2.2.2.2.1 q_X9_takesEntry.2.2.2.2.2.1 q_X9_takesEntry.2.2.1 q_X9_takesEntry.1.cls q_X9_takesEntry.1.name q_X9_takesEntry.2.1 0 24 I_X9_takesEntry_24 = true := by decide +kernel
def p_X9_takesEntry_24 (h : AH) : Option (Int32 × AH) :=
  some (((0 : Int32)), h)
set_option maxRecDepth 100000 in
theorem e_X9_takesEntry_24 {l : Launch} {D : va_G} {dA : Nat → ClassId} {z : Nat} {sa : Nat → Nat} {Hz : Heap} (E : StrOK qLen qCh l D dA z sa Hz) {h0 fin : AH} {x : Int32}  : ∀  (h : AH), p_X9_takesEntry_24 h = some (x, fin) → GM l D dA z sa Hz q_X9_takesEntry h0 (some (.int x)) fin 24 [] [] h := by
  intro h hd
  exact step E (is := I_X9_takesEntry_24) (pc := 24) (K := k0) (FI := fI0) (FV := fV0) (FL := fL0) (rt := rtI) (ft := 0) (by exact hd) ok_X9_takesEntry_24 k0_ok (fI0_ok E) (fV0_ok E) (fL0_ok E) (rtI_ok rfl)
def I_X9_takesEntry_26 : List AI := [(.aload_n 0, 1, [], 0), (.getfield 21, 3, [8, 16, 2, 1361], 0), (.sipush 179, 3, [], 179), (.bipush 8, 2, [], 8), (.iload_n 1, 1, [], 0), (.imul, 1, [], 0), (.iadd, 1, [], 0), (.iload_n 2, 1, [], 0), (.iadd, 1, [], 0), (.iconst (-1), 1, [], (-1)), (.iastore, 1, [], 0), (.iconst 1, 1, [], 1), (.ireturn, 1, [], 0)]
theorem ok_X9_takesEntry_26 : vBL MT qLen qCh false q_X9_takesEntry.2.2.2.2.1 q_X9_takesEntry.2.2.2.2.2.1 q_X9_takesEntry.2.2.1 q_X9_takesEntry.1.cls q_X9_takesEntry.1.name q_X9_takesEntry.2.1 0 26 I_X9_takesEntry_26 = true := by decide +kernel
def p_X9_takesEntry_26 (a0 : Nat) (x1 : Int32) (x2 : Int32) (h : AH) : Option (Int32 × AH) :=
  if (tg h a0).1 = 8 then (if inB h (rR h a0 16) 100 ((((179 : Int32)) + (((8 : Int32)) * x1)) + x2) then (let h101 := wI h (rR h a0 16) ((((179 : Int32)) + (((8 : Int32)) * x1)) + x2).toNatClampNeg ((-1 : Int32))
  some (((1 : Int32)), h101)) else none) else none
set_option maxRecDepth 100000 in
theorem e_X9_takesEntry_26 {l : Launch} {D : va_G} {dA : Nat → ClassId} {z : Nat} {sa : Nat → Nat} {Hz : Heap} (E : StrOK qLen qCh l D dA z sa Hz) {h0 fin : AH} {x : Int32}  : ∀ (a0 : Nat) (x1 : Int32) (x2 : Int32) (h : AH), p_X9_takesEntry_26 a0 x1 x2 h = some (x, fin) → GM l D dA z sa Hz q_X9_takesEntry h0 (some (.int x)) fin 26 [(0, .ref a0), (1, .int x1), (2, .int x2)] [] h := by
  intro a0 x1 x2 h hd
  exact step E (is := I_X9_takesEntry_26) (pc := 26) (K := k0) (FI := fI0) (FV := fV0) (FL := fL0) (rt := rtI) (ft := 0) (by exact hd) ok_X9_takesEntry_26 k0_ok (fI0_ok E) (fV0_ok E) (fL0_ok E) (rtI_ok rfl)
def I_X9_takesEntry_0 : List AI := [(.iload_n 1, 1, [], 0), (.iconst (-1), 1, [], (-1)), (.if_icmp .eq 22, 3, [24], 0), (.aload_n 0, 1, [], 0), (.getfield 21, 3, [8, 16, 2, 1361], 0), (.sipush 179, 3, [], 179), (.bipush 8, 2, [], 8), (.iload_n 1, 1, [], 0), (.imul, 1, [], 0), (.iadd, 1, [], 0), (.iload_n 2, 1, [], 0), (.iadd, 1, [], 0), (.iaload, 1, [], 0), (.iconst (-1), 1, [], (-1)), (.if_icmp .ne 5, 3, [26], 0)]
theorem ok_X9_takesEntry_0 : vBL MT qLen qCh false q_X9_takesEntry.2.2.2.2.1 q_X9_takesEntry.2.2.2.2.2.1 q_X9_takesEntry.2.2.1 q_X9_takesEntry.1.cls q_X9_takesEntry.1.name q_X9_takesEntry.2.1 24 0 I_X9_takesEntry_0 = true := by decide +kernel
def p_X9_takesEntry (a0 : Nat) (x1 : Int32) (x2 : Int32) (h : AH) : Option (Int32 × AH) :=
  if x1 = ((-1 : Int32)) then (p_X9_takesEntry_24 h)
  else
  if (tg h a0).1 = 8 then (if inB h (rR h a0 16) 100 ((((179 : Int32)) + (((8 : Int32)) * x1)) + x2) then (if (rI h (rR h a0 16) ((((179 : Int32)) + (((8 : Int32)) * x1)) + x2).toNatClampNeg) = ((-1 : Int32)) then (p_X9_takesEntry_24 h)
  else
  if (tg h a0).1 = 8 then (if inB h (rR h a0 16) 100 ((((179 : Int32)) + (((8 : Int32)) * x1)) + x2) then (let h102 := wI h (rR h a0 16) ((((179 : Int32)) + (((8 : Int32)) * x1)) + x2).toNatClampNeg ((-1 : Int32))
  some (((1 : Int32)), h102)) else none) else none) else none) else none
set_option maxRecDepth 100000 in
theorem e_X9_takesEntry_0 {l : Launch} {D : va_G} {dA : Nat → ClassId} {z : Nat} {sa : Nat → Nat} {Hz : Heap} (E : StrOK qLen qCh l D dA z sa Hz) {h0 fin : AH} {x : Int32}  : ∀ (a0 : Nat) (x1 : Int32) (x2 : Int32) (h : AH), p_X9_takesEntry a0 x1 x2 h = some (x, fin) → GM l D dA z sa Hz q_X9_takesEntry h0 (some (.int x)) fin 0 [(0, .ref a0), (1, .int x1), (2, .int x2)] [] h := by
  intro a0 x1 x2 h hd
  exact step E (is := I_X9_takesEntry_0) (pc := 0) (K := (kx 24 (fun la st h => sE st (p_X9_takesEntry_24 h)) (kx 26 (fun la st h => gR la 0 fun a0 => gI la 1 fun x1 => gI la 2 fun x2 => sE st (p_X9_takesEntry_26 a0 x1 x2 h)) k0))) (FI := fI0) (FV := fV0) (FL := fL0) (rt := rtI) (ft := 24) (by exact hd) ok_X9_takesEntry_0 (kx_ok (fun la st h e => by obtain ⟨rfl, ez⟩ := sE_inv e; exact gm_fewer (e_X9_takesEntry_24 E   h ez) mem_nil) (kx_ok (fun la st h e => by obtain ⟨a0, m_a0, e1⟩ := gR_inv e; obtain ⟨x1, m_x1, e2⟩ := gI_inv e1; obtain ⟨x2, m_x2, e3⟩ := gI_inv e2; obtain ⟨rfl, ez⟩ := sE_inv e3; exact gm_fewer (e_X9_takesEntry_26 E  a0 x1 x2 h ez) (mem_cons m_a0 (mem_cons m_x1 (mem_cons m_x2 mem_nil)))) k0_ok)) (fI0_ok E) (fV0_ok E) (fL0_ok E) (rtI_ok rfl)
theorem c_X9_takesEntry {l : Launch} {D : va_G} {dA : Nat → ClassId} {z : Nat} {sa : Nat → Nat} {Hz : Heap} (E : StrOK qLen qCh l D dA z sa Hz) {a0 : Nat} {x1 : Int32} {x2 : Int32} {h fin : AH} {x : Int32} (hd : p_X9_takesEntry a0 x1 x2 h = some (x, fin)) : CalOK l D dA z sa Hz q_X9_takesEntry [.ref a0, .int x1, .int x2] h (some (.int x)) fin := calOf (by decide +kernel) (Nat.le_of_ble_eq_true rfl) (e_X9_takesEntry_0 E a0 x1 x2 h hd)
def FI_X9_device : Nat → List Value → AH → Option (Int32 × AH) := (cx 237 (fun As h => sI As fun x0 As => sE As (p_X9_isFrame x0 h)) (cx 211 (fun As h => sI As fun x0 As => sI As fun x1 As => sI As fun x2 As => sE As (p_X9_in x0 x1 x2 h)) (cx 201 (fun As h => sR As fun a0 As => sI As fun x1 As => sE As (p_X9_refused a0 x1 h)) (cx 240 (fun As h => sR As fun a0 As => sI As fun x1 As => sE As (p_X9_isBacked a0 x1 h)) (cx 265 (fun As h => sR As fun a0 As => sI As fun x1 As => sI As fun x2 As => sE As (p_X9_tableOf a0 x1 x2 h)) (cx 326 (fun As h => sR As fun a0 As => sI As fun x1 As => sI As fun x2 As => sE As (p_X9_takesEntry a0 x1 x2 h)) (cx 233 (fun As h => sR As fun a0 As => sI As fun x1 As => sE As (p_X9_good a0 x1 h)) fI0)))))))
theorem FI_X9_device_ok {l : Launch} {D : va_G} {dA : Nat → ClassId} {z : Nat} {sa : Nat → Nat} {Hz : Heap} (E : StrOK qLen qCh l D dA z sa Hz) : ∀ mi As h x h', FI_X9_device mi As h = some (x, h') → CalOK l D dA z sa Hz (MT mi) As h (some (.int x)) h' := (cxI_ok (fun As h x h2 e => by obtain ⟨_, _, rfl, e0⟩ := sI_inv e; obtain ⟨rfl, ez⟩ := sE_inv e0; exact c_X9_isFrame E ez) ((cxI_ok (fun As h x h2 e => by obtain ⟨_, _, rfl, e0⟩ := sI_inv e; obtain ⟨_, _, rfl, e1⟩ := sI_inv e0; obtain ⟨_, _, rfl, e2⟩ := sI_inv e1; obtain ⟨rfl, ez⟩ := sE_inv e2; exact c_X9_in E ez) ((cxI_ok (fun As h x h2 e => by obtain ⟨_, _, rfl, e0⟩ := sR_inv e; obtain ⟨_, _, rfl, e1⟩ := sI_inv e0; obtain ⟨rfl, ez⟩ := sE_inv e1; exact c_X9_refused E ez) ((cxI_ok (fun As h x h2 e => by obtain ⟨_, _, rfl, e0⟩ := sR_inv e; obtain ⟨_, _, rfl, e1⟩ := sI_inv e0; obtain ⟨rfl, ez⟩ := sE_inv e1; exact c_X9_isBacked E ez) ((cxI_ok (fun As h x h2 e => by obtain ⟨_, _, rfl, e0⟩ := sR_inv e; obtain ⟨_, _, rfl, e1⟩ := sI_inv e0; obtain ⟨_, _, rfl, e2⟩ := sI_inv e1; obtain ⟨rfl, ez⟩ := sE_inv e2; exact c_X9_tableOf E ez) ((cxI_ok (fun As h x h2 e => by obtain ⟨_, _, rfl, e0⟩ := sR_inv e; obtain ⟨_, _, rfl, e1⟩ := sI_inv e0; obtain ⟨_, _, rfl, e2⟩ := sI_inv e1; obtain ⟨rfl, ez⟩ := sE_inv e2; exact c_X9_takesEntry E ez) ((cxI_ok (fun As h x h2 e => by obtain ⟨_, _, rfl, e0⟩ := sR_inv e; obtain ⟨_, _, rfl, e1⟩ := sI_inv e0; obtain ⟨rfl, ez⟩ := sE_inv e1; exact c_X9_good E ez) (fI0_ok E))))))))))))))
def FV_X9_device : Nat → List Value → AH → Option (AH) := (cx 239 (fun As h => sR As fun a0 As => sE As (p_X9_works a0 h)) (cx 318 (fun As h => sR As fun a0 As => sE As (p_X9_remembers a0 h)) (cx 232 (fun As h => sR As fun a0 As => sE As (p_X9_remains a0 h)) fV0)))
theorem FV_X9_device_ok {l : Launch} {D : va_G} {dA : Nat → ClassId} {z : Nat} {sa : Nat → Nat} {Hz : Heap} (E : StrOK qLen qCh l D dA z sa Hz) : ∀ mi As h h', FV_X9_device mi As h = some h' → CalOK l D dA z sa Hz (MT mi) As h none h' := (cxV_ok (fun As h h2 e => by obtain ⟨_, _, rfl, e0⟩ := sR_inv e; obtain ⟨rfl, ez⟩ := sE_inv e0; exact c_X9_works E ez) ((cxV_ok (fun As h h2 e => by obtain ⟨_, _, rfl, e0⟩ := sR_inv e; obtain ⟨rfl, ez⟩ := sE_inv e0; exact c_X9_remembers E ez) ((cxV_ok (fun As h h2 e => by obtain ⟨_, _, rfl, e0⟩ := sR_inv e; obtain ⟨rfl, ez⟩ := sE_inv e0; exact c_X9_remains E ez) (fV0_ok E))))))
def I_X9_device_29 : List AI := [(.aload_n 0, 1, [], 0), (.iconst 1, 1, [], 1), (.invokevirtual 39, 3, [1, 201, 2, 8, 1481], 0), (.ireturn, 1, [], 0)]
theorem ok_X9_device_29 : vBL MT qLen qCh false q_X9_device.2.2.2.2.1 q_X9_device.2.2.2.2.2.1 q_X9_device.2.2.1 q_X9_device.1.cls q_X9_device.1.name q_X9_device.2.1 0 29 I_X9_device_29 = true := by decide +kernel
def p_X9_device_29 (a0 : Nat) (h : AH) : Option (Int32 × AH) :=
  if (tg h a0).1 = 8 then ((p_X9_refused a0 ((1 : Int32)) h).bind fun q101 =>
  some (q101.1, q101.2)) else none
set_option maxRecDepth 100000 in
theorem e_X9_device_29 {l : Launch} {D : va_G} {dA : Nat → ClassId} {z : Nat} {sa : Nat → Nat} {Hz : Heap} (E : StrOK qLen qCh l D dA z sa Hz) {h0 fin : AH} {x : Int32}  : ∀ (a0 : Nat) (h : AH), p_X9_device_29 a0 h = some (x, fin) → GM l D dA z sa Hz q_X9_device h0 (some (.int x)) fin 29 [(0, .ref a0)] [] h := by
  intro a0 h hd
  exact step E (is := I_X9_device_29) (pc := 29) (K := k0) (FI := FI_X9_device) (FV := FV_X9_device) (FL := fL0) (rt := rtI) (ft := 0) (by exact hd) ok_X9_device_29 k0_ok (FI_X9_device_ok E) (FV_X9_device_ok E) (fL0_ok E) (rtI_ok rfl)
def I_X9_device_153 : List AI := [(.aload_n 0, 1, [], 0), (.invokevirtual 270, 3, [2, 232, 1, 8, 1690], 0), (.aload_n 0, 1, [], 0), (.iload 5, 2, [], 0), (.invokevirtual 43, 3, [1, 233, 2, 8, 1694], 0), (.ireturn, 1, [], 0)]
theorem ok_X9_device_153 : vBL MT qLen qCh false q_X9_device.2.2.2.2.1 q_X9_device.2.2.2.2.2.1 q_X9_device.2.2.1 q_X9_device.1.cls q_X9_device.1.name q_X9_device.2.1 0 153 I_X9_device_153 = true := by decide +kernel
def p_X9_device_153 (a0 : Nat) (x5 : Int32) (h : AH) : Option (Int32 × AH) :=
  if (tg h a0).1 = 8 then ((p_X9_remains a0 h).bind fun h102 =>
  if (tg h102 a0).1 = 8 then ((p_X9_good a0 x5 h102).bind fun q103 =>
  some (q103.1, q103.2)) else none) else none
set_option maxRecDepth 100000 in
theorem e_X9_device_153 {l : Launch} {D : va_G} {dA : Nat → ClassId} {z : Nat} {sa : Nat → Nat} {Hz : Heap} (E : StrOK qLen qCh l D dA z sa Hz) {h0 fin : AH} {x : Int32}  : ∀ (a0 : Nat) (x5 : Int32) (h : AH), p_X9_device_153 a0 x5 h = some (x, fin) → GM l D dA z sa Hz q_X9_device h0 (some (.int x)) fin 153 [(0, .ref a0), (5, .int x5)] [] h := by
  intro a0 x5 h hd
  exact step E (is := I_X9_device_153) (pc := 153) (K := k0) (FI := FI_X9_device) (FV := FV_X9_device) (FL := fL0) (rt := rtI) (ft := 0) (by exact hd) ok_X9_device_153 k0_ok (FI_X9_device_ok E) (FV_X9_device_ok E) (fL0_ok E) (rtI_ok rfl)
def I_X9_device_70 : List AI := [(.aload_n 0, 1, [], 0), (.invokevirtual 480, 3, [2, 318, 1, 8, 2030], 0), (.aload_n 0, 1, [], 0), (.getfield 21, 3, [8, 16, 2, 1361], 0), (.bipush 8, 2, [], 8), (.iload_n 1, 1, [], 0), (.imul, 1, [], 0), (.iload_n 2, 1, [], 0), (.iadd, 1, [], 0), (.iload_n 3, 1, [], 0), (.iastore, 1, [], 0), (.aload_n 0, 1, [], 0), (.getfield 21, 3, [8, 16, 2, 1361], 0), (.sipush 145, 3, [], 145), (.dup2, 1, [], 0), (.iaload, 1, [], 0), (.iconst 1, 1, [], 1), (.iload_n 1, 1, [], 0), (.ishl, 1, [], 0), (.ior, 1, [], 0), (.iastore, 1, [], 0), (.aload_n 0, 1, [], 0), (.iconst 1, 1, [], 1), (.iload_n 1, 1, [], 0), (.invokevirtual 347, 3, [1, 265, 3, 8, 1819], 0), (.istore 4, 2, [], 0), (.aload_n 0, 1, [], 0), (.aload_n 0, 1, [], 0), (.iconst 0, 1, [], 0), (.iload_n 1, 1, [], 0), (.invokevirtual 347, 3, [1, 265, 3, 8, 1819], 0), (.iload_n 2, 1, [], 0), (.invokevirtual 493, 3, [1, 326, 3, 8, 2062], 0), (.istore 5, 2, [], 0), (.iload 4, 2, [], 0), (.iconst (-1), 1, [], (-1)), (.if_icmp .eq 29, 3, [153], 0), (.aload_n 0, 1, [], 0), (.getfield 21, 3, [8, 16, 2, 1361], 0), (.sipush 171, 3, [], 171), (.iload 4, 2, [], 0), (.iadd, 1, [], 0), (.iaload, 1, [], 0), (.ifCond .ne 15, 3, [153], 0), (.iload 5, 2, [], 0), (.aload_n 0, 1, [], 0), (.iload 4, 2, [], 0), (.iload_n 2, 1, [], 0), (.invokevirtual 493, 3, [1, 326, 3, 8, 2062], 0), (.iadd, 1, [], 0), (.istore 5, 2, [], 0)]
theorem ok_X9_device_70 : vBL MT qLen qCh false q_X9_device.2.2.2.2.1 q_X9_device.2.2.2.2.2.1 q_X9_device.2.2.1 q_X9_device.1.cls q_X9_device.1.name q_X9_device.2.1 153 70 I_X9_device_70 = true := by decide +kernel
def p_X9_device_70 (a0 : Nat) (x1 : Int32) (x2 : Int32) (x3 : Int32) (h : AH) : Option (Int32 × AH) :=
  if (tg h a0).1 = 8 then ((p_X9_remembers a0 h).bind fun h104 =>
  if (tg h104 a0).1 = 8 then (if inB h104 (rR h104 a0 16) 100 ((((8 : Int32)) * x1) + x2) then (let h105 := wI h104 (rR h104 a0 16) ((((8 : Int32)) * x1) + x2).toNatClampNeg x3
  if (tg h105 a0).1 = 8 then (if inB h105 (rR h105 a0 16) 100 ((145 : Int32)) then (if inB h105 (rR h105 a0 16) 100 ((145 : Int32)) then (let h106 := wI h105 (rR h105 a0 16) ((145 : Int32)).toNatClampNeg ((rI h105 (rR h105 a0 16) ((145 : Int32)).toNatClampNeg) ||| (((1 : Int32)) <<< (x1 &&& 31)))
  if (tg h106 a0).1 = 8 then ((p_X9_tableOf a0 ((1 : Int32)) x1 h106).bind fun q107 =>
  if (tg q107.2 a0).1 = 8 then ((p_X9_tableOf a0 ((0 : Int32)) x1 q107.2).bind fun q108 =>
  if (tg q108.2 a0).1 = 8 then ((p_X9_takesEntry a0 q108.1 x2 q108.2).bind fun q109 =>
  if q107.1 = ((-1 : Int32)) then (p_X9_device_153 a0 q109.1 q109.2)
  else
  if (tg q109.2 a0).1 = 8 then (if inB q109.2 (rR q109.2 a0 16) 100 (((171 : Int32)) + q107.1) then (if (rI q109.2 (rR q109.2 a0 16) (((171 : Int32)) + q107.1).toNatClampNeg) = 0 then (if (tg q109.2 a0).1 = 8 then ((p_X9_takesEntry a0 q107.1 x2 q109.2).bind fun q110 =>
  let x111 := q109.1 + q110.1
  p_X9_device_153 a0 x111 q110.2) else none)
  else
  p_X9_device_153 a0 q109.1 q109.2) else none) else none) else none) else none) else none) else none) else none) else none) else none) else none) else none
set_option maxRecDepth 100000 in
theorem e_X9_device_70 {l : Launch} {D : va_G} {dA : Nat → ClassId} {z : Nat} {sa : Nat → Nat} {Hz : Heap} (E : StrOK qLen qCh l D dA z sa Hz) {h0 fin : AH} {x : Int32}  : ∀ (a0 : Nat) (x1 : Int32) (x2 : Int32) (x3 : Int32) (h : AH), p_X9_device_70 a0 x1 x2 x3 h = some (x, fin) → GM l D dA z sa Hz q_X9_device h0 (some (.int x)) fin 70 [(0, .ref a0), (1, .int x1), (2, .int x2), (3, .int x3)] [] h := by
  intro a0 x1 x2 x3 h hd
  exact step E (is := I_X9_device_70) (pc := 70) (K := (kx 153 (fun la st h => gR la 0 fun a0 => gI la 5 fun x5 => sE st (p_X9_device_153 a0 x5 h)) k0)) (FI := FI_X9_device) (FV := FV_X9_device) (FL := fL0) (rt := rtI) (ft := 153) (by exact hd) ok_X9_device_70 (kx_ok (fun la st h e => by obtain ⟨a0, m_a0, e1⟩ := gR_inv e; obtain ⟨x5, m_x5, e2⟩ := gI_inv e1; obtain ⟨rfl, ez⟩ := sE_inv e2; exact gm_fewer (e_X9_device_153 E  a0 x5 h ez) (mem_cons m_a0 (mem_cons m_x5 mem_nil))) k0_ok) (FI_X9_device_ok E) (FV_X9_device_ok E) (fL0_ok E) (rtI_ok rfl)
def I_X9_device_52 : List AI := [(.aload_n 0, 1, [], 0), (.invokevirtual 398, 3, [2, 239, 1, 8, 1717], 0), (.aload_n 0, 1, [], 0), (.iload_n 1, 1, [], 0), (.invokevirtual 313, 3, [1, 240, 2, 8, 1721], 0), (.ifCond .ne 9, 3, [70], 0), (.aload_n 0, 1, [], 0), (.iconst 5, 1, [], 5), (.invokevirtual 39, 3, [1, 201, 2, 8, 1481], 0), (.ireturn, 1, [], 0)]
theorem ok_X9_device_52 : vBL MT qLen qCh false q_X9_device.2.2.2.2.1 q_X9_device.2.2.2.2.2.1 q_X9_device.2.2.1 q_X9_device.1.cls q_X9_device.1.name q_X9_device.2.1 0 52 I_X9_device_52 = true := by decide +kernel
def p_X9_device_52 (a0 : Nat) (x1 : Int32) (x2 : Int32) (x3 : Int32) (h : AH) : Option (Int32 × AH) :=
  if (tg h a0).1 = 8 then ((p_X9_works a0 h).bind fun h112 =>
  if (tg h112 a0).1 = 8 then ((p_X9_isBacked a0 x1 h112).bind fun q113 =>
  if q113.1 = 0 then (if (tg q113.2 a0).1 = 8 then ((p_X9_refused a0 ((5 : Int32)) q113.2).bind fun q122 =>
  some (q122.1, q122.2)) else none)
  else
  if (tg q113.2 a0).1 = 8 then ((p_X9_remembers a0 q113.2).bind fun h114 =>
  if (tg h114 a0).1 = 8 then (if inB h114 (rR h114 a0 16) 100 ((((8 : Int32)) * x1) + x2) then (let h115 := wI h114 (rR h114 a0 16) ((((8 : Int32)) * x1) + x2).toNatClampNeg x3
  if (tg h115 a0).1 = 8 then (if inB h115 (rR h115 a0 16) 100 ((145 : Int32)) then (if inB h115 (rR h115 a0 16) 100 ((145 : Int32)) then (let h116 := wI h115 (rR h115 a0 16) ((145 : Int32)).toNatClampNeg ((rI h115 (rR h115 a0 16) ((145 : Int32)).toNatClampNeg) ||| (((1 : Int32)) <<< (x1 &&& 31)))
  if (tg h116 a0).1 = 8 then ((p_X9_tableOf a0 ((1 : Int32)) x1 h116).bind fun q117 =>
  if (tg q117.2 a0).1 = 8 then ((p_X9_tableOf a0 ((0 : Int32)) x1 q117.2).bind fun q118 =>
  if (tg q118.2 a0).1 = 8 then ((p_X9_takesEntry a0 q118.1 x2 q118.2).bind fun q119 =>
  if q117.1 = ((-1 : Int32)) then (p_X9_device_153 a0 q119.1 q119.2)
  else
  if (tg q119.2 a0).1 = 8 then (if inB q119.2 (rR q119.2 a0 16) 100 (((171 : Int32)) + q117.1) then (if (rI q119.2 (rR q119.2 a0 16) (((171 : Int32)) + q117.1).toNatClampNeg) = 0 then (if (tg q119.2 a0).1 = 8 then ((p_X9_takesEntry a0 q117.1 x2 q119.2).bind fun q120 =>
  let x121 := q119.1 + q120.1
  p_X9_device_153 a0 x121 q120.2) else none)
  else
  p_X9_device_153 a0 q119.1 q119.2) else none) else none) else none) else none) else none) else none) else none) else none) else none) else none) else none) else none) else none
set_option maxRecDepth 100000 in
theorem e_X9_device_52 {l : Launch} {D : va_G} {dA : Nat → ClassId} {z : Nat} {sa : Nat → Nat} {Hz : Heap} (E : StrOK qLen qCh l D dA z sa Hz) {h0 fin : AH} {x : Int32}  : ∀ (a0 : Nat) (x1 : Int32) (x2 : Int32) (x3 : Int32) (h : AH), p_X9_device_52 a0 x1 x2 x3 h = some (x, fin) → GM l D dA z sa Hz q_X9_device h0 (some (.int x)) fin 52 [(0, .ref a0), (1, .int x1), (2, .int x2), (3, .int x3)] [] h := by
  intro a0 x1 x2 x3 h hd
  exact step E (is := I_X9_device_52) (pc := 52) (K := (kx 70 (fun la st h => gR la 0 fun a0 => gI la 1 fun x1 => gI la 2 fun x2 => gI la 3 fun x3 => sE st (p_X9_device_70 a0 x1 x2 x3 h)) k0)) (FI := FI_X9_device) (FV := FV_X9_device) (FL := fL0) (rt := rtI) (ft := 0) (by exact hd) ok_X9_device_52 (kx_ok (fun la st h e => by obtain ⟨a0, m_a0, e1⟩ := gR_inv e; obtain ⟨x1, m_x1, e2⟩ := gI_inv e1; obtain ⟨x2, m_x2, e3⟩ := gI_inv e2; obtain ⟨x3, m_x3, e4⟩ := gI_inv e3; obtain ⟨rfl, ez⟩ := sE_inv e4; exact gm_fewer (e_X9_device_70 E  a0 x1 x2 x3 h ez) (mem_cons m_a0 (mem_cons m_x1 (mem_cons m_x2 (mem_cons m_x3 mem_nil))))) k0_ok) (FI_X9_device_ok E) (FV_X9_device_ok E) (fL0_ok E) (rtI_ok rfl)
def I_X9_device_35 : List AI := [(.iload_n 3, 1, [], 0), (.iconst 0, 1, [], 0), (.sipush 4095, 3, [], 4095), (.invokestatic 112, 3, [1, 211, 3, 1612], 0), (.ifCond .ne 9, 3, [52], 0), (.aload_n 0, 1, [], 0), (.iconst 2, 1, [], 2), (.invokevirtual 39, 3, [1, 201, 2, 8, 1481], 0), (.ireturn, 1, [], 0)]
theorem ok_X9_device_35 : vBL MT qLen qCh false q_X9_device.2.2.2.2.1 q_X9_device.2.2.2.2.2.1 q_X9_device.2.2.1 q_X9_device.1.cls q_X9_device.1.name q_X9_device.2.1 0 35 I_X9_device_35 = true := by decide +kernel
def p_X9_device_35 (a0 : Nat) (x1 : Int32) (x2 : Int32) (x3 : Int32) (h : AH) : Option (Int32 × AH) :=
  (p_X9_in x3 ((0 : Int32)) ((4095 : Int32)) h).bind fun q123 =>
  if q123.1 = 0 then (if (tg q123.2 a0).1 = 8 then ((p_X9_refused a0 ((2 : Int32)) q123.2).bind fun q135 =>
  some (q135.1, q135.2)) else none)
  else
  if (tg q123.2 a0).1 = 8 then ((p_X9_works a0 q123.2).bind fun h124 =>
  if (tg h124 a0).1 = 8 then ((p_X9_isBacked a0 x1 h124).bind fun q125 =>
  if q125.1 = 0 then (if (tg q125.2 a0).1 = 8 then ((p_X9_refused a0 ((5 : Int32)) q125.2).bind fun q134 =>
  some (q134.1, q134.2)) else none)
  else
  if (tg q125.2 a0).1 = 8 then ((p_X9_remembers a0 q125.2).bind fun h126 =>
  if (tg h126 a0).1 = 8 then (if inB h126 (rR h126 a0 16) 100 ((((8 : Int32)) * x1) + x2) then (let h127 := wI h126 (rR h126 a0 16) ((((8 : Int32)) * x1) + x2).toNatClampNeg x3
  if (tg h127 a0).1 = 8 then (if inB h127 (rR h127 a0 16) 100 ((145 : Int32)) then (if inB h127 (rR h127 a0 16) 100 ((145 : Int32)) then (let h128 := wI h127 (rR h127 a0 16) ((145 : Int32)).toNatClampNeg ((rI h127 (rR h127 a0 16) ((145 : Int32)).toNatClampNeg) ||| (((1 : Int32)) <<< (x1 &&& 31)))
  if (tg h128 a0).1 = 8 then ((p_X9_tableOf a0 ((1 : Int32)) x1 h128).bind fun q129 =>
  if (tg q129.2 a0).1 = 8 then ((p_X9_tableOf a0 ((0 : Int32)) x1 q129.2).bind fun q130 =>
  if (tg q130.2 a0).1 = 8 then ((p_X9_takesEntry a0 q130.1 x2 q130.2).bind fun q131 =>
  if q129.1 = ((-1 : Int32)) then (p_X9_device_153 a0 q131.1 q131.2)
  else
  if (tg q131.2 a0).1 = 8 then (if inB q131.2 (rR q131.2 a0 16) 100 (((171 : Int32)) + q129.1) then (if (rI q131.2 (rR q131.2 a0 16) (((171 : Int32)) + q129.1).toNatClampNeg) = 0 then (if (tg q131.2 a0).1 = 8 then ((p_X9_takesEntry a0 q129.1 x2 q131.2).bind fun q132 =>
  let x133 := q131.1 + q132.1
  p_X9_device_153 a0 x133 q132.2) else none)
  else
  p_X9_device_153 a0 q131.1 q131.2) else none) else none) else none) else none) else none) else none) else none) else none) else none) else none) else none) else none) else none
set_option maxRecDepth 100000 in
theorem e_X9_device_35 {l : Launch} {D : va_G} {dA : Nat → ClassId} {z : Nat} {sa : Nat → Nat} {Hz : Heap} (E : StrOK qLen qCh l D dA z sa Hz) {h0 fin : AH} {x : Int32}  : ∀ (a0 : Nat) (x1 : Int32) (x2 : Int32) (x3 : Int32) (h : AH), p_X9_device_35 a0 x1 x2 x3 h = some (x, fin) → GM l D dA z sa Hz q_X9_device h0 (some (.int x)) fin 35 [(0, .ref a0), (1, .int x1), (2, .int x2), (3, .int x3)] [] h := by
  intro a0 x1 x2 x3 h hd
  exact step E (is := I_X9_device_35) (pc := 35) (K := (kx 52 (fun la st h => gR la 0 fun a0 => gI la 1 fun x1 => gI la 2 fun x2 => gI la 3 fun x3 => sE st (p_X9_device_52 a0 x1 x2 x3 h)) k0)) (FI := FI_X9_device) (FV := FV_X9_device) (FL := fL0) (rt := rtI) (ft := 0) (by exact hd) ok_X9_device_35 (kx_ok (fun la st h e => by obtain ⟨a0, m_a0, e1⟩ := gR_inv e; obtain ⟨x1, m_x1, e2⟩ := gI_inv e1; obtain ⟨x2, m_x2, e3⟩ := gI_inv e2; obtain ⟨x3, m_x3, e4⟩ := gI_inv e3; obtain ⟨rfl, ez⟩ := sE_inv e4; exact gm_fewer (e_X9_device_52 E  a0 x1 x2 x3 h ez) (mem_cons m_a0 (mem_cons m_x1 (mem_cons m_x2 (mem_cons m_x3 mem_nil))))) k0_ok) (FI_X9_device_ok E) (FV_X9_device_ok E) (fL0_ok E) (rtI_ok rfl)
def I_X9_device_0 : List AI := [(.aload_n 0, 1, [], 0), (.iconst 0, 1, [], 0), (.putfield 33, 3, [8, 0, 0, 1345], 0), (.aload_n 0, 1, [], 0), (.getfield 265, 3, [8, 3, 2, 1348], 0), (.ifnull 20, 3, [29], 0), (.iload_n 1, 1, [], 0), (.invokestatic 395, 3, [1, 237, 1, 1710], 0), (.ifCond .eq 13, 3, [29], 0), (.iload_n 2, 1, [], 0), (.iconst 0, 1, [], 0), (.bipush 7, 2, [], 7), (.invokestatic 112, 3, [1, 211, 3, 1612], 0), (.ifCond .ne 9, 3, [35], 0)]
theorem ok_X9_device_0 : vBL MT qLen qCh false q_X9_device.2.2.2.2.1 q_X9_device.2.2.2.2.2.1 q_X9_device.2.2.1 q_X9_device.1.cls q_X9_device.1.name q_X9_device.2.1 29 0 I_X9_device_0 = true := by decide +kernel
def p_X9_device (a0 : Nat) (x1 : Int32) (x2 : Int32) (x3 : Int32) (h : AH) : Option (Int32 × AH) :=
  if (tg h a0).1 = 8 then (let h136 := wI h a0 0 ((0 : Int32))
  if (tg h136 a0).1 = 8 then (if (rR h136 a0 3) = 0 then (p_X9_device_29 a0 h136)
  else
  (p_X9_isFrame x1 h136).bind fun q137 =>
  if q137.1 = 0 then (p_X9_device_29 a0 q137.2)
  else
  (p_X9_in x2 ((0 : Int32)) ((7 : Int32)) q137.2).bind fun q138 =>
  if q138.1 = 0 then (p_X9_device_29 a0 q138.2)
  else
  (p_X9_in x3 ((0 : Int32)) ((4095 : Int32)) q138.2).bind fun q139 =>
  if q139.1 = 0 then (if (tg q139.2 a0).1 = 8 then ((p_X9_refused a0 ((2 : Int32)) q139.2).bind fun q151 =>
  some (q151.1, q151.2)) else none)
  else
  if (tg q139.2 a0).1 = 8 then ((p_X9_works a0 q139.2).bind fun h140 =>
  if (tg h140 a0).1 = 8 then ((p_X9_isBacked a0 x1 h140).bind fun q141 =>
  if q141.1 = 0 then (if (tg q141.2 a0).1 = 8 then ((p_X9_refused a0 ((5 : Int32)) q141.2).bind fun q150 =>
  some (q150.1, q150.2)) else none)
  else
  if (tg q141.2 a0).1 = 8 then ((p_X9_remembers a0 q141.2).bind fun h142 =>
  if (tg h142 a0).1 = 8 then (if inB h142 (rR h142 a0 16) 100 ((((8 : Int32)) * x1) + x2) then (let h143 := wI h142 (rR h142 a0 16) ((((8 : Int32)) * x1) + x2).toNatClampNeg x3
  if (tg h143 a0).1 = 8 then (if inB h143 (rR h143 a0 16) 100 ((145 : Int32)) then (if inB h143 (rR h143 a0 16) 100 ((145 : Int32)) then (let h144 := wI h143 (rR h143 a0 16) ((145 : Int32)).toNatClampNeg ((rI h143 (rR h143 a0 16) ((145 : Int32)).toNatClampNeg) ||| (((1 : Int32)) <<< (x1 &&& 31)))
  if (tg h144 a0).1 = 8 then ((p_X9_tableOf a0 ((1 : Int32)) x1 h144).bind fun q145 =>
  if (tg q145.2 a0).1 = 8 then ((p_X9_tableOf a0 ((0 : Int32)) x1 q145.2).bind fun q146 =>
  if (tg q146.2 a0).1 = 8 then ((p_X9_takesEntry a0 q146.1 x2 q146.2).bind fun q147 =>
  if q145.1 = ((-1 : Int32)) then (p_X9_device_153 a0 q147.1 q147.2)
  else
  if (tg q147.2 a0).1 = 8 then (if inB q147.2 (rR q147.2 a0 16) 100 (((171 : Int32)) + q145.1) then (if (rI q147.2 (rR q147.2 a0 16) (((171 : Int32)) + q145.1).toNatClampNeg) = 0 then (if (tg q147.2 a0).1 = 8 then ((p_X9_takesEntry a0 q145.1 x2 q147.2).bind fun q148 =>
  let x149 := q147.1 + q148.1
  p_X9_device_153 a0 x149 q148.2) else none)
  else
  p_X9_device_153 a0 q147.1 q147.2) else none) else none) else none) else none) else none) else none) else none) else none) else none) else none) else none) else none) else none) else none) else none
set_option maxRecDepth 100000 in
theorem e_X9_device_0 {l : Launch} {D : va_G} {dA : Nat → ClassId} {z : Nat} {sa : Nat → Nat} {Hz : Heap} (E : StrOK qLen qCh l D dA z sa Hz) {h0 fin : AH} {x : Int32}  : ∀ (a0 : Nat) (x1 : Int32) (x2 : Int32) (x3 : Int32) (h : AH), p_X9_device a0 x1 x2 x3 h = some (x, fin) → GM l D dA z sa Hz q_X9_device h0 (some (.int x)) fin 0 [(0, .ref a0), (1, .int x1), (2, .int x2), (3, .int x3)] [] h := by
  intro a0 x1 x2 x3 h hd
  exact step E (is := I_X9_device_0) (pc := 0) (K := (kx 29 (fun la st h => gR la 0 fun a0 => sE st (p_X9_device_29 a0 h)) (kx 35 (fun la st h => gR la 0 fun a0 => gI la 1 fun x1 => gI la 2 fun x2 => gI la 3 fun x3 => sE st (p_X9_device_35 a0 x1 x2 x3 h)) k0))) (FI := FI_X9_device) (FV := FV_X9_device) (FL := fL0) (rt := rtI) (ft := 29) (by exact hd) ok_X9_device_0 (kx_ok (fun la st h e => by obtain ⟨a0, m_a0, e1⟩ := gR_inv e; obtain ⟨rfl, ez⟩ := sE_inv e1; exact gm_fewer (e_X9_device_29 E  a0 h ez) (mem_cons m_a0 mem_nil)) (kx_ok (fun la st h e => by obtain ⟨a0, m_a0, e1⟩ := gR_inv e; obtain ⟨x1, m_x1, e2⟩ := gI_inv e1; obtain ⟨x2, m_x2, e3⟩ := gI_inv e2; obtain ⟨x3, m_x3, e4⟩ := gI_inv e3; obtain ⟨rfl, ez⟩ := sE_inv e4; exact gm_fewer (e_X9_device_35 E  a0 x1 x2 x3 h ez) (mem_cons m_a0 (mem_cons m_x1 (mem_cons m_x2 (mem_cons m_x3 mem_nil))))) k0_ok)) (FI_X9_device_ok E) (FV_X9_device_ok E) (fL0_ok E) (rtI_ok rfl)
theorem c_X9_device {l : Launch} {D : va_G} {dA : Nat → ClassId} {z : Nat} {sa : Nat → Nat} {Hz : Heap} (E : StrOK qLen qCh l D dA z sa Hz) {a0 : Nat} {x1 : Int32} {x2 : Int32} {x3 : Int32} {h fin : AH} {x : Int32} (hd : p_X9_device a0 x1 x2 x3 h = some (x, fin)) : CalOK l D dA z sa Hz q_X9_device [.ref a0, .int x1, .int x2, .int x3] h (some (.int x)) fin := calOf (by decide +kernel) (Nat.le_of_ble_eq_true rfl) (e_X9_device_0 E a0 x1 x2 x3 h hd)
def FI_X9_unmap : Nat → List Value → AH → Option (Int32 × AH) := (cx 237 (fun As h => sI As fun x0 As => sE As (p_X9_isFrame x0 h)) (cx 201 (fun As h => sR As fun a0 As => sI As fun x1 As => sE As (p_X9_refused a0 x1 h)) (cx 240 (fun As h => sR As fun a0 As => sI As fun x1 As => sE As (p_X9_isBacked a0 x1 h)) (cx 279 (fun As h => sR As fun a0 As => sI As fun x1 As => sI As fun x2 As => sE As (p_X9_isMap a0 x1 x2 h)) (cx 233 (fun As h => sR As fun a0 As => sI As fun x1 As => sE As (p_X9_good a0 x1 h)) fI0)))))
theorem FI_X9_unmap_ok {l : Launch} {D : va_G} {dA : Nat → ClassId} {z : Nat} {sa : Nat → Nat} {Hz : Heap} (E : StrOK qLen qCh l D dA z sa Hz) : ∀ mi As h x h', FI_X9_unmap mi As h = some (x, h') → CalOK l D dA z sa Hz (MT mi) As h (some (.int x)) h' := (cxI_ok (fun As h x h2 e => by obtain ⟨_, _, rfl, e0⟩ := sI_inv e; obtain ⟨rfl, ez⟩ := sE_inv e0; exact c_X9_isFrame E ez) ((cxI_ok (fun As h x h2 e => by obtain ⟨_, _, rfl, e0⟩ := sR_inv e; obtain ⟨_, _, rfl, e1⟩ := sI_inv e0; obtain ⟨rfl, ez⟩ := sE_inv e1; exact c_X9_refused E ez) ((cxI_ok (fun As h x h2 e => by obtain ⟨_, _, rfl, e0⟩ := sR_inv e; obtain ⟨_, _, rfl, e1⟩ := sI_inv e0; obtain ⟨rfl, ez⟩ := sE_inv e1; exact c_X9_isBacked E ez) ((cxI_ok (fun As h x h2 e => by obtain ⟨_, _, rfl, e0⟩ := sR_inv e; obtain ⟨_, _, rfl, e1⟩ := sI_inv e0; obtain ⟨_, _, rfl, e2⟩ := sI_inv e1; obtain ⟨rfl, ez⟩ := sE_inv e2; exact c_X9_isMap E ez) ((cxI_ok (fun As h x h2 e => by obtain ⟨_, _, rfl, e0⟩ := sR_inv e; obtain ⟨_, _, rfl, e1⟩ := sI_inv e0; obtain ⟨rfl, ez⟩ := sE_inv e1; exact c_X9_good E ez) (fI0_ok E))))))))))
def FV_X9_unmap : Nat → List Value → AH → Option (AH) := (cx 239 (fun As h => sR As fun a0 As => sE As (p_X9_works a0 h)) (cx 318 (fun As h => sR As fun a0 As => sE As (p_X9_remembers a0 h)) (cx 232 (fun As h => sR As fun a0 As => sE As (p_X9_remains a0 h)) fV0)))
theorem FV_X9_unmap_ok {l : Launch} {D : va_G} {dA : Nat → ClassId} {z : Nat} {sa : Nat → Nat} {Hz : Heap} (E : StrOK qLen qCh l D dA z sa Hz) : ∀ mi As h h', FV_X9_unmap mi As h = some h' → CalOK l D dA z sa Hz (MT mi) As h none h' := (cxV_ok (fun As h h2 e => by obtain ⟨_, _, rfl, e0⟩ := sR_inv e; obtain ⟨rfl, ez⟩ := sE_inv e0; exact c_X9_works E ez) ((cxV_ok (fun As h h2 e => by obtain ⟨_, _, rfl, e0⟩ := sR_inv e; obtain ⟨rfl, ez⟩ := sE_inv e0; exact c_X9_remembers E ez) ((cxV_ok (fun As h h2 e => by obtain ⟨_, _, rfl, e0⟩ := sR_inv e; obtain ⟨rfl, ez⟩ := sE_inv e0; exact c_X9_remains E ez) (fV0_ok E))))))
def I_X9_unmap_19 : List AI := [(.aload_n 0, 1, [], 0), (.iconst 1, 1, [], 1), (.invokevirtual 39, 3, [1, 201, 2, 8, 1481], 0), (.ireturn, 1, [], 0)]
theorem ok_X9_unmap_19 : vBL MT qLen qCh false q_X9_unmap.2.2.2.2.1 q_X9_unmap.2.2.2.2.2.1 q_X9_unmap.2.2.1 q_X9_unmap.1.cls q_X9_unmap.1.name q_X9_unmap.2.1 0 19 I_X9_unmap_19 = true := by decide +kernel
def p_X9_unmap_19 (a0 : Nat) (h : AH) : Option (Int32 × AH) :=
  if (tg h a0).1 = 8 then ((p_X9_refused a0 ((1 : Int32)) h).bind fun q101 =>
  some (q101.1, q101.2)) else none
set_option maxRecDepth 100000 in
theorem e_X9_unmap_19 {l : Launch} {D : va_G} {dA : Nat → ClassId} {z : Nat} {sa : Nat → Nat} {Hz : Heap} (E : StrOK qLen qCh l D dA z sa Hz) {h0 fin : AH} {x : Int32}  : ∀ (a0 : Nat) (h : AH), p_X9_unmap_19 a0 h = some (x, fin) → GM l D dA z sa Hz q_X9_unmap h0 (some (.int x)) fin 19 [(0, .ref a0)] [] h := by
  intro a0 h hd
  exact step E (is := I_X9_unmap_19) (pc := 19) (K := k0) (FI := FI_X9_unmap) (FV := FV_X9_unmap) (FL := fL0) (rt := rtI) (ft := 0) (by exact hd) ok_X9_unmap_19 k0_ok (FI_X9_unmap_ok E) (FV_X9_unmap_ok E) (fL0_ok E) (rtI_ok rfl)
def I_X9_unmap_115 : List AI := [(.aload_n 0, 1, [], 0), (.invokevirtual 270, 3, [2, 232, 1, 8, 1690], 0), (.aload_n 0, 1, [], 0), (.iload_n 2, 1, [], 0), (.invokevirtual 43, 3, [1, 233, 2, 8, 1694], 0), (.ireturn, 1, [], 0)]
theorem ok_X9_unmap_115 : vBL MT qLen qCh false q_X9_unmap.2.2.2.2.1 q_X9_unmap.2.2.2.2.2.1 q_X9_unmap.2.2.1 q_X9_unmap.1.cls q_X9_unmap.1.name q_X9_unmap.2.1 0 115 I_X9_unmap_115 = true := by decide +kernel
def p_X9_unmap_115 (a0 : Nat) (x2 : Int32) (h : AH) : Option (Int32 × AH) :=
  if (tg h a0).1 = 8 then ((p_X9_remains a0 h).bind fun h102 =>
  if (tg h102 a0).1 = 8 then ((p_X9_good a0 x2 h102).bind fun q103 =>
  some (q103.1, q103.2)) else none) else none
set_option maxRecDepth 100000 in
theorem e_X9_unmap_115 {l : Launch} {D : va_G} {dA : Nat → ClassId} {z : Nat} {sa : Nat → Nat} {Hz : Heap} (E : StrOK qLen qCh l D dA z sa Hz) {h0 fin : AH} {x : Int32}  : ∀ (a0 : Nat) (x2 : Int32) (h : AH), p_X9_unmap_115 a0 x2 h = some (x, fin) → GM l D dA z sa Hz q_X9_unmap h0 (some (.int x)) fin 115 [(0, .ref a0), (2, .int x2)] [] h := by
  intro a0 x2 h hd
  exact step E (is := I_X9_unmap_115) (pc := 115) (K := k0) (FI := FI_X9_unmap) (FV := FV_X9_unmap) (FL := fL0) (rt := rtI) (ft := 0) (by exact hd) ok_X9_unmap_115 k0_ok (FI_X9_unmap_ok E) (FV_X9_unmap_ok E) (fL0_ok E) (rtI_ok rfl)
def I_X9_unmap_109 : List AI := [(.iinc 3 1, 3, [], 1), (.goto (-32), 3, [80], 0)]
theorem ok_X9_unmap_109 : vBL MT qLen qCh false q_X9_unmap.2.2.2.2.1 q_X9_unmap.2.2.2.2.2.1 q_X9_unmap.2.2.1 q_X9_unmap.1.cls q_X9_unmap.1.name q_X9_unmap.2.1 0 109 I_X9_unmap_109 = true := by decide +kernel
def p_X9_unmap_109 (k80 : Nat → Int32 → Int32 → Int32 → AH → Option (Int32 × AH)) (a0 : Nat) (x1 : Int32) (x2 : Int32) (x3 : Int32) (h : AH) : Option (Int32 × AH) :=
  k80 a0 x1 x2 (x3 + (1 : Int32)) h
set_option maxRecDepth 100000 in
theorem e_X9_unmap_109 {l : Launch} {D : va_G} {dA : Nat → ClassId} {z : Nat} {sa : Nat → Nat} {Hz : Heap} (E : StrOK qLen qCh l D dA z sa Hz) {h0 fin : AH} {x : Int32}  {k80 : Nat → Int32 → Int32 → Int32 → AH → Option (Int32 × AH)} (hk80 : ∀ (a0 : Nat) (x1 : Int32) (x2 : Int32) (x3 : Int32) (h : AH), k80 a0 x1 x2 x3 h = some (x, fin) → GM l D dA z sa Hz q_X9_unmap h0 (some (.int x)) fin 80 [(0, .ref a0), (1, .int x1), (2, .int x2), (3, .int x3)] [] h) : ∀ (a0 : Nat) (x1 : Int32) (x2 : Int32) (x3 : Int32) (h : AH), p_X9_unmap_109 k80 a0 x1 x2 x3 h = some (x, fin) → GM l D dA z sa Hz q_X9_unmap h0 (some (.int x)) fin 109 [(0, .ref a0), (1, .int x1), (2, .int x2), (3, .int x3)] [] h := by
  intro a0 x1 x2 x3 h hd
  exact step E (is := I_X9_unmap_109) (pc := 109) (K := (kx 80 (fun la st h => gR la 0 fun a0 => gI la 1 fun x1 => gI la 2 fun x2 => gI la 3 fun x3 => sE st (k80 a0 x1 x2 x3 h)) k0)) (FI := FI_X9_unmap) (FV := FV_X9_unmap) (FL := fL0) (rt := rtI) (ft := 0) (by exact hd) ok_X9_unmap_109 (kx_ok (fun la st h e => by obtain ⟨a0, m_a0, e1⟩ := gR_inv e; obtain ⟨x1, m_x1, e2⟩ := gI_inv e1; obtain ⟨x2, m_x2, e3⟩ := gI_inv e2; obtain ⟨x3, m_x3, e4⟩ := gI_inv e3; obtain ⟨rfl, ez⟩ := sE_inv e4; exact gm_fewer (hk80 a0 x1 x2 x3 h ez) (mem_cons m_a0 (mem_cons m_x1 (mem_cons m_x2 (mem_cons m_x3 mem_nil))))) k0_ok) (FI_X9_unmap_ok E) (FV_X9_unmap_ok E) (fL0_ok E) (rtI_ok rfl)
def I_X9_unmap_99 : List AI := [(.aload_n 0, 1, [], 0), (.getfield 21, 3, [8, 16, 2, 1361], 0), (.iload_n 3, 1, [], 0), (.iconst (-1), 1, [], (-1)), (.iastore, 1, [], 0), (.iinc 2 1, 3, [], 1)]
theorem ok_X9_unmap_99 : vBL MT qLen qCh false q_X9_unmap.2.2.2.2.1 q_X9_unmap.2.2.2.2.2.1 q_X9_unmap.2.2.1 q_X9_unmap.1.cls q_X9_unmap.1.name q_X9_unmap.2.1 109 99 I_X9_unmap_99 = true := by decide +kernel
def p_X9_unmap_99 (k80 : Nat → Int32 → Int32 → Int32 → AH → Option (Int32 × AH)) (a0 : Nat) (x1 : Int32) (x2 : Int32) (x3 : Int32) (h : AH) : Option (Int32 × AH) :=
  if (tg h a0).1 = 8 then (if inB h (rR h a0 16) 100 x3 then (let h104 := wI h (rR h a0 16) x3.toNatClampNeg ((-1 : Int32))
  p_X9_unmap_109 k80 a0 x1 (x2 + (1 : Int32)) x3 h104) else none) else none
set_option maxRecDepth 100000 in
theorem e_X9_unmap_99 {l : Launch} {D : va_G} {dA : Nat → ClassId} {z : Nat} {sa : Nat → Nat} {Hz : Heap} (E : StrOK qLen qCh l D dA z sa Hz) {h0 fin : AH} {x : Int32}  {k80 : Nat → Int32 → Int32 → Int32 → AH → Option (Int32 × AH)} (hk80 : ∀ (a0 : Nat) (x1 : Int32) (x2 : Int32) (x3 : Int32) (h : AH), k80 a0 x1 x2 x3 h = some (x, fin) → GM l D dA z sa Hz q_X9_unmap h0 (some (.int x)) fin 80 [(0, .ref a0), (1, .int x1), (2, .int x2), (3, .int x3)] [] h) : ∀ (a0 : Nat) (x1 : Int32) (x2 : Int32) (x3 : Int32) (h : AH), p_X9_unmap_99 k80 a0 x1 x2 x3 h = some (x, fin) → GM l D dA z sa Hz q_X9_unmap h0 (some (.int x)) fin 99 [(0, .ref a0), (1, .int x1), (2, .int x2), (3, .int x3)] [] h := by
  intro a0 x1 x2 x3 h hd
  exact step E (is := I_X9_unmap_99) (pc := 99) (K := (kx 109 (fun la st h => gR la 0 fun a0 => gI la 1 fun x1 => gI la 2 fun x2 => gI la 3 fun x3 => sE st (p_X9_unmap_109 k80 a0 x1 x2 x3 h)) k0)) (FI := FI_X9_unmap) (FV := FV_X9_unmap) (FL := fL0) (rt := rtI) (ft := 109) (by exact hd) ok_X9_unmap_99 (kx_ok (fun la st h e => by obtain ⟨a0, m_a0, e1⟩ := gR_inv e; obtain ⟨x1, m_x1, e2⟩ := gI_inv e1; obtain ⟨x2, m_x2, e3⟩ := gI_inv e2; obtain ⟨x3, m_x3, e4⟩ := gI_inv e3; obtain ⟨rfl, ez⟩ := sE_inv e4; exact gm_fewer (e_X9_unmap_109 E hk80 a0 x1 x2 x3 h ez) (mem_cons m_a0 (mem_cons m_x1 (mem_cons m_x2 (mem_cons m_x3 mem_nil))))) k0_ok) (FI_X9_unmap_ok E) (FV_X9_unmap_ok E) (fL0_ok E) (rtI_ok rfl)
def I_X9_unmap_80 : List AI := [(.iload_n 3, 1, [], 0), (.sipush 243, 3, [], 243), (.if_icmp .ge 31, 3, [115], 0), (.aload_n 0, 1, [], 0), (.iload_n 3, 1, [], 0), (.iload_n 1, 1, [], 0), (.invokevirtual 350, 3, [1, 279, 3, 8, 1875], 0), (.ifCond .ne 6, 3, [99], 0), (.goto 13, 3, [109], 0)]
theorem ok_X9_unmap_80 : vBL MT qLen qCh false q_X9_unmap.2.2.2.2.1 q_X9_unmap.2.2.2.2.2.1 q_X9_unmap.2.2.1 q_X9_unmap.1.cls q_X9_unmap.1.name q_X9_unmap.2.1 0 80 I_X9_unmap_80 = true := by decide +kernel
def p_X9_unmap_80 : Nat → Nat → Int32 → Int32 → Int32 → AH → Option (Int32 × AH)
  | 0, _, _, _, _, _ => none
  | n + 1, a0, x1, x2, x3, h => if x3 < ((243 : Int32)) then (if (tg h a0).1 = 8 then ((p_X9_isMap a0 x3 x1 h).bind fun q107 =>
    if q107.1 = 0 then (p_X9_unmap_109 (p_X9_unmap_80 n) a0 x1 x2 x3 q107.2)
    else
    if (tg q107.2 a0).1 = 8 then (if inB q107.2 (rR q107.2 a0 16) 100 x3 then (let h108 := wI q107.2 (rR q107.2 a0 16) x3.toNatClampNeg ((-1 : Int32))
    p_X9_unmap_109 (p_X9_unmap_80 n) a0 x1 (x2 + (1 : Int32)) x3 h108) else none) else none) else none)
    else
    if (tg h a0).1 = 8 then ((p_X9_remains a0 h).bind fun h105 =>
    if (tg h105 a0).1 = 8 then ((p_X9_good a0 x2 h105).bind fun q106 =>
    some (q106.1, q106.2)) else none) else none
set_option maxRecDepth 100000 in
theorem e_X9_unmap_80 {l : Launch} {D : va_G} {dA : Nat → ClassId} {z : Nat} {sa : Nat → Nat} {Hz : Heap} (E : StrOK qLen qCh l D dA z sa Hz) {h0 fin : AH} {x : Int32}  : ∀ (n : Nat) (a0 : Nat) (x1 : Int32) (x2 : Int32) (x3 : Int32) (h : AH), p_X9_unmap_80 n a0 x1 x2 x3 h = some (x, fin) → GM l D dA z sa Hz q_X9_unmap h0 (some (.int x)) fin 80 [(0, .ref a0), (1, .int x1), (2, .int x2), (3, .int x3)] [] h := by
  intro n
  induction n with
  | zero => intro a0 x1 x2 x3 h hd; exact nomatch hd
  | succ n ih =>
    intro a0 x1 x2 x3 h hd
    exact step E (is := I_X9_unmap_80) (pc := 80) (K := (kx 115 (fun la st h => gR la 0 fun a0 => gI la 2 fun x2 => sE st (p_X9_unmap_115 a0 x2 h)) (kx 99 (fun la st h => gR la 0 fun a0 => gI la 1 fun x1 => gI la 2 fun x2 => gI la 3 fun x3 => sE st (p_X9_unmap_99 (p_X9_unmap_80 n) a0 x1 x2 x3 h)) (kx 109 (fun la st h => gR la 0 fun a0 => gI la 1 fun x1 => gI la 2 fun x2 => gI la 3 fun x3 => sE st (p_X9_unmap_109 (p_X9_unmap_80 n) a0 x1 x2 x3 h)) k0)))) (FI := FI_X9_unmap) (FV := FV_X9_unmap) (FL := fL0) (rt := rtI) (ft := 0) (by exact hd) ok_X9_unmap_80 (kx_ok (fun la st h e => by obtain ⟨a0, m_a0, e1⟩ := gR_inv e; obtain ⟨x2, m_x2, e2⟩ := gI_inv e1; obtain ⟨rfl, ez⟩ := sE_inv e2; exact gm_fewer (e_X9_unmap_115 E  a0 x2 h ez) (mem_cons m_a0 (mem_cons m_x2 mem_nil))) (kx_ok (fun la st h e => by obtain ⟨a0, m_a0, e1⟩ := gR_inv e; obtain ⟨x1, m_x1, e2⟩ := gI_inv e1; obtain ⟨x2, m_x2, e3⟩ := gI_inv e2; obtain ⟨x3, m_x3, e4⟩ := gI_inv e3; obtain ⟨rfl, ez⟩ := sE_inv e4; exact gm_fewer (e_X9_unmap_99 E ih a0 x1 x2 x3 h ez) (mem_cons m_a0 (mem_cons m_x1 (mem_cons m_x2 (mem_cons m_x3 mem_nil))))) (kx_ok (fun la st h e => by obtain ⟨a0, m_a0, e1⟩ := gR_inv e; obtain ⟨x1, m_x1, e2⟩ := gI_inv e1; obtain ⟨x2, m_x2, e3⟩ := gI_inv e2; obtain ⟨x3, m_x3, e4⟩ := gI_inv e3; obtain ⟨rfl, ez⟩ := sE_inv e4; exact gm_fewer (e_X9_unmap_109 E ih a0 x1 x2 x3 h ez) (mem_cons m_a0 (mem_cons m_x1 (mem_cons m_x2 (mem_cons m_x3 mem_nil))))) k0_ok))) (FI_X9_unmap_ok E) (FV_X9_unmap_ok E) (fL0_ok E) (rtI_ok rfl)
def I_X9_unmap_43 : List AI := [(.aload_n 0, 1, [], 0), (.invokevirtual 480, 3, [2, 318, 1, 8, 2030], 0), (.aload_n 0, 1, [], 0), (.getfield 21, 3, [8, 16, 2, 1361], 0), (.sipush 128, 3, [], 128), (.iload_n 1, 1, [], 0), (.iadd, 1, [], 0), (.iconst 0, 1, [], 0), (.iastore, 1, [], 0), (.aload_n 0, 1, [], 0), (.getfield 21, 3, [8, 16, 2, 1361], 0), (.sipush 144, 3, [], 144), (.dup2, 1, [], 0), (.iaload, 1, [], 0), (.iconst 1, 1, [], 1), (.iload_n 1, 1, [], 0), (.ishl, 1, [], 0), (.iconst (-1), 1, [], (-1)), (.ixor, 1, [], 0), (.iand, 1, [], 0), (.iastore, 1, [], 0), (.iconst 0, 1, [], 0), (.istore_n 2, 1, [], 0), (.sipush 179, 3, [], 179), (.istore_n 3, 1, [], 0)]
theorem ok_X9_unmap_43 : vBL MT qLen qCh false q_X9_unmap.2.2.2.2.1 q_X9_unmap.2.2.2.2.2.1 q_X9_unmap.2.2.1 q_X9_unmap.1.cls q_X9_unmap.1.name q_X9_unmap.2.1 80 43 I_X9_unmap_43 = true := by decide +kernel
def p_X9_unmap_43 (a0 : Nat) (x1 : Int32) (h : AH) : Option (Int32 × AH) :=
  if (tg h a0).1 = 8 then ((p_X9_remembers a0 h).bind fun h109 =>
  if (tg h109 a0).1 = 8 then (if inB h109 (rR h109 a0 16) 100 (((128 : Int32)) + x1) then (let h110 := wI h109 (rR h109 a0 16) (((128 : Int32)) + x1).toNatClampNeg ((0 : Int32))
  if (tg h110 a0).1 = 8 then (if inB h110 (rR h110 a0 16) 100 ((144 : Int32)) then (if inB h110 (rR h110 a0 16) 100 ((144 : Int32)) then (let h111 := wI h110 (rR h110 a0 16) ((144 : Int32)).toNatClampNeg ((rI h110 (rR h110 a0 16) ((144 : Int32)).toNatClampNeg) &&& ((((1 : Int32)) <<< (x1 &&& 31)) ^^^ ((-1 : Int32))))
  p_X9_unmap_80 FU a0 x1 ((0 : Int32)) ((179 : Int32)) h111) else none) else none) else none) else none) else none) else none
set_option maxRecDepth 100000 in
theorem e_X9_unmap_43 {l : Launch} {D : va_G} {dA : Nat → ClassId} {z : Nat} {sa : Nat → Nat} {Hz : Heap} (E : StrOK qLen qCh l D dA z sa Hz) {h0 fin : AH} {x : Int32}  : ∀ (a0 : Nat) (x1 : Int32) (h : AH), p_X9_unmap_43 a0 x1 h = some (x, fin) → GM l D dA z sa Hz q_X9_unmap h0 (some (.int x)) fin 43 [(0, .ref a0), (1, .int x1)] [] h := by
  intro a0 x1 h hd
  exact step E (is := I_X9_unmap_43) (pc := 43) (K := (kx 80 (fun la st h => gR la 0 fun a0 => gI la 1 fun x1 => gI la 2 fun x2 => gI la 3 fun x3 => sE st (p_X9_unmap_80 FU a0 x1 x2 x3 h)) k0)) (FI := FI_X9_unmap) (FV := FV_X9_unmap) (FL := fL0) (rt := rtI) (ft := 80) (by exact hd) ok_X9_unmap_43 (kx_ok (fun la st h e => by obtain ⟨a0, m_a0, e1⟩ := gR_inv e; obtain ⟨x1, m_x1, e2⟩ := gI_inv e1; obtain ⟨x2, m_x2, e3⟩ := gI_inv e2; obtain ⟨x3, m_x3, e4⟩ := gI_inv e3; obtain ⟨rfl, ez⟩ := sE_inv e4; exact gm_fewer (e_X9_unmap_80 E  FU a0 x1 x2 x3 h ez) (mem_cons m_a0 (mem_cons m_x1 (mem_cons m_x2 (mem_cons m_x3 mem_nil))))) k0_ok) (FI_X9_unmap_ok E) (FV_X9_unmap_ok E) (fL0_ok E) (rtI_ok rfl)
def I_X9_unmap_25 : List AI := [(.aload_n 0, 1, [], 0), (.invokevirtual 398, 3, [2, 239, 1, 8, 1717], 0), (.aload_n 0, 1, [], 0), (.iload_n 1, 1, [], 0), (.invokevirtual 313, 3, [1, 240, 2, 8, 1721], 0), (.ifCond .ne 9, 3, [43], 0), (.aload_n 0, 1, [], 0), (.iconst 5, 1, [], 5), (.invokevirtual 39, 3, [1, 201, 2, 8, 1481], 0), (.ireturn, 1, [], 0)]
theorem ok_X9_unmap_25 : vBL MT qLen qCh false q_X9_unmap.2.2.2.2.1 q_X9_unmap.2.2.2.2.2.1 q_X9_unmap.2.2.1 q_X9_unmap.1.cls q_X9_unmap.1.name q_X9_unmap.2.1 0 25 I_X9_unmap_25 = true := by decide +kernel
def p_X9_unmap_25 (a0 : Nat) (x1 : Int32) (h : AH) : Option (Int32 × AH) :=
  if (tg h a0).1 = 8 then ((p_X9_works a0 h).bind fun h112 =>
  if (tg h112 a0).1 = 8 then ((p_X9_isBacked a0 x1 h112).bind fun q113 =>
  if q113.1 = 0 then (if (tg q113.2 a0).1 = 8 then ((p_X9_refused a0 ((5 : Int32)) q113.2).bind fun q117 =>
  some (q117.1, q117.2)) else none)
  else
  if (tg q113.2 a0).1 = 8 then ((p_X9_remembers a0 q113.2).bind fun h114 =>
  if (tg h114 a0).1 = 8 then (if inB h114 (rR h114 a0 16) 100 (((128 : Int32)) + x1) then (let h115 := wI h114 (rR h114 a0 16) (((128 : Int32)) + x1).toNatClampNeg ((0 : Int32))
  if (tg h115 a0).1 = 8 then (if inB h115 (rR h115 a0 16) 100 ((144 : Int32)) then (if inB h115 (rR h115 a0 16) 100 ((144 : Int32)) then (let h116 := wI h115 (rR h115 a0 16) ((144 : Int32)).toNatClampNeg ((rI h115 (rR h115 a0 16) ((144 : Int32)).toNatClampNeg) &&& ((((1 : Int32)) <<< (x1 &&& 31)) ^^^ ((-1 : Int32))))
  p_X9_unmap_80 FU a0 x1 ((0 : Int32)) ((179 : Int32)) h116) else none) else none) else none) else none) else none) else none) else none) else none
set_option maxRecDepth 100000 in
theorem e_X9_unmap_25 {l : Launch} {D : va_G} {dA : Nat → ClassId} {z : Nat} {sa : Nat → Nat} {Hz : Heap} (E : StrOK qLen qCh l D dA z sa Hz) {h0 fin : AH} {x : Int32}  : ∀ (a0 : Nat) (x1 : Int32) (h : AH), p_X9_unmap_25 a0 x1 h = some (x, fin) → GM l D dA z sa Hz q_X9_unmap h0 (some (.int x)) fin 25 [(0, .ref a0), (1, .int x1)] [] h := by
  intro a0 x1 h hd
  exact step E (is := I_X9_unmap_25) (pc := 25) (K := (kx 43 (fun la st h => gR la 0 fun a0 => gI la 1 fun x1 => sE st (p_X9_unmap_43 a0 x1 h)) k0)) (FI := FI_X9_unmap) (FV := FV_X9_unmap) (FL := fL0) (rt := rtI) (ft := 0) (by exact hd) ok_X9_unmap_25 (kx_ok (fun la st h e => by obtain ⟨a0, m_a0, e1⟩ := gR_inv e; obtain ⟨x1, m_x1, e2⟩ := gI_inv e1; obtain ⟨rfl, ez⟩ := sE_inv e2; exact gm_fewer (e_X9_unmap_43 E  a0 x1 h ez) (mem_cons m_a0 (mem_cons m_x1 mem_nil))) k0_ok) (FI_X9_unmap_ok E) (FV_X9_unmap_ok E) (fL0_ok E) (rtI_ok rfl)
def I_X9_unmap_0 : List AI := [(.aload_n 0, 1, [], 0), (.iconst 0, 1, [], 0), (.putfield 33, 3, [8, 0, 0, 1345], 0), (.aload_n 0, 1, [], 0), (.getfield 265, 3, [8, 3, 2, 1348], 0), (.ifnull 10, 3, [19], 0), (.iload_n 1, 1, [], 0), (.invokestatic 395, 3, [1, 237, 1, 1710], 0), (.ifCond .ne 9, 3, [25], 0)]
theorem ok_X9_unmap_0 : vBL MT qLen qCh false q_X9_unmap.2.2.2.2.1 q_X9_unmap.2.2.2.2.2.1 q_X9_unmap.2.2.1 q_X9_unmap.1.cls q_X9_unmap.1.name q_X9_unmap.2.1 19 0 I_X9_unmap_0 = true := by decide +kernel
def p_X9_unmap (a0 : Nat) (x1 : Int32) (h : AH) : Option (Int32 × AH) :=
  if (tg h a0).1 = 8 then (let h118 := wI h a0 0 ((0 : Int32))
  if (tg h118 a0).1 = 8 then (if (rR h118 a0 3) = 0 then (p_X9_unmap_19 a0 h118)
  else
  (p_X9_isFrame x1 h118).bind fun q119 =>
  if q119.1 = 0 then (p_X9_unmap_19 a0 q119.2)
  else
  if (tg q119.2 a0).1 = 8 then ((p_X9_works a0 q119.2).bind fun h120 =>
  if (tg h120 a0).1 = 8 then ((p_X9_isBacked a0 x1 h120).bind fun q121 =>
  if q121.1 = 0 then (if (tg q121.2 a0).1 = 8 then ((p_X9_refused a0 ((5 : Int32)) q121.2).bind fun q125 =>
  some (q125.1, q125.2)) else none)
  else
  if (tg q121.2 a0).1 = 8 then ((p_X9_remembers a0 q121.2).bind fun h122 =>
  if (tg h122 a0).1 = 8 then (if inB h122 (rR h122 a0 16) 100 (((128 : Int32)) + x1) then (let h123 := wI h122 (rR h122 a0 16) (((128 : Int32)) + x1).toNatClampNeg ((0 : Int32))
  if (tg h123 a0).1 = 8 then (if inB h123 (rR h123 a0 16) 100 ((144 : Int32)) then (if inB h123 (rR h123 a0 16) 100 ((144 : Int32)) then (let h124 := wI h123 (rR h123 a0 16) ((144 : Int32)).toNatClampNeg ((rI h123 (rR h123 a0 16) ((144 : Int32)).toNatClampNeg) &&& ((((1 : Int32)) <<< (x1 &&& 31)) ^^^ ((-1 : Int32))))
  p_X9_unmap_80 FU a0 x1 ((0 : Int32)) ((179 : Int32)) h124) else none) else none) else none) else none) else none) else none) else none) else none) else none) else none
set_option maxRecDepth 100000 in
theorem e_X9_unmap_0 {l : Launch} {D : va_G} {dA : Nat → ClassId} {z : Nat} {sa : Nat → Nat} {Hz : Heap} (E : StrOK qLen qCh l D dA z sa Hz) {h0 fin : AH} {x : Int32}  : ∀ (a0 : Nat) (x1 : Int32) (h : AH), p_X9_unmap a0 x1 h = some (x, fin) → GM l D dA z sa Hz q_X9_unmap h0 (some (.int x)) fin 0 [(0, .ref a0), (1, .int x1)] [] h := by
  intro a0 x1 h hd
  exact step E (is := I_X9_unmap_0) (pc := 0) (K := (kx 19 (fun la st h => gR la 0 fun a0 => sE st (p_X9_unmap_19 a0 h)) (kx 25 (fun la st h => gR la 0 fun a0 => gI la 1 fun x1 => sE st (p_X9_unmap_25 a0 x1 h)) k0))) (FI := FI_X9_unmap) (FV := FV_X9_unmap) (FL := fL0) (rt := rtI) (ft := 19) (by exact hd) ok_X9_unmap_0 (kx_ok (fun la st h e => by obtain ⟨a0, m_a0, e1⟩ := gR_inv e; obtain ⟨rfl, ez⟩ := sE_inv e1; exact gm_fewer (e_X9_unmap_19 E  a0 h ez) (mem_cons m_a0 mem_nil)) (kx_ok (fun la st h e => by obtain ⟨a0, m_a0, e1⟩ := gR_inv e; obtain ⟨x1, m_x1, e2⟩ := gI_inv e1; obtain ⟨rfl, ez⟩ := sE_inv e2; exact gm_fewer (e_X9_unmap_25 E  a0 x1 h ez) (mem_cons m_a0 (mem_cons m_x1 mem_nil))) k0_ok)) (FI_X9_unmap_ok E) (FV_X9_unmap_ok E) (fL0_ok E) (rtI_ok rfl)
theorem c_X9_unmap {l : Launch} {D : va_G} {dA : Nat → ClassId} {z : Nat} {sa : Nat → Nat} {Hz : Heap} (E : StrOK qLen qCh l D dA z sa Hz) {a0 : Nat} {x1 : Int32} {h fin : AH} {x : Int32} (hd : p_X9_unmap a0 x1 h = some (x, fin)) : CalOK l D dA z sa Hz q_X9_unmap [.ref a0, .int x1] h (some (.int x)) fin := calOf (by decide +kernel) (Nat.le_of_ble_eq_true rfl) (e_X9_unmap_0 E a0 x1 h hd)
def FI_X9_denied : Nat → List Value → AH → Option (Int32 × AH) := (cx 201 (fun As h => sR As fun a0 As => sI As fun x1 As => sE As (p_X9_refused a0 x1 h)) fI0)
theorem FI_X9_denied_ok {l : Launch} {D : va_G} {dA : Nat → ClassId} {z : Nat} {sa : Nat → Nat} {Hz : Heap} (E : StrOK qLen qCh l D dA z sa Hz) : ∀ mi As h x h', FI_X9_denied mi As h = some (x, h') → CalOK l D dA z sa Hz (MT mi) As h (some (.int x)) h' := (cxI_ok (fun As h x h2 e => by obtain ⟨_, _, rfl, e0⟩ := sR_inv e; obtain ⟨_, _, rfl, e1⟩ := sI_inv e0; obtain ⟨rfl, ez⟩ := sE_inv e1; exact c_X9_refused E ez) (fI0_ok E))
def I_X9_denied_0 : List AI := [(.aload_n 0, 1, [], 0), (.iload_n 1, 1, [], 0), (.invokevirtual 39, 3, [1, 201, 2, 8, 1481], 0), (.pop, 1, [], 0), (.iconst 0, 1, [], 0), (.ireturn, 1, [], 0)]
theorem ok_X9_denied_0 : vBL MT qLen qCh false q_X9_denied.2.2.2.2.1 q_X9_denied.2.2.2.2.2.1 q_X9_denied.2.2.1 q_X9_denied.1.cls q_X9_denied.1.name q_X9_denied.2.1 0 0 I_X9_denied_0 = true := by decide +kernel
def p_X9_denied (a0 : Nat) (x1 : Int32) (h : AH) : Option (Int32 × AH) :=
  if (tg h a0).1 = 8 then ((p_X9_refused a0 x1 h).bind fun q101 =>
  if ((0 : Int32)) &&& 1 = ((0 : Int32)) then some (((0 : Int32)), q101.2) else none) else none
set_option maxRecDepth 100000 in
theorem e_X9_denied_0 {l : Launch} {D : va_G} {dA : Nat → ClassId} {z : Nat} {sa : Nat → Nat} {Hz : Heap} (E : StrOK qLen qCh l D dA z sa Hz) {h0 fin : AH} {x : Int32}  : ∀ (a0 : Nat) (x1 : Int32) (h : AH), p_X9_denied a0 x1 h = some (x, fin) → GM l D dA z sa Hz q_X9_denied h0 (some (.int x)) fin 0 [(0, .ref a0), (1, .int x1)] [] h := by
  intro a0 x1 h hd
  exact step E (is := I_X9_denied_0) (pc := 0) (K := k0) (FI := FI_X9_denied) (FV := fV0) (FL := fL0) (rt := rtZ) (ft := 0) (by exact hd) ok_X9_denied_0 k0_ok (FI_X9_denied_ok E) (fV0_ok E) (fL0_ok E) (rtZ_ok rfl)
theorem c_X9_denied {l : Launch} {D : va_G} {dA : Nat → ClassId} {z : Nat} {sa : Nat → Nat} {Hz : Heap} (E : StrOK qLen qCh l D dA z sa Hz) {a0 : Nat} {x1 : Int32} {h fin : AH} {x : Int32} (hd : p_X9_denied a0 x1 h = some (x, fin)) : CalOK l D dA z sa Hz q_X9_denied [.ref a0, .int x1] h (some (.int x)) fin := calOf (by decide +kernel) (Nat.le_of_ble_eq_true rfl) (e_X9_denied_0 E a0 x1 h hd)
def FI_X9_granted : Nat → List Value → AH → Option (Int32 × AH) := (cx 233 (fun As h => sR As fun a0 As => sI As fun x1 As => sE As (p_X9_good a0 x1 h)) fI0)
theorem FI_X9_granted_ok {l : Launch} {D : va_G} {dA : Nat → ClassId} {z : Nat} {sa : Nat → Nat} {Hz : Heap} (E : StrOK qLen qCh l D dA z sa Hz) : ∀ mi As h x h', FI_X9_granted mi As h = some (x, h') → CalOK l D dA z sa Hz (MT mi) As h (some (.int x)) h' := (cxI_ok (fun As h x h2 e => by obtain ⟨_, _, rfl, e0⟩ := sR_inv e; obtain ⟨_, _, rfl, e1⟩ := sI_inv e0; obtain ⟨rfl, ez⟩ := sE_inv e1; exact c_X9_good E ez) (fI0_ok E))
def I_X9_granted_0 : List AI := [(.aload_n 0, 1, [], 0), (.iconst 0, 1, [], 0), (.invokevirtual 43, 3, [1, 233, 2, 8, 1694], 0), (.pop, 1, [], 0), (.iconst 1, 1, [], 1), (.ireturn, 1, [], 0)]
theorem ok_X9_granted_0 : vBL MT qLen qCh false q_X9_granted.2.2.2.2.1 q_X9_granted.2.2.2.2.2.1 q_X9_granted.2.2.1 q_X9_granted.1.cls q_X9_granted.1.name q_X9_granted.2.1 0 0 I_X9_granted_0 = true := by decide +kernel
def p_X9_granted (a0 : Nat) (h : AH) : Option (Int32 × AH) :=
  if (tg h a0).1 = 8 then ((p_X9_good a0 ((0 : Int32)) h).bind fun q101 =>
  if ((1 : Int32)) &&& 1 = ((1 : Int32)) then some (((1 : Int32)), q101.2) else none) else none
set_option maxRecDepth 100000 in
theorem e_X9_granted_0 {l : Launch} {D : va_G} {dA : Nat → ClassId} {z : Nat} {sa : Nat → Nat} {Hz : Heap} (E : StrOK qLen qCh l D dA z sa Hz) {h0 fin : AH} {x : Int32}  : ∀ (a0 : Nat) (h : AH), p_X9_granted a0 h = some (x, fin) → GM l D dA z sa Hz q_X9_granted h0 (some (.int x)) fin 0 [(0, .ref a0)] [] h := by
  intro a0 h hd
  exact step E (is := I_X9_granted_0) (pc := 0) (K := k0) (FI := FI_X9_granted) (FV := fV0) (FL := fL0) (rt := rtZ) (ft := 0) (by exact hd) ok_X9_granted_0 k0_ok (FI_X9_granted_ok E) (fV0_ok E) (fL0_ok E) (rtZ_ok rfl)
theorem c_X9_granted {l : Launch} {D : va_G} {dA : Nat → ClassId} {z : Nat} {sa : Nat → Nat} {Hz : Heap} (E : StrOK qLen qCh l D dA z sa Hz) {a0 : Nat} {h fin : AH} {x : Int32} (hd : p_X9_granted a0 h = some (x, fin)) : CalOK l D dA z sa Hz q_X9_granted [.ref a0] h (some (.int x)) fin := calOf (by decide +kernel) (Nat.le_of_ble_eq_true rfl) (e_X9_granted_0 E a0 h hd)
def FI_X9_give : Nat → List Value → AH → Option (Int32 × AH) := (cx 237 (fun As h => sI As fun x0 As => sE As (p_X9_isFrame x0 h)) (cx 329 (fun As h => sR As fun a0 As => sI As fun x1 As => sE As (p_X9_denied a0 x1 h)) (cx 211 (fun As h => sI As fun x0 As => sI As fun x1 As => sI As fun x2 As => sE As (p_X9_in x0 x1 x2 h)) (cx 240 (fun As h => sR As fun a0 As => sI As fun x1 As => sE As (p_X9_isBacked a0 x1 h)) (cx 241 (fun As h => sR As fun a0 As => sI As fun x1 As => sE As (p_X9_hostOf a0 x1 h)) (cx 330 (fun As h => sR As fun a0 As => sE As (p_X9_granted a0 h)) fI0))))))
theorem FI_X9_give_ok {l : Launch} {D : va_G} {dA : Nat → ClassId} {z : Nat} {sa : Nat → Nat} {Hz : Heap} (E : StrOK qLen qCh l D dA z sa Hz) : ∀ mi As h x h', FI_X9_give mi As h = some (x, h') → CalOK l D dA z sa Hz (MT mi) As h (some (.int x)) h' := (cxI_ok (fun As h x h2 e => by obtain ⟨_, _, rfl, e0⟩ := sI_inv e; obtain ⟨rfl, ez⟩ := sE_inv e0; exact c_X9_isFrame E ez) ((cxI_ok (fun As h x h2 e => by obtain ⟨_, _, rfl, e0⟩ := sR_inv e; obtain ⟨_, _, rfl, e1⟩ := sI_inv e0; obtain ⟨rfl, ez⟩ := sE_inv e1; exact c_X9_denied E ez) ((cxI_ok (fun As h x h2 e => by obtain ⟨_, _, rfl, e0⟩ := sI_inv e; obtain ⟨_, _, rfl, e1⟩ := sI_inv e0; obtain ⟨_, _, rfl, e2⟩ := sI_inv e1; obtain ⟨rfl, ez⟩ := sE_inv e2; exact c_X9_in E ez) ((cxI_ok (fun As h x h2 e => by obtain ⟨_, _, rfl, e0⟩ := sR_inv e; obtain ⟨_, _, rfl, e1⟩ := sI_inv e0; obtain ⟨rfl, ez⟩ := sE_inv e1; exact c_X9_isBacked E ez) ((cxI_ok (fun As h x h2 e => by obtain ⟨_, _, rfl, e0⟩ := sR_inv e; obtain ⟨_, _, rfl, e1⟩ := sI_inv e0; obtain ⟨rfl, ez⟩ := sE_inv e1; exact c_X9_hostOf E ez) ((cxI_ok (fun As h x h2 e => by obtain ⟨_, _, rfl, e0⟩ := sR_inv e; obtain ⟨rfl, ez⟩ := sE_inv e0; exact c_X9_granted E ez) (fI0_ok E))))))))))))
def FV_X9_give : Nat → List Value → AH → Option (AH) := (cx 239 (fun As h => sR As fun a0 As => sE As (p_X9_works a0 h)) (cx 318 (fun As h => sR As fun a0 As => sE As (p_X9_remembers a0 h)) (cx 232 (fun As h => sR As fun a0 As => sE As (p_X9_remains a0 h)) fV0)))
theorem FV_X9_give_ok {l : Launch} {D : va_G} {dA : Nat → ClassId} {z : Nat} {sa : Nat → Nat} {Hz : Heap} (E : StrOK qLen qCh l D dA z sa Hz) : ∀ mi As h h', FV_X9_give mi As h = some h' → CalOK l D dA z sa Hz (MT mi) As h none h' := (cxV_ok (fun As h h2 e => by obtain ⟨_, _, rfl, e0⟩ := sR_inv e; obtain ⟨rfl, ez⟩ := sE_inv e0; exact c_X9_works E ez) ((cxV_ok (fun As h h2 e => by obtain ⟨_, _, rfl, e0⟩ := sR_inv e; obtain ⟨rfl, ez⟩ := sE_inv e0; exact c_X9_remembers E ez) ((cxV_ok (fun As h h2 e => by obtain ⟨_, _, rfl, e0⟩ := sR_inv e; obtain ⟨rfl, ez⟩ := sE_inv e0; exact c_X9_remains E ez) (fV0_ok E))))))
def I_X9_give_19 : List AI := [(.aload_n 0, 1, [], 0), (.iconst 1, 1, [], 1), (.invokevirtual 496, 3, [1, 329, 2, 8, 2074], 0), (.ireturn, 1, [], 0)]
theorem ok_X9_give_19 : vBL MT qLen qCh false q_X9_give.2.2.2.2.1 q_X9_give.2.2.2.2.2.1 q_X9_give.2.2.1 q_X9_give.1.cls q_X9_give.1.name q_X9_give.2.1 0 19 I_X9_give_19 = true := by decide +kernel
def p_X9_give_19 (a0 : Nat) (h : AH) : Option (Int32 × AH) :=
  if (tg h a0).1 = 8 then ((p_X9_denied a0 ((1 : Int32)) h).bind fun q101 =>
  if q101.1 &&& 1 = q101.1 then some (q101.1, q101.2) else none) else none
set_option maxRecDepth 100000 in
theorem e_X9_give_19 {l : Launch} {D : va_G} {dA : Nat → ClassId} {z : Nat} {sa : Nat → Nat} {Hz : Heap} (E : StrOK qLen qCh l D dA z sa Hz) {h0 fin : AH} {x : Int32}  : ∀ (a0 : Nat) (h : AH), p_X9_give_19 a0 h = some (x, fin) → GM l D dA z sa Hz q_X9_give h0 (some (.int x)) fin 19 [(0, .ref a0)] [] h := by
  intro a0 h hd
  exact step E (is := I_X9_give_19) (pc := 19) (K := k0) (FI := FI_X9_give) (FV := FV_X9_give) (FL := fL0) (rt := rtZ) (ft := 0) (by exact hd) ok_X9_give_19 k0_ok (FI_X9_give_ok E) (FV_X9_give_ok E) (fL0_ok E) (rtZ_ok rfl)
def I_X9_give_129 : List AI := [(.ior, 1, [], 0), (.iastore, 1, [], 0), (.aload_n 0, 1, [], 0), (.getfield 21, 3, [8, 16, 2, 1361], 0), (.sipush 145, 3, [], 145), (.dup2, 1, [], 0), (.iaload, 1, [], 0), (.iconst 1, 1, [], 1), (.iload_n 1, 1, [], 0), (.ishl, 1, [], 0), (.iconst (-1), 1, [], (-1)), (.ixor, 1, [], 0), (.iand, 1, [], 0), (.iastore, 1, [], 0), (.aload_n 0, 1, [], 0), (.invokevirtual 270, 3, [2, 232, 1, 8, 1690], 0), (.aload_n 0, 1, [], 0), (.invokevirtual 498, 3, [1, 330, 1, 8, 2078], 0), (.ireturn, 1, [], 0)]
theorem ok_X9_give_129 : vBL MT qLen qCh false q_X9_give.2.2.2.2.1 q_X9_give.2.2.2.2.2.1 q_X9_give.2.2.1 q_X9_give.1.cls q_X9_give.1.name q_X9_give.2.1 0 129 I_X9_give_129 = true := by decide +kernel
def p_X9_give_129 (a0 : Nat) (x1 : Int32) (y0 : Int32) (y1 : Int32) (y2 : Int32) (b3 : Nat) (h : AH) : Option (Int32 × AH) :=
  if inB h b3 100 y2 then (let h102 := wI h b3 y2.toNatClampNeg (y1 ||| y0)
  if (tg h102 a0).1 = 8 then (if inB h102 (rR h102 a0 16) 100 ((145 : Int32)) then (if inB h102 (rR h102 a0 16) 100 ((145 : Int32)) then (let h103 := wI h102 (rR h102 a0 16) ((145 : Int32)).toNatClampNeg ((rI h102 (rR h102 a0 16) ((145 : Int32)).toNatClampNeg) &&& ((((1 : Int32)) <<< (x1 &&& 31)) ^^^ ((-1 : Int32))))
  if (tg h103 a0).1 = 8 then ((p_X9_remains a0 h103).bind fun h104 =>
  if (tg h104 a0).1 = 8 then ((p_X9_granted a0 h104).bind fun q105 =>
  if q105.1 &&& 1 = q105.1 then some (q105.1, q105.2) else none) else none) else none) else none) else none) else none) else none
set_option maxRecDepth 100000 in
theorem e_X9_give_129 {l : Launch} {D : va_G} {dA : Nat → ClassId} {z : Nat} {sa : Nat → Nat} {Hz : Heap} (E : StrOK qLen qCh l D dA z sa Hz) {h0 fin : AH} {x : Int32}  : ∀ (a0 : Nat) (x1 : Int32) (y0 : Int32) (y1 : Int32) (y2 : Int32) (b3 : Nat) (h : AH), p_X9_give_129 a0 x1 y0 y1 y2 b3 h = some (x, fin) → GM l D dA z sa Hz q_X9_give h0 (some (.int x)) fin 129 [(0, .ref a0), (1, .int x1)] [.int y0, .int y1, .int y2, .ref b3] h := by
  intro a0 x1 y0 y1 y2 b3 h hd
  exact step E (is := I_X9_give_129) (pc := 129) (K := k0) (FI := FI_X9_give) (FV := FV_X9_give) (FL := fL0) (rt := rtZ) (ft := 0) (by exact hd) ok_X9_give_129 k0_ok (FI_X9_give_ok E) (FV_X9_give_ok E) (fL0_ok E) (rtZ_ok rfl)
def I_X9_give_128 : List AI := [(.iconst 0, 1, [], 0)]
theorem ok_X9_give_128 : vBL MT qLen qCh false q_X9_give.2.2.2.2.1 q_X9_give.2.2.2.2.2.1 q_X9_give.2.2.1 q_X9_give.1.cls q_X9_give.1.name q_X9_give.2.1 129 128 I_X9_give_128 = true := by decide +kernel
def p_X9_give_128 (a0 : Nat) (x1 : Int32) (y0 : Int32) (y1 : Int32) (b2 : Nat) (h : AH) : Option (Int32 × AH) :=
  p_X9_give_129 a0 x1 ((0 : Int32)) y0 y1 b2 h
set_option maxRecDepth 100000 in
theorem e_X9_give_128 {l : Launch} {D : va_G} {dA : Nat → ClassId} {z : Nat} {sa : Nat → Nat} {Hz : Heap} (E : StrOK qLen qCh l D dA z sa Hz) {h0 fin : AH} {x : Int32}  : ∀ (a0 : Nat) (x1 : Int32) (y0 : Int32) (y1 : Int32) (b2 : Nat) (h : AH), p_X9_give_128 a0 x1 y0 y1 b2 h = some (x, fin) → GM l D dA z sa Hz q_X9_give h0 (some (.int x)) fin 128 [(0, .ref a0), (1, .int x1)] [.int y0, .int y1, .ref b2] h := by
  intro a0 x1 y0 y1 b2 h hd
  exact step E (is := I_X9_give_128) (pc := 128) (K := (kx 129 (fun la st h => gR la 0 fun a0 => gI la 1 fun x1 => sI st fun y0 st => sI st fun y1 st => sI st fun y2 st => sR st fun b3 st => sE st (p_X9_give_129 a0 x1 y0 y1 y2 b3 h)) k0)) (FI := FI_X9_give) (FV := FV_X9_give) (FL := fL0) (rt := rtZ) (ft := 129) (by exact hd) ok_X9_give_128 (kx_ok (fun la st h e => by obtain ⟨a0, m_a0, e1⟩ := gR_inv e; obtain ⟨x1, m_x1, e2⟩ := gI_inv e1; obtain ⟨y0, _, rfl, e3⟩ := sI_inv e2; obtain ⟨y1, _, rfl, e4⟩ := sI_inv e3; obtain ⟨y2, _, rfl, e5⟩ := sI_inv e4; obtain ⟨b3, _, rfl, e6⟩ := sR_inv e5; obtain ⟨rfl, ez⟩ := sE_inv e6; exact gm_fewer (e_X9_give_129 E  a0 x1 y0 y1 y2 b3 h ez) (mem_cons m_a0 (mem_cons m_x1 mem_nil))) k0_ok) (FI_X9_give_ok E) (FV_X9_give_ok E) (fL0_ok E) (rtZ_ok rfl)
def I_X9_give_92 : List AI := [(.aload_n 0, 1, [], 0), (.invokevirtual 480, 3, [2, 318, 1, 8, 2030], 0), (.aload_n 0, 1, [], 0), (.getfield 21, 3, [8, 16, 2, 1361], 0), (.sipush 128, 3, [], 128), (.iload_n 1, 1, [], 0), (.iadd, 1, [], 0), (.iload_n 2, 1, [], 0), (.iconst 1, 1, [], 1), (.iadd, 1, [], 0), (.iastore, 1, [], 0), (.aload_n 0, 1, [], 0), (.getfield 21, 3, [8, 16, 2, 1361], 0), (.sipush 144, 3, [], 144), (.dup2, 1, [], 0), (.iaload, 1, [], 0), (.iload_n 3, 1, [], 0), (.ifCond .eq 9, 3, [128], 0), (.iconst 1, 1, [], 1), (.iload_n 1, 1, [], 0), (.ishl, 1, [], 0), (.goto 4, 3, [129], 0)]
theorem ok_X9_give_92 : vBL MT qLen qCh false q_X9_give.2.2.2.2.1 q_X9_give.2.2.2.2.2.1 q_X9_give.2.2.1 q_X9_give.1.cls q_X9_give.1.name q_X9_give.2.1 0 92 I_X9_give_92 = true := by decide +kernel
def p_X9_give_92 (a0 : Nat) (x1 : Int32) (x2 : Int32) (x3 : Int32) (h : AH) : Option (Int32 × AH) :=
  if (tg h a0).1 = 8 then ((p_X9_remembers a0 h).bind fun h106 =>
  if (tg h106 a0).1 = 8 then (if inB h106 (rR h106 a0 16) 100 (((128 : Int32)) + x1) then (let h107 := wI h106 (rR h106 a0 16) (((128 : Int32)) + x1).toNatClampNeg (x2 + ((1 : Int32)))
  if (tg h107 a0).1 = 8 then (if inB h107 (rR h107 a0 16) 100 ((144 : Int32)) then (if x3 = 0 then (p_X9_give_129 a0 x1 ((0 : Int32)) (rI h107 (rR h107 a0 16) ((144 : Int32)).toNatClampNeg) ((144 : Int32)) (rR h107 a0 16) h107)
  else
  p_X9_give_129 a0 x1 (((1 : Int32)) <<< (x1 &&& 31)) (rI h107 (rR h107 a0 16) ((144 : Int32)).toNatClampNeg) ((144 : Int32)) (rR h107 a0 16) h107) else none) else none) else none) else none) else none
set_option maxRecDepth 100000 in
theorem e_X9_give_92 {l : Launch} {D : va_G} {dA : Nat → ClassId} {z : Nat} {sa : Nat → Nat} {Hz : Heap} (E : StrOK qLen qCh l D dA z sa Hz) {h0 fin : AH} {x : Int32}  : ∀ (a0 : Nat) (x1 : Int32) (x2 : Int32) (x3 : Int32) (h : AH), p_X9_give_92 a0 x1 x2 x3 h = some (x, fin) → GM l D dA z sa Hz q_X9_give h0 (some (.int x)) fin 92 [(0, .ref a0), (1, .int x1), (2, .int x2), (3, .int x3)] [] h := by
  intro a0 x1 x2 x3 h hd
  exact step E (is := I_X9_give_92) (pc := 92) (K := (kx 128 (fun la st h => gR la 0 fun a0 => gI la 1 fun x1 => sI st fun y0 st => sI st fun y1 st => sR st fun b2 st => sE st (p_X9_give_128 a0 x1 y0 y1 b2 h)) (kx 129 (fun la st h => gR la 0 fun a0 => gI la 1 fun x1 => sI st fun y0 st => sI st fun y1 st => sI st fun y2 st => sR st fun b3 st => sE st (p_X9_give_129 a0 x1 y0 y1 y2 b3 h)) k0))) (FI := FI_X9_give) (FV := FV_X9_give) (FL := fL0) (rt := rtZ) (ft := 0) (by exact hd) ok_X9_give_92 (kx_ok (fun la st h e => by obtain ⟨a0, m_a0, e1⟩ := gR_inv e; obtain ⟨x1, m_x1, e2⟩ := gI_inv e1; obtain ⟨y0, _, rfl, e3⟩ := sI_inv e2; obtain ⟨y1, _, rfl, e4⟩ := sI_inv e3; obtain ⟨b2, _, rfl, e5⟩ := sR_inv e4; obtain ⟨rfl, ez⟩ := sE_inv e5; exact gm_fewer (e_X9_give_128 E  a0 x1 y0 y1 b2 h ez) (mem_cons m_a0 (mem_cons m_x1 mem_nil))) (kx_ok (fun la st h e => by obtain ⟨a0, m_a0, e1⟩ := gR_inv e; obtain ⟨x1, m_x1, e2⟩ := gI_inv e1; obtain ⟨y0, _, rfl, e3⟩ := sI_inv e2; obtain ⟨y1, _, rfl, e4⟩ := sI_inv e3; obtain ⟨y2, _, rfl, e5⟩ := sI_inv e4; obtain ⟨b3, _, rfl, e6⟩ := sR_inv e5; obtain ⟨rfl, ez⟩ := sE_inv e6; exact gm_fewer (e_X9_give_129 E  a0 x1 y0 y1 y2 b3 h ez) (mem_cons m_a0 (mem_cons m_x1 mem_nil))) k0_ok)) (FI_X9_give_ok E) (FV_X9_give_ok E) (fL0_ok E) (rtZ_ok rfl)
def I_X9_give_86 : List AI := [(.iinc 4 1, 3, [], 1), (.goto (-41), 3, [48], 0)]
theorem ok_X9_give_86 : vBL MT qLen qCh false q_X9_give.2.2.2.2.1 q_X9_give.2.2.2.2.2.1 q_X9_give.2.2.1 q_X9_give.1.cls q_X9_give.1.name q_X9_give.2.1 0 86 I_X9_give_86 = true := by decide +kernel
def p_X9_give_86 (k48 : Nat → Int32 → Int32 → Int32 → Int32 → AH → Option (Int32 × AH)) (a0 : Nat) (x1 : Int32) (x2 : Int32) (x3 : Int32) (x4 : Int32) (h : AH) : Option (Int32 × AH) :=
  k48 a0 x1 x2 x3 (x4 + (1 : Int32)) h
set_option maxRecDepth 100000 in
theorem e_X9_give_86 {l : Launch} {D : va_G} {dA : Nat → ClassId} {z : Nat} {sa : Nat → Nat} {Hz : Heap} (E : StrOK qLen qCh l D dA z sa Hz) {h0 fin : AH} {x : Int32}  {k48 : Nat → Int32 → Int32 → Int32 → Int32 → AH → Option (Int32 × AH)} (hk48 : ∀ (a0 : Nat) (x1 : Int32) (x2 : Int32) (x3 : Int32) (x4 : Int32) (h : AH), k48 a0 x1 x2 x3 x4 h = some (x, fin) → GM l D dA z sa Hz q_X9_give h0 (some (.int x)) fin 48 [(0, .ref a0), (1, .int x1), (2, .int x2), (3, .int x3), (4, .int x4)] [] h) : ∀ (a0 : Nat) (x1 : Int32) (x2 : Int32) (x3 : Int32) (x4 : Int32) (h : AH), p_X9_give_86 k48 a0 x1 x2 x3 x4 h = some (x, fin) → GM l D dA z sa Hz q_X9_give h0 (some (.int x)) fin 86 [(0, .ref a0), (1, .int x1), (2, .int x2), (3, .int x3), (4, .int x4)] [] h := by
  intro a0 x1 x2 x3 x4 h hd
  exact step E (is := I_X9_give_86) (pc := 86) (K := (kx 48 (fun la st h => gR la 0 fun a0 => gI la 1 fun x1 => gI la 2 fun x2 => gI la 3 fun x3 => gI la 4 fun x4 => sE st (k48 a0 x1 x2 x3 x4 h)) k0)) (FI := FI_X9_give) (FV := FV_X9_give) (FL := fL0) (rt := rtZ) (ft := 0) (by exact hd) ok_X9_give_86 (kx_ok (fun la st h e => by obtain ⟨a0, m_a0, e1⟩ := gR_inv e; obtain ⟨x1, m_x1, e2⟩ := gI_inv e1; obtain ⟨x2, m_x2, e3⟩ := gI_inv e2; obtain ⟨x3, m_x3, e4⟩ := gI_inv e3; obtain ⟨x4, m_x4, e5⟩ := gI_inv e4; obtain ⟨rfl, ez⟩ := sE_inv e5; exact gm_fewer (hk48 a0 x1 x2 x3 x4 h ez) (mem_cons m_a0 (mem_cons m_x1 (mem_cons m_x2 (mem_cons m_x3 (mem_cons m_x4 mem_nil)))))) k0_ok) (FI_X9_give_ok E) (FV_X9_give_ok E) (fL0_ok E) (rtZ_ok rfl)
def I_X9_give_80 : List AI := [(.aload_n 0, 1, [], 0), (.iconst 5, 1, [], 5), (.invokevirtual 496, 3, [1, 329, 2, 8, 2074], 0), (.ireturn, 1, [], 0)]
theorem ok_X9_give_80 : vBL MT qLen qCh false q_X9_give.2.2.2.2.1 q_X9_give.2.2.2.2.2.1 q_X9_give.2.2.1 q_X9_give.1.cls q_X9_give.1.name q_X9_give.2.1 0 80 I_X9_give_80 = true := by decide +kernel
def p_X9_give_80 (a0 : Nat) (h : AH) : Option (Int32 × AH) :=
  if (tg h a0).1 = 8 then ((p_X9_denied a0 ((5 : Int32)) h).bind fun q108 =>
  if q108.1 &&& 1 = q108.1 then some (q108.1, q108.2) else none) else none
set_option maxRecDepth 100000 in
theorem e_X9_give_80 {l : Launch} {D : va_G} {dA : Nat → ClassId} {z : Nat} {sa : Nat → Nat} {Hz : Heap} (E : StrOK qLen qCh l D dA z sa Hz) {h0 fin : AH} {x : Int32}  : ∀ (a0 : Nat) (h : AH), p_X9_give_80 a0 h = some (x, fin) → GM l D dA z sa Hz q_X9_give h0 (some (.int x)) fin 80 [(0, .ref a0)] [] h := by
  intro a0 h hd
  exact step E (is := I_X9_give_80) (pc := 80) (K := k0) (FI := FI_X9_give) (FV := FV_X9_give) (FL := fL0) (rt := rtZ) (ft := 0) (by exact hd) ok_X9_give_80 k0_ok (FI_X9_give_ok E) (FV_X9_give_ok E) (fL0_ok E) (rtZ_ok rfl)
def I_X9_give_48 : List AI := [(.iload 4, 2, [], 0), (.bipush 16, 2, [], 16), (.if_icmp .ge 40, 3, [92], 0), (.aload_n 0, 1, [], 0), (.iload 4, 2, [], 0), (.invokevirtual 313, 3, [1, 240, 2, 8, 1721], 0), (.ifCond .eq 25, 3, [86], 0), (.iload 4, 2, [], 0), (.iload_n 1, 1, [], 0), (.if_icmp .eq 13, 3, [80], 0), (.aload_n 0, 1, [], 0), (.iload 4, 2, [], 0), (.invokevirtual 344, 3, [1, 241, 2, 8, 1725], 0), (.iload_n 2, 1, [], 0), (.if_icmp .ne 9, 3, [86], 0)]
theorem ok_X9_give_48 : vBL MT qLen qCh false q_X9_give.2.2.2.2.1 q_X9_give.2.2.2.2.2.1 q_X9_give.2.2.1 q_X9_give.1.cls q_X9_give.1.name q_X9_give.2.1 80 48 I_X9_give_48 = true := by decide +kernel
def p_X9_give_48 : Nat → Nat → Int32 → Int32 → Int32 → Int32 → AH → Option (Int32 × AH)
  | 0, _, _, _, _, _, _ => none
  | n + 1, a0, x1, x2, x3, x4, h => if x4 < ((16 : Int32)) then (if (tg h a0).1 = 8 then ((p_X9_isBacked a0 x4 h).bind fun q111 =>
    if q111.1 = 0 then (p_X9_give_86 (p_X9_give_48 n) a0 x1 x2 x3 x4 q111.2)
    else
    if x4 = x1 then (p_X9_give_80 a0 q111.2)
    else
    if (tg q111.2 a0).1 = 8 then ((p_X9_hostOf a0 x4 q111.2).bind fun q112 =>
    if q112.1 = x2 then (p_X9_give_80 a0 q112.2)
    else
    p_X9_give_86 (p_X9_give_48 n) a0 x1 x2 x3 x4 q112.2) else none) else none)
    else
    if (tg h a0).1 = 8 then ((p_X9_remembers a0 h).bind fun h109 =>
    if (tg h109 a0).1 = 8 then (if inB h109 (rR h109 a0 16) 100 (((128 : Int32)) + x1) then (let h110 := wI h109 (rR h109 a0 16) (((128 : Int32)) + x1).toNatClampNeg (x2 + ((1 : Int32)))
    if (tg h110 a0).1 = 8 then (if inB h110 (rR h110 a0 16) 100 ((144 : Int32)) then (if x3 = 0 then (p_X9_give_129 a0 x1 ((0 : Int32)) (rI h110 (rR h110 a0 16) ((144 : Int32)).toNatClampNeg) ((144 : Int32)) (rR h110 a0 16) h110)
    else
    p_X9_give_129 a0 x1 (((1 : Int32)) <<< (x1 &&& 31)) (rI h110 (rR h110 a0 16) ((144 : Int32)).toNatClampNeg) ((144 : Int32)) (rR h110 a0 16) h110) else none) else none) else none) else none) else none
set_option maxRecDepth 100000 in
theorem e_X9_give_48 {l : Launch} {D : va_G} {dA : Nat → ClassId} {z : Nat} {sa : Nat → Nat} {Hz : Heap} (E : StrOK qLen qCh l D dA z sa Hz) {h0 fin : AH} {x : Int32}  : ∀ (n : Nat) (a0 : Nat) (x1 : Int32) (x2 : Int32) (x3 : Int32) (x4 : Int32) (h : AH), p_X9_give_48 n a0 x1 x2 x3 x4 h = some (x, fin) → GM l D dA z sa Hz q_X9_give h0 (some (.int x)) fin 48 [(0, .ref a0), (1, .int x1), (2, .int x2), (3, .int x3), (4, .int x4)] [] h := by
  intro n
  induction n with
  | zero => intro a0 x1 x2 x3 x4 h hd; exact nomatch hd
  | succ n ih =>
    intro a0 x1 x2 x3 x4 h hd
    exact step E (is := I_X9_give_48) (pc := 48) (K := (kx 92 (fun la st h => gR la 0 fun a0 => gI la 1 fun x1 => gI la 2 fun x2 => gI la 3 fun x3 => sE st (p_X9_give_92 a0 x1 x2 x3 h)) (kx 86 (fun la st h => gR la 0 fun a0 => gI la 1 fun x1 => gI la 2 fun x2 => gI la 3 fun x3 => gI la 4 fun x4 => sE st (p_X9_give_86 (p_X9_give_48 n) a0 x1 x2 x3 x4 h)) (kx 80 (fun la st h => gR la 0 fun a0 => sE st (p_X9_give_80 a0 h)) k0)))) (FI := FI_X9_give) (FV := FV_X9_give) (FL := fL0) (rt := rtZ) (ft := 80) (by exact hd) ok_X9_give_48 (kx_ok (fun la st h e => by obtain ⟨a0, m_a0, e1⟩ := gR_inv e; obtain ⟨x1, m_x1, e2⟩ := gI_inv e1; obtain ⟨x2, m_x2, e3⟩ := gI_inv e2; obtain ⟨x3, m_x3, e4⟩ := gI_inv e3; obtain ⟨rfl, ez⟩ := sE_inv e4; exact gm_fewer (e_X9_give_92 E  a0 x1 x2 x3 h ez) (mem_cons m_a0 (mem_cons m_x1 (mem_cons m_x2 (mem_cons m_x3 mem_nil))))) (kx_ok (fun la st h e => by obtain ⟨a0, m_a0, e1⟩ := gR_inv e; obtain ⟨x1, m_x1, e2⟩ := gI_inv e1; obtain ⟨x2, m_x2, e3⟩ := gI_inv e2; obtain ⟨x3, m_x3, e4⟩ := gI_inv e3; obtain ⟨x4, m_x4, e5⟩ := gI_inv e4; obtain ⟨rfl, ez⟩ := sE_inv e5; exact gm_fewer (e_X9_give_86 E ih a0 x1 x2 x3 x4 h ez) (mem_cons m_a0 (mem_cons m_x1 (mem_cons m_x2 (mem_cons m_x3 (mem_cons m_x4 mem_nil)))))) (kx_ok (fun la st h e => by obtain ⟨a0, m_a0, e1⟩ := gR_inv e; obtain ⟨rfl, ez⟩ := sE_inv e1; exact gm_fewer (e_X9_give_80 E  a0 h ez) (mem_cons m_a0 mem_nil)) k0_ok))) (FI_X9_give_ok E) (FV_X9_give_ok E) (fL0_ok E) (rtZ_ok rfl)
def I_X9_give_41 : List AI := [(.aload_n 0, 1, [], 0), (.invokevirtual 398, 3, [2, 239, 1, 8, 1717], 0), (.iconst 0, 1, [], 0), (.istore 4, 2, [], 0)]
theorem ok_X9_give_41 : vBL MT qLen qCh false q_X9_give.2.2.2.2.1 q_X9_give.2.2.2.2.2.1 q_X9_give.2.2.1 q_X9_give.1.cls q_X9_give.1.name q_X9_give.2.1 48 41 I_X9_give_41 = true := by decide +kernel
def p_X9_give_41 (a0 : Nat) (x1 : Int32) (x2 : Int32) (x3 : Int32) (h : AH) : Option (Int32 × AH) :=
  if (tg h a0).1 = 8 then ((p_X9_works a0 h).bind fun h113 =>
  p_X9_give_48 FU a0 x1 x2 x3 ((0 : Int32)) h113) else none
set_option maxRecDepth 100000 in
theorem e_X9_give_41 {l : Launch} {D : va_G} {dA : Nat → ClassId} {z : Nat} {sa : Nat → Nat} {Hz : Heap} (E : StrOK qLen qCh l D dA z sa Hz) {h0 fin : AH} {x : Int32}  : ∀ (a0 : Nat) (x1 : Int32) (x2 : Int32) (x3 : Int32) (h : AH), p_X9_give_41 a0 x1 x2 x3 h = some (x, fin) → GM l D dA z sa Hz q_X9_give h0 (some (.int x)) fin 41 [(0, .ref a0), (1, .int x1), (2, .int x2), (3, .int x3)] [] h := by
  intro a0 x1 x2 x3 h hd
  exact step E (is := I_X9_give_41) (pc := 41) (K := (kx 48 (fun la st h => gR la 0 fun a0 => gI la 1 fun x1 => gI la 2 fun x2 => gI la 3 fun x3 => gI la 4 fun x4 => sE st (p_X9_give_48 FU a0 x1 x2 x3 x4 h)) k0)) (FI := FI_X9_give) (FV := FV_X9_give) (FL := fL0) (rt := rtZ) (ft := 48) (by exact hd) ok_X9_give_41 (kx_ok (fun la st h e => by obtain ⟨a0, m_a0, e1⟩ := gR_inv e; obtain ⟨x1, m_x1, e2⟩ := gI_inv e1; obtain ⟨x2, m_x2, e3⟩ := gI_inv e2; obtain ⟨x3, m_x3, e4⟩ := gI_inv e3; obtain ⟨x4, m_x4, e5⟩ := gI_inv e4; obtain ⟨rfl, ez⟩ := sE_inv e5; exact gm_fewer (e_X9_give_48 E  FU a0 x1 x2 x3 x4 h ez) (mem_cons m_a0 (mem_cons m_x1 (mem_cons m_x2 (mem_cons m_x3 (mem_cons m_x4 mem_nil)))))) k0_ok) (FI_X9_give_ok E) (FV_X9_give_ok E) (fL0_ok E) (rtZ_ok rfl)
def I_X9_give_25 : List AI := [(.iload_n 2, 1, [], 0), (.iconst 0, 1, [], 0), (.bipush 31, 2, [], 31), (.invokestatic 112, 3, [1, 211, 3, 1612], 0), (.ifCond .ne 9, 3, [41], 0), (.aload_n 0, 1, [], 0), (.iconst 2, 1, [], 2), (.invokevirtual 496, 3, [1, 329, 2, 8, 2074], 0), (.ireturn, 1, [], 0)]
theorem ok_X9_give_25 : vBL MT qLen qCh false q_X9_give.2.2.2.2.1 q_X9_give.2.2.2.2.2.1 q_X9_give.2.2.1 q_X9_give.1.cls q_X9_give.1.name q_X9_give.2.1 0 25 I_X9_give_25 = true := by decide +kernel
def p_X9_give_25 (a0 : Nat) (x1 : Int32) (x2 : Int32) (x3 : Int32) (h : AH) : Option (Int32 × AH) :=
  (p_X9_in x2 ((0 : Int32)) ((31 : Int32)) h).bind fun q114 =>
  if q114.1 = 0 then (if (tg q114.2 a0).1 = 8 then ((p_X9_denied a0 ((2 : Int32)) q114.2).bind fun q116 =>
  if q116.1 &&& 1 = q116.1 then some (q116.1, q116.2) else none) else none)
  else
  if (tg q114.2 a0).1 = 8 then ((p_X9_works a0 q114.2).bind fun h115 =>
  p_X9_give_48 FU a0 x1 x2 x3 ((0 : Int32)) h115) else none
set_option maxRecDepth 100000 in
theorem e_X9_give_25 {l : Launch} {D : va_G} {dA : Nat → ClassId} {z : Nat} {sa : Nat → Nat} {Hz : Heap} (E : StrOK qLen qCh l D dA z sa Hz) {h0 fin : AH} {x : Int32}  : ∀ (a0 : Nat) (x1 : Int32) (x2 : Int32) (x3 : Int32) (h : AH), p_X9_give_25 a0 x1 x2 x3 h = some (x, fin) → GM l D dA z sa Hz q_X9_give h0 (some (.int x)) fin 25 [(0, .ref a0), (1, .int x1), (2, .int x2), (3, .int x3)] [] h := by
  intro a0 x1 x2 x3 h hd
  exact step E (is := I_X9_give_25) (pc := 25) (K := (kx 41 (fun la st h => gR la 0 fun a0 => gI la 1 fun x1 => gI la 2 fun x2 => gI la 3 fun x3 => sE st (p_X9_give_41 a0 x1 x2 x3 h)) k0)) (FI := FI_X9_give) (FV := FV_X9_give) (FL := fL0) (rt := rtZ) (ft := 0) (by exact hd) ok_X9_give_25 (kx_ok (fun la st h e => by obtain ⟨a0, m_a0, e1⟩ := gR_inv e; obtain ⟨x1, m_x1, e2⟩ := gI_inv e1; obtain ⟨x2, m_x2, e3⟩ := gI_inv e2; obtain ⟨x3, m_x3, e4⟩ := gI_inv e3; obtain ⟨rfl, ez⟩ := sE_inv e4; exact gm_fewer (e_X9_give_41 E  a0 x1 x2 x3 h ez) (mem_cons m_a0 (mem_cons m_x1 (mem_cons m_x2 (mem_cons m_x3 mem_nil))))) k0_ok) (FI_X9_give_ok E) (FV_X9_give_ok E) (fL0_ok E) (rtZ_ok rfl)
def I_X9_give_0 : List AI := [(.aload_n 0, 1, [], 0), (.iconst 0, 1, [], 0), (.putfield 33, 3, [8, 0, 0, 1345], 0), (.aload_n 0, 1, [], 0), (.getfield 265, 3, [8, 3, 2, 1348], 0), (.ifnull 10, 3, [19], 0), (.iload_n 1, 1, [], 0), (.invokestatic 395, 3, [1, 237, 1, 1710], 0), (.ifCond .ne 9, 3, [25], 0)]
theorem ok_X9_give_0 : vBL MT qLen qCh false q_X9_give.2.2.2.2.1 q_X9_give.2.2.2.2.2.1 q_X9_give.2.2.1 q_X9_give.1.cls q_X9_give.1.name q_X9_give.2.1 19 0 I_X9_give_0 = true := by decide +kernel
def p_X9_give (a0 : Nat) (x1 : Int32) (x2 : Int32) (x3 : Int32) (h : AH) : Option (Int32 × AH) :=
  if (tg h a0).1 = 8 then (let h117 := wI h a0 0 ((0 : Int32))
  if (tg h117 a0).1 = 8 then (if (rR h117 a0 3) = 0 then (p_X9_give_19 a0 h117)
  else
  (p_X9_isFrame x1 h117).bind fun q118 =>
  if q118.1 = 0 then (p_X9_give_19 a0 q118.2)
  else
  (p_X9_in x2 ((0 : Int32)) ((31 : Int32)) q118.2).bind fun q119 =>
  if q119.1 = 0 then (if (tg q119.2 a0).1 = 8 then ((p_X9_denied a0 ((2 : Int32)) q119.2).bind fun q121 =>
  if q121.1 &&& 1 = q121.1 then some (q121.1, q121.2) else none) else none)
  else
  if (tg q119.2 a0).1 = 8 then ((p_X9_works a0 q119.2).bind fun h120 =>
  p_X9_give_48 FU a0 x1 x2 x3 ((0 : Int32)) h120) else none) else none) else none
set_option maxRecDepth 100000 in
theorem e_X9_give_0 {l : Launch} {D : va_G} {dA : Nat → ClassId} {z : Nat} {sa : Nat → Nat} {Hz : Heap} (E : StrOK qLen qCh l D dA z sa Hz) {h0 fin : AH} {x : Int32}  : ∀ (a0 : Nat) (x1 : Int32) (x2 : Int32) (x3 : Int32) (h : AH), p_X9_give a0 x1 x2 x3 h = some (x, fin) → GM l D dA z sa Hz q_X9_give h0 (some (.int x)) fin 0 [(0, .ref a0), (1, .int x1), (2, .int x2), (3, .int x3)] [] h := by
  intro a0 x1 x2 x3 h hd
  exact step E (is := I_X9_give_0) (pc := 0) (K := (kx 19 (fun la st h => gR la 0 fun a0 => sE st (p_X9_give_19 a0 h)) (kx 25 (fun la st h => gR la 0 fun a0 => gI la 1 fun x1 => gI la 2 fun x2 => gI la 3 fun x3 => sE st (p_X9_give_25 a0 x1 x2 x3 h)) k0))) (FI := FI_X9_give) (FV := FV_X9_give) (FL := fL0) (rt := rtZ) (ft := 19) (by exact hd) ok_X9_give_0 (kx_ok (fun la st h e => by obtain ⟨a0, m_a0, e1⟩ := gR_inv e; obtain ⟨rfl, ez⟩ := sE_inv e1; exact gm_fewer (e_X9_give_19 E  a0 h ez) (mem_cons m_a0 mem_nil)) (kx_ok (fun la st h e => by obtain ⟨a0, m_a0, e1⟩ := gR_inv e; obtain ⟨x1, m_x1, e2⟩ := gI_inv e1; obtain ⟨x2, m_x2, e3⟩ := gI_inv e2; obtain ⟨x3, m_x3, e4⟩ := gI_inv e3; obtain ⟨rfl, ez⟩ := sE_inv e4; exact gm_fewer (e_X9_give_25 E  a0 x1 x2 x3 h ez) (mem_cons m_a0 (mem_cons m_x1 (mem_cons m_x2 (mem_cons m_x3 mem_nil))))) k0_ok)) (FI_X9_give_ok E) (FV_X9_give_ok E) (fL0_ok E) (rtZ_ok rfl)
theorem c_X9_give {l : Launch} {D : va_G} {dA : Nat → ClassId} {z : Nat} {sa : Nat → Nat} {Hz : Heap} (E : StrOK qLen qCh l D dA z sa Hz) {a0 : Nat} {x1 : Int32} {x2 : Int32} {x3 : Int32} {h fin : AH} {x : Int32} (hd : p_X9_give a0 x1 x2 x3 h = some (x, fin)) : CalOK l D dA z sa Hz q_X9_give [.ref a0, .int x1, .int x2, .int x3] h (some (.int x)) fin := calOf (by decide +kernel) (Nat.le_of_ble_eq_true rfl) (e_X9_give_0 E a0 x1 x2 x3 h hd)
def FI_X9_protect : Nat → List Value → AH → Option (Int32 × AH) := (cx 237 (fun As h => sI As fun x0 As => sE As (p_X9_isFrame x0 h)) (cx 201 (fun As h => sR As fun a0 As => sI As fun x1 As => sE As (p_X9_refused a0 x1 h)) (cx 243 (fun As h => sR As fun a0 As => sI As fun x1 As => sE As (p_X9_isRw a0 x1 h)) (cx 291 (fun As h => sR As fun a0 As => sI As fun x1 As => sE As (p_X9_losesW a0 x1 h)) (cx 233 (fun As h => sR As fun a0 As => sI As fun x1 As => sE As (p_X9_good a0 x1 h)) fI0)))))
theorem FI_X9_protect_ok {l : Launch} {D : va_G} {dA : Nat → ClassId} {z : Nat} {sa : Nat → Nat} {Hz : Heap} (E : StrOK qLen qCh l D dA z sa Hz) : ∀ mi As h x h', FI_X9_protect mi As h = some (x, h') → CalOK l D dA z sa Hz (MT mi) As h (some (.int x)) h' := (cxI_ok (fun As h x h2 e => by obtain ⟨_, _, rfl, e0⟩ := sI_inv e; obtain ⟨rfl, ez⟩ := sE_inv e0; exact c_X9_isFrame E ez) ((cxI_ok (fun As h x h2 e => by obtain ⟨_, _, rfl, e0⟩ := sR_inv e; obtain ⟨_, _, rfl, e1⟩ := sI_inv e0; obtain ⟨rfl, ez⟩ := sE_inv e1; exact c_X9_refused E ez) ((cxI_ok (fun As h x h2 e => by obtain ⟨_, _, rfl, e0⟩ := sR_inv e; obtain ⟨_, _, rfl, e1⟩ := sI_inv e0; obtain ⟨rfl, ez⟩ := sE_inv e1; exact c_X9_isRw E ez) ((cxI_ok (fun As h x h2 e => by obtain ⟨_, _, rfl, e0⟩ := sR_inv e; obtain ⟨_, _, rfl, e1⟩ := sI_inv e0; obtain ⟨rfl, ez⟩ := sE_inv e1; exact c_X9_losesW E ez) ((cxI_ok (fun As h x h2 e => by obtain ⟨_, _, rfl, e0⟩ := sR_inv e; obtain ⟨_, _, rfl, e1⟩ := sI_inv e0; obtain ⟨rfl, ez⟩ := sE_inv e1; exact c_X9_good E ez) (fI0_ok E))))))))))
def FV_X9_protect : Nat → List Value → AH → Option (AH) := (cx 239 (fun As h => sR As fun a0 As => sE As (p_X9_works a0 h)) (cx 318 (fun As h => sR As fun a0 As => sE As (p_X9_remembers a0 h)) (cx 232 (fun As h => sR As fun a0 As => sE As (p_X9_remains a0 h)) fV0)))
theorem FV_X9_protect_ok {l : Launch} {D : va_G} {dA : Nat → ClassId} {z : Nat} {sa : Nat → Nat} {Hz : Heap} (E : StrOK qLen qCh l D dA z sa Hz) : ∀ mi As h h', FV_X9_protect mi As h = some h' → CalOK l D dA z sa Hz (MT mi) As h none h' := (cxV_ok (fun As h h2 e => by obtain ⟨_, _, rfl, e0⟩ := sR_inv e; obtain ⟨rfl, ez⟩ := sE_inv e0; exact c_X9_works E ez) ((cxV_ok (fun As h h2 e => by obtain ⟨_, _, rfl, e0⟩ := sR_inv e; obtain ⟨rfl, ez⟩ := sE_inv e0; exact c_X9_remembers E ez) ((cxV_ok (fun As h h2 e => by obtain ⟨_, _, rfl, e0⟩ := sR_inv e; obtain ⟨rfl, ez⟩ := sE_inv e0; exact c_X9_remains E ez) (fV0_ok E))))))
def I_X9_protect_19 : List AI := [(.aload_n 0, 1, [], 0), (.iconst 1, 1, [], 1), (.invokevirtual 39, 3, [1, 201, 2, 8, 1481], 0), (.ireturn, 1, [], 0)]
theorem ok_X9_protect_19 : vBL MT qLen qCh false q_X9_protect.2.2.2.2.1 q_X9_protect.2.2.2.2.2.1 q_X9_protect.2.2.1 q_X9_protect.1.cls q_X9_protect.1.name q_X9_protect.2.1 0 19 I_X9_protect_19 = true := by decide +kernel
def p_X9_protect_19 (a0 : Nat) (h : AH) : Option (Int32 × AH) :=
  if (tg h a0).1 = 8 then ((p_X9_refused a0 ((1 : Int32)) h).bind fun q101 =>
  some (q101.1, q101.2)) else none
set_option maxRecDepth 100000 in
theorem e_X9_protect_19 {l : Launch} {D : va_G} {dA : Nat → ClassId} {z : Nat} {sa : Nat → Nat} {Hz : Heap} (E : StrOK qLen qCh l D dA z sa Hz) {h0 fin : AH} {x : Int32}  : ∀ (a0 : Nat) (h : AH), p_X9_protect_19 a0 h = some (x, fin) → GM l D dA z sa Hz q_X9_protect h0 (some (.int x)) fin 19 [(0, .ref a0)] [] h := by
  intro a0 h hd
  exact step E (is := I_X9_protect_19) (pc := 19) (K := k0) (FI := FI_X9_protect) (FV := FV_X9_protect) (FL := fL0) (rt := rtI) (ft := 0) (by exact hd) ok_X9_protect_19 k0_ok (FI_X9_protect_ok E) (FV_X9_protect_ok E) (fL0_ok E) (rtI_ok rfl)
def I_X9_protect_43 : List AI := [(.aload_n 0, 1, [], 0), (.invokevirtual 480, 3, [2, 318, 1, 8, 2030], 0), (.aload_n 0, 1, [], 0), (.getfield 21, 3, [8, 16, 2, 1361], 0), (.sipush 144, 3, [], 144), (.dup2, 1, [], 0), (.iaload, 1, [], 0), (.iconst 1, 1, [], 1), (.iload_n 1, 1, [], 0), (.ishl, 1, [], 0), (.iconst (-1), 1, [], (-1)), (.ixor, 1, [], 0), (.iand, 1, [], 0), (.iastore, 1, [], 0), (.aload_n 0, 1, [], 0), (.iload_n 1, 1, [], 0), (.invokevirtual 362, 3, [1, 291, 2, 8, 1935], 0), (.istore_n 2, 1, [], 0), (.aload_n 0, 1, [], 0), (.invokevirtual 270, 3, [2, 232, 1, 8, 1690], 0), (.aload_n 0, 1, [], 0), (.iload_n 2, 1, [], 0), (.invokevirtual 43, 3, [1, 233, 2, 8, 1694], 0), (.ireturn, 1, [], 0)]
theorem ok_X9_protect_43 : vBL MT qLen qCh false q_X9_protect.2.2.2.2.1 q_X9_protect.2.2.2.2.2.1 q_X9_protect.2.2.1 q_X9_protect.1.cls q_X9_protect.1.name q_X9_protect.2.1 0 43 I_X9_protect_43 = true := by decide +kernel
def p_X9_protect_43 (a0 : Nat) (x1 : Int32) (h : AH) : Option (Int32 × AH) :=
  if (tg h a0).1 = 8 then ((p_X9_remembers a0 h).bind fun h102 =>
  if (tg h102 a0).1 = 8 then (if inB h102 (rR h102 a0 16) 100 ((144 : Int32)) then (if inB h102 (rR h102 a0 16) 100 ((144 : Int32)) then (let h103 := wI h102 (rR h102 a0 16) ((144 : Int32)).toNatClampNeg ((rI h102 (rR h102 a0 16) ((144 : Int32)).toNatClampNeg) &&& ((((1 : Int32)) <<< (x1 &&& 31)) ^^^ ((-1 : Int32))))
  if (tg h103 a0).1 = 8 then ((p_X9_losesW a0 x1 h103).bind fun q104 =>
  if (tg q104.2 a0).1 = 8 then ((p_X9_remains a0 q104.2).bind fun h105 =>
  if (tg h105 a0).1 = 8 then ((p_X9_good a0 q104.1 h105).bind fun q106 =>
  some (q106.1, q106.2)) else none) else none) else none) else none) else none) else none) else none
set_option maxRecDepth 100000 in
theorem e_X9_protect_43 {l : Launch} {D : va_G} {dA : Nat → ClassId} {z : Nat} {sa : Nat → Nat} {Hz : Heap} (E : StrOK qLen qCh l D dA z sa Hz) {h0 fin : AH} {x : Int32}  : ∀ (a0 : Nat) (x1 : Int32) (h : AH), p_X9_protect_43 a0 x1 h = some (x, fin) → GM l D dA z sa Hz q_X9_protect h0 (some (.int x)) fin 43 [(0, .ref a0), (1, .int x1)] [] h := by
  intro a0 x1 h hd
  exact step E (is := I_X9_protect_43) (pc := 43) (K := k0) (FI := FI_X9_protect) (FV := FV_X9_protect) (FL := fL0) (rt := rtI) (ft := 0) (by exact hd) ok_X9_protect_43 k0_ok (FI_X9_protect_ok E) (FV_X9_protect_ok E) (fL0_ok E) (rtI_ok rfl)
def I_X9_protect_25 : List AI := [(.aload_n 0, 1, [], 0), (.invokevirtual 398, 3, [2, 239, 1, 8, 1717], 0), (.aload_n 0, 1, [], 0), (.iload_n 1, 1, [], 0), (.invokevirtual 341, 3, [1, 243, 2, 8, 1733], 0), (.ifCond .ne 9, 3, [43], 0), (.aload_n 0, 1, [], 0), (.iconst 5, 1, [], 5), (.invokevirtual 39, 3, [1, 201, 2, 8, 1481], 0), (.ireturn, 1, [], 0)]
theorem ok_X9_protect_25 : vBL MT qLen qCh false q_X9_protect.2.2.2.2.1 q_X9_protect.2.2.2.2.2.1 q_X9_protect.2.2.1 q_X9_protect.1.cls q_X9_protect.1.name q_X9_protect.2.1 0 25 I_X9_protect_25 = true := by decide +kernel
def p_X9_protect_25 (a0 : Nat) (x1 : Int32) (h : AH) : Option (Int32 × AH) :=
  if (tg h a0).1 = 8 then ((p_X9_works a0 h).bind fun h107 =>
  if (tg h107 a0).1 = 8 then ((p_X9_isRw a0 x1 h107).bind fun q108 =>
  if q108.1 = 0 then (if (tg q108.2 a0).1 = 8 then ((p_X9_refused a0 ((5 : Int32)) q108.2).bind fun q114 =>
  some (q114.1, q114.2)) else none)
  else
  if (tg q108.2 a0).1 = 8 then ((p_X9_remembers a0 q108.2).bind fun h109 =>
  if (tg h109 a0).1 = 8 then (if inB h109 (rR h109 a0 16) 100 ((144 : Int32)) then (if inB h109 (rR h109 a0 16) 100 ((144 : Int32)) then (let h110 := wI h109 (rR h109 a0 16) ((144 : Int32)).toNatClampNeg ((rI h109 (rR h109 a0 16) ((144 : Int32)).toNatClampNeg) &&& ((((1 : Int32)) <<< (x1 &&& 31)) ^^^ ((-1 : Int32))))
  if (tg h110 a0).1 = 8 then ((p_X9_losesW a0 x1 h110).bind fun q111 =>
  if (tg q111.2 a0).1 = 8 then ((p_X9_remains a0 q111.2).bind fun h112 =>
  if (tg h112 a0).1 = 8 then ((p_X9_good a0 q111.1 h112).bind fun q113 =>
  some (q113.1, q113.2)) else none) else none) else none) else none) else none) else none) else none) else none) else none
set_option maxRecDepth 100000 in
theorem e_X9_protect_25 {l : Launch} {D : va_G} {dA : Nat → ClassId} {z : Nat} {sa : Nat → Nat} {Hz : Heap} (E : StrOK qLen qCh l D dA z sa Hz) {h0 fin : AH} {x : Int32}  : ∀ (a0 : Nat) (x1 : Int32) (h : AH), p_X9_protect_25 a0 x1 h = some (x, fin) → GM l D dA z sa Hz q_X9_protect h0 (some (.int x)) fin 25 [(0, .ref a0), (1, .int x1)] [] h := by
  intro a0 x1 h hd
  exact step E (is := I_X9_protect_25) (pc := 25) (K := (kx 43 (fun la st h => gR la 0 fun a0 => gI la 1 fun x1 => sE st (p_X9_protect_43 a0 x1 h)) k0)) (FI := FI_X9_protect) (FV := FV_X9_protect) (FL := fL0) (rt := rtI) (ft := 0) (by exact hd) ok_X9_protect_25 (kx_ok (fun la st h e => by obtain ⟨a0, m_a0, e1⟩ := gR_inv e; obtain ⟨x1, m_x1, e2⟩ := gI_inv e1; obtain ⟨rfl, ez⟩ := sE_inv e2; exact gm_fewer (e_X9_protect_43 E  a0 x1 h ez) (mem_cons m_a0 (mem_cons m_x1 mem_nil))) k0_ok) (FI_X9_protect_ok E) (FV_X9_protect_ok E) (fL0_ok E) (rtI_ok rfl)
def I_X9_protect_0 : List AI := [(.aload_n 0, 1, [], 0), (.iconst 0, 1, [], 0), (.putfield 33, 3, [8, 0, 0, 1345], 0), (.aload_n 0, 1, [], 0), (.getfield 265, 3, [8, 3, 2, 1348], 0), (.ifnull 10, 3, [19], 0), (.iload_n 1, 1, [], 0), (.invokestatic 395, 3, [1, 237, 1, 1710], 0), (.ifCond .ne 9, 3, [25], 0)]
theorem ok_X9_protect_0 : vBL MT qLen qCh false q_X9_protect.2.2.2.2.1 q_X9_protect.2.2.2.2.2.1 q_X9_protect.2.2.1 q_X9_protect.1.cls q_X9_protect.1.name q_X9_protect.2.1 19 0 I_X9_protect_0 = true := by decide +kernel
def p_X9_protect (a0 : Nat) (x1 : Int32) (h : AH) : Option (Int32 × AH) :=
  if (tg h a0).1 = 8 then (let h115 := wI h a0 0 ((0 : Int32))
  if (tg h115 a0).1 = 8 then (if (rR h115 a0 3) = 0 then (p_X9_protect_19 a0 h115)
  else
  (p_X9_isFrame x1 h115).bind fun q116 =>
  if q116.1 = 0 then (p_X9_protect_19 a0 q116.2)
  else
  if (tg q116.2 a0).1 = 8 then ((p_X9_works a0 q116.2).bind fun h117 =>
  if (tg h117 a0).1 = 8 then ((p_X9_isRw a0 x1 h117).bind fun q118 =>
  if q118.1 = 0 then (if (tg q118.2 a0).1 = 8 then ((p_X9_refused a0 ((5 : Int32)) q118.2).bind fun q124 =>
  some (q124.1, q124.2)) else none)
  else
  if (tg q118.2 a0).1 = 8 then ((p_X9_remembers a0 q118.2).bind fun h119 =>
  if (tg h119 a0).1 = 8 then (if inB h119 (rR h119 a0 16) 100 ((144 : Int32)) then (if inB h119 (rR h119 a0 16) 100 ((144 : Int32)) then (let h120 := wI h119 (rR h119 a0 16) ((144 : Int32)).toNatClampNeg ((rI h119 (rR h119 a0 16) ((144 : Int32)).toNatClampNeg) &&& ((((1 : Int32)) <<< (x1 &&& 31)) ^^^ ((-1 : Int32))))
  if (tg h120 a0).1 = 8 then ((p_X9_losesW a0 x1 h120).bind fun q121 =>
  if (tg q121.2 a0).1 = 8 then ((p_X9_remains a0 q121.2).bind fun h122 =>
  if (tg h122 a0).1 = 8 then ((p_X9_good a0 q121.1 h122).bind fun q123 =>
  some (q123.1, q123.2)) else none) else none) else none) else none) else none) else none) else none) else none) else none) else none) else none
set_option maxRecDepth 100000 in
theorem e_X9_protect_0 {l : Launch} {D : va_G} {dA : Nat → ClassId} {z : Nat} {sa : Nat → Nat} {Hz : Heap} (E : StrOK qLen qCh l D dA z sa Hz) {h0 fin : AH} {x : Int32}  : ∀ (a0 : Nat) (x1 : Int32) (h : AH), p_X9_protect a0 x1 h = some (x, fin) → GM l D dA z sa Hz q_X9_protect h0 (some (.int x)) fin 0 [(0, .ref a0), (1, .int x1)] [] h := by
  intro a0 x1 h hd
  exact step E (is := I_X9_protect_0) (pc := 0) (K := (kx 19 (fun la st h => gR la 0 fun a0 => sE st (p_X9_protect_19 a0 h)) (kx 25 (fun la st h => gR la 0 fun a0 => gI la 1 fun x1 => sE st (p_X9_protect_25 a0 x1 h)) k0))) (FI := FI_X9_protect) (FV := FV_X9_protect) (FL := fL0) (rt := rtI) (ft := 19) (by exact hd) ok_X9_protect_0 (kx_ok (fun la st h e => by obtain ⟨a0, m_a0, e1⟩ := gR_inv e; obtain ⟨rfl, ez⟩ := sE_inv e1; exact gm_fewer (e_X9_protect_19 E  a0 h ez) (mem_cons m_a0 mem_nil)) (kx_ok (fun la st h e => by obtain ⟨a0, m_a0, e1⟩ := gR_inv e; obtain ⟨x1, m_x1, e2⟩ := gI_inv e1; obtain ⟨rfl, ez⟩ := sE_inv e2; exact gm_fewer (e_X9_protect_25 E  a0 x1 h ez) (mem_cons m_a0 (mem_cons m_x1 mem_nil))) k0_ok)) (FI_X9_protect_ok E) (FV_X9_protect_ok E) (fL0_ok E) (rtI_ok rfl)
theorem c_X9_protect {l : Launch} {D : va_G} {dA : Nat → ClassId} {z : Nat} {sa : Nat → Nat} {Hz : Heap} (E : StrOK qLen qCh l D dA z sa Hz) {a0 : Nat} {x1 : Int32} {h fin : AH} {x : Int32} (hd : p_X9_protect a0 x1 h = some (x, fin)) : CalOK l D dA z sa Hz q_X9_protect [.ref a0, .int x1] h (some (.int x)) fin := calOf (by decide +kernel) (Nat.le_of_ble_eq_true rfl) (e_X9_protect_0 E a0 x1 h hd)
def FI_X9_clean : Nat → List Value → AH → Option (Int32 × AH) := (cx 237 (fun As h => sI As fun x0 As => sE As (p_X9_isFrame x0 h)) (cx 201 (fun As h => sR As fun a0 As => sI As fun x1 As => sE As (p_X9_refused a0 x1 h)) (cx 228 (fun As h => sI As fun x0 As => sI As fun x1 As => sE As (p_X9_bit x0 x1 h)) (cx 291 (fun As h => sR As fun a0 As => sI As fun x1 As => sE As (p_X9_losesW a0 x1 h)) (cx 233 (fun As h => sR As fun a0 As => sI As fun x1 As => sE As (p_X9_good a0 x1 h)) fI0)))))
theorem FI_X9_clean_ok {l : Launch} {D : va_G} {dA : Nat → ClassId} {z : Nat} {sa : Nat → Nat} {Hz : Heap} (E : StrOK qLen qCh l D dA z sa Hz) : ∀ mi As h x h', FI_X9_clean mi As h = some (x, h') → CalOK l D dA z sa Hz (MT mi) As h (some (.int x)) h' := (cxI_ok (fun As h x h2 e => by obtain ⟨_, _, rfl, e0⟩ := sI_inv e; obtain ⟨rfl, ez⟩ := sE_inv e0; exact c_X9_isFrame E ez) ((cxI_ok (fun As h x h2 e => by obtain ⟨_, _, rfl, e0⟩ := sR_inv e; obtain ⟨_, _, rfl, e1⟩ := sI_inv e0; obtain ⟨rfl, ez⟩ := sE_inv e1; exact c_X9_refused E ez) ((cxI_ok (fun As h x h2 e => by obtain ⟨_, _, rfl, e0⟩ := sI_inv e; obtain ⟨_, _, rfl, e1⟩ := sI_inv e0; obtain ⟨rfl, ez⟩ := sE_inv e1; exact c_X9_bit E ez) ((cxI_ok (fun As h x h2 e => by obtain ⟨_, _, rfl, e0⟩ := sR_inv e; obtain ⟨_, _, rfl, e1⟩ := sI_inv e0; obtain ⟨rfl, ez⟩ := sE_inv e1; exact c_X9_losesW E ez) ((cxI_ok (fun As h x h2 e => by obtain ⟨_, _, rfl, e0⟩ := sR_inv e; obtain ⟨_, _, rfl, e1⟩ := sI_inv e0; obtain ⟨rfl, ez⟩ := sE_inv e1; exact c_X9_good E ez) (fI0_ok E))))))))))
def FV_X9_clean : Nat → List Value → AH → Option (AH) := (cx 318 (fun As h => sR As fun a0 As => sE As (p_X9_remembers a0 h)) (cx 232 (fun As h => sR As fun a0 As => sE As (p_X9_remains a0 h)) fV0))
theorem FV_X9_clean_ok {l : Launch} {D : va_G} {dA : Nat → ClassId} {z : Nat} {sa : Nat → Nat} {Hz : Heap} (E : StrOK qLen qCh l D dA z sa Hz) : ∀ mi As h h', FV_X9_clean mi As h = some h' → CalOK l D dA z sa Hz (MT mi) As h none h' := (cxV_ok (fun As h h2 e => by obtain ⟨_, _, rfl, e0⟩ := sR_inv e; obtain ⟨rfl, ez⟩ := sE_inv e0; exact c_X9_remembers E ez) ((cxV_ok (fun As h h2 e => by obtain ⟨_, _, rfl, e0⟩ := sR_inv e; obtain ⟨rfl, ez⟩ := sE_inv e0; exact c_X9_remains E ez) (fV0_ok E))))
def I_X9_clean_19 : List AI := [(.aload_n 0, 1, [], 0), (.iconst 1, 1, [], 1), (.invokevirtual 39, 3, [1, 201, 2, 8, 1481], 0), (.ireturn, 1, [], 0)]
theorem ok_X9_clean_19 : vBL MT qLen qCh false q_X9_clean.2.2.2.2.1 q_X9_clean.2.2.2.2.2.1 q_X9_clean.2.2.1 q_X9_clean.1.cls q_X9_clean.1.name q_X9_clean.2.1 0 19 I_X9_clean_19 = true := by decide +kernel
def p_X9_clean_19 (a0 : Nat) (h : AH) : Option (Int32 × AH) :=
  if (tg h a0).1 = 8 then ((p_X9_refused a0 ((1 : Int32)) h).bind fun q101 =>
  some (q101.1, q101.2)) else none
set_option maxRecDepth 100000 in
theorem e_X9_clean_19 {l : Launch} {D : va_G} {dA : Nat → ClassId} {z : Nat} {sa : Nat → Nat} {Hz : Heap} (E : StrOK qLen qCh l D dA z sa Hz) {h0 fin : AH} {x : Int32}  : ∀ (a0 : Nat) (h : AH), p_X9_clean_19 a0 h = some (x, fin) → GM l D dA z sa Hz q_X9_clean h0 (some (.int x)) fin 19 [(0, .ref a0)] [] h := by
  intro a0 h hd
  exact step E (is := I_X9_clean_19) (pc := 19) (K := k0) (FI := FI_X9_clean) (FV := FV_X9_clean) (FL := fL0) (rt := rtI) (ft := 0) (by exact hd) ok_X9_clean_19 k0_ok (FI_X9_clean_ok E) (FV_X9_clean_ok E) (fL0_ok E) (rtI_ok rfl)
def I_X9_clean_49 : List AI := [(.istore_n 2, 1, [], 0), (.aload_n 0, 1, [], 0), (.getfield 21, 3, [8, 16, 2, 1361], 0), (.sipush 145, 3, [], 145), (.dup2, 1, [], 0), (.iaload, 1, [], 0), (.iconst 1, 1, [], 1), (.iload_n 1, 1, [], 0), (.ishl, 1, [], 0), (.iconst (-1), 1, [], (-1)), (.ixor, 1, [], 0), (.iand, 1, [], 0), (.iastore, 1, [], 0), (.aload_n 0, 1, [], 0), (.iload_n 1, 1, [], 0), (.invokevirtual 362, 3, [1, 291, 2, 8, 1935], 0), (.pop, 1, [], 0), (.aload_n 0, 1, [], 0), (.invokevirtual 270, 3, [2, 232, 1, 8, 1690], 0), (.aload_n 0, 1, [], 0), (.iload_n 2, 1, [], 0), (.invokevirtual 43, 3, [1, 233, 2, 8, 1694], 0), (.ireturn, 1, [], 0)]
theorem ok_X9_clean_49 : vBL MT qLen qCh false q_X9_clean.2.2.2.2.1 q_X9_clean.2.2.2.2.2.1 q_X9_clean.2.2.1 q_X9_clean.1.cls q_X9_clean.1.name q_X9_clean.2.1 0 49 I_X9_clean_49 = true := by decide +kernel
def p_X9_clean_49 (a0 : Nat) (x1 : Int32) (y0 : Int32) (h : AH) : Option (Int32 × AH) :=
  if (tg h a0).1 = 8 then (if inB h (rR h a0 16) 100 ((145 : Int32)) then (if inB h (rR h a0 16) 100 ((145 : Int32)) then (let h102 := wI h (rR h a0 16) ((145 : Int32)).toNatClampNeg ((rI h (rR h a0 16) ((145 : Int32)).toNatClampNeg) &&& ((((1 : Int32)) <<< (x1 &&& 31)) ^^^ ((-1 : Int32))))
  if (tg h102 a0).1 = 8 then ((p_X9_losesW a0 x1 h102).bind fun q103 =>
  if (tg q103.2 a0).1 = 8 then ((p_X9_remains a0 q103.2).bind fun h104 =>
  if (tg h104 a0).1 = 8 then ((p_X9_good a0 y0 h104).bind fun q105 =>
  some (q105.1, q105.2)) else none) else none) else none) else none) else none) else none
set_option maxRecDepth 100000 in
theorem e_X9_clean_49 {l : Launch} {D : va_G} {dA : Nat → ClassId} {z : Nat} {sa : Nat → Nat} {Hz : Heap} (E : StrOK qLen qCh l D dA z sa Hz) {h0 fin : AH} {x : Int32}  : ∀ (a0 : Nat) (x1 : Int32) (y0 : Int32) (h : AH), p_X9_clean_49 a0 x1 y0 h = some (x, fin) → GM l D dA z sa Hz q_X9_clean h0 (some (.int x)) fin 49 [(0, .ref a0), (1, .int x1)] [.int y0] h := by
  intro a0 x1 y0 h hd
  exact step E (is := I_X9_clean_49) (pc := 49) (K := k0) (FI := FI_X9_clean) (FV := FV_X9_clean) (FL := fL0) (rt := rtI) (ft := 0) (by exact hd) ok_X9_clean_49 k0_ok (FI_X9_clean_ok E) (FV_X9_clean_ok E) (fL0_ok E) (rtI_ok rfl)
def I_X9_clean_48 : List AI := [(.iconst 0, 1, [], 0)]
theorem ok_X9_clean_48 : vBL MT qLen qCh false q_X9_clean.2.2.2.2.1 q_X9_clean.2.2.2.2.2.1 q_X9_clean.2.2.1 q_X9_clean.1.cls q_X9_clean.1.name q_X9_clean.2.1 49 48 I_X9_clean_48 = true := by decide +kernel
def p_X9_clean_48 (a0 : Nat) (x1 : Int32) (h : AH) : Option (Int32 × AH) :=
  p_X9_clean_49 a0 x1 ((0 : Int32)) h
set_option maxRecDepth 100000 in
theorem e_X9_clean_48 {l : Launch} {D : va_G} {dA : Nat → ClassId} {z : Nat} {sa : Nat → Nat} {Hz : Heap} (E : StrOK qLen qCh l D dA z sa Hz) {h0 fin : AH} {x : Int32}  : ∀ (a0 : Nat) (x1 : Int32) (h : AH), p_X9_clean_48 a0 x1 h = some (x, fin) → GM l D dA z sa Hz q_X9_clean h0 (some (.int x)) fin 48 [(0, .ref a0), (1, .int x1)] [] h := by
  intro a0 x1 h hd
  exact step E (is := I_X9_clean_48) (pc := 48) (K := (kx 49 (fun la st h => gR la 0 fun a0 => gI la 1 fun x1 => sI st fun y0 st => sE st (p_X9_clean_49 a0 x1 y0 h)) k0)) (FI := FI_X9_clean) (FV := FV_X9_clean) (FL := fL0) (rt := rtI) (ft := 49) (by exact hd) ok_X9_clean_48 (kx_ok (fun la st h e => by obtain ⟨a0, m_a0, e1⟩ := gR_inv e; obtain ⟨x1, m_x1, e2⟩ := gI_inv e1; obtain ⟨y0, _, rfl, e3⟩ := sI_inv e2; obtain ⟨rfl, ez⟩ := sE_inv e3; exact gm_fewer (e_X9_clean_49 E  a0 x1 y0 h ez) (mem_cons m_a0 (mem_cons m_x1 mem_nil))) k0_ok) (FI_X9_clean_ok E) (FV_X9_clean_ok E) (fL0_ok E) (rtI_ok rfl)
def I_X9_clean_25 : List AI := [(.aload_n 0, 1, [], 0), (.invokevirtual 480, 3, [2, 318, 1, 8, 2030], 0), (.aload_n 0, 1, [], 0), (.getfield 21, 3, [8, 16, 2, 1361], 0), (.sipush 145, 3, [], 145), (.iaload, 1, [], 0), (.iload_n 1, 1, [], 0), (.invokestatic 307, 3, [1, 228, 2, 1679], 0), (.ifCond .eq 7, 3, [48], 0), (.iconst 1, 1, [], 1), (.goto 4, 3, [49], 0)]
theorem ok_X9_clean_25 : vBL MT qLen qCh false q_X9_clean.2.2.2.2.1 q_X9_clean.2.2.2.2.2.1 q_X9_clean.2.2.1 q_X9_clean.1.cls q_X9_clean.1.name q_X9_clean.2.1 0 25 I_X9_clean_25 = true := by decide +kernel
def p_X9_clean_25 (a0 : Nat) (x1 : Int32) (h : AH) : Option (Int32 × AH) :=
  if (tg h a0).1 = 8 then ((p_X9_remembers a0 h).bind fun h106 =>
  if (tg h106 a0).1 = 8 then (if inB h106 (rR h106 a0 16) 100 ((145 : Int32)) then ((p_X9_bit (rI h106 (rR h106 a0 16) ((145 : Int32)).toNatClampNeg) x1 h106).bind fun q107 =>
  if q107.1 = 0 then (p_X9_clean_49 a0 x1 ((0 : Int32)) q107.2)
  else
  p_X9_clean_49 a0 x1 ((1 : Int32)) q107.2) else none) else none) else none
set_option maxRecDepth 100000 in
theorem e_X9_clean_25 {l : Launch} {D : va_G} {dA : Nat → ClassId} {z : Nat} {sa : Nat → Nat} {Hz : Heap} (E : StrOK qLen qCh l D dA z sa Hz) {h0 fin : AH} {x : Int32}  : ∀ (a0 : Nat) (x1 : Int32) (h : AH), p_X9_clean_25 a0 x1 h = some (x, fin) → GM l D dA z sa Hz q_X9_clean h0 (some (.int x)) fin 25 [(0, .ref a0), (1, .int x1)] [] h := by
  intro a0 x1 h hd
  exact step E (is := I_X9_clean_25) (pc := 25) (K := (kx 48 (fun la st h => gR la 0 fun a0 => gI la 1 fun x1 => sE st (p_X9_clean_48 a0 x1 h)) (kx 49 (fun la st h => gR la 0 fun a0 => gI la 1 fun x1 => sI st fun y0 st => sE st (p_X9_clean_49 a0 x1 y0 h)) k0))) (FI := FI_X9_clean) (FV := FV_X9_clean) (FL := fL0) (rt := rtI) (ft := 0) (by exact hd) ok_X9_clean_25 (kx_ok (fun la st h e => by obtain ⟨a0, m_a0, e1⟩ := gR_inv e; obtain ⟨x1, m_x1, e2⟩ := gI_inv e1; obtain ⟨rfl, ez⟩ := sE_inv e2; exact gm_fewer (e_X9_clean_48 E  a0 x1 h ez) (mem_cons m_a0 (mem_cons m_x1 mem_nil))) (kx_ok (fun la st h e => by obtain ⟨a0, m_a0, e1⟩ := gR_inv e; obtain ⟨x1, m_x1, e2⟩ := gI_inv e1; obtain ⟨y0, _, rfl, e3⟩ := sI_inv e2; obtain ⟨rfl, ez⟩ := sE_inv e3; exact gm_fewer (e_X9_clean_49 E  a0 x1 y0 h ez) (mem_cons m_a0 (mem_cons m_x1 mem_nil))) k0_ok)) (FI_X9_clean_ok E) (FV_X9_clean_ok E) (fL0_ok E) (rtI_ok rfl)
def I_X9_clean_0 : List AI := [(.aload_n 0, 1, [], 0), (.iconst 0, 1, [], 0), (.putfield 33, 3, [8, 0, 0, 1345], 0), (.aload_n 0, 1, [], 0), (.getfield 265, 3, [8, 3, 2, 1348], 0), (.ifnull 10, 3, [19], 0), (.iload_n 1, 1, [], 0), (.invokestatic 395, 3, [1, 237, 1, 1710], 0), (.ifCond .ne 9, 3, [25], 0)]
theorem ok_X9_clean_0 : vBL MT qLen qCh false q_X9_clean.2.2.2.2.1 q_X9_clean.2.2.2.2.2.1 q_X9_clean.2.2.1 q_X9_clean.1.cls q_X9_clean.1.name q_X9_clean.2.1 19 0 I_X9_clean_0 = true := by decide +kernel
def p_X9_clean (a0 : Nat) (x1 : Int32) (h : AH) : Option (Int32 × AH) :=
  if (tg h a0).1 = 8 then (let h108 := wI h a0 0 ((0 : Int32))
  if (tg h108 a0).1 = 8 then (if (rR h108 a0 3) = 0 then (p_X9_clean_19 a0 h108)
  else
  (p_X9_isFrame x1 h108).bind fun q109 =>
  if q109.1 = 0 then (p_X9_clean_19 a0 q109.2)
  else
  if (tg q109.2 a0).1 = 8 then ((p_X9_remembers a0 q109.2).bind fun h110 =>
  if (tg h110 a0).1 = 8 then (if inB h110 (rR h110 a0 16) 100 ((145 : Int32)) then ((p_X9_bit (rI h110 (rR h110 a0 16) ((145 : Int32)).toNatClampNeg) x1 h110).bind fun q111 =>
  if q111.1 = 0 then (p_X9_clean_49 a0 x1 ((0 : Int32)) q111.2)
  else
  p_X9_clean_49 a0 x1 ((1 : Int32)) q111.2) else none) else none) else none) else none) else none
set_option maxRecDepth 100000 in
theorem e_X9_clean_0 {l : Launch} {D : va_G} {dA : Nat → ClassId} {z : Nat} {sa : Nat → Nat} {Hz : Heap} (E : StrOK qLen qCh l D dA z sa Hz) {h0 fin : AH} {x : Int32}  : ∀ (a0 : Nat) (x1 : Int32) (h : AH), p_X9_clean a0 x1 h = some (x, fin) → GM l D dA z sa Hz q_X9_clean h0 (some (.int x)) fin 0 [(0, .ref a0), (1, .int x1)] [] h := by
  intro a0 x1 h hd
  exact step E (is := I_X9_clean_0) (pc := 0) (K := (kx 19 (fun la st h => gR la 0 fun a0 => sE st (p_X9_clean_19 a0 h)) (kx 25 (fun la st h => gR la 0 fun a0 => gI la 1 fun x1 => sE st (p_X9_clean_25 a0 x1 h)) k0))) (FI := FI_X9_clean) (FV := FV_X9_clean) (FL := fL0) (rt := rtI) (ft := 19) (by exact hd) ok_X9_clean_0 (kx_ok (fun la st h e => by obtain ⟨a0, m_a0, e1⟩ := gR_inv e; obtain ⟨rfl, ez⟩ := sE_inv e1; exact gm_fewer (e_X9_clean_19 E  a0 h ez) (mem_cons m_a0 mem_nil)) (kx_ok (fun la st h e => by obtain ⟨a0, m_a0, e1⟩ := gR_inv e; obtain ⟨x1, m_x1, e2⟩ := gI_inv e1; obtain ⟨rfl, ez⟩ := sE_inv e2; exact gm_fewer (e_X9_clean_25 E  a0 x1 h ez) (mem_cons m_a0 (mem_cons m_x1 mem_nil))) k0_ok)) (FI_X9_clean_ok E) (FV_X9_clean_ok E) (fL0_ok E) (rtI_ok rfl)
theorem c_X9_clean {l : Launch} {D : va_G} {dA : Nat → ClassId} {z : Nat} {sa : Nat → Nat} {Hz : Heap} (E : StrOK qLen qCh l D dA z sa Hz) {a0 : Nat} {x1 : Int32} {h fin : AH} {x : Int32} (hd : p_X9_clean a0 x1 h = some (x, fin)) : CalOK l D dA z sa Hz q_X9_clean [.ref a0, .int x1] h (some (.int x)) fin := calOf (by decide +kernel) (Nat.le_of_ble_eq_true rfl) (e_X9_clean_0 E a0 x1 h hd)
def FI_X9_undo : Nat → List Value → AH → Option (Int32 × AH) := (cx 329 (fun As h => sR As fun a0 As => sI As fun x1 As => sE As (p_X9_denied a0 x1 h)) (cx 330 (fun As h => sR As fun a0 As => sE As (p_X9_granted a0 h)) fI0))
theorem FI_X9_undo_ok {l : Launch} {D : va_G} {dA : Nat → ClassId} {z : Nat} {sa : Nat → Nat} {Hz : Heap} (E : StrOK qLen qCh l D dA z sa Hz) : ∀ mi As h x h', FI_X9_undo mi As h = some (x, h') → CalOK l D dA z sa Hz (MT mi) As h (some (.int x)) h' := (cxI_ok (fun As h x h2 e => by obtain ⟨_, _, rfl, e0⟩ := sR_inv e; obtain ⟨_, _, rfl, e1⟩ := sI_inv e0; obtain ⟨rfl, ez⟩ := sE_inv e1; exact c_X9_denied E ez) ((cxI_ok (fun As h x h2 e => by obtain ⟨_, _, rfl, e0⟩ := sR_inv e; obtain ⟨rfl, ez⟩ := sE_inv e0; exact c_X9_granted E ez) (fI0_ok E))))
def I_X9_undo_19 : List AI := [(.aload_n 0, 1, [], 0), (.bipush 6, 2, [], 6), (.invokevirtual 496, 3, [1, 329, 2, 8, 2074], 0), (.ireturn, 1, [], 0)]
theorem ok_X9_undo_19 : vBL MT qLen qCh false q_X9_undo.2.2.2.2.1 q_X9_undo.2.2.2.2.2.1 q_X9_undo.2.2.1 q_X9_undo.1.cls q_X9_undo.1.name q_X9_undo.2.1 0 19 I_X9_undo_19 = true := by decide +kernel
def p_X9_undo_19 (a0 : Nat) (h : AH) : Option (Int32 × AH) :=
  if (tg h a0).1 = 8 then ((p_X9_denied a0 ((6 : Int32)) h).bind fun q101 =>
  if q101.1 &&& 1 = q101.1 then some (q101.1, q101.2) else none) else none
set_option maxRecDepth 100000 in
theorem e_X9_undo_19 {l : Launch} {D : va_G} {dA : Nat → ClassId} {z : Nat} {sa : Nat → Nat} {Hz : Heap} (E : StrOK qLen qCh l D dA z sa Hz) {h0 fin : AH} {x : Int32}  : ∀ (a0 : Nat) (h : AH), p_X9_undo_19 a0 h = some (x, fin) → GM l D dA z sa Hz q_X9_undo h0 (some (.int x)) fin 19 [(0, .ref a0)] [] h := by
  intro a0 h hd
  exact step E (is := I_X9_undo_19) (pc := 19) (K := k0) (FI := FI_X9_undo) (FV := fV0) (FL := fL0) (rt := rtZ) (ft := 0) (by exact hd) ok_X9_undo_19 k0_ok (FI_X9_undo_ok E) (fV0_ok E) (fL0_ok E) (rtZ_ok rfl)
def I_X9_undo_72 : List AI := [(.aload_n 0, 1, [], 0), (.invokevirtual 498, 3, [1, 330, 1, 8, 2078], 0), (.ireturn, 1, [], 0)]
theorem ok_X9_undo_72 : vBL MT qLen qCh false q_X9_undo.2.2.2.2.1 q_X9_undo.2.2.2.2.2.1 q_X9_undo.2.2.1 q_X9_undo.1.cls q_X9_undo.1.name q_X9_undo.2.1 0 72 I_X9_undo_72 = true := by decide +kernel
def p_X9_undo_72 (a0 : Nat) (h : AH) : Option (Int32 × AH) :=
  if (tg h a0).1 = 8 then ((p_X9_granted a0 h).bind fun q102 =>
  if q102.1 &&& 1 = q102.1 then some (q102.1, q102.2) else none) else none
set_option maxRecDepth 100000 in
theorem e_X9_undo_72 {l : Launch} {D : va_G} {dA : Nat → ClassId} {z : Nat} {sa : Nat → Nat} {Hz : Heap} (E : StrOK qLen qCh l D dA z sa Hz) {h0 fin : AH} {x : Int32}  : ∀ (a0 : Nat) (h : AH), p_X9_undo_72 a0 h = some (x, fin) → GM l D dA z sa Hz q_X9_undo h0 (some (.int x)) fin 72 [(0, .ref a0)] [] h := by
  intro a0 h hd
  exact step E (is := I_X9_undo_72) (pc := 72) (K := k0) (FI := FI_X9_undo) (FV := fV0) (FL := fL0) (rt := rtZ) (ft := 0) (by exact hd) ok_X9_undo_72 k0_ok (FI_X9_undo_ok E) (fV0_ok E) (fL0_ok E) (rtZ_ok rfl)
def I_X9_undo_38 : List AI := [(.iload_n 1, 1, [], 0), (.sipush 244, 3, [], 244), (.if_icmp .ge 30, 3, [72], 0), (.aload_n 0, 1, [], 0), (.getfield 17, 3, [8, 15, 2, 1360], 0), (.iload_n 1, 1, [], 0), (.aload_n 0, 1, [], 0), (.getfield 24, 3, [8, 17, 2, 1362], 0), (.sipush 244, 3, [], 244), (.aload_n 0, 1, [], 0), (.getfield 273, 3, [8, 19, 0, 1364], 0), (.imul, 1, [], 0), (.iload_n 1, 1, [], 0), (.iadd, 1, [], 0), (.iaload, 1, [], 0), (.iastore, 1, [], 0), (.iinc 1 1, 3, [], 1), (.goto (-31), 3, [38], 0)]
theorem ok_X9_undo_38 : vBL MT qLen qCh false q_X9_undo.2.2.2.2.1 q_X9_undo.2.2.2.2.2.1 q_X9_undo.2.2.1 q_X9_undo.1.cls q_X9_undo.1.name q_X9_undo.2.1 0 38 I_X9_undo_38 = true := by decide +kernel
def p_X9_undo_38 : Nat → Nat → Int32 → AH → Option (Int32 × AH)
  | 0, _, _, _ => none
  | n + 1, a0, x1, h => if x1 < ((244 : Int32)) then (if (tg h a0).1 = 8 then (if (tg h a0).1 = 8 then (if (tg h a0).1 = 8 then (if inB h (rR h a0 17) 100 ((((244 : Int32)) * (rI h a0 19)) + x1) then (if inB h (rR h a0 15) 100 x1 then (let h104 := wI h (rR h a0 15) x1.toNatClampNeg (rI h (rR h a0 17) ((((244 : Int32)) * (rI h a0 19)) + x1).toNatClampNeg)
    p_X9_undo_38 n a0 (x1 + (1 : Int32)) h104) else none) else none) else none) else none) else none)
    else
    if (tg h a0).1 = 8 then ((p_X9_granted a0 h).bind fun q103 =>
    if q103.1 &&& 1 = q103.1 then some (q103.1, q103.2) else none) else none
set_option maxRecDepth 100000 in
theorem e_X9_undo_38 {l : Launch} {D : va_G} {dA : Nat → ClassId} {z : Nat} {sa : Nat → Nat} {Hz : Heap} (E : StrOK qLen qCh l D dA z sa Hz) {h0 fin : AH} {x : Int32}  : ∀ (n : Nat) (a0 : Nat) (x1 : Int32) (h : AH), p_X9_undo_38 n a0 x1 h = some (x, fin) → GM l D dA z sa Hz q_X9_undo h0 (some (.int x)) fin 38 [(0, .ref a0), (1, .int x1)] [] h := by
  intro n
  induction n with
  | zero => intro a0 x1 h hd; exact nomatch hd
  | succ n ih =>
    intro a0 x1 h hd
    exact step E (is := I_X9_undo_38) (pc := 38) (K := (kx 72 (fun la st h => gR la 0 fun a0 => sE st (p_X9_undo_72 a0 h)) (kx 38 (fun la st h => gR la 0 fun a0 => gI la 1 fun x1 => sE st (p_X9_undo_38 n a0 x1 h)) k0))) (FI := FI_X9_undo) (FV := fV0) (FL := fL0) (rt := rtZ) (ft := 0) (by exact hd) ok_X9_undo_38 (kx_ok (fun la st h e => by obtain ⟨a0, m_a0, e1⟩ := gR_inv e; obtain ⟨rfl, ez⟩ := sE_inv e1; exact gm_fewer (e_X9_undo_72 E  a0 h ez) (mem_cons m_a0 mem_nil)) (kx_ok (fun la st h e => by obtain ⟨a0, m_a0, e1⟩ := gR_inv e; obtain ⟨x1, m_x1, e2⟩ := gI_inv e1; obtain ⟨rfl, ez⟩ := sE_inv e2; exact gm_fewer (ih a0 x1 h ez) (mem_cons m_a0 (mem_cons m_x1 mem_nil))) k0_ok)) (FI_X9_undo_ok E) (fV0_ok E) (fL0_ok E) (rtZ_ok rfl)
def I_X9_undo_26 : List AI := [(.aload_n 0, 1, [], 0), (.dup, 1, [], 0), (.getfield 273, 3, [8, 19, 0, 1364], 0), (.iconst 1, 1, [], 1), (.isub, 1, [], 0), (.putfield 273, 3, [8, 19, 0, 1364], 0), (.iconst 0, 1, [], 0), (.istore_n 1, 1, [], 0)]
theorem ok_X9_undo_26 : vBL MT qLen qCh false q_X9_undo.2.2.2.2.1 q_X9_undo.2.2.2.2.2.1 q_X9_undo.2.2.1 q_X9_undo.1.cls q_X9_undo.1.name q_X9_undo.2.1 38 26 I_X9_undo_26 = true := by decide +kernel
def p_X9_undo_26 (a0 : Nat) (h : AH) : Option (Int32 × AH) :=
  if (tg h a0).1 = 8 then (if (tg h a0).1 = 8 then (let h105 := wI h a0 19 ((rI h a0 19) - ((1 : Int32)))
  p_X9_undo_38 FU a0 ((0 : Int32)) h105) else none) else none
set_option maxRecDepth 100000 in
theorem e_X9_undo_26 {l : Launch} {D : va_G} {dA : Nat → ClassId} {z : Nat} {sa : Nat → Nat} {Hz : Heap} (E : StrOK qLen qCh l D dA z sa Hz) {h0 fin : AH} {x : Int32}  : ∀ (a0 : Nat) (h : AH), p_X9_undo_26 a0 h = some (x, fin) → GM l D dA z sa Hz q_X9_undo h0 (some (.int x)) fin 26 [(0, .ref a0)] [] h := by
  intro a0 h hd
  exact step E (is := I_X9_undo_26) (pc := 26) (K := (kx 38 (fun la st h => gR la 0 fun a0 => gI la 1 fun x1 => sE st (p_X9_undo_38 FU a0 x1 h)) k0)) (FI := FI_X9_undo) (FV := fV0) (FL := fL0) (rt := rtZ) (ft := 38) (by exact hd) ok_X9_undo_26 (kx_ok (fun la st h e => by obtain ⟨a0, m_a0, e1⟩ := gR_inv e; obtain ⟨x1, m_x1, e2⟩ := gI_inv e1; obtain ⟨rfl, ez⟩ := sE_inv e2; exact gm_fewer (e_X9_undo_38 E  FU a0 x1 h ez) (mem_cons m_a0 (mem_cons m_x1 mem_nil))) k0_ok) (FI_X9_undo_ok E) (fV0_ok E) (fL0_ok E) (rtZ_ok rfl)
def I_X9_undo_0 : List AI := [(.aload_n 0, 1, [], 0), (.iconst 0, 1, [], 0), (.putfield 33, 3, [8, 0, 0, 1345], 0), (.aload_n 0, 1, [], 0), (.getfield 265, 3, [8, 3, 2, 1348], 0), (.ifnull 10, 3, [19], 0), (.aload_n 0, 1, [], 0), (.getfield 273, 3, [8, 19, 0, 1364], 0), (.ifCond .ne 10, 3, [26], 0)]
theorem ok_X9_undo_0 : vBL MT qLen qCh false q_X9_undo.2.2.2.2.1 q_X9_undo.2.2.2.2.2.1 q_X9_undo.2.2.1 q_X9_undo.1.cls q_X9_undo.1.name q_X9_undo.2.1 19 0 I_X9_undo_0 = true := by decide +kernel
def p_X9_undo (a0 : Nat) (h : AH) : Option (Int32 × AH) :=
  if (tg h a0).1 = 8 then (let h106 := wI h a0 0 ((0 : Int32))
  if (tg h106 a0).1 = 8 then (if (rR h106 a0 3) = 0 then (p_X9_undo_19 a0 h106)
  else
  if (tg h106 a0).1 = 8 then (if (rI h106 a0 19) = 0 then (p_X9_undo_19 a0 h106)
  else
  if (tg h106 a0).1 = 8 then (if (tg h106 a0).1 = 8 then (let h107 := wI h106 a0 19 ((rI h106 a0 19) - ((1 : Int32)))
  p_X9_undo_38 FU a0 ((0 : Int32)) h107) else none) else none) else none) else none) else none
set_option maxRecDepth 100000 in
theorem e_X9_undo_0 {l : Launch} {D : va_G} {dA : Nat → ClassId} {z : Nat} {sa : Nat → Nat} {Hz : Heap} (E : StrOK qLen qCh l D dA z sa Hz) {h0 fin : AH} {x : Int32}  : ∀ (a0 : Nat) (h : AH), p_X9_undo a0 h = some (x, fin) → GM l D dA z sa Hz q_X9_undo h0 (some (.int x)) fin 0 [(0, .ref a0)] [] h := by
  intro a0 h hd
  exact step E (is := I_X9_undo_0) (pc := 0) (K := (kx 19 (fun la st h => gR la 0 fun a0 => sE st (p_X9_undo_19 a0 h)) (kx 26 (fun la st h => gR la 0 fun a0 => sE st (p_X9_undo_26 a0 h)) k0))) (FI := FI_X9_undo) (FV := fV0) (FL := fL0) (rt := rtZ) (ft := 19) (by exact hd) ok_X9_undo_0 (kx_ok (fun la st h e => by obtain ⟨a0, m_a0, e1⟩ := gR_inv e; obtain ⟨rfl, ez⟩ := sE_inv e1; exact gm_fewer (e_X9_undo_19 E  a0 h ez) (mem_cons m_a0 mem_nil)) (kx_ok (fun la st h e => by obtain ⟨a0, m_a0, e1⟩ := gR_inv e; obtain ⟨rfl, ez⟩ := sE_inv e1; exact gm_fewer (e_X9_undo_26 E  a0 h ez) (mem_cons m_a0 mem_nil)) k0_ok)) (FI_X9_undo_ok E) (fV0_ok E) (fL0_ok E) (rtZ_ok rfl)
theorem c_X9_undo {l : Launch} {D : va_G} {dA : Nat → ClassId} {z : Nat} {sa : Nat → Nat} {Hz : Heap} (E : StrOK qLen qCh l D dA z sa Hz) {a0 : Nat} {h fin : AH} {x : Int32} (hd : p_X9_undo a0 h = some (x, fin)) : CalOK l D dA z sa Hz q_X9_undo [.ref a0] h (some (.int x)) fin := calOf (by decide +kernel) (Nat.le_of_ble_eq_true rfl) (e_X9_undo_0 E a0 h hd)
def FI_X9_image : Nat → List Value → AH → Option (Int32 × AH) := (cx 201 (fun As h => sR As fun a0 As => sI As fun x1 As => sE As (p_X9_refused a0 x1 h)) (cx 233 (fun As h => sR As fun a0 As => sI As fun x1 As => sE As (p_X9_good a0 x1 h)) fI0))
theorem FI_X9_image_ok {l : Launch} {D : va_G} {dA : Nat → ClassId} {z : Nat} {sa : Nat → Nat} {Hz : Heap} (E : StrOK qLen qCh l D dA z sa Hz) : ∀ mi As h x h', FI_X9_image mi As h = some (x, h') → CalOK l D dA z sa Hz (MT mi) As h (some (.int x)) h' := (cxI_ok (fun As h x h2 e => by obtain ⟨_, _, rfl, e0⟩ := sR_inv e; obtain ⟨_, _, rfl, e1⟩ := sI_inv e0; obtain ⟨rfl, ez⟩ := sE_inv e1; exact c_X9_refused E ez) ((cxI_ok (fun As h x h2 e => by obtain ⟨_, _, rfl, e0⟩ := sR_inv e; obtain ⟨_, _, rfl, e1⟩ := sI_inv e0; obtain ⟨rfl, ez⟩ := sE_inv e1; exact c_X9_good E ez) (fI0_ok E))))
def I_X9_image_68 : List AI := [(.aload_n 0, 1, [], 0), (.dup, 1, [], 0), (.getfield 276, 3, [8, 20, 0, 1365], 0), (.iconst 1, 1, [], 1), (.iadd, 1, [], 0), (.putfield 276, 3, [8, 20, 0, 1365], 0), (.aload_n 0, 1, [], 0), (.aload_n 0, 1, [], 0), (.getfield 276, 3, [8, 20, 0, 1365], 0), (.iconst 1, 1, [], 1), (.isub, 1, [], 0), (.invokevirtual 43, 3, [1, 233, 2, 8, 1694], 0), (.ireturn, 1, [], 0)]
theorem ok_X9_image_68 : vBL MT qLen qCh false q_X9_image.2.2.2.2.1 q_X9_image.2.2.2.2.2.1 q_X9_image.2.2.1 q_X9_image.1.cls q_X9_image.1.name q_X9_image.2.1 0 68 I_X9_image_68 = true := by decide +kernel
def p_X9_image_68 (a0 : Nat) (h : AH) : Option (Int32 × AH) :=
  if (tg h a0).1 = 8 then (if (tg h a0).1 = 8 then (let h101 := wI h a0 20 ((rI h a0 20) + ((1 : Int32)))
  if (tg h101 a0).1 = 8 then (if (tg h101 a0).1 = 8 then ((p_X9_good a0 ((rI h101 a0 20) - ((1 : Int32))) h101).bind fun q102 =>
  some (q102.1, q102.2)) else none) else none) else none) else none
set_option maxRecDepth 100000 in
theorem e_X9_image_68 {l : Launch} {D : va_G} {dA : Nat → ClassId} {z : Nat} {sa : Nat → Nat} {Hz : Heap} (E : StrOK qLen qCh l D dA z sa Hz) {h0 fin : AH} {x : Int32}  : ∀ (a0 : Nat) (h : AH), p_X9_image_68 a0 h = some (x, fin) → GM l D dA z sa Hz q_X9_image h0 (some (.int x)) fin 68 [(0, .ref a0)] [] h := by
  intro a0 h hd
  exact step E (is := I_X9_image_68) (pc := 68) (K := k0) (FI := FI_X9_image) (FV := fV0) (FL := fL0) (rt := rtI) (ft := 0) (by exact hd) ok_X9_image_68 k0_ok (FI_X9_image_ok E) (fV0_ok E) (fL0_ok E) (rtI_ok rfl)
def I_X9_image_34 : List AI := [(.iload_n 1, 1, [], 0), (.sipush 244, 3, [], 244), (.if_icmp .ge 30, 3, [68], 0), (.aload_n 0, 1, [], 0), (.getfield 27, 3, [8, 18, 2, 1363], 0), (.sipush 244, 3, [], 244), (.aload_n 0, 1, [], 0), (.getfield 276, 3, [8, 20, 0, 1365], 0), (.imul, 1, [], 0), (.iload_n 1, 1, [], 0), (.iadd, 1, [], 0), (.aload_n 0, 1, [], 0), (.getfield 17, 3, [8, 15, 2, 1360], 0), (.iload_n 1, 1, [], 0), (.iaload, 1, [], 0), (.iastore, 1, [], 0), (.iinc 1 1, 3, [], 1), (.goto (-31), 3, [34], 0)]
theorem ok_X9_image_34 : vBL MT qLen qCh false q_X9_image.2.2.2.2.1 q_X9_image.2.2.2.2.2.1 q_X9_image.2.2.1 q_X9_image.1.cls q_X9_image.1.name q_X9_image.2.1 0 34 I_X9_image_34 = true := by decide +kernel
def p_X9_image_34 : Nat → Nat → Int32 → AH → Option (Int32 × AH)
  | 0, _, _, _ => none
  | n + 1, a0, x1, h => if x1 < ((244 : Int32)) then (if (tg h a0).1 = 8 then (if (tg h a0).1 = 8 then (if (tg h a0).1 = 8 then (if inB h (rR h a0 15) 100 x1 then (if inB h (rR h a0 18) 100 ((((244 : Int32)) * (rI h a0 20)) + x1) then (let h105 := wI h (rR h a0 18) ((((244 : Int32)) * (rI h a0 20)) + x1).toNatClampNeg (rI h (rR h a0 15) x1.toNatClampNeg)
    p_X9_image_34 n a0 (x1 + (1 : Int32)) h105) else none) else none) else none) else none) else none)
    else
    if (tg h a0).1 = 8 then (if (tg h a0).1 = 8 then (let h103 := wI h a0 20 ((rI h a0 20) + ((1 : Int32)))
    if (tg h103 a0).1 = 8 then (if (tg h103 a0).1 = 8 then ((p_X9_good a0 ((rI h103 a0 20) - ((1 : Int32))) h103).bind fun q104 =>
    some (q104.1, q104.2)) else none) else none) else none) else none
set_option maxRecDepth 100000 in
theorem e_X9_image_34 {l : Launch} {D : va_G} {dA : Nat → ClassId} {z : Nat} {sa : Nat → Nat} {Hz : Heap} (E : StrOK qLen qCh l D dA z sa Hz) {h0 fin : AH} {x : Int32}  : ∀ (n : Nat) (a0 : Nat) (x1 : Int32) (h : AH), p_X9_image_34 n a0 x1 h = some (x, fin) → GM l D dA z sa Hz q_X9_image h0 (some (.int x)) fin 34 [(0, .ref a0), (1, .int x1)] [] h := by
  intro n
  induction n with
  | zero => intro a0 x1 h hd; exact nomatch hd
  | succ n ih =>
    intro a0 x1 h hd
    exact step E (is := I_X9_image_34) (pc := 34) (K := (kx 68 (fun la st h => gR la 0 fun a0 => sE st (p_X9_image_68 a0 h)) (kx 34 (fun la st h => gR la 0 fun a0 => gI la 1 fun x1 => sE st (p_X9_image_34 n a0 x1 h)) k0))) (FI := FI_X9_image) (FV := fV0) (FL := fL0) (rt := rtI) (ft := 0) (by exact hd) ok_X9_image_34 (kx_ok (fun la st h e => by obtain ⟨a0, m_a0, e1⟩ := gR_inv e; obtain ⟨rfl, ez⟩ := sE_inv e1; exact gm_fewer (e_X9_image_68 E  a0 h ez) (mem_cons m_a0 mem_nil)) (kx_ok (fun la st h e => by obtain ⟨a0, m_a0, e1⟩ := gR_inv e; obtain ⟨x1, m_x1, e2⟩ := gI_inv e1; obtain ⟨rfl, ez⟩ := sE_inv e2; exact gm_fewer (ih a0 x1 h ez) (mem_cons m_a0 (mem_cons m_x1 mem_nil))) k0_ok)) (FI_X9_image_ok E) (fV0_ok E) (fL0_ok E) (rtI_ok rfl)
def I_X9_image_32 : List AI := [(.iconst 0, 1, [], 0), (.istore_n 1, 1, [], 0)]
theorem ok_X9_image_32 : vBL MT qLen qCh false q_X9_image.2.2.2.2.1 q_X9_image.2.2.2.2.2.1 q_X9_image.2.2.1 q_X9_image.1.cls q_X9_image.1.name q_X9_image.2.1 34 32 I_X9_image_32 = true := by decide +kernel
def p_X9_image_32 (a0 : Nat) (h : AH) : Option (Int32 × AH) :=
  p_X9_image_34 FU a0 ((0 : Int32)) h
set_option maxRecDepth 100000 in
theorem e_X9_image_32 {l : Launch} {D : va_G} {dA : Nat → ClassId} {z : Nat} {sa : Nat → Nat} {Hz : Heap} (E : StrOK qLen qCh l D dA z sa Hz) {h0 fin : AH} {x : Int32}  : ∀ (a0 : Nat) (h : AH), p_X9_image_32 a0 h = some (x, fin) → GM l D dA z sa Hz q_X9_image h0 (some (.int x)) fin 32 [(0, .ref a0)] [] h := by
  intro a0 h hd
  exact step E (is := I_X9_image_32) (pc := 32) (K := (kx 34 (fun la st h => gR la 0 fun a0 => gI la 1 fun x1 => sE st (p_X9_image_34 FU a0 x1 h)) k0)) (FI := FI_X9_image) (FV := fV0) (FL := fL0) (rt := rtI) (ft := 34) (by exact hd) ok_X9_image_32 (kx_ok (fun la st h e => by obtain ⟨a0, m_a0, e1⟩ := gR_inv e; obtain ⟨x1, m_x1, e2⟩ := gI_inv e1; obtain ⟨rfl, ez⟩ := sE_inv e2; exact gm_fewer (e_X9_image_34 E  FU a0 x1 h ez) (mem_cons m_a0 (mem_cons m_x1 mem_nil))) k0_ok) (FI_X9_image_ok E) (fV0_ok E) (fL0_ok E) (rtI_ok rfl)
def I_X9_image_18 : List AI := [(.aload_n 0, 1, [], 0), (.getfield 276, 3, [8, 20, 0, 1365], 0), (.iconst 3, 1, [], 3), (.if_icmp .ne 9, 3, [32], 0), (.aload_n 0, 1, [], 0), (.iconst 3, 1, [], 3), (.invokevirtual 39, 3, [1, 201, 2, 8, 1481], 0), (.ireturn, 1, [], 0)]
theorem ok_X9_image_18 : vBL MT qLen qCh false q_X9_image.2.2.2.2.1 q_X9_image.2.2.2.2.2.1 q_X9_image.2.2.1 q_X9_image.1.cls q_X9_image.1.name q_X9_image.2.1 0 18 I_X9_image_18 = true := by decide +kernel
def p_X9_image_18 (a0 : Nat) (h : AH) : Option (Int32 × AH) :=
  if (tg h a0).1 = 8 then (if (rI h a0 20) = ((3 : Int32)) then (if (tg h a0).1 = 8 then ((p_X9_refused a0 ((3 : Int32)) h).bind fun q106 =>
  some (q106.1, q106.2)) else none)
  else
  p_X9_image_34 FU a0 ((0 : Int32)) h) else none
set_option maxRecDepth 100000 in
theorem e_X9_image_18 {l : Launch} {D : va_G} {dA : Nat → ClassId} {z : Nat} {sa : Nat → Nat} {Hz : Heap} (E : StrOK qLen qCh l D dA z sa Hz) {h0 fin : AH} {x : Int32}  : ∀ (a0 : Nat) (h : AH), p_X9_image_18 a0 h = some (x, fin) → GM l D dA z sa Hz q_X9_image h0 (some (.int x)) fin 18 [(0, .ref a0)] [] h := by
  intro a0 h hd
  exact step E (is := I_X9_image_18) (pc := 18) (K := (kx 32 (fun la st h => gR la 0 fun a0 => sE st (p_X9_image_32 a0 h)) k0)) (FI := FI_X9_image) (FV := fV0) (FL := fL0) (rt := rtI) (ft := 0) (by exact hd) ok_X9_image_18 (kx_ok (fun la st h e => by obtain ⟨a0, m_a0, e1⟩ := gR_inv e; obtain ⟨rfl, ez⟩ := sE_inv e1; exact gm_fewer (e_X9_image_32 E  a0 h ez) (mem_cons m_a0 mem_nil)) k0_ok) (FI_X9_image_ok E) (fV0_ok E) (fL0_ok E) (rtI_ok rfl)
def I_X9_image_0 : List AI := [(.aload_n 0, 1, [], 0), (.iconst 0, 1, [], 0), (.putfield 33, 3, [8, 0, 0, 1345], 0), (.aload_n 0, 1, [], 0), (.getfield 265, 3, [8, 3, 2, 1348], 0), (.ifnonnull 9, 3, [18], 0), (.aload_n 0, 1, [], 0), (.iconst 1, 1, [], 1), (.invokevirtual 39, 3, [1, 201, 2, 8, 1481], 0), (.ireturn, 1, [], 0)]
theorem ok_X9_image_0 : vBL MT qLen qCh false q_X9_image.2.2.2.2.1 q_X9_image.2.2.2.2.2.1 q_X9_image.2.2.1 q_X9_image.1.cls q_X9_image.1.name q_X9_image.2.1 0 0 I_X9_image_0 = true := by decide +kernel
def p_X9_image (a0 : Nat) (h : AH) : Option (Int32 × AH) :=
  if (tg h a0).1 = 8 then (let h107 := wI h a0 0 ((0 : Int32))
  if (tg h107 a0).1 = 8 then (if (rR h107 a0 3) = 0 then (if (tg h107 a0).1 = 8 then ((p_X9_refused a0 ((1 : Int32)) h107).bind fun q109 =>
  some (q109.1, q109.2)) else none)
  else
  if (tg h107 a0).1 = 8 then (if (rI h107 a0 20) = ((3 : Int32)) then (if (tg h107 a0).1 = 8 then ((p_X9_refused a0 ((3 : Int32)) h107).bind fun q108 =>
  some (q108.1, q108.2)) else none)
  else
  p_X9_image_34 FU a0 ((0 : Int32)) h107) else none) else none) else none
set_option maxRecDepth 100000 in
theorem e_X9_image_0 {l : Launch} {D : va_G} {dA : Nat → ClassId} {z : Nat} {sa : Nat → Nat} {Hz : Heap} (E : StrOK qLen qCh l D dA z sa Hz) {h0 fin : AH} {x : Int32}  : ∀ (a0 : Nat) (h : AH), p_X9_image a0 h = some (x, fin) → GM l D dA z sa Hz q_X9_image h0 (some (.int x)) fin 0 [(0, .ref a0)] [] h := by
  intro a0 h hd
  exact step E (is := I_X9_image_0) (pc := 0) (K := (kx 18 (fun la st h => gR la 0 fun a0 => sE st (p_X9_image_18 a0 h)) k0)) (FI := FI_X9_image) (FV := fV0) (FL := fL0) (rt := rtI) (ft := 0) (by exact hd) ok_X9_image_0 (kx_ok (fun la st h e => by obtain ⟨a0, m_a0, e1⟩ := gR_inv e; obtain ⟨rfl, ez⟩ := sE_inv e1; exact gm_fewer (e_X9_image_18 E  a0 h ez) (mem_cons m_a0 mem_nil)) k0_ok) (FI_X9_image_ok E) (fV0_ok E) (fL0_ok E) (rtI_ok rfl)
theorem c_X9_image {l : Launch} {D : va_G} {dA : Nat → ClassId} {z : Nat} {sa : Nat → Nat} {Hz : Heap} (E : StrOK qLen qCh l D dA z sa Hz) {a0 : Nat} {h fin : AH} {x : Int32} (hd : p_X9_image a0 h = some (x, fin)) : CalOK l D dA z sa Hz q_X9_image [.ref a0] h (some (.int x)) fin := calOf (by decide +kernel) (Nat.le_of_ble_eq_true rfl) (e_X9_image_0 E a0 h hd)
def FI_X9_back : Nat → List Value → AH → Option (Int32 × AH) := (cx 329 (fun As h => sR As fun a0 As => sI As fun x1 As => sE As (p_X9_denied a0 x1 h)) (cx 330 (fun As h => sR As fun a0 As => sE As (p_X9_granted a0 h)) fI0))
theorem FI_X9_back_ok {l : Launch} {D : va_G} {dA : Nat → ClassId} {z : Nat} {sa : Nat → Nat} {Hz : Heap} (E : StrOK qLen qCh l D dA z sa Hz) : ∀ mi As h x h', FI_X9_back mi As h = some (x, h') → CalOK l D dA z sa Hz (MT mi) As h (some (.int x)) h' := (cxI_ok (fun As h x h2 e => by obtain ⟨_, _, rfl, e0⟩ := sR_inv e; obtain ⟨_, _, rfl, e1⟩ := sI_inv e0; obtain ⟨rfl, ez⟩ := sE_inv e1; exact c_X9_denied E ez) ((cxI_ok (fun As h x h2 e => by obtain ⟨_, _, rfl, e0⟩ := sR_inv e; obtain ⟨rfl, ez⟩ := sE_inv e0; exact c_X9_granted E ez) (fI0_ok E))))
def I_X9_back_24 : List AI := [(.aload_n 0, 1, [], 0), (.iconst 1, 1, [], 1), (.invokevirtual 496, 3, [1, 329, 2, 8, 2074], 0), (.ireturn, 1, [], 0)]
theorem ok_X9_back_24 : vBL MT qLen qCh false q_X9_back.2.2.2.2.1 q_X9_back.2.2.2.2.2.1 q_X9_back.2.2.1 q_X9_back.1.cls q_X9_back.1.name q_X9_back.2.1 0 24 I_X9_back_24 = true := by decide +kernel
def p_X9_back_24 (a0 : Nat) (h : AH) : Option (Int32 × AH) :=
  if (tg h a0).1 = 8 then ((p_X9_denied a0 ((1 : Int32)) h).bind fun q101 =>
  if q101.1 &&& 1 = q101.1 then some (q101.1, q101.2) else none) else none
set_option maxRecDepth 100000 in
theorem e_X9_back_24 {l : Launch} {D : va_G} {dA : Nat → ClassId} {z : Nat} {sa : Nat → Nat} {Hz : Heap} (E : StrOK qLen qCh l D dA z sa Hz) {h0 fin : AH} {x : Int32}  : ∀ (a0 : Nat) (h : AH), p_X9_back_24 a0 h = some (x, fin) → GM l D dA z sa Hz q_X9_back h0 (some (.int x)) fin 24 [(0, .ref a0)] [] h := by
  intro a0 h hd
  exact step E (is := I_X9_back_24) (pc := 24) (K := k0) (FI := FI_X9_back) (FV := fV0) (FL := fL0) (rt := rtZ) (ft := 0) (by exact hd) ok_X9_back_24 k0_ok (FI_X9_back_ok E) (fV0_ok E) (fL0_ok E) (rtZ_ok rfl)
def I_X9_back_63 : List AI := [(.aload_n 0, 1, [], 0), (.iconst 0, 1, [], 0), (.putfield 273, 3, [8, 19, 0, 1364], 0), (.aload_n 0, 1, [], 0), (.invokevirtual 498, 3, [1, 330, 1, 8, 2078], 0), (.ireturn, 1, [], 0)]
theorem ok_X9_back_63 : vBL MT qLen qCh false q_X9_back.2.2.2.2.1 q_X9_back.2.2.2.2.2.1 q_X9_back.2.2.1 q_X9_back.1.cls q_X9_back.1.name q_X9_back.2.1 0 63 I_X9_back_63 = true := by decide +kernel
def p_X9_back_63 (a0 : Nat) (h : AH) : Option (Int32 × AH) :=
  if (tg h a0).1 = 8 then (let h102 := wI h a0 19 ((0 : Int32))
  if (tg h102 a0).1 = 8 then ((p_X9_granted a0 h102).bind fun q103 =>
  if q103.1 &&& 1 = q103.1 then some (q103.1, q103.2) else none) else none) else none
set_option maxRecDepth 100000 in
theorem e_X9_back_63 {l : Launch} {D : va_G} {dA : Nat → ClassId} {z : Nat} {sa : Nat → Nat} {Hz : Heap} (E : StrOK qLen qCh l D dA z sa Hz) {h0 fin : AH} {x : Int32}  : ∀ (a0 : Nat) (h : AH), p_X9_back_63 a0 h = some (x, fin) → GM l D dA z sa Hz q_X9_back h0 (some (.int x)) fin 63 [(0, .ref a0)] [] h := by
  intro a0 h hd
  exact step E (is := I_X9_back_63) (pc := 63) (K := k0) (FI := FI_X9_back) (FV := fV0) (FL := fL0) (rt := rtZ) (ft := 0) (by exact hd) ok_X9_back_63 k0_ok (FI_X9_back_ok E) (fV0_ok E) (fL0_ok E) (rtZ_ok rfl)
def I_X9_back_32 : List AI := [(.iload_n 2, 1, [], 0), (.sipush 244, 3, [], 244), (.if_icmp .ge 27, 3, [63], 0), (.aload_n 0, 1, [], 0), (.getfield 17, 3, [8, 15, 2, 1360], 0), (.iload_n 2, 1, [], 0), (.aload_n 0, 1, [], 0), (.getfield 27, 3, [8, 18, 2, 1363], 0), (.sipush 244, 3, [], 244), (.iload_n 1, 1, [], 0), (.imul, 1, [], 0), (.iload_n 2, 1, [], 0), (.iadd, 1, [], 0), (.iaload, 1, [], 0), (.iastore, 1, [], 0), (.iinc 2 1, 3, [], 1), (.goto (-28), 3, [32], 0)]
theorem ok_X9_back_32 : vBL MT qLen qCh false q_X9_back.2.2.2.2.1 q_X9_back.2.2.2.2.2.1 q_X9_back.2.2.1 q_X9_back.1.cls q_X9_back.1.name q_X9_back.2.1 0 32 I_X9_back_32 = true := by decide +kernel
def p_X9_back_32 : Nat → Nat → Int32 → Int32 → AH → Option (Int32 × AH)
  | 0, _, _, _, _ => none
  | n + 1, a0, x1, x2, h => if x2 < ((244 : Int32)) then (if (tg h a0).1 = 8 then (if (tg h a0).1 = 8 then (if inB h (rR h a0 18) 100 ((((244 : Int32)) * x1) + x2) then (if inB h (rR h a0 15) 100 x2 then (let h106 := wI h (rR h a0 15) x2.toNatClampNeg (rI h (rR h a0 18) ((((244 : Int32)) * x1) + x2).toNatClampNeg)
    p_X9_back_32 n a0 x1 (x2 + (1 : Int32)) h106) else none) else none) else none) else none)
    else
    if (tg h a0).1 = 8 then (let h104 := wI h a0 19 ((0 : Int32))
    if (tg h104 a0).1 = 8 then ((p_X9_granted a0 h104).bind fun q105 =>
    if q105.1 &&& 1 = q105.1 then some (q105.1, q105.2) else none) else none) else none
set_option maxRecDepth 100000 in
theorem e_X9_back_32 {l : Launch} {D : va_G} {dA : Nat → ClassId} {z : Nat} {sa : Nat → Nat} {Hz : Heap} (E : StrOK qLen qCh l D dA z sa Hz) {h0 fin : AH} {x : Int32}  : ∀ (n : Nat) (a0 : Nat) (x1 : Int32) (x2 : Int32) (h : AH), p_X9_back_32 n a0 x1 x2 h = some (x, fin) → GM l D dA z sa Hz q_X9_back h0 (some (.int x)) fin 32 [(0, .ref a0), (1, .int x1), (2, .int x2)] [] h := by
  intro n
  induction n with
  | zero => intro a0 x1 x2 h hd; exact nomatch hd
  | succ n ih =>
    intro a0 x1 x2 h hd
    exact step E (is := I_X9_back_32) (pc := 32) (K := (kx 63 (fun la st h => gR la 0 fun a0 => sE st (p_X9_back_63 a0 h)) (kx 32 (fun la st h => gR la 0 fun a0 => gI la 1 fun x1 => gI la 2 fun x2 => sE st (p_X9_back_32 n a0 x1 x2 h)) k0))) (FI := FI_X9_back) (FV := fV0) (FL := fL0) (rt := rtZ) (ft := 0) (by exact hd) ok_X9_back_32 (kx_ok (fun la st h e => by obtain ⟨a0, m_a0, e1⟩ := gR_inv e; obtain ⟨rfl, ez⟩ := sE_inv e1; exact gm_fewer (e_X9_back_63 E  a0 h ez) (mem_cons m_a0 mem_nil)) (kx_ok (fun la st h e => by obtain ⟨a0, m_a0, e1⟩ := gR_inv e; obtain ⟨x1, m_x1, e2⟩ := gI_inv e1; obtain ⟨x2, m_x2, e3⟩ := gI_inv e2; obtain ⟨rfl, ez⟩ := sE_inv e3; exact gm_fewer (ih a0 x1 x2 h ez) (mem_cons m_a0 (mem_cons m_x1 (mem_cons m_x2 mem_nil)))) k0_ok)) (FI_X9_back_ok E) (fV0_ok E) (fL0_ok E) (rtZ_ok rfl)
def I_X9_back_30 : List AI := [(.iconst 0, 1, [], 0), (.istore_n 2, 1, [], 0)]
theorem ok_X9_back_30 : vBL MT qLen qCh false q_X9_back.2.2.2.2.1 q_X9_back.2.2.2.2.2.1 q_X9_back.2.2.1 q_X9_back.1.cls q_X9_back.1.name q_X9_back.2.1 32 30 I_X9_back_30 = true := by decide +kernel
def p_X9_back_30 (a0 : Nat) (x1 : Int32) (h : AH) : Option (Int32 × AH) :=
  p_X9_back_32 FU a0 x1 ((0 : Int32)) h
set_option maxRecDepth 100000 in
theorem e_X9_back_30 {l : Launch} {D : va_G} {dA : Nat → ClassId} {z : Nat} {sa : Nat → Nat} {Hz : Heap} (E : StrOK qLen qCh l D dA z sa Hz) {h0 fin : AH} {x : Int32}  : ∀ (a0 : Nat) (x1 : Int32) (h : AH), p_X9_back_30 a0 x1 h = some (x, fin) → GM l D dA z sa Hz q_X9_back h0 (some (.int x)) fin 30 [(0, .ref a0), (1, .int x1)] [] h := by
  intro a0 x1 h hd
  exact step E (is := I_X9_back_30) (pc := 30) (K := (kx 32 (fun la st h => gR la 0 fun a0 => gI la 1 fun x1 => gI la 2 fun x2 => sE st (p_X9_back_32 FU a0 x1 x2 h)) k0)) (FI := FI_X9_back) (FV := fV0) (FL := fL0) (rt := rtZ) (ft := 32) (by exact hd) ok_X9_back_30 (kx_ok (fun la st h e => by obtain ⟨a0, m_a0, e1⟩ := gR_inv e; obtain ⟨x1, m_x1, e2⟩ := gI_inv e1; obtain ⟨x2, m_x2, e3⟩ := gI_inv e2; obtain ⟨rfl, ez⟩ := sE_inv e3; exact gm_fewer (e_X9_back_32 E  FU a0 x1 x2 h ez) (mem_cons m_a0 (mem_cons m_x1 (mem_cons m_x2 mem_nil)))) k0_ok) (FI_X9_back_ok E) (fV0_ok E) (fL0_ok E) (rtZ_ok rfl)
def I_X9_back_0 : List AI := [(.aload_n 0, 1, [], 0), (.iconst 0, 1, [], 0), (.putfield 33, 3, [8, 0, 0, 1345], 0), (.aload_n 0, 1, [], 0), (.getfield 265, 3, [8, 3, 2, 1348], 0), (.ifnull 15, 3, [24], 0), (.iload_n 1, 1, [], 0), (.ifCond .lt 11, 3, [24], 0), (.iload_n 1, 1, [], 0), (.aload_n 0, 1, [], 0), (.getfield 276, 3, [8, 20, 0, 1365], 0), (.if_icmp .lt 9, 3, [30], 0)]
theorem ok_X9_back_0 : vBL MT qLen qCh false q_X9_back.2.2.2.2.1 q_X9_back.2.2.2.2.2.1 q_X9_back.2.2.1 q_X9_back.1.cls q_X9_back.1.name q_X9_back.2.1 24 0 I_X9_back_0 = true := by decide +kernel
def p_X9_back (a0 : Nat) (x1 : Int32) (h : AH) : Option (Int32 × AH) :=
  if (tg h a0).1 = 8 then (let h107 := wI h a0 0 ((0 : Int32))
  if (tg h107 a0).1 = 8 then (if (rR h107 a0 3) = 0 then (p_X9_back_24 a0 h107)
  else
  if x1 < 0 then (p_X9_back_24 a0 h107)
  else
  if (tg h107 a0).1 = 8 then (if x1 < (rI h107 a0 20) then (p_X9_back_32 FU a0 x1 ((0 : Int32)) h107)
  else
  p_X9_back_24 a0 h107) else none) else none) else none
set_option maxRecDepth 100000 in
theorem e_X9_back_0 {l : Launch} {D : va_G} {dA : Nat → ClassId} {z : Nat} {sa : Nat → Nat} {Hz : Heap} (E : StrOK qLen qCh l D dA z sa Hz) {h0 fin : AH} {x : Int32}  : ∀ (a0 : Nat) (x1 : Int32) (h : AH), p_X9_back a0 x1 h = some (x, fin) → GM l D dA z sa Hz q_X9_back h0 (some (.int x)) fin 0 [(0, .ref a0), (1, .int x1)] [] h := by
  intro a0 x1 h hd
  exact step E (is := I_X9_back_0) (pc := 0) (K := (kx 24 (fun la st h => gR la 0 fun a0 => sE st (p_X9_back_24 a0 h)) (kx 30 (fun la st h => gR la 0 fun a0 => gI la 1 fun x1 => sE st (p_X9_back_30 a0 x1 h)) k0))) (FI := FI_X9_back) (FV := fV0) (FL := fL0) (rt := rtZ) (ft := 24) (by exact hd) ok_X9_back_0 (kx_ok (fun la st h e => by obtain ⟨a0, m_a0, e1⟩ := gR_inv e; obtain ⟨rfl, ez⟩ := sE_inv e1; exact gm_fewer (e_X9_back_24 E  a0 h ez) (mem_cons m_a0 mem_nil)) (kx_ok (fun la st h e => by obtain ⟨a0, m_a0, e1⟩ := gR_inv e; obtain ⟨x1, m_x1, e2⟩ := gI_inv e1; obtain ⟨rfl, ez⟩ := sE_inv e2; exact gm_fewer (e_X9_back_30 E  a0 x1 h ez) (mem_cons m_a0 (mem_cons m_x1 mem_nil))) k0_ok)) (FI_X9_back_ok E) (fV0_ok E) (fL0_ok E) (rtZ_ok rfl)
theorem c_X9_back {l : Launch} {D : va_G} {dA : Nat → ClassId} {z : Nat} {sa : Nat → Nat} {Hz : Heap} (E : StrOK qLen qCh l D dA z sa Hz) {a0 : Nat} {x1 : Int32} {h fin : AH} {x : Int32} (hd : p_X9_back a0 x1 h = some (x, fin)) : CalOK l D dA z sa Hz q_X9_back [.ref a0, .int x1] h (some (.int x)) fin := calOf (by decide +kernel) (Nat.le_of_ble_eq_true rfl) (e_X9_back_0 E a0 x1 h hd)
def I_X9_led_61 : List AI := [(.aload_n 0, 1, [], 0), (.iconst 1, 1, [], 1), (.putfield 33, 3, [8, 0, 0, 1345], 0), (.iconst 0, 1, [], 0), (.ireturn, 1, [], 0)]
theorem ok_X9_led_61 : vBL MT qLen qCh false q_X9_led.2.2.2.2.1 q_X9_led.2.2.2.2.2.1 q_X9_led.2.2.1 q_X9_led.1.cls q_X9_led.1.name q_X9_led.2.1 0 61 I_X9_led_61 = true := by decide +kernel
def p_X9_led_61 (a0 : Nat) (h : AH) : Option (Int32 × AH) :=
  if (tg h a0).1 = 8 then (let h101 := wI h a0 0 ((1 : Int32))
  some (((0 : Int32)), h101)) else none
set_option maxRecDepth 100000 in
theorem e_X9_led_61 {l : Launch} {D : va_G} {dA : Nat → ClassId} {z : Nat} {sa : Nat → Nat} {Hz : Heap} (E : StrOK qLen qCh l D dA z sa Hz) {h0 fin : AH} {x : Int32}  : ∀ (a0 : Nat) (h : AH), p_X9_led_61 a0 h = some (x, fin) → GM l D dA z sa Hz q_X9_led h0 (some (.int x)) fin 61 [(0, .ref a0)] [] h := by
  intro a0 h hd
  exact step E (is := I_X9_led_61) (pc := 61) (K := k0) (FI := fI0) (FV := fV0) (FL := fL0) (rt := rtI) (ft := 0) (by exact hd) ok_X9_led_61 k0_ok (fI0_ok E) (fV0_ok E) (fL0_ok E) (rtI_ok rfl)
def I_X9_led_55 : List AI := [(.iinc 3 1, 3, [], 1), (.goto (-49), 3, [9], 0)]
theorem ok_X9_led_55 : vBL MT qLen qCh false q_X9_led.2.2.2.2.1 q_X9_led.2.2.2.2.2.1 q_X9_led.2.2.1 q_X9_led.1.cls q_X9_led.1.name q_X9_led.2.1 0 55 I_X9_led_55 = true := by decide +kernel
def p_X9_led_55 (k9 : Nat → Int32 → Int32 → Int32 → AH → Option (Int32 × AH)) (a0 : Nat) (x1 : Int32) (x2 : Int32) (x3 : Int32) (h : AH) : Option (Int32 × AH) :=
  k9 a0 x1 x2 (x3 + (1 : Int32)) h
set_option maxRecDepth 100000 in
theorem e_X9_led_55 {l : Launch} {D : va_G} {dA : Nat → ClassId} {z : Nat} {sa : Nat → Nat} {Hz : Heap} (E : StrOK qLen qCh l D dA z sa Hz) {h0 fin : AH} {x : Int32}  {k9 : Nat → Int32 → Int32 → Int32 → AH → Option (Int32 × AH)} (hk9 : ∀ (a0 : Nat) (x1 : Int32) (x2 : Int32) (x3 : Int32) (h : AH), k9 a0 x1 x2 x3 h = some (x, fin) → GM l D dA z sa Hz q_X9_led h0 (some (.int x)) fin 9 [(0, .ref a0), (1, .int x1), (2, .int x2), (3, .int x3)] [] h) : ∀ (a0 : Nat) (x1 : Int32) (x2 : Int32) (x3 : Int32) (h : AH), p_X9_led_55 k9 a0 x1 x2 x3 h = some (x, fin) → GM l D dA z sa Hz q_X9_led h0 (some (.int x)) fin 55 [(0, .ref a0), (1, .int x1), (2, .int x2), (3, .int x3)] [] h := by
  intro a0 x1 x2 x3 h hd
  exact step E (is := I_X9_led_55) (pc := 55) (K := (kx 9 (fun la st h => gR la 0 fun a0 => gI la 1 fun x1 => gI la 2 fun x2 => gI la 3 fun x3 => sE st (k9 a0 x1 x2 x3 h)) k0)) (FI := fI0) (FV := fV0) (FL := fL0) (rt := rtI) (ft := 0) (by exact hd) ok_X9_led_55 (kx_ok (fun la st h e => by obtain ⟨a0, m_a0, e1⟩ := gR_inv e; obtain ⟨x1, m_x1, e2⟩ := gI_inv e1; obtain ⟨x2, m_x2, e3⟩ := gI_inv e2; obtain ⟨x3, m_x3, e4⟩ := gI_inv e3; obtain ⟨rfl, ez⟩ := sE_inv e4; exact gm_fewer (hk9 a0 x1 x2 x3 h ez) (mem_cons m_a0 (mem_cons m_x1 (mem_cons m_x2 (mem_cons m_x3 mem_nil))))) k0_ok) (fI0_ok E) (fV0_ok E) (fL0_ok E) (rtI_ok rfl)
def I_X9_led_52 : List AI := [(.iinc 2 1, 3, [], 1)]
theorem ok_X9_led_52 : vBL MT qLen qCh false q_X9_led.2.2.2.2.1 q_X9_led.2.2.2.2.2.1 q_X9_led.2.2.1 q_X9_led.1.cls q_X9_led.1.name q_X9_led.2.1 55 52 I_X9_led_52 = true := by decide +kernel
def p_X9_led_52 (k9 : Nat → Int32 → Int32 → Int32 → AH → Option (Int32 × AH)) (a0 : Nat) (x1 : Int32) (x2 : Int32) (x3 : Int32) (h : AH) : Option (Int32 × AH) :=
  p_X9_led_55 k9 a0 x1 (x2 + (1 : Int32)) x3 h
set_option maxRecDepth 100000 in
theorem e_X9_led_52 {l : Launch} {D : va_G} {dA : Nat → ClassId} {z : Nat} {sa : Nat → Nat} {Hz : Heap} (E : StrOK qLen qCh l D dA z sa Hz) {h0 fin : AH} {x : Int32}  {k9 : Nat → Int32 → Int32 → Int32 → AH → Option (Int32 × AH)} (hk9 : ∀ (a0 : Nat) (x1 : Int32) (x2 : Int32) (x3 : Int32) (h : AH), k9 a0 x1 x2 x3 h = some (x, fin) → GM l D dA z sa Hz q_X9_led h0 (some (.int x)) fin 9 [(0, .ref a0), (1, .int x1), (2, .int x2), (3, .int x3)] [] h) : ∀ (a0 : Nat) (x1 : Int32) (x2 : Int32) (x3 : Int32) (h : AH), p_X9_led_52 k9 a0 x1 x2 x3 h = some (x, fin) → GM l D dA z sa Hz q_X9_led h0 (some (.int x)) fin 52 [(0, .ref a0), (1, .int x1), (2, .int x2), (3, .int x3)] [] h := by
  intro a0 x1 x2 x3 h hd
  exact step E (is := I_X9_led_52) (pc := 52) (K := (kx 55 (fun la st h => gR la 0 fun a0 => gI la 1 fun x1 => gI la 2 fun x2 => gI la 3 fun x3 => sE st (p_X9_led_55 k9 a0 x1 x2 x3 h)) k0)) (FI := fI0) (FV := fV0) (FL := fL0) (rt := rtI) (ft := 55) (by exact hd) ok_X9_led_52 (kx_ok (fun la st h e => by obtain ⟨a0, m_a0, e1⟩ := gR_inv e; obtain ⟨x1, m_x1, e2⟩ := gI_inv e1; obtain ⟨x2, m_x2, e3⟩ := gI_inv e2; obtain ⟨x3, m_x3, e4⟩ := gI_inv e3; obtain ⟨rfl, ez⟩ := sE_inv e4; exact gm_fewer (e_X9_led_55 E hk9 a0 x1 x2 x3 h ez) (mem_cons m_a0 (mem_cons m_x1 (mem_cons m_x2 (mem_cons m_x3 mem_nil))))) k0_ok) (fI0_ok E) (fV0_ok E) (fL0_ok E) (rtI_ok rfl)
def I_X9_led_45 : List AI := [(.iload_n 2, 1, [], 0), (.iload_n 1, 1, [], 0), (.if_icmp .ne 5, 3, [52], 0), (.iload_n 3, 1, [], 0), (.ireturn, 1, [], 0)]
theorem ok_X9_led_45 : vBL MT qLen qCh false q_X9_led.2.2.2.2.1 q_X9_led.2.2.2.2.2.1 q_X9_led.2.2.1 q_X9_led.1.cls q_X9_led.1.name q_X9_led.2.1 0 45 I_X9_led_45 = true := by decide +kernel
def p_X9_led_45 (k9 : Nat → Int32 → Int32 → Int32 → AH → Option (Int32 × AH)) (a0 : Nat) (x1 : Int32) (x2 : Int32) (x3 : Int32) (h : AH) : Option (Int32 × AH) :=
  if x2 = x1 then (some (x3, h))
  else
  p_X9_led_55 k9 a0 x1 (x2 + (1 : Int32)) x3 h
set_option maxRecDepth 100000 in
theorem e_X9_led_45 {l : Launch} {D : va_G} {dA : Nat → ClassId} {z : Nat} {sa : Nat → Nat} {Hz : Heap} (E : StrOK qLen qCh l D dA z sa Hz) {h0 fin : AH} {x : Int32}  {k9 : Nat → Int32 → Int32 → Int32 → AH → Option (Int32 × AH)} (hk9 : ∀ (a0 : Nat) (x1 : Int32) (x2 : Int32) (x3 : Int32) (h : AH), k9 a0 x1 x2 x3 h = some (x, fin) → GM l D dA z sa Hz q_X9_led h0 (some (.int x)) fin 9 [(0, .ref a0), (1, .int x1), (2, .int x2), (3, .int x3)] [] h) : ∀ (a0 : Nat) (x1 : Int32) (x2 : Int32) (x3 : Int32) (h : AH), p_X9_led_45 k9 a0 x1 x2 x3 h = some (x, fin) → GM l D dA z sa Hz q_X9_led h0 (some (.int x)) fin 45 [(0, .ref a0), (1, .int x1), (2, .int x2), (3, .int x3)] [] h := by
  intro a0 x1 x2 x3 h hd
  exact step E (is := I_X9_led_45) (pc := 45) (K := (kx 52 (fun la st h => gR la 0 fun a0 => gI la 1 fun x1 => gI la 2 fun x2 => gI la 3 fun x3 => sE st (p_X9_led_52 k9 a0 x1 x2 x3 h)) k0)) (FI := fI0) (FV := fV0) (FL := fL0) (rt := rtI) (ft := 0) (by exact hd) ok_X9_led_45 (kx_ok (fun la st h e => by obtain ⟨a0, m_a0, e1⟩ := gR_inv e; obtain ⟨x1, m_x1, e2⟩ := gI_inv e1; obtain ⟨x2, m_x2, e3⟩ := gI_inv e2; obtain ⟨x3, m_x3, e4⟩ := gI_inv e3; obtain ⟨rfl, ez⟩ := sE_inv e4; exact gm_fewer (e_X9_led_52 E hk9 a0 x1 x2 x3 h ez) (mem_cons m_a0 (mem_cons m_x1 (mem_cons m_x2 (mem_cons m_x3 mem_nil))))) k0_ok) (fI0_ok E) (fV0_ok E) (fL0_ok E) (rtI_ok rfl)
def I_X9_led_9 : List AI := [(.aload_n 0, 1, [], 0), (.getfield 265, 3, [8, 3, 2, 1348], 0), (.ifnull 48, 3, [61], 0), (.iload_n 3, 1, [], 0), (.aload_n 0, 1, [], 0), (.getfield 265, 3, [8, 3, 2, 1348], 0), (.getfield 124, 3, [7, 0, 0, 1491], 0), (.if_icmp .ge 37, 3, [61], 0), (.aload_n 0, 1, [], 0), (.getfield 17, 3, [8, 15, 2, 1360], 0), (.sipush 147, 3, [], 147), (.iload_n 3, 1, [], 0), (.iadd, 1, [], 0), (.iaload, 1, [], 0), (.bipush (-2), 2, [], (-2)), (.if_icmp .eq 6, 3, [45], 0), (.goto 13, 3, [55], 0)]
theorem ok_X9_led_9 : vBL MT qLen qCh false q_X9_led.2.2.2.2.1 q_X9_led.2.2.2.2.2.1 q_X9_led.2.2.1 q_X9_led.1.cls q_X9_led.1.name q_X9_led.2.1 0 9 I_X9_led_9 = true := by decide +kernel
def p_X9_led_9 : Nat → Nat → Int32 → Int32 → Int32 → AH → Option (Int32 × AH)
  | 0, _, _, _, _, _ => none
  | n + 1, a0, x1, x2, x3, h => if (tg h a0).1 = 8 then (if (rR h a0 3) = 0 then (p_X9_led_61 a0 h)
    else
    if (tg h a0).1 = 8 then (if (tg h (rR h a0 3)).1 = 7 then (if x3 < (rI h (rR h a0 3) 0) then (if (tg h a0).1 = 8 then (if inB h (rR h a0 15) 100 (((147 : Int32)) + x3) then (if (rI h (rR h a0 15) (((147 : Int32)) + x3).toNatClampNeg) = ((-2 : Int32)) then (if x2 = x1 then (some (x3, h))
    else
    p_X9_led_55 (p_X9_led_9 n) a0 x1 (x2 + (1 : Int32)) x3 h)
    else
    p_X9_led_55 (p_X9_led_9 n) a0 x1 x2 x3 h) else none) else none)
    else
    p_X9_led_61 a0 h) else none) else none) else none
set_option maxRecDepth 100000 in
theorem e_X9_led_9 {l : Launch} {D : va_G} {dA : Nat → ClassId} {z : Nat} {sa : Nat → Nat} {Hz : Heap} (E : StrOK qLen qCh l D dA z sa Hz) {h0 fin : AH} {x : Int32}  : ∀ (n : Nat) (a0 : Nat) (x1 : Int32) (x2 : Int32) (x3 : Int32) (h : AH), p_X9_led_9 n a0 x1 x2 x3 h = some (x, fin) → GM l D dA z sa Hz q_X9_led h0 (some (.int x)) fin 9 [(0, .ref a0), (1, .int x1), (2, .int x2), (3, .int x3)] [] h := by
  intro n
  induction n with
  | zero => intro a0 x1 x2 x3 h hd; exact nomatch hd
  | succ n ih =>
    intro a0 x1 x2 x3 h hd
    exact step E (is := I_X9_led_9) (pc := 9) (K := (kx 61 (fun la st h => gR la 0 fun a0 => sE st (p_X9_led_61 a0 h)) (kx 45 (fun la st h => gR la 0 fun a0 => gI la 1 fun x1 => gI la 2 fun x2 => gI la 3 fun x3 => sE st (p_X9_led_45 (p_X9_led_9 n) a0 x1 x2 x3 h)) (kx 55 (fun la st h => gR la 0 fun a0 => gI la 1 fun x1 => gI la 2 fun x2 => gI la 3 fun x3 => sE st (p_X9_led_55 (p_X9_led_9 n) a0 x1 x2 x3 h)) k0)))) (FI := fI0) (FV := fV0) (FL := fL0) (rt := rtI) (ft := 0) (by exact hd) ok_X9_led_9 (kx_ok (fun la st h e => by obtain ⟨a0, m_a0, e1⟩ := gR_inv e; obtain ⟨rfl, ez⟩ := sE_inv e1; exact gm_fewer (e_X9_led_61 E  a0 h ez) (mem_cons m_a0 mem_nil)) (kx_ok (fun la st h e => by obtain ⟨a0, m_a0, e1⟩ := gR_inv e; obtain ⟨x1, m_x1, e2⟩ := gI_inv e1; obtain ⟨x2, m_x2, e3⟩ := gI_inv e2; obtain ⟨x3, m_x3, e4⟩ := gI_inv e3; obtain ⟨rfl, ez⟩ := sE_inv e4; exact gm_fewer (e_X9_led_45 E ih a0 x1 x2 x3 h ez) (mem_cons m_a0 (mem_cons m_x1 (mem_cons m_x2 (mem_cons m_x3 mem_nil))))) (kx_ok (fun la st h e => by obtain ⟨a0, m_a0, e1⟩ := gR_inv e; obtain ⟨x1, m_x1, e2⟩ := gI_inv e1; obtain ⟨x2, m_x2, e3⟩ := gI_inv e2; obtain ⟨x3, m_x3, e4⟩ := gI_inv e3; obtain ⟨rfl, ez⟩ := sE_inv e4; exact gm_fewer (e_X9_led_55 E ih a0 x1 x2 x3 h ez) (mem_cons m_a0 (mem_cons m_x1 (mem_cons m_x2 (mem_cons m_x3 mem_nil))))) k0_ok))) (fI0_ok E) (fV0_ok E) (fL0_ok E) (rtI_ok rfl)
def I_X9_led_0 : List AI := [(.aload_n 0, 1, [], 0), (.iconst 0, 1, [], 0), (.putfield 33, 3, [8, 0, 0, 1345], 0), (.iconst 0, 1, [], 0), (.istore_n 2, 1, [], 0), (.iconst 0, 1, [], 0), (.istore_n 3, 1, [], 0)]
theorem ok_X9_led_0 : vBL MT qLen qCh false q_X9_led.2.2.2.2.1 q_X9_led.2.2.2.2.2.1 q_X9_led.2.2.1 q_X9_led.1.cls q_X9_led.1.name q_X9_led.2.1 9 0 I_X9_led_0 = true := by decide +kernel
def p_X9_led (a0 : Nat) (x1 : Int32) (h : AH) : Option (Int32 × AH) :=
  if (tg h a0).1 = 8 then (let h102 := wI h a0 0 ((0 : Int32))
  p_X9_led_9 FU a0 x1 ((0 : Int32)) ((0 : Int32)) h102) else none
set_option maxRecDepth 100000 in
theorem e_X9_led_0 {l : Launch} {D : va_G} {dA : Nat → ClassId} {z : Nat} {sa : Nat → Nat} {Hz : Heap} (E : StrOK qLen qCh l D dA z sa Hz) {h0 fin : AH} {x : Int32}  : ∀ (a0 : Nat) (x1 : Int32) (h : AH), p_X9_led a0 x1 h = some (x, fin) → GM l D dA z sa Hz q_X9_led h0 (some (.int x)) fin 0 [(0, .ref a0), (1, .int x1)] [] h := by
  intro a0 x1 h hd
  exact step E (is := I_X9_led_0) (pc := 0) (K := (kx 9 (fun la st h => gR la 0 fun a0 => gI la 1 fun x1 => gI la 2 fun x2 => gI la 3 fun x3 => sE st (p_X9_led_9 FU a0 x1 x2 x3 h)) k0)) (FI := fI0) (FV := fV0) (FL := fL0) (rt := rtI) (ft := 9) (by exact hd) ok_X9_led_0 (kx_ok (fun la st h e => by obtain ⟨a0, m_a0, e1⟩ := gR_inv e; obtain ⟨x1, m_x1, e2⟩ := gI_inv e1; obtain ⟨x2, m_x2, e3⟩ := gI_inv e2; obtain ⟨x3, m_x3, e4⟩ := gI_inv e3; obtain ⟨rfl, ez⟩ := sE_inv e4; exact gm_fewer (e_X9_led_9 E  FU a0 x1 x2 x3 h ez) (mem_cons m_a0 (mem_cons m_x1 (mem_cons m_x2 (mem_cons m_x3 mem_nil))))) k0_ok) (fI0_ok E) (fV0_ok E) (fL0_ok E) (rtI_ok rfl)
theorem c_X9_led {l : Launch} {D : va_G} {dA : Nat → ClassId} {z : Nat} {sa : Nat → Nat} {Hz : Heap} (E : StrOK qLen qCh l D dA z sa Hz) {a0 : Nat} {x1 : Int32} {h fin : AH} {x : Int32} (hd : p_X9_led a0 x1 h = some (x, fin)) : CalOK l D dA z sa Hz q_X9_led [.ref a0, .int x1] h (some (.int x)) fin := calOf (by decide +kernel) (Nat.le_of_ble_eq_true rfl) (e_X9_led_0 E a0 x1 h hd)
def I_X9_backedMany_37 : List AI := [(.iload_n 1, 1, [], 0), (.ireturn, 1, [], 0)]
theorem ok_X9_backedMany_37 : vBL MT qLen qCh false q_X9_backedMany.2.2.2.2.1 q_X9_backedMany.2.2.2.2.2.1 q_X9_backedMany.2.2.1 q_X9_backedMany.1.cls q_X9_backedMany.1.name q_X9_backedMany.2.1 0 37 I_X9_backedMany_37 = true := by decide +kernel
def p_X9_backedMany_37 (x1 : Int32) (h : AH) : Option (Int32 × AH) :=
  some (x1, h)
set_option maxRecDepth 100000 in
theorem e_X9_backedMany_37 {l : Launch} {D : va_G} {dA : Nat → ClassId} {z : Nat} {sa : Nat → Nat} {Hz : Heap} (E : StrOK qLen qCh l D dA z sa Hz) {h0 fin : AH} {x : Int32}  : ∀ (x1 : Int32) (h : AH), p_X9_backedMany_37 x1 h = some (x, fin) → GM l D dA z sa Hz q_X9_backedMany h0 (some (.int x)) fin 37 [(1, .int x1)] [] h := by
  intro x1 h hd
  exact step E (is := I_X9_backedMany_37) (pc := 37) (K := k0) (FI := fI0) (FV := fV0) (FL := fL0) (rt := rtI) (ft := 0) (by exact hd) ok_X9_backedMany_37 k0_ok (fI0_ok E) (fV0_ok E) (fL0_ok E) (rtI_ok rfl)
def I_X9_backedMany_29 : List AI := [(.iadd, 1, [], 0), (.istore_n 1, 1, [], 0), (.iinc 2 1, 3, [], 1), (.goto (-30), 3, [4], 0)]
theorem ok_X9_backedMany_29 : vBL MT qLen qCh false q_X9_backedMany.2.2.2.2.1 q_X9_backedMany.2.2.2.2.2.1 q_X9_backedMany.2.2.1 q_X9_backedMany.1.cls q_X9_backedMany.1.name q_X9_backedMany.2.1 0 29 I_X9_backedMany_29 = true := by decide +kernel
def p_X9_backedMany_29 (k4 : Nat → Int32 → Int32 → AH → Option (Int32 × AH)) (a0 : Nat) (x2 : Int32) (y0 : Int32) (y1 : Int32) (h : AH) : Option (Int32 × AH) :=
  let x101 := y1 + y0
  k4 a0 x101 (x2 + (1 : Int32)) h
set_option maxRecDepth 100000 in
theorem e_X9_backedMany_29 {l : Launch} {D : va_G} {dA : Nat → ClassId} {z : Nat} {sa : Nat → Nat} {Hz : Heap} (E : StrOK qLen qCh l D dA z sa Hz) {h0 fin : AH} {x : Int32}  {k4 : Nat → Int32 → Int32 → AH → Option (Int32 × AH)} (hk4 : ∀ (a0 : Nat) (x1 : Int32) (x2 : Int32) (h : AH), k4 a0 x1 x2 h = some (x, fin) → GM l D dA z sa Hz q_X9_backedMany h0 (some (.int x)) fin 4 [(0, .ref a0), (1, .int x1), (2, .int x2)] [] h) : ∀ (a0 : Nat) (x2 : Int32) (y0 : Int32) (y1 : Int32) (h : AH), p_X9_backedMany_29 k4 a0 x2 y0 y1 h = some (x, fin) → GM l D dA z sa Hz q_X9_backedMany h0 (some (.int x)) fin 29 [(0, .ref a0), (2, .int x2)] [.int y0, .int y1] h := by
  intro a0 x2 y0 y1 h hd
  exact step E (is := I_X9_backedMany_29) (pc := 29) (K := (kx 4 (fun la st h => gR la 0 fun a0 => gI la 1 fun x1 => gI la 2 fun x2 => sE st (k4 a0 x1 x2 h)) k0)) (FI := fI0) (FV := fV0) (FL := fL0) (rt := rtI) (ft := 0) (by exact hd) ok_X9_backedMany_29 (kx_ok (fun la st h e => by obtain ⟨a0, m_a0, e1⟩ := gR_inv e; obtain ⟨x1, m_x1, e2⟩ := gI_inv e1; obtain ⟨x2, m_x2, e3⟩ := gI_inv e2; obtain ⟨rfl, ez⟩ := sE_inv e3; exact gm_fewer (hk4 a0 x1 x2 h ez) (mem_cons m_a0 (mem_cons m_x1 (mem_cons m_x2 mem_nil)))) k0_ok) (fI0_ok E) (fV0_ok E) (fL0_ok E) (rtI_ok rfl)
def I_X9_backedMany_28 : List AI := [(.iconst 0, 1, [], 0)]
theorem ok_X9_backedMany_28 : vBL MT qLen qCh false q_X9_backedMany.2.2.2.2.1 q_X9_backedMany.2.2.2.2.2.1 q_X9_backedMany.2.2.1 q_X9_backedMany.1.cls q_X9_backedMany.1.name q_X9_backedMany.2.1 29 28 I_X9_backedMany_28 = true := by decide +kernel
def p_X9_backedMany_28 (k4 : Nat → Int32 → Int32 → AH → Option (Int32 × AH)) (a0 : Nat) (x2 : Int32) (y0 : Int32) (h : AH) : Option (Int32 × AH) :=
  p_X9_backedMany_29 k4 a0 x2 ((0 : Int32)) y0 h
set_option maxRecDepth 100000 in
theorem e_X9_backedMany_28 {l : Launch} {D : va_G} {dA : Nat → ClassId} {z : Nat} {sa : Nat → Nat} {Hz : Heap} (E : StrOK qLen qCh l D dA z sa Hz) {h0 fin : AH} {x : Int32}  {k4 : Nat → Int32 → Int32 → AH → Option (Int32 × AH)} (hk4 : ∀ (a0 : Nat) (x1 : Int32) (x2 : Int32) (h : AH), k4 a0 x1 x2 h = some (x, fin) → GM l D dA z sa Hz q_X9_backedMany h0 (some (.int x)) fin 4 [(0, .ref a0), (1, .int x1), (2, .int x2)] [] h) : ∀ (a0 : Nat) (x2 : Int32) (y0 : Int32) (h : AH), p_X9_backedMany_28 k4 a0 x2 y0 h = some (x, fin) → GM l D dA z sa Hz q_X9_backedMany h0 (some (.int x)) fin 28 [(0, .ref a0), (2, .int x2)] [.int y0] h := by
  intro a0 x2 y0 h hd
  exact step E (is := I_X9_backedMany_28) (pc := 28) (K := (kx 29 (fun la st h => gR la 0 fun a0 => gI la 2 fun x2 => sI st fun y0 st => sI st fun y1 st => sE st (p_X9_backedMany_29 k4 a0 x2 y0 y1 h)) k0)) (FI := fI0) (FV := fV0) (FL := fL0) (rt := rtI) (ft := 29) (by exact hd) ok_X9_backedMany_28 (kx_ok (fun la st h e => by obtain ⟨a0, m_a0, e1⟩ := gR_inv e; obtain ⟨x2, m_x2, e2⟩ := gI_inv e1; obtain ⟨y0, _, rfl, e3⟩ := sI_inv e2; obtain ⟨y1, _, rfl, e4⟩ := sI_inv e3; obtain ⟨rfl, ez⟩ := sE_inv e4; exact gm_fewer (e_X9_backedMany_29 E hk4 a0 x2 y0 y1 h ez) (mem_cons m_a0 (mem_cons m_x2 mem_nil))) k0_ok) (fI0_ok E) (fV0_ok E) (fL0_ok E) (rtI_ok rfl)
def I_X9_backedMany_4 : List AI := [(.iload_n 2, 1, [], 0), (.bipush 16, 2, [], 16), (.if_icmp .ge 30, 3, [37], 0), (.iload_n 1, 1, [], 0), (.aload_n 0, 1, [], 0), (.getfield 17, 3, [8, 15, 2, 1360], 0), (.sipush 128, 3, [], 128), (.iload_n 2, 1, [], 0), (.iadd, 1, [], 0), (.iaload, 1, [], 0), (.ifCond .le 7, 3, [28], 0), (.iconst 1, 1, [], 1), (.goto 4, 3, [29], 0)]
theorem ok_X9_backedMany_4 : vBL MT qLen qCh false q_X9_backedMany.2.2.2.2.1 q_X9_backedMany.2.2.2.2.2.1 q_X9_backedMany.2.2.1 q_X9_backedMany.1.cls q_X9_backedMany.1.name q_X9_backedMany.2.1 0 4 I_X9_backedMany_4 = true := by decide +kernel
def p_X9_backedMany_4 : Nat → Nat → Int32 → Int32 → AH → Option (Int32 × AH)
  | 0, _, _, _, _ => none
  | n + 1, a0, x1, x2, h => if x2 < ((16 : Int32)) then (if (tg h a0).1 = 8 then (if inB h (rR h a0 15) 100 (((128 : Int32)) + x2) then (if 0 < (rI h (rR h a0 15) (((128 : Int32)) + x2).toNatClampNeg) then (p_X9_backedMany_29 (p_X9_backedMany_4 n) a0 x2 ((1 : Int32)) x1 h)
    else
    p_X9_backedMany_29 (p_X9_backedMany_4 n) a0 x2 ((0 : Int32)) x1 h) else none) else none)
    else
    some (x1, h)
set_option maxRecDepth 100000 in
theorem e_X9_backedMany_4 {l : Launch} {D : va_G} {dA : Nat → ClassId} {z : Nat} {sa : Nat → Nat} {Hz : Heap} (E : StrOK qLen qCh l D dA z sa Hz) {h0 fin : AH} {x : Int32}  : ∀ (n : Nat) (a0 : Nat) (x1 : Int32) (x2 : Int32) (h : AH), p_X9_backedMany_4 n a0 x1 x2 h = some (x, fin) → GM l D dA z sa Hz q_X9_backedMany h0 (some (.int x)) fin 4 [(0, .ref a0), (1, .int x1), (2, .int x2)] [] h := by
  intro n
  induction n with
  | zero => intro a0 x1 x2 h hd; exact nomatch hd
  | succ n ih =>
    intro a0 x1 x2 h hd
    exact step E (is := I_X9_backedMany_4) (pc := 4) (K := (kx 37 (fun la st h => gI la 1 fun x1 => sE st (p_X9_backedMany_37 x1 h)) (kx 28 (fun la st h => gR la 0 fun a0 => gI la 2 fun x2 => sI st fun y0 st => sE st (p_X9_backedMany_28 (p_X9_backedMany_4 n) a0 x2 y0 h)) (kx 29 (fun la st h => gR la 0 fun a0 => gI la 2 fun x2 => sI st fun y0 st => sI st fun y1 st => sE st (p_X9_backedMany_29 (p_X9_backedMany_4 n) a0 x2 y0 y1 h)) k0)))) (FI := fI0) (FV := fV0) (FL := fL0) (rt := rtI) (ft := 0) (by exact hd) ok_X9_backedMany_4 (kx_ok (fun la st h e => by obtain ⟨x1, m_x1, e1⟩ := gI_inv e; obtain ⟨rfl, ez⟩ := sE_inv e1; exact gm_fewer (e_X9_backedMany_37 E  x1 h ez) (mem_cons m_x1 mem_nil)) (kx_ok (fun la st h e => by obtain ⟨a0, m_a0, e1⟩ := gR_inv e; obtain ⟨x2, m_x2, e2⟩ := gI_inv e1; obtain ⟨y0, _, rfl, e3⟩ := sI_inv e2; obtain ⟨rfl, ez⟩ := sE_inv e3; exact gm_fewer (e_X9_backedMany_28 E ih a0 x2 y0 h ez) (mem_cons m_a0 (mem_cons m_x2 mem_nil))) (kx_ok (fun la st h e => by obtain ⟨a0, m_a0, e1⟩ := gR_inv e; obtain ⟨x2, m_x2, e2⟩ := gI_inv e1; obtain ⟨y0, _, rfl, e3⟩ := sI_inv e2; obtain ⟨y1, _, rfl, e4⟩ := sI_inv e3; obtain ⟨rfl, ez⟩ := sE_inv e4; exact gm_fewer (e_X9_backedMany_29 E ih a0 x2 y0 y1 h ez) (mem_cons m_a0 (mem_cons m_x2 mem_nil))) k0_ok))) (fI0_ok E) (fV0_ok E) (fL0_ok E) (rtI_ok rfl)
def I_X9_backedMany_0 : List AI := [(.iconst 0, 1, [], 0), (.istore_n 1, 1, [], 0), (.iconst 0, 1, [], 0), (.istore_n 2, 1, [], 0)]
theorem ok_X9_backedMany_0 : vBL MT qLen qCh false q_X9_backedMany.2.2.2.2.1 q_X9_backedMany.2.2.2.2.2.1 q_X9_backedMany.2.2.1 q_X9_backedMany.1.cls q_X9_backedMany.1.name q_X9_backedMany.2.1 4 0 I_X9_backedMany_0 = true := by decide +kernel
def p_X9_backedMany (a0 : Nat) (h : AH) : Option (Int32 × AH) :=
  p_X9_backedMany_4 FU a0 ((0 : Int32)) ((0 : Int32)) h
set_option maxRecDepth 100000 in
theorem e_X9_backedMany_0 {l : Launch} {D : va_G} {dA : Nat → ClassId} {z : Nat} {sa : Nat → Nat} {Hz : Heap} (E : StrOK qLen qCh l D dA z sa Hz) {h0 fin : AH} {x : Int32}  : ∀ (a0 : Nat) (h : AH), p_X9_backedMany a0 h = some (x, fin) → GM l D dA z sa Hz q_X9_backedMany h0 (some (.int x)) fin 0 [(0, .ref a0)] [] h := by
  intro a0 h hd
  exact step E (is := I_X9_backedMany_0) (pc := 0) (K := (kx 4 (fun la st h => gR la 0 fun a0 => gI la 1 fun x1 => gI la 2 fun x2 => sE st (p_X9_backedMany_4 FU a0 x1 x2 h)) k0)) (FI := fI0) (FV := fV0) (FL := fL0) (rt := rtI) (ft := 4) (by exact hd) ok_X9_backedMany_0 (kx_ok (fun la st h e => by obtain ⟨a0, m_a0, e1⟩ := gR_inv e; obtain ⟨x1, m_x1, e2⟩ := gI_inv e1; obtain ⟨x2, m_x2, e3⟩ := gI_inv e2; obtain ⟨rfl, ez⟩ := sE_inv e3; exact gm_fewer (e_X9_backedMany_4 E  FU a0 x1 x2 h ez) (mem_cons m_a0 (mem_cons m_x1 (mem_cons m_x2 mem_nil)))) k0_ok) (fI0_ok E) (fV0_ok E) (fL0_ok E) (rtI_ok rfl)
theorem c_X9_backedMany {l : Launch} {D : va_G} {dA : Nat → ClassId} {z : Nat} {sa : Nat → Nat} {Hz : Heap} (E : StrOK qLen qCh l D dA z sa Hz) {a0 : Nat} {h fin : AH} {x : Int32} (hd : p_X9_backedMany a0 h = some (x, fin)) : CalOK l D dA z sa Hz q_X9_backedMany [.ref a0] h (some (.int x)) fin := calOf (by decide +kernel) (Nat.le_of_ble_eq_true rfl) (e_X9_backedMany_0 E a0 h hd)
def FI_X9_size : Nat → List Value → AH → Option (Int32 × AH) := (cx 211 (fun As h => sI As fun x0 As => sI As fun x1 As => sI As fun x2 As => sE As (p_X9_in x0 x1 x2 h)) (cx 338 (fun As h => sR As fun a0 As => sE As (p_X9_backedMany a0 h)) fI0))
theorem FI_X9_size_ok {l : Launch} {D : va_G} {dA : Nat → ClassId} {z : Nat} {sa : Nat → Nat} {Hz : Heap} (E : StrOK qLen qCh l D dA z sa Hz) : ∀ mi As h x h', FI_X9_size mi As h = some (x, h') → CalOK l D dA z sa Hz (MT mi) As h (some (.int x)) h' := (cxI_ok (fun As h x h2 e => by obtain ⟨_, _, rfl, e0⟩ := sI_inv e; obtain ⟨_, _, rfl, e1⟩ := sI_inv e0; obtain ⟨_, _, rfl, e2⟩ := sI_inv e1; obtain ⟨rfl, ez⟩ := sE_inv e2; exact c_X9_in E ez) ((cxI_ok (fun As h x h2 e => by obtain ⟨_, _, rfl, e0⟩ := sR_inv e; obtain ⟨rfl, ez⟩ := sE_inv e0; exact c_X9_backedMany E ez) (fI0_ok E))))
def I_X9_size_157 : List AI := [(.aload_n 0, 1, [], 0), (.getfield 276, 3, [8, 20, 0, 1365], 0), (.ireturn, 1, [], 0)]
theorem ok_X9_size_157 : vBL MT qLen qCh false q_X9_size.2.2.2.2.1 q_X9_size.2.2.2.2.2.1 q_X9_size.2.2.1 q_X9_size.1.cls q_X9_size.1.name q_X9_size.2.1 0 157 I_X9_size_157 = true := by decide +kernel
def p_X9_size_157 (a0 : Nat) (h : AH) : Option (Int32 × AH) :=
  if (tg h a0).1 = 8 then (some ((rI h a0 20), h)) else none
set_option maxRecDepth 100000 in
theorem e_X9_size_157 {l : Launch} {D : va_G} {dA : Nat → ClassId} {z : Nat} {sa : Nat → Nat} {Hz : Heap} (E : StrOK qLen qCh l D dA z sa Hz) {h0 fin : AH} {x : Int32}  : ∀ (a0 : Nat) (h : AH), p_X9_size_157 a0 h = some (x, fin) → GM l D dA z sa Hz q_X9_size h0 (some (.int x)) fin 157 [(0, .ref a0)] [] h := by
  intro a0 h hd
  exact step E (is := I_X9_size_157) (pc := 157) (K := k0) (FI := FI_X9_size) (FV := fV0) (FL := fL0) (rt := rtI) (ft := 0) (by exact hd) ok_X9_size_157 k0_ok (FI_X9_size_ok E) (fV0_ok E) (fL0_ok E) (rtI_ok rfl)
def I_X9_size_92 : List AI := [(.aload_n 0, 1, [], 0), (.getfield 265, 3, [8, 3, 2, 1348], 0), (.getfield 124, 3, [7, 0, 0, 1491], 0), (.ireturn, 1, [], 0)]
theorem ok_X9_size_92 : vBL MT qLen qCh false q_X9_size.2.2.2.2.1 q_X9_size.2.2.2.2.2.1 q_X9_size.2.2.1 q_X9_size.1.cls q_X9_size.1.name q_X9_size.2.1 0 92 I_X9_size_92 = true := by decide +kernel
def p_X9_size_92 (a0 : Nat) (h : AH) : Option (Int32 × AH) :=
  if (tg h a0).1 = 8 then (if (tg h (rR h a0 3)).1 = 7 then (some ((rI h (rR h a0 3) 0), h)) else none) else none
set_option maxRecDepth 100000 in
theorem e_X9_size_92 {l : Launch} {D : va_G} {dA : Nat → ClassId} {z : Nat} {sa : Nat → Nat} {Hz : Heap} (E : StrOK qLen qCh l D dA z sa Hz) {h0 fin : AH} {x : Int32}  : ∀ (a0 : Nat) (h : AH), p_X9_size_92 a0 h = some (x, fin) → GM l D dA z sa Hz q_X9_size h0 (some (.int x)) fin 92 [(0, .ref a0)] [] h := by
  intro a0 h hd
  exact step E (is := I_X9_size_92) (pc := 92) (K := k0) (FI := FI_X9_size) (FV := fV0) (FL := fL0) (rt := rtI) (ft := 0) (by exact hd) ok_X9_size_92 k0_ok (FI_X9_size_ok E) (fV0_ok E) (fL0_ok E) (rtI_ok rfl)
def I_X9_size_100 : List AI := [(.aload_n 0, 1, [], 0), (.invokevirtual 501, 3, [1, 338, 1, 8, 2110], 0), (.ireturn, 1, [], 0)]
theorem ok_X9_size_100 : vBL MT qLen qCh false q_X9_size.2.2.2.2.1 q_X9_size.2.2.2.2.2.1 q_X9_size.2.2.1 q_X9_size.1.cls q_X9_size.1.name q_X9_size.2.1 0 100 I_X9_size_100 = true := by decide +kernel
def p_X9_size_100 (a0 : Nat) (h : AH) : Option (Int32 × AH) :=
  if (tg h a0).1 = 8 then ((p_X9_backedMany a0 h).bind fun q101 =>
  some (q101.1, q101.2)) else none
set_option maxRecDepth 100000 in
theorem e_X9_size_100 {l : Launch} {D : va_G} {dA : Nat → ClassId} {z : Nat} {sa : Nat → Nat} {Hz : Heap} (E : StrOK qLen qCh l D dA z sa Hz) {h0 fin : AH} {x : Int32}  : ∀ (a0 : Nat) (h : AH), p_X9_size_100 a0 h = some (x, fin) → GM l D dA z sa Hz q_X9_size h0 (some (.int x)) fin 100 [(0, .ref a0)] [] h := by
  intro a0 h hd
  exact step E (is := I_X9_size_100) (pc := 100) (K := k0) (FI := FI_X9_size) (FV := fV0) (FL := fL0) (rt := rtI) (ft := 0) (by exact hd) ok_X9_size_100 k0_ok (FI_X9_size_ok E) (fV0_ok E) (fL0_ok E) (rtI_ok rfl)
def I_X9_size_105 : List AI := [(.aload_n 0, 1, [], 0), (.getfield 265, 3, [8, 3, 2, 1348], 0), (.getfield 204, 3, [7, 4, 0, 1495], 0), (.ireturn, 1, [], 0)]
theorem ok_X9_size_105 : vBL MT qLen qCh false q_X9_size.2.2.2.2.1 q_X9_size.2.2.2.2.2.1 q_X9_size.2.2.1 q_X9_size.1.cls q_X9_size.1.name q_X9_size.2.1 0 105 I_X9_size_105 = true := by decide +kernel
def p_X9_size_105 (a0 : Nat) (h : AH) : Option (Int32 × AH) :=
  if (tg h a0).1 = 8 then (if (tg h (rR h a0 3)).1 = 7 then (some ((rI h (rR h a0 3) 4), h)) else none) else none
set_option maxRecDepth 100000 in
theorem e_X9_size_105 {l : Launch} {D : va_G} {dA : Nat → ClassId} {z : Nat} {sa : Nat → Nat} {Hz : Heap} (E : StrOK qLen qCh l D dA z sa Hz) {h0 fin : AH} {x : Int32}  : ∀ (a0 : Nat) (h : AH), p_X9_size_105 a0 h = some (x, fin) → GM l D dA z sa Hz q_X9_size h0 (some (.int x)) fin 105 [(0, .ref a0)] [] h := by
  intro a0 h hd
  exact step E (is := I_X9_size_105) (pc := 105) (K := k0) (FI := FI_X9_size) (FV := fV0) (FL := fL0) (rt := rtI) (ft := 0) (by exact hd) ok_X9_size_105 k0_ok (FI_X9_size_ok E) (fV0_ok E) (fL0_ok E) (rtI_ok rfl)
def I_X9_size_113 : List AI := [(.aload_n 0, 1, [], 0), (.getfield 265, 3, [8, 3, 2, 1348], 0), (.getfield 213, 3, [7, 5, 0, 1496], 0), (.ireturn, 1, [], 0)]
theorem ok_X9_size_113 : vBL MT qLen qCh false q_X9_size.2.2.2.2.1 q_X9_size.2.2.2.2.2.1 q_X9_size.2.2.1 q_X9_size.1.cls q_X9_size.1.name q_X9_size.2.1 0 113 I_X9_size_113 = true := by decide +kernel
def p_X9_size_113 (a0 : Nat) (h : AH) : Option (Int32 × AH) :=
  if (tg h a0).1 = 8 then (if (tg h (rR h a0 3)).1 = 7 then (some ((rI h (rR h a0 3) 5), h)) else none) else none
set_option maxRecDepth 100000 in
theorem e_X9_size_113 {l : Launch} {D : va_G} {dA : Nat → ClassId} {z : Nat} {sa : Nat → Nat} {Hz : Heap} (E : StrOK qLen qCh l D dA z sa Hz) {h0 fin : AH} {x : Int32}  : ∀ (a0 : Nat) (h : AH), p_X9_size_113 a0 h = some (x, fin) → GM l D dA z sa Hz q_X9_size h0 (some (.int x)) fin 113 [(0, .ref a0)] [] h := by
  intro a0 h hd
  exact step E (is := I_X9_size_113) (pc := 113) (K := k0) (FI := FI_X9_size) (FV := fV0) (FL := fL0) (rt := rtI) (ft := 0) (by exact hd) ok_X9_size_113 k0_ok (FI_X9_size_ok E) (fV0_ok E) (fL0_ok E) (rtI_ok rfl)
def I_X9_size_121 : List AI := [(.aload_n 0, 1, [], 0), (.getfield 265, 3, [8, 3, 2, 1348], 0), (.getfield 224, 3, [7, 6, 0, 1498], 0), (.ireturn, 1, [], 0)]
theorem ok_X9_size_121 : vBL MT qLen qCh false q_X9_size.2.2.2.2.1 q_X9_size.2.2.2.2.2.1 q_X9_size.2.2.1 q_X9_size.1.cls q_X9_size.1.name q_X9_size.2.1 0 121 I_X9_size_121 = true := by decide +kernel
def p_X9_size_121 (a0 : Nat) (h : AH) : Option (Int32 × AH) :=
  if (tg h a0).1 = 8 then (if (tg h (rR h a0 3)).1 = 7 then (some ((rI h (rR h a0 3) 6), h)) else none) else none
set_option maxRecDepth 100000 in
theorem e_X9_size_121 {l : Launch} {D : va_G} {dA : Nat → ClassId} {z : Nat} {sa : Nat → Nat} {Hz : Heap} (E : StrOK qLen qCh l D dA z sa Hz) {h0 fin : AH} {x : Int32}  : ∀ (a0 : Nat) (h : AH), p_X9_size_121 a0 h = some (x, fin) → GM l D dA z sa Hz q_X9_size h0 (some (.int x)) fin 121 [(0, .ref a0)] [] h := by
  intro a0 h hd
  exact step E (is := I_X9_size_121) (pc := 121) (K := k0) (FI := FI_X9_size) (FV := fV0) (FL := fL0) (rt := rtI) (ft := 0) (by exact hd) ok_X9_size_121 k0_ok (FI_X9_size_ok E) (fV0_ok E) (fL0_ok E) (rtI_ok rfl)
def I_X9_size_129 : List AI := [(.aload_n 0, 1, [], 0), (.getfield 265, 3, [8, 3, 2, 1348], 0), (.getfield 235, 3, [7, 7, 0, 1500], 0), (.ireturn, 1, [], 0)]
theorem ok_X9_size_129 : vBL MT qLen qCh false q_X9_size.2.2.2.2.1 q_X9_size.2.2.2.2.2.1 q_X9_size.2.2.1 q_X9_size.1.cls q_X9_size.1.name q_X9_size.2.1 0 129 I_X9_size_129 = true := by decide +kernel
def p_X9_size_129 (a0 : Nat) (h : AH) : Option (Int32 × AH) :=
  if (tg h a0).1 = 8 then (if (tg h (rR h a0 3)).1 = 7 then (some ((rI h (rR h a0 3) 7), h)) else none) else none
set_option maxRecDepth 100000 in
theorem e_X9_size_129 {l : Launch} {D : va_G} {dA : Nat → ClassId} {z : Nat} {sa : Nat → Nat} {Hz : Heap} (E : StrOK qLen qCh l D dA z sa Hz) {h0 fin : AH} {x : Int32}  : ∀ (a0 : Nat) (h : AH), p_X9_size_129 a0 h = some (x, fin) → GM l D dA z sa Hz q_X9_size h0 (some (.int x)) fin 129 [(0, .ref a0)] [] h := by
  intro a0 h hd
  exact step E (is := I_X9_size_129) (pc := 129) (K := k0) (FI := FI_X9_size) (FV := fV0) (FL := fL0) (rt := rtI) (ft := 0) (by exact hd) ok_X9_size_129 k0_ok (FI_X9_size_ok E) (fV0_ok E) (fL0_ok E) (rtI_ok rfl)
def I_X9_size_137 : List AI := [(.aload_n 0, 1, [], 0), (.getfield 279, 3, [8, 21, 0, 1366], 0), (.ireturn, 1, [], 0)]
theorem ok_X9_size_137 : vBL MT qLen qCh false q_X9_size.2.2.2.2.1 q_X9_size.2.2.2.2.2.1 q_X9_size.2.2.1 q_X9_size.1.cls q_X9_size.1.name q_X9_size.2.1 0 137 I_X9_size_137 = true := by decide +kernel
def p_X9_size_137 (a0 : Nat) (h : AH) : Option (Int32 × AH) :=
  if (tg h a0).1 = 8 then (some ((rI h a0 21), h)) else none
set_option maxRecDepth 100000 in
theorem e_X9_size_137 {l : Launch} {D : va_G} {dA : Nat → ClassId} {z : Nat} {sa : Nat → Nat} {Hz : Heap} (E : StrOK qLen qCh l D dA z sa Hz) {h0 fin : AH} {x : Int32}  : ∀ (a0 : Nat) (h : AH), p_X9_size_137 a0 h = some (x, fin) → GM l D dA z sa Hz q_X9_size h0 (some (.int x)) fin 137 [(0, .ref a0)] [] h := by
  intro a0 h hd
  exact step E (is := I_X9_size_137) (pc := 137) (K := k0) (FI := FI_X9_size) (FV := fV0) (FL := fL0) (rt := rtI) (ft := 0) (by exact hd) ok_X9_size_137 k0_ok (FI_X9_size_ok E) (fV0_ok E) (fL0_ok E) (rtI_ok rfl)
def I_X9_size_142 : List AI := [(.aload_n 0, 1, [], 0), (.getfield 282, 3, [8, 22, 0, 1367], 0), (.ireturn, 1, [], 0)]
theorem ok_X9_size_142 : vBL MT qLen qCh false q_X9_size.2.2.2.2.1 q_X9_size.2.2.2.2.2.1 q_X9_size.2.2.1 q_X9_size.1.cls q_X9_size.1.name q_X9_size.2.1 0 142 I_X9_size_142 = true := by decide +kernel
def p_X9_size_142 (a0 : Nat) (h : AH) : Option (Int32 × AH) :=
  if (tg h a0).1 = 8 then (some ((rI h a0 22), h)) else none
set_option maxRecDepth 100000 in
theorem e_X9_size_142 {l : Launch} {D : va_G} {dA : Nat → ClassId} {z : Nat} {sa : Nat → Nat} {Hz : Heap} (E : StrOK qLen qCh l D dA z sa Hz) {h0 fin : AH} {x : Int32}  : ∀ (a0 : Nat) (h : AH), p_X9_size_142 a0 h = some (x, fin) → GM l D dA z sa Hz q_X9_size h0 (some (.int x)) fin 142 [(0, .ref a0)] [] h := by
  intro a0 h hd
  exact step E (is := I_X9_size_142) (pc := 142) (K := k0) (FI := FI_X9_size) (FV := fV0) (FL := fL0) (rt := rtI) (ft := 0) (by exact hd) ok_X9_size_142 k0_ok (FI_X9_size_ok E) (fV0_ok E) (fL0_ok E) (rtI_ok rfl)
def I_X9_size_147 : List AI := [(.aload_n 0, 1, [], 0), (.getfield 285, 3, [8, 23, 0, 1368], 0), (.ireturn, 1, [], 0)]
theorem ok_X9_size_147 : vBL MT qLen qCh false q_X9_size.2.2.2.2.1 q_X9_size.2.2.2.2.2.1 q_X9_size.2.2.1 q_X9_size.1.cls q_X9_size.1.name q_X9_size.2.1 0 147 I_X9_size_147 = true := by decide +kernel
def p_X9_size_147 (a0 : Nat) (h : AH) : Option (Int32 × AH) :=
  if (tg h a0).1 = 8 then (some ((rI h a0 23), h)) else none
set_option maxRecDepth 100000 in
theorem e_X9_size_147 {l : Launch} {D : va_G} {dA : Nat → ClassId} {z : Nat} {sa : Nat → Nat} {Hz : Heap} (E : StrOK qLen qCh l D dA z sa Hz) {h0 fin : AH} {x : Int32}  : ∀ (a0 : Nat) (h : AH), p_X9_size_147 a0 h = some (x, fin) → GM l D dA z sa Hz q_X9_size h0 (some (.int x)) fin 147 [(0, .ref a0)] [] h := by
  intro a0 h hd
  exact step E (is := I_X9_size_147) (pc := 147) (K := k0) (FI := FI_X9_size) (FV := fV0) (FL := fL0) (rt := rtI) (ft := 0) (by exact hd) ok_X9_size_147 k0_ok (FI_X9_size_ok E) (fV0_ok E) (fL0_ok E) (rtI_ok rfl)
def I_X9_size_152 : List AI := [(.aload_n 0, 1, [], 0), (.getfield 273, 3, [8, 19, 0, 1364], 0), (.ireturn, 1, [], 0)]
theorem ok_X9_size_152 : vBL MT qLen qCh false q_X9_size.2.2.2.2.1 q_X9_size.2.2.2.2.2.1 q_X9_size.2.2.1 q_X9_size.1.cls q_X9_size.1.name q_X9_size.2.1 0 152 I_X9_size_152 = true := by decide +kernel
def p_X9_size_152 (a0 : Nat) (h : AH) : Option (Int32 × AH) :=
  if (tg h a0).1 = 8 then (some ((rI h a0 19), h)) else none
set_option maxRecDepth 100000 in
theorem e_X9_size_152 {l : Launch} {D : va_G} {dA : Nat → ClassId} {z : Nat} {sa : Nat → Nat} {Hz : Heap} (E : StrOK qLen qCh l D dA z sa Hz) {h0 fin : AH} {x : Int32}  : ∀ (a0 : Nat) (h : AH), p_X9_size_152 a0 h = some (x, fin) → GM l D dA z sa Hz q_X9_size h0 (some (.int x)) fin 152 [(0, .ref a0)] [] h := by
  intro a0 h hd
  exact step E (is := I_X9_size_152) (pc := 152) (K := k0) (FI := FI_X9_size) (FV := fV0) (FL := fL0) (rt := rtI) (ft := 0) (by exact hd) ok_X9_size_152 k0_ok (FI_X9_size_ok E) (fV0_ok E) (fL0_ok E) (rtI_ok rfl)
def I_X9_size_37 : List AI := [(.iload_n 1, 1, [], 0), (.tableswitch 119 0 9 #[54, 62, 67, 75, 83, 91, 99, 104, 109, 114], 54, [157, 92, 100, 105, 113, 121, 129, 137, 142, 147, 152], 0)]
theorem ok_X9_size_37 : vBL MT qLen qCh false q_X9_size.2.2.2.2.1 q_X9_size.2.2.2.2.2.1 q_X9_size.2.2.1 q_X9_size.1.cls q_X9_size.1.name q_X9_size.2.1 0 37 I_X9_size_37 = true := by decide +kernel
def p_X9_size_37 (a0 : Nat) (x1 : Int32) (h : AH) : Option (Int32 × AH) :=
  if swT 0 9 [157, 92, 100, 105, 113, 121, 129, 137, 142, 147, 152] x1 = 157 then (if (tg h a0).1 = 8 then (some ((rI h a0 20), h)) else none)
  else
  if swT 0 9 [157, 92, 100, 105, 113, 121, 129, 137, 142, 147, 152] x1 = 92 then (if (tg h a0).1 = 8 then (if (tg h (rR h a0 3)).1 = 7 then (some ((rI h (rR h a0 3) 0), h)) else none) else none)
  else
  if swT 0 9 [157, 92, 100, 105, 113, 121, 129, 137, 142, 147, 152] x1 = 100 then (if (tg h a0).1 = 8 then ((p_X9_backedMany a0 h).bind fun q102 =>
  some (q102.1, q102.2)) else none)
  else
  if swT 0 9 [157, 92, 100, 105, 113, 121, 129, 137, 142, 147, 152] x1 = 105 then (if (tg h a0).1 = 8 then (if (tg h (rR h a0 3)).1 = 7 then (some ((rI h (rR h a0 3) 4), h)) else none) else none)
  else
  if swT 0 9 [157, 92, 100, 105, 113, 121, 129, 137, 142, 147, 152] x1 = 113 then (if (tg h a0).1 = 8 then (if (tg h (rR h a0 3)).1 = 7 then (some ((rI h (rR h a0 3) 5), h)) else none) else none)
  else
  if swT 0 9 [157, 92, 100, 105, 113, 121, 129, 137, 142, 147, 152] x1 = 121 then (if (tg h a0).1 = 8 then (if (tg h (rR h a0 3)).1 = 7 then (some ((rI h (rR h a0 3) 6), h)) else none) else none)
  else
  if swT 0 9 [157, 92, 100, 105, 113, 121, 129, 137, 142, 147, 152] x1 = 129 then (if (tg h a0).1 = 8 then (if (tg h (rR h a0 3)).1 = 7 then (some ((rI h (rR h a0 3) 7), h)) else none) else none)
  else
  if swT 0 9 [157, 92, 100, 105, 113, 121, 129, 137, 142, 147, 152] x1 = 137 then (if (tg h a0).1 = 8 then (some ((rI h a0 21), h)) else none)
  else
  if swT 0 9 [157, 92, 100, 105, 113, 121, 129, 137, 142, 147, 152] x1 = 142 then (if (tg h a0).1 = 8 then (some ((rI h a0 22), h)) else none)
  else
  if swT 0 9 [157, 92, 100, 105, 113, 121, 129, 137, 142, 147, 152] x1 = 147 then (if (tg h a0).1 = 8 then (some ((rI h a0 23), h)) else none)
  else
  if swT 0 9 [157, 92, 100, 105, 113, 121, 129, 137, 142, 147, 152] x1 = 152 then (if (tg h a0).1 = 8 then (some ((rI h a0 19), h)) else none)
  else
  none
set_option maxRecDepth 100000 in
theorem e_X9_size_37 {l : Launch} {D : va_G} {dA : Nat → ClassId} {z : Nat} {sa : Nat → Nat} {Hz : Heap} (E : StrOK qLen qCh l D dA z sa Hz) {h0 fin : AH} {x : Int32}  : ∀ (a0 : Nat) (x1 : Int32) (h : AH), p_X9_size_37 a0 x1 h = some (x, fin) → GM l D dA z sa Hz q_X9_size h0 (some (.int x)) fin 37 [(0, .ref a0), (1, .int x1)] [] h := by
  intro a0 x1 h hd
  exact step E (is := I_X9_size_37) (pc := 37) (K := (kx 157 (fun la st h => gR la 0 fun a0 => sE st (p_X9_size_157 a0 h)) (kx 92 (fun la st h => gR la 0 fun a0 => sE st (p_X9_size_92 a0 h)) (kx 100 (fun la st h => gR la 0 fun a0 => sE st (p_X9_size_100 a0 h)) (kx 105 (fun la st h => gR la 0 fun a0 => sE st (p_X9_size_105 a0 h)) (kx 113 (fun la st h => gR la 0 fun a0 => sE st (p_X9_size_113 a0 h)) (kx 121 (fun la st h => gR la 0 fun a0 => sE st (p_X9_size_121 a0 h)) (kx 129 (fun la st h => gR la 0 fun a0 => sE st (p_X9_size_129 a0 h)) (kx 137 (fun la st h => gR la 0 fun a0 => sE st (p_X9_size_137 a0 h)) (kx 142 (fun la st h => gR la 0 fun a0 => sE st (p_X9_size_142 a0 h)) (kx 147 (fun la st h => gR la 0 fun a0 => sE st (p_X9_size_147 a0 h)) (kx 152 (fun la st h => gR la 0 fun a0 => sE st (p_X9_size_152 a0 h)) k0)))))))))))) (FI := FI_X9_size) (FV := fV0) (FL := fL0) (rt := rtI) (ft := 0) (by exact hd) ok_X9_size_37 (kx_ok (fun la st h e => by obtain ⟨a0, m_a0, e1⟩ := gR_inv e; obtain ⟨rfl, ez⟩ := sE_inv e1; exact gm_fewer (e_X9_size_157 E  a0 h ez) (mem_cons m_a0 mem_nil)) (kx_ok (fun la st h e => by obtain ⟨a0, m_a0, e1⟩ := gR_inv e; obtain ⟨rfl, ez⟩ := sE_inv e1; exact gm_fewer (e_X9_size_92 E  a0 h ez) (mem_cons m_a0 mem_nil)) (kx_ok (fun la st h e => by obtain ⟨a0, m_a0, e1⟩ := gR_inv e; obtain ⟨rfl, ez⟩ := sE_inv e1; exact gm_fewer (e_X9_size_100 E  a0 h ez) (mem_cons m_a0 mem_nil)) (kx_ok (fun la st h e => by obtain ⟨a0, m_a0, e1⟩ := gR_inv e; obtain ⟨rfl, ez⟩ := sE_inv e1; exact gm_fewer (e_X9_size_105 E  a0 h ez) (mem_cons m_a0 mem_nil)) (kx_ok (fun la st h e => by obtain ⟨a0, m_a0, e1⟩ := gR_inv e; obtain ⟨rfl, ez⟩ := sE_inv e1; exact gm_fewer (e_X9_size_113 E  a0 h ez) (mem_cons m_a0 mem_nil)) (kx_ok (fun la st h e => by obtain ⟨a0, m_a0, e1⟩ := gR_inv e; obtain ⟨rfl, ez⟩ := sE_inv e1; exact gm_fewer (e_X9_size_121 E  a0 h ez) (mem_cons m_a0 mem_nil)) (kx_ok (fun la st h e => by obtain ⟨a0, m_a0, e1⟩ := gR_inv e; obtain ⟨rfl, ez⟩ := sE_inv e1; exact gm_fewer (e_X9_size_129 E  a0 h ez) (mem_cons m_a0 mem_nil)) (kx_ok (fun la st h e => by obtain ⟨a0, m_a0, e1⟩ := gR_inv e; obtain ⟨rfl, ez⟩ := sE_inv e1; exact gm_fewer (e_X9_size_137 E  a0 h ez) (mem_cons m_a0 mem_nil)) (kx_ok (fun la st h e => by obtain ⟨a0, m_a0, e1⟩ := gR_inv e; obtain ⟨rfl, ez⟩ := sE_inv e1; exact gm_fewer (e_X9_size_142 E  a0 h ez) (mem_cons m_a0 mem_nil)) (kx_ok (fun la st h e => by obtain ⟨a0, m_a0, e1⟩ := gR_inv e; obtain ⟨rfl, ez⟩ := sE_inv e1; exact gm_fewer (e_X9_size_147 E  a0 h ez) (mem_cons m_a0 mem_nil)) (kx_ok (fun la st h e => by obtain ⟨a0, m_a0, e1⟩ := gR_inv e; obtain ⟨rfl, ez⟩ := sE_inv e1; exact gm_fewer (e_X9_size_152 E  a0 h ez) (mem_cons m_a0 mem_nil)) k0_ok))))))))))) (FI_X9_size_ok E) (fV0_ok E) (fL0_ok E) (rtI_ok rfl)
def I_X9_size_28 : List AI := [(.aload_n 0, 1, [], 0), (.getfield 265, 3, [8, 3, 2, 1348], 0), (.ifnonnull 5, 3, [37], 0), (.iconst 0, 1, [], 0), (.ireturn, 1, [], 0)]
theorem ok_X9_size_28 : vBL MT qLen qCh false q_X9_size.2.2.2.2.1 q_X9_size.2.2.2.2.2.1 q_X9_size.2.2.1 q_X9_size.1.cls q_X9_size.1.name q_X9_size.2.1 0 28 I_X9_size_28 = true := by decide +kernel
def p_X9_size_28 (a0 : Nat) (x1 : Int32) (h : AH) : Option (Int32 × AH) :=
  if (tg h a0).1 = 8 then (if (rR h a0 3) = 0 then (some (((0 : Int32)), h))
  else
  if swT 0 9 [157, 92, 100, 105, 113, 121, 129, 137, 142, 147, 152] x1 = 157 then (if (tg h a0).1 = 8 then (some ((rI h a0 20), h)) else none)
  else
  if swT 0 9 [157, 92, 100, 105, 113, 121, 129, 137, 142, 147, 152] x1 = 92 then (if (tg h a0).1 = 8 then (if (tg h (rR h a0 3)).1 = 7 then (some ((rI h (rR h a0 3) 0), h)) else none) else none)
  else
  if swT 0 9 [157, 92, 100, 105, 113, 121, 129, 137, 142, 147, 152] x1 = 100 then (if (tg h a0).1 = 8 then ((p_X9_backedMany a0 h).bind fun q103 =>
  some (q103.1, q103.2)) else none)
  else
  if swT 0 9 [157, 92, 100, 105, 113, 121, 129, 137, 142, 147, 152] x1 = 105 then (if (tg h a0).1 = 8 then (if (tg h (rR h a0 3)).1 = 7 then (some ((rI h (rR h a0 3) 4), h)) else none) else none)
  else
  if swT 0 9 [157, 92, 100, 105, 113, 121, 129, 137, 142, 147, 152] x1 = 113 then (if (tg h a0).1 = 8 then (if (tg h (rR h a0 3)).1 = 7 then (some ((rI h (rR h a0 3) 5), h)) else none) else none)
  else
  if swT 0 9 [157, 92, 100, 105, 113, 121, 129, 137, 142, 147, 152] x1 = 121 then (if (tg h a0).1 = 8 then (if (tg h (rR h a0 3)).1 = 7 then (some ((rI h (rR h a0 3) 6), h)) else none) else none)
  else
  if swT 0 9 [157, 92, 100, 105, 113, 121, 129, 137, 142, 147, 152] x1 = 129 then (if (tg h a0).1 = 8 then (if (tg h (rR h a0 3)).1 = 7 then (some ((rI h (rR h a0 3) 7), h)) else none) else none)
  else
  if swT 0 9 [157, 92, 100, 105, 113, 121, 129, 137, 142, 147, 152] x1 = 137 then (if (tg h a0).1 = 8 then (some ((rI h a0 21), h)) else none)
  else
  if swT 0 9 [157, 92, 100, 105, 113, 121, 129, 137, 142, 147, 152] x1 = 142 then (if (tg h a0).1 = 8 then (some ((rI h a0 22), h)) else none)
  else
  if swT 0 9 [157, 92, 100, 105, 113, 121, 129, 137, 142, 147, 152] x1 = 147 then (if (tg h a0).1 = 8 then (some ((rI h a0 23), h)) else none)
  else
  if swT 0 9 [157, 92, 100, 105, 113, 121, 129, 137, 142, 147, 152] x1 = 152 then (if (tg h a0).1 = 8 then (some ((rI h a0 19), h)) else none)
  else
  none) else none
set_option maxRecDepth 100000 in
theorem e_X9_size_28 {l : Launch} {D : va_G} {dA : Nat → ClassId} {z : Nat} {sa : Nat → Nat} {Hz : Heap} (E : StrOK qLen qCh l D dA z sa Hz) {h0 fin : AH} {x : Int32}  : ∀ (a0 : Nat) (x1 : Int32) (h : AH), p_X9_size_28 a0 x1 h = some (x, fin) → GM l D dA z sa Hz q_X9_size h0 (some (.int x)) fin 28 [(0, .ref a0), (1, .int x1)] [] h := by
  intro a0 x1 h hd
  exact step E (is := I_X9_size_28) (pc := 28) (K := (kx 37 (fun la st h => gR la 0 fun a0 => gI la 1 fun x1 => sE st (p_X9_size_37 a0 x1 h)) k0)) (FI := FI_X9_size) (FV := fV0) (FL := fL0) (rt := rtI) (ft := 0) (by exact hd) ok_X9_size_28 (kx_ok (fun la st h e => by obtain ⟨a0, m_a0, e1⟩ := gR_inv e; obtain ⟨x1, m_x1, e2⟩ := gI_inv e1; obtain ⟨rfl, ez⟩ := sE_inv e2; exact gm_fewer (e_X9_size_37 E  a0 x1 h ez) (mem_cons m_a0 (mem_cons m_x1 mem_nil))) k0_ok) (FI_X9_size_ok E) (fV0_ok E) (fL0_ok E) (rtI_ok rfl)
def I_X9_size_16 : List AI := [(.iload_n 1, 1, [], 0), (.iconst 0, 1, [], 0), (.bipush 10, 2, [], 10), (.invokestatic 112, 3, [1, 211, 3, 1612], 0), (.ifCond .ne 5, 3, [28], 0), (.iconst (-1), 1, [], (-1)), (.ireturn, 1, [], 0)]
theorem ok_X9_size_16 : vBL MT qLen qCh false q_X9_size.2.2.2.2.1 q_X9_size.2.2.2.2.2.1 q_X9_size.2.2.1 q_X9_size.1.cls q_X9_size.1.name q_X9_size.2.1 0 16 I_X9_size_16 = true := by decide +kernel
def p_X9_size_16 (a0 : Nat) (x1 : Int32) (h : AH) : Option (Int32 × AH) :=
  (p_X9_in x1 ((0 : Int32)) ((10 : Int32)) h).bind fun q104 =>
  if q104.1 = 0 then (some (((-1 : Int32)), q104.2))
  else
  if (tg q104.2 a0).1 = 8 then (if (rR q104.2 a0 3) = 0 then (some (((0 : Int32)), q104.2))
  else
  if swT 0 9 [157, 92, 100, 105, 113, 121, 129, 137, 142, 147, 152] x1 = 157 then (if (tg q104.2 a0).1 = 8 then (some ((rI q104.2 a0 20), q104.2)) else none)
  else
  if swT 0 9 [157, 92, 100, 105, 113, 121, 129, 137, 142, 147, 152] x1 = 92 then (if (tg q104.2 a0).1 = 8 then (if (tg q104.2 (rR q104.2 a0 3)).1 = 7 then (some ((rI q104.2 (rR q104.2 a0 3) 0), q104.2)) else none) else none)
  else
  if swT 0 9 [157, 92, 100, 105, 113, 121, 129, 137, 142, 147, 152] x1 = 100 then (if (tg q104.2 a0).1 = 8 then ((p_X9_backedMany a0 q104.2).bind fun q105 =>
  some (q105.1, q105.2)) else none)
  else
  if swT 0 9 [157, 92, 100, 105, 113, 121, 129, 137, 142, 147, 152] x1 = 105 then (if (tg q104.2 a0).1 = 8 then (if (tg q104.2 (rR q104.2 a0 3)).1 = 7 then (some ((rI q104.2 (rR q104.2 a0 3) 4), q104.2)) else none) else none)
  else
  if swT 0 9 [157, 92, 100, 105, 113, 121, 129, 137, 142, 147, 152] x1 = 113 then (if (tg q104.2 a0).1 = 8 then (if (tg q104.2 (rR q104.2 a0 3)).1 = 7 then (some ((rI q104.2 (rR q104.2 a0 3) 5), q104.2)) else none) else none)
  else
  if swT 0 9 [157, 92, 100, 105, 113, 121, 129, 137, 142, 147, 152] x1 = 121 then (if (tg q104.2 a0).1 = 8 then (if (tg q104.2 (rR q104.2 a0 3)).1 = 7 then (some ((rI q104.2 (rR q104.2 a0 3) 6), q104.2)) else none) else none)
  else
  if swT 0 9 [157, 92, 100, 105, 113, 121, 129, 137, 142, 147, 152] x1 = 129 then (if (tg q104.2 a0).1 = 8 then (if (tg q104.2 (rR q104.2 a0 3)).1 = 7 then (some ((rI q104.2 (rR q104.2 a0 3) 7), q104.2)) else none) else none)
  else
  if swT 0 9 [157, 92, 100, 105, 113, 121, 129, 137, 142, 147, 152] x1 = 137 then (if (tg q104.2 a0).1 = 8 then (some ((rI q104.2 a0 21), q104.2)) else none)
  else
  if swT 0 9 [157, 92, 100, 105, 113, 121, 129, 137, 142, 147, 152] x1 = 142 then (if (tg q104.2 a0).1 = 8 then (some ((rI q104.2 a0 22), q104.2)) else none)
  else
  if swT 0 9 [157, 92, 100, 105, 113, 121, 129, 137, 142, 147, 152] x1 = 147 then (if (tg q104.2 a0).1 = 8 then (some ((rI q104.2 a0 23), q104.2)) else none)
  else
  if swT 0 9 [157, 92, 100, 105, 113, 121, 129, 137, 142, 147, 152] x1 = 152 then (if (tg q104.2 a0).1 = 8 then (some ((rI q104.2 a0 19), q104.2)) else none)
  else
  none) else none
set_option maxRecDepth 100000 in
theorem e_X9_size_16 {l : Launch} {D : va_G} {dA : Nat → ClassId} {z : Nat} {sa : Nat → Nat} {Hz : Heap} (E : StrOK qLen qCh l D dA z sa Hz) {h0 fin : AH} {x : Int32}  : ∀ (a0 : Nat) (x1 : Int32) (h : AH), p_X9_size_16 a0 x1 h = some (x, fin) → GM l D dA z sa Hz q_X9_size h0 (some (.int x)) fin 16 [(0, .ref a0), (1, .int x1)] [] h := by
  intro a0 x1 h hd
  exact step E (is := I_X9_size_16) (pc := 16) (K := (kx 28 (fun la st h => gR la 0 fun a0 => gI la 1 fun x1 => sE st (p_X9_size_28 a0 x1 h)) k0)) (FI := FI_X9_size) (FV := fV0) (FL := fL0) (rt := rtI) (ft := 0) (by exact hd) ok_X9_size_16 (kx_ok (fun la st h e => by obtain ⟨a0, m_a0, e1⟩ := gR_inv e; obtain ⟨x1, m_x1, e2⟩ := gI_inv e1; obtain ⟨rfl, ez⟩ := sE_inv e2; exact gm_fewer (e_X9_size_28 E  a0 x1 h ez) (mem_cons m_a0 (mem_cons m_x1 mem_nil))) k0_ok) (FI_X9_size_ok E) (fV0_ok E) (fL0_ok E) (rtI_ok rfl)
def I_X9_size_0 : List AI := [(.aload_n 0, 1, [], 0), (.iconst 0, 1, [], 0), (.putfield 33, 3, [8, 0, 0, 1345], 0), (.iload_n 1, 1, [], 0), (.bipush 11, 2, [], 11), (.if_icmp .ne 8, 3, [16], 0), (.aload_n 0, 1, [], 0), (.getfield 258, 3, [8, 6, 0, 1351], 0), (.ireturn, 1, [], 0)]
theorem ok_X9_size_0 : vBL MT qLen qCh false q_X9_size.2.2.2.2.1 q_X9_size.2.2.2.2.2.1 q_X9_size.2.2.1 q_X9_size.1.cls q_X9_size.1.name q_X9_size.2.1 0 0 I_X9_size_0 = true := by decide +kernel
def p_X9_size (a0 : Nat) (x1 : Int32) (h : AH) : Option (Int32 × AH) :=
  if (tg h a0).1 = 8 then (let h106 := wI h a0 0 ((0 : Int32))
  if x1 = ((11 : Int32)) then (if (tg h106 a0).1 = 8 then (some ((rI h106 a0 6), h106)) else none)
  else
  (p_X9_in x1 ((0 : Int32)) ((10 : Int32)) h106).bind fun q107 =>
  if q107.1 = 0 then (some (((-1 : Int32)), q107.2))
  else
  if (tg q107.2 a0).1 = 8 then (if (rR q107.2 a0 3) = 0 then (some (((0 : Int32)), q107.2))
  else
  if swT 0 9 [157, 92, 100, 105, 113, 121, 129, 137, 142, 147, 152] x1 = 157 then (if (tg q107.2 a0).1 = 8 then (some ((rI q107.2 a0 20), q107.2)) else none)
  else
  if swT 0 9 [157, 92, 100, 105, 113, 121, 129, 137, 142, 147, 152] x1 = 92 then (if (tg q107.2 a0).1 = 8 then (if (tg q107.2 (rR q107.2 a0 3)).1 = 7 then (some ((rI q107.2 (rR q107.2 a0 3) 0), q107.2)) else none) else none)
  else
  if swT 0 9 [157, 92, 100, 105, 113, 121, 129, 137, 142, 147, 152] x1 = 100 then (if (tg q107.2 a0).1 = 8 then ((p_X9_backedMany a0 q107.2).bind fun q108 =>
  some (q108.1, q108.2)) else none)
  else
  if swT 0 9 [157, 92, 100, 105, 113, 121, 129, 137, 142, 147, 152] x1 = 105 then (if (tg q107.2 a0).1 = 8 then (if (tg q107.2 (rR q107.2 a0 3)).1 = 7 then (some ((rI q107.2 (rR q107.2 a0 3) 4), q107.2)) else none) else none)
  else
  if swT 0 9 [157, 92, 100, 105, 113, 121, 129, 137, 142, 147, 152] x1 = 113 then (if (tg q107.2 a0).1 = 8 then (if (tg q107.2 (rR q107.2 a0 3)).1 = 7 then (some ((rI q107.2 (rR q107.2 a0 3) 5), q107.2)) else none) else none)
  else
  if swT 0 9 [157, 92, 100, 105, 113, 121, 129, 137, 142, 147, 152] x1 = 121 then (if (tg q107.2 a0).1 = 8 then (if (tg q107.2 (rR q107.2 a0 3)).1 = 7 then (some ((rI q107.2 (rR q107.2 a0 3) 6), q107.2)) else none) else none)
  else
  if swT 0 9 [157, 92, 100, 105, 113, 121, 129, 137, 142, 147, 152] x1 = 129 then (if (tg q107.2 a0).1 = 8 then (if (tg q107.2 (rR q107.2 a0 3)).1 = 7 then (some ((rI q107.2 (rR q107.2 a0 3) 7), q107.2)) else none) else none)
  else
  if swT 0 9 [157, 92, 100, 105, 113, 121, 129, 137, 142, 147, 152] x1 = 137 then (if (tg q107.2 a0).1 = 8 then (some ((rI q107.2 a0 21), q107.2)) else none)
  else
  if swT 0 9 [157, 92, 100, 105, 113, 121, 129, 137, 142, 147, 152] x1 = 142 then (if (tg q107.2 a0).1 = 8 then (some ((rI q107.2 a0 22), q107.2)) else none)
  else
  if swT 0 9 [157, 92, 100, 105, 113, 121, 129, 137, 142, 147, 152] x1 = 147 then (if (tg q107.2 a0).1 = 8 then (some ((rI q107.2 a0 23), q107.2)) else none)
  else
  if swT 0 9 [157, 92, 100, 105, 113, 121, 129, 137, 142, 147, 152] x1 = 152 then (if (tg q107.2 a0).1 = 8 then (some ((rI q107.2 a0 19), q107.2)) else none)
  else
  none) else none) else none
set_option maxRecDepth 100000 in
theorem e_X9_size_0 {l : Launch} {D : va_G} {dA : Nat → ClassId} {z : Nat} {sa : Nat → Nat} {Hz : Heap} (E : StrOK qLen qCh l D dA z sa Hz) {h0 fin : AH} {x : Int32}  : ∀ (a0 : Nat) (x1 : Int32) (h : AH), p_X9_size a0 x1 h = some (x, fin) → GM l D dA z sa Hz q_X9_size h0 (some (.int x)) fin 0 [(0, .ref a0), (1, .int x1)] [] h := by
  intro a0 x1 h hd
  exact step E (is := I_X9_size_0) (pc := 0) (K := (kx 16 (fun la st h => gR la 0 fun a0 => gI la 1 fun x1 => sE st (p_X9_size_16 a0 x1 h)) k0)) (FI := FI_X9_size) (FV := fV0) (FL := fL0) (rt := rtI) (ft := 0) (by exact hd) ok_X9_size_0 (kx_ok (fun la st h e => by obtain ⟨a0, m_a0, e1⟩ := gR_inv e; obtain ⟨x1, m_x1, e2⟩ := gI_inv e1; obtain ⟨rfl, ez⟩ := sE_inv e2; exact gm_fewer (e_X9_size_16 E  a0 x1 h ez) (mem_cons m_a0 (mem_cons m_x1 mem_nil))) k0_ok) (FI_X9_size_ok E) (fV0_ok E) (fL0_ok E) (rtI_ok rfl)
theorem c_X9_size {l : Launch} {D : va_G} {dA : Nat → ClassId} {z : Nat} {sa : Nat → Nat} {Hz : Heap} (E : StrOK qLen qCh l D dA z sa Hz) {a0 : Nat} {x1 : Int32} {h fin : AH} {x : Int32} (hd : p_X9_size a0 x1 h = some (x, fin)) : CalOK l D dA z sa Hz q_X9_size [.ref a0, .int x1] h (some (.int x)) fin := calOf (by decide +kernel) (Nat.le_of_ble_eq_true rfl) (e_X9_size_0 E a0 x1 h hd)
def I_X9_trouble_0 : List AI := [(.aload_n 0, 1, [], 0), (.iconst 0, 1, [], 0), (.putfield 33, 3, [8, 0, 0, 1345], 0), (.aload_n 0, 1, [], 0), (.getfield 36, 3, [8, 1, 0, 1346], 0), (.ireturn, 1, [], 0)]
theorem ok_X9_trouble_0 : vBL MT qLen qCh false q_X9_trouble.2.2.2.2.1 q_X9_trouble.2.2.2.2.2.1 q_X9_trouble.2.2.1 q_X9_trouble.1.cls q_X9_trouble.1.name q_X9_trouble.2.1 0 0 I_X9_trouble_0 = true := by decide +kernel
def p_X9_trouble (a0 : Nat) (h : AH) : Option (Int32 × AH) :=
  if (tg h a0).1 = 8 then (let h101 := wI h a0 0 ((0 : Int32))
  if (tg h101 a0).1 = 8 then (some ((rI h101 a0 1), h101)) else none) else none
set_option maxRecDepth 100000 in
theorem e_X9_trouble_0 {l : Launch} {D : va_G} {dA : Nat → ClassId} {z : Nat} {sa : Nat → Nat} {Hz : Heap} (E : StrOK qLen qCh l D dA z sa Hz) {h0 fin : AH} {x : Int32}  : ∀ (a0 : Nat) (h : AH), p_X9_trouble a0 h = some (x, fin) → GM l D dA z sa Hz q_X9_trouble h0 (some (.int x)) fin 0 [(0, .ref a0)] [] h := by
  intro a0 h hd
  exact step E (is := I_X9_trouble_0) (pc := 0) (K := k0) (FI := fI0) (FV := fV0) (FL := fL0) (rt := rtI) (ft := 0) (by exact hd) ok_X9_trouble_0 k0_ok (fI0_ok E) (fV0_ok E) (fL0_ok E) (rtI_ok rfl)
theorem c_X9_trouble {l : Launch} {D : va_G} {dA : Nat → ClassId} {z : Nat} {sa : Nat → Nat} {Hz : Heap} (E : StrOK qLen qCh l D dA z sa Hz) {a0 : Nat} {h fin : AH} {x : Int32} (hd : p_X9_trouble a0 h = some (x, fin)) : CalOK l D dA z sa Hz q_X9_trouble [.ref a0] h (some (.int x)) fin := calOf (by decide +kernel) (Nat.le_of_ble_eq_true rfl) (e_X9_trouble_0 E a0 h hd)
