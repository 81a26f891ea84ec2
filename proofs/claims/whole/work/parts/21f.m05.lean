/-! ===== methods 125 to 149 ===== -/
def FI_X1_noteUse : Nat → List Value → AH → Option (Int32 × AH) := (cx 56 (fun As h => sR As fun a0 As => sI As fun x1 As => sI As fun x2 As => sE As (p_X1_wordAt a0 x1 x2 h)) (cx 60 (fun As h => sI As fun x0 As => sI As fun x1 As => sE As (p_X7_has x0 x1 h)) (cx 72 (fun As h => sI As fun x0 As => sE As (p_X7_frameIn x0 h)) (cx 75 (fun As h => sR As fun a0 As => sI As fun x1 As => sE As (p_X1_frameTold a0 x1 h)) fI0))))
theorem FI_X1_noteUse_ok {l : Launch} {D : va_G} {dA : Nat → ClassId} {z : Nat} {sa : Nat → Nat} {Hz : Heap} (E : StrOK qLen qCh l D dA z sa Hz) : ∀ mi As h x h', FI_X1_noteUse mi As h = some (x, h') → CalOK l D dA z sa Hz (MT mi) As h (some (.int x)) h' := (cxI_ok (fun As h x h2 e => by obtain ⟨_, _, rfl, e0⟩ := sR_inv e; obtain ⟨_, _, rfl, e1⟩ := sI_inv e0; obtain ⟨_, _, rfl, e2⟩ := sI_inv e1; obtain ⟨rfl, ez⟩ := sE_inv e2; exact c_X1_wordAt E ez) ((cxI_ok (fun As h x h2 e => by obtain ⟨_, _, rfl, e0⟩ := sI_inv e; obtain ⟨_, _, rfl, e1⟩ := sI_inv e0; obtain ⟨rfl, ez⟩ := sE_inv e1; exact c_X7_has E ez) ((cxI_ok (fun As h x h2 e => by obtain ⟨_, _, rfl, e0⟩ := sI_inv e; obtain ⟨rfl, ez⟩ := sE_inv e0; exact c_X7_frameIn E ez) ((cxI_ok (fun As h x h2 e => by obtain ⟨_, _, rfl, e0⟩ := sR_inv e; obtain ⟨_, _, rfl, e1⟩ := sI_inv e0; obtain ⟨rfl, ez⟩ := sE_inv e1; exact c_X1_frameTold E ez) (fI0_ok E))))))))
def FV_X1_noteUse : Nat → List Value → AH → Option (AH) := (cx 30 (fun As h => sR As fun a0 As => sI As fun x1 As => sI As fun x2 As => sI As fun x3 As => sE As (p_X1_setWord a0 x1 x2 x3 h)) (cx 124 (fun As h => sR As fun a0 As => sI As fun x1 As => sE As (p_X1_setMark a0 x1 h)) fV0))
theorem FV_X1_noteUse_ok {l : Launch} {D : va_G} {dA : Nat → ClassId} {z : Nat} {sa : Nat → Nat} {Hz : Heap} (E : StrOK qLen qCh l D dA z sa Hz) : ∀ mi As h h', FV_X1_noteUse mi As h = some h' → CalOK l D dA z sa Hz (MT mi) As h none h' := (cxV_ok (fun As h h2 e => by obtain ⟨_, _, rfl, e0⟩ := sR_inv e; obtain ⟨_, _, rfl, e1⟩ := sI_inv e0; obtain ⟨_, _, rfl, e2⟩ := sI_inv e1; obtain ⟨_, _, rfl, e3⟩ := sI_inv e2; obtain ⟨rfl, ez⟩ := sE_inv e3; exact c_X1_setWord E ez) ((cxV_ok (fun As h h2 e => by obtain ⟨_, _, rfl, e0⟩ := sR_inv e; obtain ⟨_, _, rfl, e1⟩ := sI_inv e0; obtain ⟨rfl, ez⟩ := sE_inv e1; exact c_X1_setMark E ez) (fV0_ok E))))
def I_X1_noteUse_118 : List AI := [(.return_, 1, [], 0)]
theorem ok_X1_noteUse_118 : vBL MT qLen qCh false q_X1_noteUse.2.2.2.2.1 q_X1_noteUse.2.2.2.2.2.1 q_X1_noteUse.2.2.1 q_X1_noteUse.1.cls q_X1_noteUse.1.name q_X1_noteUse.2.1 0 118 I_X1_noteUse_118 = true := by decide +kernel
def p_X1_noteUse_118 (h : AH) : Option (AH) :=
  some h
set_option maxRecDepth 100000 in
theorem e_X1_noteUse_118 {l : Launch} {D : va_G} {dA : Nat → ClassId} {z : Nat} {sa : Nat → Nat} {Hz : Heap} (E : StrOK qLen qCh l D dA z sa Hz) {h0 fin : AH}  : ∀  (h : AH), p_X1_noteUse_118 h = some fin → GM l D dA z sa Hz q_X1_noteUse h0 none fin 118 [] [] h := by
  intro h hd
  exact step E (is := I_X1_noteUse_118) (pc := 118) (K := k0) (FI := FI_X1_noteUse) (FV := FV_X1_noteUse) (FL := fL0) (rt := rtV) (ft := 0) (by exact hd) ok_X1_noteUse_118 k0_ok (FI_X1_noteUse_ok E) (FV_X1_noteUse_ok E) (fL0_ok E) (rtV_ok rfl)
def I_X1_noteUse_104 : List AI := [(.iload 6, 2, [], 0), (.ifCond .eq 12, 3, [118], 0), (.aload_n 0, 1, [], 0), (.aload_n 0, 1, [], 0), (.iload_n 1, 1, [], 0), (.invokevirtual 66, 3, [1, 75, 2, 0, 729], 0), (.invokevirtual 88, 3, [2, 124, 2, 0, 955], 0)]
theorem ok_X1_noteUse_104 : vBL MT qLen qCh false q_X1_noteUse.2.2.2.2.1 q_X1_noteUse.2.2.2.2.2.1 q_X1_noteUse.2.2.1 q_X1_noteUse.1.cls q_X1_noteUse.1.name q_X1_noteUse.2.1 118 104 I_X1_noteUse_104 = true := by decide +kernel
def p_X1_noteUse_104 (a0 : Nat) (x1 : Int32) (x6 : Int32) (h : AH) : Option (AH) :=
  if x6 = 0 then (p_X1_noteUse_118 h)
  else
  if (tg h a0).1 = 0 then ((p_X1_frameTold a0 x1 h).bind fun q101 =>
  if (tg q101.2 a0).1 = 0 then ((p_X1_setMark a0 q101.1 q101.2).bind fun h102 =>
  p_X1_noteUse_118 h102) else none) else none
set_option maxRecDepth 100000 in
theorem e_X1_noteUse_104 {l : Launch} {D : va_G} {dA : Nat → ClassId} {z : Nat} {sa : Nat → Nat} {Hz : Heap} (E : StrOK qLen qCh l D dA z sa Hz) {h0 fin : AH}  : ∀ (a0 : Nat) (x1 : Int32) (x6 : Int32) (h : AH), p_X1_noteUse_104 a0 x1 x6 h = some fin → GM l D dA z sa Hz q_X1_noteUse h0 none fin 104 [(0, .ref a0), (1, .int x1), (6, .int x6)] [] h := by
  intro a0 x1 x6 h hd
  exact step E (is := I_X1_noteUse_104) (pc := 104) (K := (kx 118 (fun la st h => sE st (p_X1_noteUse_118 h)) k0)) (FI := FI_X1_noteUse) (FV := FV_X1_noteUse) (FL := fL0) (rt := rtV) (ft := 118) (by exact hd) ok_X1_noteUse_104 (kx_ok (fun la st h e => by obtain ⟨rfl, ez⟩ := sE_inv e; exact gm_fewer (e_X1_noteUse_118 E   h ez) mem_nil) k0_ok) (FI_X1_noteUse_ok E) (FV_X1_noteUse_ok E) (fL0_ok E) (rtV_ok rfl)
def I_X1_noteUse_100 : List AI := [(.ior, 1, [], 0), (.invokevirtual 84, 3, [2, 30, 4, 0, 954], 0)]
theorem ok_X1_noteUse_100 : vBL MT qLen qCh false q_X1_noteUse.2.2.2.2.1 q_X1_noteUse.2.2.2.2.2.1 q_X1_noteUse.2.2.1 q_X1_noteUse.1.cls q_X1_noteUse.1.name q_X1_noteUse.2.1 104 100 I_X1_noteUse_100 = true := by decide +kernel
def p_X1_noteUse_100 (a0 : Nat) (x1 : Int32) (x6 : Int32) (y0 : Int32) (y1 : Int32) (y2 : Int32) (y3 : Int32) (b4 : Nat) (h : AH) : Option (AH) :=
  if (tg h b4).1 = 0 then ((p_X1_setWord b4 y3 y2 (y1 ||| y0) h).bind fun h103 =>
  p_X1_noteUse_104 a0 x1 x6 h103) else none
set_option maxRecDepth 100000 in
theorem e_X1_noteUse_100 {l : Launch} {D : va_G} {dA : Nat → ClassId} {z : Nat} {sa : Nat → Nat} {Hz : Heap} (E : StrOK qLen qCh l D dA z sa Hz) {h0 fin : AH}  : ∀ (a0 : Nat) (x1 : Int32) (x6 : Int32) (y0 : Int32) (y1 : Int32) (y2 : Int32) (y3 : Int32) (b4 : Nat) (h : AH), p_X1_noteUse_100 a0 x1 x6 y0 y1 y2 y3 b4 h = some fin → GM l D dA z sa Hz q_X1_noteUse h0 none fin 100 [(0, .ref a0), (1, .int x1), (6, .int x6)] [.int y0, .int y1, .int y2, .int y3, .ref b4] h := by
  intro a0 x1 x6 y0 y1 y2 y3 b4 h hd
  exact step E (is := I_X1_noteUse_100) (pc := 100) (K := (kx 104 (fun la st h => gR la 0 fun a0 => gI la 1 fun x1 => gI la 6 fun x6 => sE st (p_X1_noteUse_104 a0 x1 x6 h)) k0)) (FI := FI_X1_noteUse) (FV := FV_X1_noteUse) (FL := fL0) (rt := rtV) (ft := 104) (by exact hd) ok_X1_noteUse_100 (kx_ok (fun la st h e => by obtain ⟨a0, m_a0, e1⟩ := gR_inv e; obtain ⟨x1, m_x1, e2⟩ := gI_inv e1; obtain ⟨x6, m_x6, e3⟩ := gI_inv e2; obtain ⟨rfl, ez⟩ := sE_inv e3; exact gm_fewer (e_X1_noteUse_104 E  a0 x1 x6 h ez) (mem_cons m_a0 (mem_cons m_x1 (mem_cons m_x6 mem_nil)))) k0_ok) (FI_X1_noteUse_ok E) (FV_X1_noteUse_ok E) (fL0_ok E) (rtV_ok rfl)
def I_X1_noteUse_99 : List AI := [(.iconst 0, 1, [], 0)]
theorem ok_X1_noteUse_99 : vBL MT qLen qCh false q_X1_noteUse.2.2.2.2.1 q_X1_noteUse.2.2.2.2.2.1 q_X1_noteUse.2.2.1 q_X1_noteUse.1.cls q_X1_noteUse.1.name q_X1_noteUse.2.1 100 99 I_X1_noteUse_99 = true := by decide +kernel
def p_X1_noteUse_99 (a0 : Nat) (x1 : Int32) (x6 : Int32) (y0 : Int32) (y1 : Int32) (y2 : Int32) (b3 : Nat) (h : AH) : Option (AH) :=
  p_X1_noteUse_100 a0 x1 x6 ((0 : Int32)) y0 y1 y2 b3 h
set_option maxRecDepth 100000 in
theorem e_X1_noteUse_99 {l : Launch} {D : va_G} {dA : Nat → ClassId} {z : Nat} {sa : Nat → Nat} {Hz : Heap} (E : StrOK qLen qCh l D dA z sa Hz) {h0 fin : AH}  : ∀ (a0 : Nat) (x1 : Int32) (x6 : Int32) (y0 : Int32) (y1 : Int32) (y2 : Int32) (b3 : Nat) (h : AH), p_X1_noteUse_99 a0 x1 x6 y0 y1 y2 b3 h = some fin → GM l D dA z sa Hz q_X1_noteUse h0 none fin 99 [(0, .ref a0), (1, .int x1), (6, .int x6)] [.int y0, .int y1, .int y2, .ref b3] h := by
  intro a0 x1 x6 y0 y1 y2 b3 h hd
  exact step E (is := I_X1_noteUse_99) (pc := 99) (K := (kx 100 (fun la st h => gR la 0 fun a0 => gI la 1 fun x1 => gI la 6 fun x6 => sI st fun y0 st => sI st fun y1 st => sI st fun y2 st => sI st fun y3 st => sR st fun b4 st => sE st (p_X1_noteUse_100 a0 x1 x6 y0 y1 y2 y3 b4 h)) k0)) (FI := FI_X1_noteUse) (FV := FV_X1_noteUse) (FL := fL0) (rt := rtV) (ft := 100) (by exact hd) ok_X1_noteUse_99 (kx_ok (fun la st h e => by obtain ⟨a0, m_a0, e1⟩ := gR_inv e; obtain ⟨x1, m_x1, e2⟩ := gI_inv e1; obtain ⟨x6, m_x6, e3⟩ := gI_inv e2; obtain ⟨y0, _, rfl, e4⟩ := sI_inv e3; obtain ⟨y1, _, rfl, e5⟩ := sI_inv e4; obtain ⟨y2, _, rfl, e6⟩ := sI_inv e5; obtain ⟨y3, _, rfl, e7⟩ := sI_inv e6; obtain ⟨b4, _, rfl, e8⟩ := sR_inv e7; obtain ⟨rfl, ez⟩ := sE_inv e8; exact gm_fewer (e_X1_noteUse_100 E  a0 x1 x6 y0 y1 y2 y3 b4 h ez) (mem_cons m_a0 (mem_cons m_x1 (mem_cons m_x6 mem_nil)))) k0_ok) (FI_X1_noteUse_ok E) (FV_X1_noteUse_ok E) (fL0_ok E) (rtV_ok rfl)
def I_X1_noteUse_59 : List AI := [(.ior, 1, [], 0), (.invokevirtual 84, 3, [2, 30, 4, 0, 954], 0), (.iload 5, 2, [], 0), (.ifCond .ne 39, 3, [104], 0), (.iload 4, 2, [], 0), (.invokestatic 53, 3, [1, 72, 1, 726], 0), (.istore 7, 2, [], 0), (.aload_n 0, 1, [], 0), (.iload 7, 2, [], 0), (.iload_n 1, 1, [], 0), (.aload_n 0, 1, [], 0), (.iload 7, 2, [], 0), (.iload_n 1, 1, [], 0), (.invokevirtual 50, 3, [1, 56, 3, 0, 699], 0), (.bipush 8, 2, [], 8), (.ior, 1, [], 0), (.iload 6, 2, [], 0), (.ifCond .eq 8, 3, [99], 0), (.bipush 16, 2, [], 16), (.goto 4, 3, [100], 0)]
theorem ok_X1_noteUse_59 : vBL MT qLen qCh false q_X1_noteUse.2.2.2.2.1 q_X1_noteUse.2.2.2.2.2.1 q_X1_noteUse.2.2.1 q_X1_noteUse.1.cls q_X1_noteUse.1.name q_X1_noteUse.2.1 0 59 I_X1_noteUse_59 = true := by decide +kernel
def p_X1_noteUse_59 (a0 : Nat) (x1 : Int32) (x4 : Int32) (x5 : Int32) (x6 : Int32) (y0 : Int32) (y1 : Int32) (y2 : Int32) (y3 : Int32) (b4 : Nat) (h : AH) : Option (AH) :=
  if (tg h b4).1 = 0 then ((p_X1_setWord b4 y3 y2 (y1 ||| y0) h).bind fun h104 =>
  if x5 = 0 then ((p_X7_frameIn x4 h104).bind fun q105 =>
  if (tg q105.2 a0).1 = 0 then ((p_X1_wordAt a0 q105.1 x1 q105.2).bind fun q106 =>
  if x6 = 0 then (p_X1_noteUse_100 a0 x1 x6 ((0 : Int32)) (q106.1 ||| ((8 : Int32))) x1 q105.1 a0 q106.2)
  else
  p_X1_noteUse_100 a0 x1 x6 ((16 : Int32)) (q106.1 ||| ((8 : Int32))) x1 q105.1 a0 q106.2) else none)
  else
  p_X1_noteUse_104 a0 x1 x6 h104) else none
set_option maxRecDepth 100000 in
theorem e_X1_noteUse_59 {l : Launch} {D : va_G} {dA : Nat → ClassId} {z : Nat} {sa : Nat → Nat} {Hz : Heap} (E : StrOK qLen qCh l D dA z sa Hz) {h0 fin : AH}  : ∀ (a0 : Nat) (x1 : Int32) (x4 : Int32) (x5 : Int32) (x6 : Int32) (y0 : Int32) (y1 : Int32) (y2 : Int32) (y3 : Int32) (b4 : Nat) (h : AH), p_X1_noteUse_59 a0 x1 x4 x5 x6 y0 y1 y2 y3 b4 h = some fin → GM l D dA z sa Hz q_X1_noteUse h0 none fin 59 [(0, .ref a0), (1, .int x1), (4, .int x4), (5, .int x5), (6, .int x6)] [.int y0, .int y1, .int y2, .int y3, .ref b4] h := by
  intro a0 x1 x4 x5 x6 y0 y1 y2 y3 b4 h hd
  exact step E (is := I_X1_noteUse_59) (pc := 59) (K := (kx 104 (fun la st h => gR la 0 fun a0 => gI la 1 fun x1 => gI la 6 fun x6 => sE st (p_X1_noteUse_104 a0 x1 x6 h)) (kx 99 (fun la st h => gR la 0 fun a0 => gI la 1 fun x1 => gI la 6 fun x6 => sI st fun y0 st => sI st fun y1 st => sI st fun y2 st => sR st fun b3 st => sE st (p_X1_noteUse_99 a0 x1 x6 y0 y1 y2 b3 h)) (kx 100 (fun la st h => gR la 0 fun a0 => gI la 1 fun x1 => gI la 6 fun x6 => sI st fun y0 st => sI st fun y1 st => sI st fun y2 st => sI st fun y3 st => sR st fun b4 st => sE st (p_X1_noteUse_100 a0 x1 x6 y0 y1 y2 y3 b4 h)) k0)))) (FI := FI_X1_noteUse) (FV := FV_X1_noteUse) (FL := fL0) (rt := rtV) (ft := 0) (by exact hd) ok_X1_noteUse_59 (kx_ok (fun la st h e => by obtain ⟨a0, m_a0, e1⟩ := gR_inv e; obtain ⟨x1, m_x1, e2⟩ := gI_inv e1; obtain ⟨x6, m_x6, e3⟩ := gI_inv e2; obtain ⟨rfl, ez⟩ := sE_inv e3; exact gm_fewer (e_X1_noteUse_104 E  a0 x1 x6 h ez) (mem_cons m_a0 (mem_cons m_x1 (mem_cons m_x6 mem_nil)))) (kx_ok (fun la st h e => by obtain ⟨a0, m_a0, e1⟩ := gR_inv e; obtain ⟨x1, m_x1, e2⟩ := gI_inv e1; obtain ⟨x6, m_x6, e3⟩ := gI_inv e2; obtain ⟨y0, _, rfl, e4⟩ := sI_inv e3; obtain ⟨y1, _, rfl, e5⟩ := sI_inv e4; obtain ⟨y2, _, rfl, e6⟩ := sI_inv e5; obtain ⟨b3, _, rfl, e7⟩ := sR_inv e6; obtain ⟨rfl, ez⟩ := sE_inv e7; exact gm_fewer (e_X1_noteUse_99 E  a0 x1 x6 y0 y1 y2 b3 h ez) (mem_cons m_a0 (mem_cons m_x1 (mem_cons m_x6 mem_nil)))) (kx_ok (fun la st h e => by obtain ⟨a0, m_a0, e1⟩ := gR_inv e; obtain ⟨x1, m_x1, e2⟩ := gI_inv e1; obtain ⟨x6, m_x6, e3⟩ := gI_inv e2; obtain ⟨y0, _, rfl, e4⟩ := sI_inv e3; obtain ⟨y1, _, rfl, e5⟩ := sI_inv e4; obtain ⟨y2, _, rfl, e6⟩ := sI_inv e5; obtain ⟨y3, _, rfl, e7⟩ := sI_inv e6; obtain ⟨b4, _, rfl, e8⟩ := sR_inv e7; obtain ⟨rfl, ez⟩ := sE_inv e8; exact gm_fewer (e_X1_noteUse_100 E  a0 x1 x6 y0 y1 y2 y3 b4 h ez) (mem_cons m_a0 (mem_cons m_x1 (mem_cons m_x6 mem_nil)))) k0_ok))) (FI_X1_noteUse_ok E) (FV_X1_noteUse_ok E) (fL0_ok E) (rtV_ok rfl)
def I_X1_noteUse_58 : List AI := [(.iconst 0, 1, [], 0)]
theorem ok_X1_noteUse_58 : vBL MT qLen qCh false q_X1_noteUse.2.2.2.2.1 q_X1_noteUse.2.2.2.2.2.1 q_X1_noteUse.2.2.1 q_X1_noteUse.1.cls q_X1_noteUse.1.name q_X1_noteUse.2.1 59 58 I_X1_noteUse_58 = true := by decide +kernel
def p_X1_noteUse_58 (a0 : Nat) (x1 : Int32) (x4 : Int32) (x5 : Int32) (x6 : Int32) (y0 : Int32) (y1 : Int32) (y2 : Int32) (b3 : Nat) (h : AH) : Option (AH) :=
  p_X1_noteUse_59 a0 x1 x4 x5 x6 ((0 : Int32)) y0 y1 y2 b3 h
set_option maxRecDepth 100000 in
theorem e_X1_noteUse_58 {l : Launch} {D : va_G} {dA : Nat → ClassId} {z : Nat} {sa : Nat → Nat} {Hz : Heap} (E : StrOK qLen qCh l D dA z sa Hz) {h0 fin : AH}  : ∀ (a0 : Nat) (x1 : Int32) (x4 : Int32) (x5 : Int32) (x6 : Int32) (y0 : Int32) (y1 : Int32) (y2 : Int32) (b3 : Nat) (h : AH), p_X1_noteUse_58 a0 x1 x4 x5 x6 y0 y1 y2 b3 h = some fin → GM l D dA z sa Hz q_X1_noteUse h0 none fin 58 [(0, .ref a0), (1, .int x1), (4, .int x4), (5, .int x5), (6, .int x6)] [.int y0, .int y1, .int y2, .ref b3] h := by
  intro a0 x1 x4 x5 x6 y0 y1 y2 b3 h hd
  exact step E (is := I_X1_noteUse_58) (pc := 58) (K := (kx 59 (fun la st h => gR la 0 fun a0 => gI la 1 fun x1 => gI la 4 fun x4 => gI la 5 fun x5 => gI la 6 fun x6 => sI st fun y0 st => sI st fun y1 st => sI st fun y2 st => sI st fun y3 st => sR st fun b4 st => sE st (p_X1_noteUse_59 a0 x1 x4 x5 x6 y0 y1 y2 y3 b4 h)) k0)) (FI := FI_X1_noteUse) (FV := FV_X1_noteUse) (FL := fL0) (rt := rtV) (ft := 59) (by exact hd) ok_X1_noteUse_58 (kx_ok (fun la st h e => by obtain ⟨a0, m_a0, e1⟩ := gR_inv e; obtain ⟨x1, m_x1, e2⟩ := gI_inv e1; obtain ⟨x4, m_x4, e3⟩ := gI_inv e2; obtain ⟨x5, m_x5, e4⟩ := gI_inv e3; obtain ⟨x6, m_x6, e5⟩ := gI_inv e4; obtain ⟨y0, _, rfl, e6⟩ := sI_inv e5; obtain ⟨y1, _, rfl, e7⟩ := sI_inv e6; obtain ⟨y2, _, rfl, e8⟩ := sI_inv e7; obtain ⟨y3, _, rfl, e9⟩ := sI_inv e8; obtain ⟨b4, _, rfl, e10⟩ := sR_inv e9; obtain ⟨rfl, ez⟩ := sE_inv e10; exact gm_fewer (e_X1_noteUse_59 E  a0 x1 x4 x5 x6 y0 y1 y2 y3 b4 h ez) (mem_cons m_a0 (mem_cons m_x1 (mem_cons m_x4 (mem_cons m_x5 (mem_cons m_x6 mem_nil)))))) k0_ok) (FI_X1_noteUse_ok E) (FV_X1_noteUse_ok E) (fL0_ok E) (rtV_ok rfl)
def I_X1_noteUse_0 : List AI := [(.iload_n 1, 1, [], 0), (.bipush 8, 2, [], 8), (.idiv, 1, [], 0), (.istore_n 3, 1, [], 0), (.aload_n 0, 1, [], 0), (.aload_n 0, 1, [], 0), (.getfield 25, 3, [0, 4, 0, 194], 0), (.iload_n 3, 1, [], 0), (.invokevirtual 50, 3, [1, 56, 3, 0, 699], 0), (.istore 4, 2, [], 0), (.iload 4, 2, [], 0), (.bipush 32, 2, [], 32), (.invokestatic 42, 3, [1, 60, 2, 677], 0), (.istore 5, 2, [], 0), (.iload_n 2, 1, [], 0), (.iconst 1, 1, [], 1), (.invokestatic 42, 3, [1, 60, 2, 677], 0), (.istore 6, 2, [], 0), (.aload_n 0, 1, [], 0), (.aload_n 0, 1, [], 0), (.getfield 25, 3, [0, 4, 0, 194], 0), (.iload_n 3, 1, [], 0), (.iload 4, 2, [], 0), (.bipush 8, 2, [], 8), (.ior, 1, [], 0), (.iload 5, 2, [], 0), (.ifCond .eq 13, 3, [58], 0), (.iload 6, 2, [], 0), (.ifCond .eq 8, 3, [58], 0), (.bipush 16, 2, [], 16), (.goto 4, 3, [59], 0)]
theorem ok_X1_noteUse_0 : vBL MT qLen qCh false q_X1_noteUse.2.2.2.2.1 q_X1_noteUse.2.2.2.2.2.1 q_X1_noteUse.2.2.1 q_X1_noteUse.1.cls q_X1_noteUse.1.name q_X1_noteUse.2.1 0 0 I_X1_noteUse_0 = true := by decide +kernel
def p_X1_noteUse (a0 : Nat) (x1 : Int32) (x2 : Int32) (h : AH) : Option (AH) :=
  if ((8 : Int32)) = 0 then none else
  let x107 := x1 / ((8 : Int32))
  if (tg h a0).1 = 0 then (if (tg h a0).1 = 0 then ((p_X1_wordAt a0 (rI h a0 4) x107 h).bind fun q108 =>
  (p_X7_has q108.1 ((32 : Int32)) q108.2).bind fun q109 =>
  (p_X7_has x2 ((1 : Int32)) q109.2).bind fun q110 =>
  if (tg q110.2 a0).1 = 0 then (if q109.1 = 0 then (p_X1_noteUse_58 a0 x1 q108.1 q109.1 q110.1 (q108.1 ||| ((8 : Int32))) x107 (rI q110.2 a0 4) a0 q110.2)
  else
  if q110.1 = 0 then (p_X1_noteUse_58 a0 x1 q108.1 q109.1 q110.1 (q108.1 ||| ((8 : Int32))) x107 (rI q110.2 a0 4) a0 q110.2)
  else
  p_X1_noteUse_59 a0 x1 q108.1 q109.1 q110.1 ((16 : Int32)) (q108.1 ||| ((8 : Int32))) x107 (rI q110.2 a0 4) a0 q110.2) else none) else none) else none
set_option maxRecDepth 100000 in
theorem e_X1_noteUse_0 {l : Launch} {D : va_G} {dA : Nat → ClassId} {z : Nat} {sa : Nat → Nat} {Hz : Heap} (E : StrOK qLen qCh l D dA z sa Hz) {h0 fin : AH}  : ∀ (a0 : Nat) (x1 : Int32) (x2 : Int32) (h : AH), p_X1_noteUse a0 x1 x2 h = some fin → GM l D dA z sa Hz q_X1_noteUse h0 none fin 0 [(0, .ref a0), (1, .int x1), (2, .int x2)] [] h := by
  intro a0 x1 x2 h hd
  exact step E (is := I_X1_noteUse_0) (pc := 0) (K := (kx 58 (fun la st h => gR la 0 fun a0 => gI la 1 fun x1 => gI la 4 fun x4 => gI la 5 fun x5 => gI la 6 fun x6 => sI st fun y0 st => sI st fun y1 st => sI st fun y2 st => sR st fun b3 st => sE st (p_X1_noteUse_58 a0 x1 x4 x5 x6 y0 y1 y2 b3 h)) (kx 59 (fun la st h => gR la 0 fun a0 => gI la 1 fun x1 => gI la 4 fun x4 => gI la 5 fun x5 => gI la 6 fun x6 => sI st fun y0 st => sI st fun y1 st => sI st fun y2 st => sI st fun y3 st => sR st fun b4 st => sE st (p_X1_noteUse_59 a0 x1 x4 x5 x6 y0 y1 y2 y3 b4 h)) k0))) (FI := FI_X1_noteUse) (FV := FV_X1_noteUse) (FL := fL0) (rt := rtV) (ft := 0) (by exact hd) ok_X1_noteUse_0 (kx_ok (fun la st h e => by obtain ⟨a0, m_a0, e1⟩ := gR_inv e; obtain ⟨x1, m_x1, e2⟩ := gI_inv e1; obtain ⟨x4, m_x4, e3⟩ := gI_inv e2; obtain ⟨x5, m_x5, e4⟩ := gI_inv e3; obtain ⟨x6, m_x6, e5⟩ := gI_inv e4; obtain ⟨y0, _, rfl, e6⟩ := sI_inv e5; obtain ⟨y1, _, rfl, e7⟩ := sI_inv e6; obtain ⟨y2, _, rfl, e8⟩ := sI_inv e7; obtain ⟨b3, _, rfl, e9⟩ := sR_inv e8; obtain ⟨rfl, ez⟩ := sE_inv e9; exact gm_fewer (e_X1_noteUse_58 E  a0 x1 x4 x5 x6 y0 y1 y2 b3 h ez) (mem_cons m_a0 (mem_cons m_x1 (mem_cons m_x4 (mem_cons m_x5 (mem_cons m_x6 mem_nil)))))) (kx_ok (fun la st h e => by obtain ⟨a0, m_a0, e1⟩ := gR_inv e; obtain ⟨x1, m_x1, e2⟩ := gI_inv e1; obtain ⟨x4, m_x4, e3⟩ := gI_inv e2; obtain ⟨x5, m_x5, e4⟩ := gI_inv e3; obtain ⟨x6, m_x6, e5⟩ := gI_inv e4; obtain ⟨y0, _, rfl, e6⟩ := sI_inv e5; obtain ⟨y1, _, rfl, e7⟩ := sI_inv e6; obtain ⟨y2, _, rfl, e8⟩ := sI_inv e7; obtain ⟨y3, _, rfl, e9⟩ := sI_inv e8; obtain ⟨b4, _, rfl, e10⟩ := sR_inv e9; obtain ⟨rfl, ez⟩ := sE_inv e10; exact gm_fewer (e_X1_noteUse_59 E  a0 x1 x4 x5 x6 y0 y1 y2 y3 b4 h ez) (mem_cons m_a0 (mem_cons m_x1 (mem_cons m_x4 (mem_cons m_x5 (mem_cons m_x6 mem_nil)))))) k0_ok)) (FI_X1_noteUse_ok E) (FV_X1_noteUse_ok E) (fL0_ok E) (rtV_ok rfl)
theorem c_X1_noteUse {l : Launch} {D : va_G} {dA : Nat → ClassId} {z : Nat} {sa : Nat → Nat} {Hz : Heap} (E : StrOK qLen qCh l D dA z sa Hz) {a0 : Nat} {x1 : Int32} {x2 : Int32} {h fin : AH} (hd : p_X1_noteUse a0 x1 x2 h = some fin) : CalOK l D dA z sa Hz q_X1_noteUse [.ref a0, .int x1, .int x2] h none fin := calOf (by decide +kernel) (Nat.le_of_ble_eq_true rfl) (e_X1_noteUse_0 E a0 x1 x2 h hd)
def FI_X3_drop : Nat → List Value → AH → Option (Int32 × AH) := (cx 106 (fun As h => sR As fun a0 As => sI As fun x1 As => sI As fun x2 As => sE As (p_X3_isRootEntry a0 x1 x2 h)) fI0)
theorem FI_X3_drop_ok {l : Launch} {D : va_G} {dA : Nat → ClassId} {z : Nat} {sa : Nat → Nat} {Hz : Heap} (E : StrOK qLen qCh l D dA z sa Hz) : ∀ mi As h x h', FI_X3_drop mi As h = some (x, h') → CalOK l D dA z sa Hz (MT mi) As h (some (.int x)) h' := (cxI_ok (fun As h x h2 e => by obtain ⟨_, _, rfl, e0⟩ := sR_inv e; obtain ⟨_, _, rfl, e1⟩ := sI_inv e0; obtain ⟨_, _, rfl, e2⟩ := sI_inv e1; obtain ⟨rfl, ez⟩ := sE_inv e2; exact c_X3_isRootEntry E ez) (fI0_ok E))
def FV_X3_drop : Nat → List Value → AH → Option (AH) := (cx 45 (fun As h => sR As fun a0 As => sI As fun x1 As => sE As (p_X3_vacate a0 x1 h)) fV0)
theorem FV_X3_drop_ok {l : Launch} {D : va_G} {dA : Nat → ClassId} {z : Nat} {sa : Nat → Nat} {Hz : Heap} (E : StrOK qLen qCh l D dA z sa Hz) : ∀ mi As h h', FV_X3_drop mi As h = some h' → CalOK l D dA z sa Hz (MT mi) As h none h' := (cxV_ok (fun As h h2 e => by obtain ⟨_, _, rfl, e0⟩ := sR_inv e; obtain ⟨_, _, rfl, e1⟩ := sI_inv e0; obtain ⟨rfl, ez⟩ := sE_inv e1; exact c_X3_vacate E ez) (fV0_ok E))
def I_X3_drop_31 : List AI := [(.aload_n 0, 1, [], 0), (.iload_n 1, 1, [], 0), (.invokevirtual 31, 3, [2, 45, 2, 2, 625], 0), (.return_, 1, [], 0)]
theorem ok_X3_drop_31 : vBL MT qLen qCh false q_X3_drop.2.2.2.2.1 q_X3_drop.2.2.2.2.2.1 q_X3_drop.2.2.1 q_X3_drop.1.cls q_X3_drop.1.name q_X3_drop.2.1 0 31 I_X3_drop_31 = true := by decide +kernel
def p_X3_drop_31 (a0 : Nat) (x1 : Int32) (h : AH) : Option (AH) :=
  if (tg h a0).1 = 2 then ((p_X3_vacate a0 x1 h).bind fun h101 =>
  some h101) else none
set_option maxRecDepth 100000 in
theorem e_X3_drop_31 {l : Launch} {D : va_G} {dA : Nat → ClassId} {z : Nat} {sa : Nat → Nat} {Hz : Heap} (E : StrOK qLen qCh l D dA z sa Hz) {h0 fin : AH}  : ∀ (a0 : Nat) (x1 : Int32) (h : AH), p_X3_drop_31 a0 x1 h = some fin → GM l D dA z sa Hz q_X3_drop h0 none fin 31 [(0, .ref a0), (1, .int x1)] [] h := by
  intro a0 x1 h hd
  exact step E (is := I_X3_drop_31) (pc := 31) (K := k0) (FI := FI_X3_drop) (FV := FV_X3_drop) (FL := fL0) (rt := rtV) (ft := 0) (by exact hd) ok_X3_drop_31 k0_ok (FI_X3_drop_ok E) (FV_X3_drop_ok E) (fL0_ok E) (rtV_ok rfl)
def I_X3_drop_25 : List AI := [(.iinc 2 1, 3, [], 1), (.goto (-26), 3, [2], 0)]
theorem ok_X3_drop_25 : vBL MT qLen qCh false q_X3_drop.2.2.2.2.1 q_X3_drop.2.2.2.2.2.1 q_X3_drop.2.2.1 q_X3_drop.1.cls q_X3_drop.1.name q_X3_drop.2.1 0 25 I_X3_drop_25 = true := by decide +kernel
def p_X3_drop_25 (k2 : Nat → Int32 → Int32 → AH → Option (AH)) (a0 : Nat) (x1 : Int32) (x2 : Int32) (h : AH) : Option (AH) :=
  k2 a0 x1 (x2 + (1 : Int32)) h
set_option maxRecDepth 100000 in
theorem e_X3_drop_25 {l : Launch} {D : va_G} {dA : Nat → ClassId} {z : Nat} {sa : Nat → Nat} {Hz : Heap} (E : StrOK qLen qCh l D dA z sa Hz) {h0 fin : AH}  {k2 : Nat → Int32 → Int32 → AH → Option (AH)} (hk2 : ∀ (a0 : Nat) (x1 : Int32) (x2 : Int32) (h : AH), k2 a0 x1 x2 h = some fin → GM l D dA z sa Hz q_X3_drop h0 none fin 2 [(0, .ref a0), (1, .int x1), (2, .int x2)] [] h) : ∀ (a0 : Nat) (x1 : Int32) (x2 : Int32) (h : AH), p_X3_drop_25 k2 a0 x1 x2 h = some fin → GM l D dA z sa Hz q_X3_drop h0 none fin 25 [(0, .ref a0), (1, .int x1), (2, .int x2)] [] h := by
  intro a0 x1 x2 h hd
  exact step E (is := I_X3_drop_25) (pc := 25) (K := (kx 2 (fun la st h => gR la 0 fun a0 => gI la 1 fun x1 => gI la 2 fun x2 => sE st (k2 a0 x1 x2 h)) k0)) (FI := FI_X3_drop) (FV := FV_X3_drop) (FL := fL0) (rt := rtV) (ft := 0) (by exact hd) ok_X3_drop_25 (kx_ok (fun la st h e => by obtain ⟨a0, m_a0, e1⟩ := gR_inv e; obtain ⟨x1, m_x1, e2⟩ := gI_inv e1; obtain ⟨x2, m_x2, e3⟩ := gI_inv e2; obtain ⟨rfl, ez⟩ := sE_inv e3; exact gm_fewer (hk2 a0 x1 x2 h ez) (mem_cons m_a0 (mem_cons m_x1 (mem_cons m_x2 mem_nil)))) k0_ok) (FI_X3_drop_ok E) (FV_X3_drop_ok E) (fL0_ok E) (rtV_ok rfl)
def I_X3_drop_2 : List AI := [(.iload_n 2, 1, [], 0), (.bipush 64, 2, [], 64), (.if_icmp .ge 26, 3, [31], 0), (.aload_n 0, 1, [], 0), (.iload_n 2, 1, [], 0), (.iload_n 1, 1, [], 0), (.invokevirtual 63, 3, [1, 106, 3, 2, 873], 0), (.ifCond .eq 11, 3, [25], 0), (.aload_n 0, 1, [], 0), (.getfield 21, 3, [2, 3, 2, 288], 0), (.iload_n 2, 1, [], 0), (.bipush (-2), 2, [], (-2)), (.iastore, 1, [], 0)]
theorem ok_X3_drop_2 : vBL MT qLen qCh false q_X3_drop.2.2.2.2.1 q_X3_drop.2.2.2.2.2.1 q_X3_drop.2.2.1 q_X3_drop.1.cls q_X3_drop.1.name q_X3_drop.2.1 25 2 I_X3_drop_2 = true := by decide +kernel
def p_X3_drop_2 : Nat → Nat → Int32 → Int32 → AH → Option (AH)
  | 0, _, _, _, _ => none
  | n + 1, a0, x1, x2, h => if x2 < ((64 : Int32)) then (if (tg h a0).1 = 2 then ((p_X3_isRootEntry a0 x2 x1 h).bind fun q103 =>
    if q103.1 = 0 then (p_X3_drop_25 (p_X3_drop_2 n) a0 x1 x2 q103.2)
    else
    if (tg q103.2 a0).1 = 2 then (if inB q103.2 (rR q103.2 a0 3) 100 x2 then (let h104 := wI q103.2 (rR q103.2 a0 3) x2.toNatClampNeg ((-2 : Int32))
    p_X3_drop_25 (p_X3_drop_2 n) a0 x1 x2 h104) else none) else none) else none)
    else
    if (tg h a0).1 = 2 then ((p_X3_vacate a0 x1 h).bind fun h102 =>
    some h102) else none
set_option maxRecDepth 100000 in
theorem e_X3_drop_2 {l : Launch} {D : va_G} {dA : Nat → ClassId} {z : Nat} {sa : Nat → Nat} {Hz : Heap} (E : StrOK qLen qCh l D dA z sa Hz) {h0 fin : AH}  : ∀ (n : Nat) (a0 : Nat) (x1 : Int32) (x2 : Int32) (h : AH), p_X3_drop_2 n a0 x1 x2 h = some fin → GM l D dA z sa Hz q_X3_drop h0 none fin 2 [(0, .ref a0), (1, .int x1), (2, .int x2)] [] h := by
  intro n
  induction n with
  | zero => intro a0 x1 x2 h hd; exact nomatch hd
  | succ n ih =>
    intro a0 x1 x2 h hd
    exact step E (is := I_X3_drop_2) (pc := 2) (K := (kx 31 (fun la st h => gR la 0 fun a0 => gI la 1 fun x1 => sE st (p_X3_drop_31 a0 x1 h)) (kx 25 (fun la st h => gR la 0 fun a0 => gI la 1 fun x1 => gI la 2 fun x2 => sE st (p_X3_drop_25 (p_X3_drop_2 n) a0 x1 x2 h)) k0))) (FI := FI_X3_drop) (FV := FV_X3_drop) (FL := fL0) (rt := rtV) (ft := 25) (by exact hd) ok_X3_drop_2 (kx_ok (fun la st h e => by obtain ⟨a0, m_a0, e1⟩ := gR_inv e; obtain ⟨x1, m_x1, e2⟩ := gI_inv e1; obtain ⟨rfl, ez⟩ := sE_inv e2; exact gm_fewer (e_X3_drop_31 E  a0 x1 h ez) (mem_cons m_a0 (mem_cons m_x1 mem_nil))) (kx_ok (fun la st h e => by obtain ⟨a0, m_a0, e1⟩ := gR_inv e; obtain ⟨x1, m_x1, e2⟩ := gI_inv e1; obtain ⟨x2, m_x2, e3⟩ := gI_inv e2; obtain ⟨rfl, ez⟩ := sE_inv e3; exact gm_fewer (e_X3_drop_25 E ih a0 x1 x2 h ez) (mem_cons m_a0 (mem_cons m_x1 (mem_cons m_x2 mem_nil)))) k0_ok)) (FI_X3_drop_ok E) (FV_X3_drop_ok E) (fL0_ok E) (rtV_ok rfl)
def I_X3_drop_0 : List AI := [(.iconst 0, 1, [], 0), (.istore_n 2, 1, [], 0)]
theorem ok_X3_drop_0 : vBL MT qLen qCh false q_X3_drop.2.2.2.2.1 q_X3_drop.2.2.2.2.2.1 q_X3_drop.2.2.1 q_X3_drop.1.cls q_X3_drop.1.name q_X3_drop.2.1 2 0 I_X3_drop_0 = true := by decide +kernel
def p_X3_drop (a0 : Nat) (x1 : Int32) (h : AH) : Option (AH) :=
  p_X3_drop_2 FU a0 x1 ((0 : Int32)) h
set_option maxRecDepth 100000 in
theorem e_X3_drop_0 {l : Launch} {D : va_G} {dA : Nat → ClassId} {z : Nat} {sa : Nat → Nat} {Hz : Heap} (E : StrOK qLen qCh l D dA z sa Hz) {h0 fin : AH}  : ∀ (a0 : Nat) (x1 : Int32) (h : AH), p_X3_drop a0 x1 h = some fin → GM l D dA z sa Hz q_X3_drop h0 none fin 0 [(0, .ref a0), (1, .int x1)] [] h := by
  intro a0 x1 h hd
  exact step E (is := I_X3_drop_0) (pc := 0) (K := (kx 2 (fun la st h => gR la 0 fun a0 => gI la 1 fun x1 => gI la 2 fun x2 => sE st (p_X3_drop_2 FU a0 x1 x2 h)) k0)) (FI := FI_X3_drop) (FV := FV_X3_drop) (FL := fL0) (rt := rtV) (ft := 2) (by exact hd) ok_X3_drop_0 (kx_ok (fun la st h e => by obtain ⟨a0, m_a0, e1⟩ := gR_inv e; obtain ⟨x1, m_x1, e2⟩ := gI_inv e1; obtain ⟨x2, m_x2, e3⟩ := gI_inv e2; obtain ⟨rfl, ez⟩ := sE_inv e3; exact gm_fewer (e_X3_drop_2 E  FU a0 x1 x2 h ez) (mem_cons m_a0 (mem_cons m_x1 (mem_cons m_x2 mem_nil)))) k0_ok) (FI_X3_drop_ok E) (FV_X3_drop_ok E) (fL0_ok E) (rtV_ok rfl)
theorem c_X3_drop {l : Launch} {D : va_G} {dA : Nat → ClassId} {z : Nat} {sa : Nat → Nat} {Hz : Heap} (E : StrOK qLen qCh l D dA z sa Hz) {a0 : Nat} {x1 : Int32} {h fin : AH} (hd : p_X3_drop a0 x1 h = some fin) : CalOK l D dA z sa Hz q_X3_drop [.ref a0, .int x1] h none fin := calOf (by decide +kernel) (Nat.le_of_ble_eq_true rfl) (e_X3_drop_0 E a0 x1 h hd)
def I_X3_make_0 : List AI := [(.aload_n 0, 1, [], 0), (.dup, 1, [], 0), (.getfield 28, 3, [2, 6, 0, 293], 0), (.iconst 1, 1, [], 1), (.iadd, 1, [], 0), (.putfield 28, 3, [2, 6, 0, 293], 0), (.aload_n 0, 1, [], 0), (.getfield 9, 3, [2, 0, 2, 285], 0), (.iload_n 1, 1, [], 0), (.bipush 7, 2, [], 7), (.iand, 1, [], 0), (.iload_n 2, 1, [], 0), (.iastore, 1, [], 0), (.aload_n 0, 1, [], 0), (.getfield 15, 3, [2, 1, 2, 286], 0), (.iload_n 1, 1, [], 0), (.bipush 7, 2, [], 7), (.iand, 1, [], 0), (.iload_n 3, 1, [], 0), (.iastore, 1, [], 0), (.aload_n 0, 1, [], 0), (.getfield 18, 3, [2, 2, 2, 287], 0), (.iload_n 1, 1, [], 0), (.bipush 7, 2, [], 7), (.iand, 1, [], 0), (.aload_n 0, 1, [], 0), (.getfield 28, 3, [2, 6, 0, 293], 0), (.iastore, 1, [], 0), (.return_, 1, [], 0)]
theorem ok_X3_make_0 : vBL MT qLen qCh false q_X3_make.2.2.2.2.1 q_X3_make.2.2.2.2.2.1 q_X3_make.2.2.1 q_X3_make.1.cls q_X3_make.1.name q_X3_make.2.1 0 0 I_X3_make_0 = true := by decide +kernel
def p_X3_make (a0 : Nat) (x1 : Int32) (x2 : Int32) (x3 : Int32) (h : AH) : Option (AH) :=
  if (tg h a0).1 = 2 then (if (tg h a0).1 = 2 then (let h101 := wI h a0 6 ((rI h a0 6) + ((1 : Int32)))
  if (tg h101 a0).1 = 2 then (if inB h101 (rR h101 a0 0) 100 (x1 &&& ((7 : Int32))) then (let h102 := wI h101 (rR h101 a0 0) (x1 &&& ((7 : Int32))).toNatClampNeg x2
  if (tg h102 a0).1 = 2 then (if inB h102 (rR h102 a0 1) 100 (x1 &&& ((7 : Int32))) then (let h103 := wI h102 (rR h102 a0 1) (x1 &&& ((7 : Int32))).toNatClampNeg x3
  if (tg h103 a0).1 = 2 then (if (tg h103 a0).1 = 2 then (if inB h103 (rR h103 a0 2) 100 (x1 &&& ((7 : Int32))) then (let h104 := wI h103 (rR h103 a0 2) (x1 &&& ((7 : Int32))).toNatClampNeg (rI h103 a0 6)
  some h104) else none) else none) else none) else none) else none) else none) else none) else none) else none
set_option maxRecDepth 100000 in
theorem e_X3_make_0 {l : Launch} {D : va_G} {dA : Nat → ClassId} {z : Nat} {sa : Nat → Nat} {Hz : Heap} (E : StrOK qLen qCh l D dA z sa Hz) {h0 fin : AH}  : ∀ (a0 : Nat) (x1 : Int32) (x2 : Int32) (x3 : Int32) (h : AH), p_X3_make a0 x1 x2 x3 h = some fin → GM l D dA z sa Hz q_X3_make h0 none fin 0 [(0, .ref a0), (1, .int x1), (2, .int x2), (3, .int x3)] [] h := by
  intro a0 x1 x2 x3 h hd
  exact step E (is := I_X3_make_0) (pc := 0) (K := k0) (FI := fI0) (FV := fV0) (FL := fL0) (rt := rtV) (ft := 0) (by exact hd) ok_X3_make_0 k0_ok (fI0_ok E) (fV0_ok E) (fL0_ok E) (rtV_ok rfl)
theorem c_X3_make {l : Launch} {D : va_G} {dA : Nat → ClassId} {z : Nat} {sa : Nat → Nat} {Hz : Heap} (E : StrOK qLen qCh l D dA z sa Hz) {a0 : Nat} {x1 : Int32} {x2 : Int32} {x3 : Int32} {h fin : AH} (hd : p_X3_make a0 x1 x2 x3 h = some fin) : CalOK l D dA z sa Hz q_X3_make [.ref a0, .int x1, .int x2, .int x3] h none fin := calOf (by decide +kernel) (Nat.le_of_ble_eq_true rfl) (e_X3_make_0 E a0 x1 x2 x3 h hd)
def FI_X3_takeWrite : Nat → List Value → AH → Option (Int32 × AH) := (cx 111 (fun As h => sR As fun a0 As => sI As fun x1 As => sI As fun x2 As => sE As (p_X3_isMap a0 x1 x2 h)) (cx 60 (fun As h => sI As fun x0 As => sI As fun x1 As => sE As (p_X7_has x0 x1 h)) fI0))
theorem FI_X3_takeWrite_ok {l : Launch} {D : va_G} {dA : Nat → ClassId} {z : Nat} {sa : Nat → Nat} {Hz : Heap} (E : StrOK qLen qCh l D dA z sa Hz) : ∀ mi As h x h', FI_X3_takeWrite mi As h = some (x, h') → CalOK l D dA z sa Hz (MT mi) As h (some (.int x)) h' := (cxI_ok (fun As h x h2 e => by obtain ⟨_, _, rfl, e0⟩ := sR_inv e; obtain ⟨_, _, rfl, e1⟩ := sI_inv e0; obtain ⟨_, _, rfl, e2⟩ := sI_inv e1; obtain ⟨rfl, ez⟩ := sE_inv e2; exact c_X3_isMap E ez) ((cxI_ok (fun As h x h2 e => by obtain ⟨_, _, rfl, e0⟩ := sI_inv e; obtain ⟨_, _, rfl, e1⟩ := sI_inv e0; obtain ⟨rfl, ez⟩ := sE_inv e1; exact c_X7_has E ez) (fI0_ok E))))
def I_X3_takeWrite_52 : List AI := [(.iload_n 2, 1, [], 0), (.ireturn, 1, [], 0)]
theorem ok_X3_takeWrite_52 : vBL MT qLen qCh false q_X3_takeWrite.2.2.2.2.1 q_X3_takeWrite.2.2.2.2.2.1 q_X3_takeWrite.2.2.1 q_X3_takeWrite.1.cls q_X3_takeWrite.1.name q_X3_takeWrite.2.1 0 52 I_X3_takeWrite_52 = true := by decide +kernel
def p_X3_takeWrite_52 (x2 : Int32) (h : AH) : Option (Int32 × AH) :=
  some (x2, h)
set_option maxRecDepth 100000 in
theorem e_X3_takeWrite_52 {l : Launch} {D : va_G} {dA : Nat → ClassId} {z : Nat} {sa : Nat → Nat} {Hz : Heap} (E : StrOK qLen qCh l D dA z sa Hz) {h0 fin : AH} {x : Int32}  : ∀ (x2 : Int32) (h : AH), p_X3_takeWrite_52 x2 h = some (x, fin) → GM l D dA z sa Hz q_X3_takeWrite h0 (some (.int x)) fin 52 [(2, .int x2)] [] h := by
  intro x2 h hd
  exact step E (is := I_X3_takeWrite_52) (pc := 52) (K := k0) (FI := FI_X3_takeWrite) (FV := fV0) (FL := fL0) (rt := rtI) (ft := 0) (by exact hd) ok_X3_takeWrite_52 k0_ok (FI_X3_takeWrite_ok E) (fV0_ok E) (fL0_ok E) (rtI_ok rfl)
def I_X3_takeWrite_46 : List AI := [(.iinc 3 1, 3, [], 1), (.goto (-45), 3, [4], 0)]
theorem ok_X3_takeWrite_46 : vBL MT qLen qCh false q_X3_takeWrite.2.2.2.2.1 q_X3_takeWrite.2.2.2.2.2.1 q_X3_takeWrite.2.2.1 q_X3_takeWrite.1.cls q_X3_takeWrite.1.name q_X3_takeWrite.2.1 0 46 I_X3_takeWrite_46 = true := by decide +kernel
def p_X3_takeWrite_46 (k4 : Nat → Int32 → Int32 → Int32 → AH → Option (Int32 × AH)) (a0 : Nat) (x1 : Int32) (x2 : Int32) (x3 : Int32) (h : AH) : Option (Int32 × AH) :=
  k4 a0 x1 x2 (x3 + (1 : Int32)) h
set_option maxRecDepth 100000 in
theorem e_X3_takeWrite_46 {l : Launch} {D : va_G} {dA : Nat → ClassId} {z : Nat} {sa : Nat → Nat} {Hz : Heap} (E : StrOK qLen qCh l D dA z sa Hz) {h0 fin : AH} {x : Int32}  {k4 : Nat → Int32 → Int32 → Int32 → AH → Option (Int32 × AH)} (hk4 : ∀ (a0 : Nat) (x1 : Int32) (x2 : Int32) (x3 : Int32) (h : AH), k4 a0 x1 x2 x3 h = some (x, fin) → GM l D dA z sa Hz q_X3_takeWrite h0 (some (.int x)) fin 4 [(0, .ref a0), (1, .int x1), (2, .int x2), (3, .int x3)] [] h) : ∀ (a0 : Nat) (x1 : Int32) (x2 : Int32) (x3 : Int32) (h : AH), p_X3_takeWrite_46 k4 a0 x1 x2 x3 h = some (x, fin) → GM l D dA z sa Hz q_X3_takeWrite h0 (some (.int x)) fin 46 [(0, .ref a0), (1, .int x1), (2, .int x2), (3, .int x3)] [] h := by
  intro a0 x1 x2 x3 h hd
  exact step E (is := I_X3_takeWrite_46) (pc := 46) (K := (kx 4 (fun la st h => gR la 0 fun a0 => gI la 1 fun x1 => gI la 2 fun x2 => gI la 3 fun x3 => sE st (k4 a0 x1 x2 x3 h)) k0)) (FI := FI_X3_takeWrite) (FV := fV0) (FL := fL0) (rt := rtI) (ft := 0) (by exact hd) ok_X3_takeWrite_46 (kx_ok (fun la st h e => by obtain ⟨a0, m_a0, e1⟩ := gR_inv e; obtain ⟨x1, m_x1, e2⟩ := gI_inv e1; obtain ⟨x2, m_x2, e3⟩ := gI_inv e2; obtain ⟨x3, m_x3, e4⟩ := gI_inv e3; obtain ⟨rfl, ez⟩ := sE_inv e4; exact gm_fewer (hk4 a0 x1 x2 x3 h ez) (mem_cons m_a0 (mem_cons m_x1 (mem_cons m_x2 (mem_cons m_x3 mem_nil))))) k0_ok) (FI_X3_takeWrite_ok E) (fV0_ok E) (fL0_ok E) (rtI_ok rfl)
def I_X3_takeWrite_4 : List AI := [(.iload_n 3, 1, [], 0), (.bipush 64, 2, [], 64), (.if_icmp .ge 45, 3, [52], 0), (.aload_n 0, 1, [], 0), (.iload_n 3, 1, [], 0), (.iload_n 1, 1, [], 0), (.invokevirtual 66, 3, [1, 111, 3, 2, 890], 0), (.ifCond .eq 30, 3, [46], 0), (.aload_n 0, 1, [], 0), (.getfield 21, 3, [2, 3, 2, 288], 0), (.iload_n 3, 1, [], 0), (.iaload, 1, [], 0), (.iconst 2, 1, [], 2), (.invokestatic 44, 3, [1, 60, 2, 803], 0), (.ifCond .eq 17, 3, [46], 0), (.aload_n 0, 1, [], 0), (.getfield 21, 3, [2, 3, 2, 288], 0), (.iload_n 3, 1, [], 0), (.dup2, 1, [], 0), (.iaload, 1, [], 0), (.bipush (-3), 2, [], (-3)), (.iand, 1, [], 0), (.iastore, 1, [], 0), (.iinc 2 1, 3, [], 1)]
theorem ok_X3_takeWrite_4 : vBL MT qLen qCh false q_X3_takeWrite.2.2.2.2.1 q_X3_takeWrite.2.2.2.2.2.1 q_X3_takeWrite.2.2.1 q_X3_takeWrite.1.cls q_X3_takeWrite.1.name q_X3_takeWrite.2.1 46 4 I_X3_takeWrite_4 = true := by decide +kernel
def p_X3_takeWrite_4 : Nat → Nat → Int32 → Int32 → Int32 → AH → Option (Int32 × AH)
  | 0, _, _, _, _, _ => none
  | n + 1, a0, x1, x2, x3, h => if x3 < ((64 : Int32)) then (if (tg h a0).1 = 2 then ((p_X3_isMap a0 x3 x1 h).bind fun q101 =>
    if q101.1 = 0 then (p_X3_takeWrite_46 (p_X3_takeWrite_4 n) a0 x1 x2 x3 q101.2)
    else
    if (tg q101.2 a0).1 = 2 then (if inB q101.2 (rR q101.2 a0 3) 100 x3 then ((p_X7_has (rI q101.2 (rR q101.2 a0 3) x3.toNatClampNeg) ((2 : Int32)) q101.2).bind fun q102 =>
    if q102.1 = 0 then (p_X3_takeWrite_46 (p_X3_takeWrite_4 n) a0 x1 x2 x3 q102.2)
    else
    if (tg q102.2 a0).1 = 2 then (if inB q102.2 (rR q102.2 a0 3) 100 x3 then (if inB q102.2 (rR q102.2 a0 3) 100 x3 then (let h103 := wI q102.2 (rR q102.2 a0 3) x3.toNatClampNeg ((rI q102.2 (rR q102.2 a0 3) x3.toNatClampNeg) &&& ((-3 : Int32)))
    p_X3_takeWrite_46 (p_X3_takeWrite_4 n) a0 x1 (x2 + (1 : Int32)) x3 h103) else none) else none) else none) else none) else none) else none)
    else
    some (x2, h)
set_option maxRecDepth 100000 in
theorem e_X3_takeWrite_4 {l : Launch} {D : va_G} {dA : Nat → ClassId} {z : Nat} {sa : Nat → Nat} {Hz : Heap} (E : StrOK qLen qCh l D dA z sa Hz) {h0 fin : AH} {x : Int32}  : ∀ (n : Nat) (a0 : Nat) (x1 : Int32) (x2 : Int32) (x3 : Int32) (h : AH), p_X3_takeWrite_4 n a0 x1 x2 x3 h = some (x, fin) → GM l D dA z sa Hz q_X3_takeWrite h0 (some (.int x)) fin 4 [(0, .ref a0), (1, .int x1), (2, .int x2), (3, .int x3)] [] h := by
  intro n
  induction n with
  | zero => intro a0 x1 x2 x3 h hd; exact nomatch hd
  | succ n ih =>
    intro a0 x1 x2 x3 h hd
    exact step E (is := I_X3_takeWrite_4) (pc := 4) (K := (kx 52 (fun la st h => gI la 2 fun x2 => sE st (p_X3_takeWrite_52 x2 h)) (kx 46 (fun la st h => gR la 0 fun a0 => gI la 1 fun x1 => gI la 2 fun x2 => gI la 3 fun x3 => sE st (p_X3_takeWrite_46 (p_X3_takeWrite_4 n) a0 x1 x2 x3 h)) k0))) (FI := FI_X3_takeWrite) (FV := fV0) (FL := fL0) (rt := rtI) (ft := 46) (by exact hd) ok_X3_takeWrite_4 (kx_ok (fun la st h e => by obtain ⟨x2, m_x2, e1⟩ := gI_inv e; obtain ⟨rfl, ez⟩ := sE_inv e1; exact gm_fewer (e_X3_takeWrite_52 E  x2 h ez) (mem_cons m_x2 mem_nil)) (kx_ok (fun la st h e => by obtain ⟨a0, m_a0, e1⟩ := gR_inv e; obtain ⟨x1, m_x1, e2⟩ := gI_inv e1; obtain ⟨x2, m_x2, e3⟩ := gI_inv e2; obtain ⟨x3, m_x3, e4⟩ := gI_inv e3; obtain ⟨rfl, ez⟩ := sE_inv e4; exact gm_fewer (e_X3_takeWrite_46 E ih a0 x1 x2 x3 h ez) (mem_cons m_a0 (mem_cons m_x1 (mem_cons m_x2 (mem_cons m_x3 mem_nil))))) k0_ok)) (FI_X3_takeWrite_ok E) (fV0_ok E) (fL0_ok E) (rtI_ok rfl)
def I_X3_takeWrite_0 : List AI := [(.iconst 0, 1, [], 0), (.istore_n 2, 1, [], 0), (.iconst 0, 1, [], 0), (.istore_n 3, 1, [], 0)]
theorem ok_X3_takeWrite_0 : vBL MT qLen qCh false q_X3_takeWrite.2.2.2.2.1 q_X3_takeWrite.2.2.2.2.2.1 q_X3_takeWrite.2.2.1 q_X3_takeWrite.1.cls q_X3_takeWrite.1.name q_X3_takeWrite.2.1 4 0 I_X3_takeWrite_0 = true := by decide +kernel
def p_X3_takeWrite (a0 : Nat) (x1 : Int32) (h : AH) : Option (Int32 × AH) :=
  p_X3_takeWrite_4 FU a0 x1 ((0 : Int32)) ((0 : Int32)) h
set_option maxRecDepth 100000 in
theorem e_X3_takeWrite_0 {l : Launch} {D : va_G} {dA : Nat → ClassId} {z : Nat} {sa : Nat → Nat} {Hz : Heap} (E : StrOK qLen qCh l D dA z sa Hz) {h0 fin : AH} {x : Int32}  : ∀ (a0 : Nat) (x1 : Int32) (h : AH), p_X3_takeWrite a0 x1 h = some (x, fin) → GM l D dA z sa Hz q_X3_takeWrite h0 (some (.int x)) fin 0 [(0, .ref a0), (1, .int x1)] [] h := by
  intro a0 x1 h hd
  exact step E (is := I_X3_takeWrite_0) (pc := 0) (K := (kx 4 (fun la st h => gR la 0 fun a0 => gI la 1 fun x1 => gI la 2 fun x2 => gI la 3 fun x3 => sE st (p_X3_takeWrite_4 FU a0 x1 x2 x3 h)) k0)) (FI := FI_X3_takeWrite) (FV := fV0) (FL := fL0) (rt := rtI) (ft := 4) (by exact hd) ok_X3_takeWrite_0 (kx_ok (fun la st h e => by obtain ⟨a0, m_a0, e1⟩ := gR_inv e; obtain ⟨x1, m_x1, e2⟩ := gI_inv e1; obtain ⟨x2, m_x2, e3⟩ := gI_inv e2; obtain ⟨x3, m_x3, e4⟩ := gI_inv e3; obtain ⟨rfl, ez⟩ := sE_inv e4; exact gm_fewer (e_X3_takeWrite_4 E  FU a0 x1 x2 x3 h ez) (mem_cons m_a0 (mem_cons m_x1 (mem_cons m_x2 (mem_cons m_x3 mem_nil))))) k0_ok) (FI_X3_takeWrite_ok E) (fV0_ok E) (fL0_ok E) (rtI_ok rfl)
theorem c_X3_takeWrite {l : Launch} {D : va_G} {dA : Nat → ClassId} {z : Nat} {sa : Nat → Nat} {Hz : Heap} (E : StrOK qLen qCh l D dA z sa Hz) {a0 : Nat} {x1 : Int32} {h fin : AH} {x : Int32} (hd : p_X3_takeWrite a0 x1 h = some (x, fin)) : CalOK l D dA z sa Hz q_X3_takeWrite [.ref a0, .int x1] h (some (.int x)) fin := calOf (by decide +kernel) (Nat.le_of_ble_eq_true rfl) (e_X3_takeWrite_0 E a0 x1 h hd)
def FI_X2_tableOf : Nat → List Value → AH → Option (Int32 × AH) := (cx 87 (fun As h => sR As fun a0 As => sI As fun x1 As => sI As fun x2 As => sE As (p_X3_find a0 x1 x2 h)) (cx 118 (fun As h => sR As fun a0 As => sI As fun x1 As => sE As (p_X3_freeAt a0 x1 h)) (cx 119 (fun As h => sR As fun a0 As => sI As fun x1 As => sE As (p_X3_oldestBeside a0 x1 h)) (cx 128 (fun As h => sR As fun a0 As => sI As fun x1 As => sE As (p_X3_takeWrite a0 x1 h)) fI0))))
theorem FI_X2_tableOf_ok {l : Launch} {D : va_G} {dA : Nat → ClassId} {z : Nat} {sa : Nat → Nat} {Hz : Heap} (E : StrOK qLen qCh l D dA z sa Hz) : ∀ mi As h x h', FI_X2_tableOf mi As h = some (x, h') → CalOK l D dA z sa Hz (MT mi) As h (some (.int x)) h' := (cxI_ok (fun As h x h2 e => by obtain ⟨_, _, rfl, e0⟩ := sR_inv e; obtain ⟨_, _, rfl, e1⟩ := sI_inv e0; obtain ⟨_, _, rfl, e2⟩ := sI_inv e1; obtain ⟨rfl, ez⟩ := sE_inv e2; exact c_X3_find E ez) ((cxI_ok (fun As h x h2 e => by obtain ⟨_, _, rfl, e0⟩ := sR_inv e; obtain ⟨_, _, rfl, e1⟩ := sI_inv e0; obtain ⟨rfl, ez⟩ := sE_inv e1; exact c_X3_freeAt E ez) ((cxI_ok (fun As h x h2 e => by obtain ⟨_, _, rfl, e0⟩ := sR_inv e; obtain ⟨_, _, rfl, e1⟩ := sI_inv e0; obtain ⟨rfl, ez⟩ := sE_inv e1; exact c_X3_oldestBeside E ez) ((cxI_ok (fun As h x h2 e => by obtain ⟨_, _, rfl, e0⟩ := sR_inv e; obtain ⟨_, _, rfl, e1⟩ := sI_inv e0; obtain ⟨rfl, ez⟩ := sE_inv e1; exact c_X3_takeWrite E ez) (fI0_ok E))))))))
def FV_X2_tableOf : Nat → List Value → AH → Option (AH) := (cx 126 (fun As h => sR As fun a0 As => sI As fun x1 As => sE As (p_X3_drop a0 x1 h)) (cx 127 (fun As h => sR As fun a0 As => sI As fun x1 As => sI As fun x2 As => sI As fun x3 As => sE As (p_X3_make a0 x1 x2 x3 h)) fV0))
theorem FV_X2_tableOf_ok {l : Launch} {D : va_G} {dA : Nat → ClassId} {z : Nat} {sa : Nat → Nat} {Hz : Heap} (E : StrOK qLen qCh l D dA z sa Hz) : ∀ mi As h h', FV_X2_tableOf mi As h = some h' → CalOK l D dA z sa Hz (MT mi) As h none h' := (cxV_ok (fun As h h2 e => by obtain ⟨_, _, rfl, e0⟩ := sR_inv e; obtain ⟨_, _, rfl, e1⟩ := sI_inv e0; obtain ⟨rfl, ez⟩ := sE_inv e1; exact c_X3_drop E ez) ((cxV_ok (fun As h h2 e => by obtain ⟨_, _, rfl, e0⟩ := sR_inv e; obtain ⟨_, _, rfl, e1⟩ := sI_inv e0; obtain ⟨_, _, rfl, e2⟩ := sI_inv e1; obtain ⟨_, _, rfl, e3⟩ := sI_inv e2; obtain ⟨rfl, ez⟩ := sE_inv e3; exact c_X3_make E ez) (fV0_ok E))))
def I_X2_tableOf_91 : List AI := [(.iload 4, 2, [], 0), (.ireturn, 1, [], 0)]
theorem ok_X2_tableOf_91 : vBL MT qLen qCh false q_X2_tableOf.2.2.2.2.1 q_X2_tableOf.2.2.2.2.2.1 q_X2_tableOf.2.2.1 q_X2_tableOf.1.cls q_X2_tableOf.1.name q_X2_tableOf.2.1 0 91 I_X2_tableOf_91 = true := by decide +kernel
def p_X2_tableOf_91 (x4 : Int32) (h : AH) : Option (Int32 × AH) :=
  some (x4, h)
set_option maxRecDepth 100000 in
theorem e_X2_tableOf_91 {l : Launch} {D : va_G} {dA : Nat → ClassId} {z : Nat} {sa : Nat → Nat} {Hz : Heap} (E : StrOK qLen qCh l D dA z sa Hz) {h0 fin : AH} {x : Int32}  : ∀ (x4 : Int32) (h : AH), p_X2_tableOf_91 x4 h = some (x, fin) → GM l D dA z sa Hz q_X2_tableOf h0 (some (.int x)) fin 91 [(4, .int x4)] [] h := by
  intro x4 h hd
  exact step E (is := I_X2_tableOf_91) (pc := 91) (K := k0) (FI := FI_X2_tableOf) (FV := FV_X2_tableOf) (FL := fL0) (rt := rtI) (ft := 0) (by exact hd) ok_X2_tableOf_91 k0_ok (FI_X2_tableOf_ok E) (FV_X2_tableOf_ok E) (fL0_ok E) (rtI_ok rfl)
def I_X2_tableOf_66 : List AI := [(.aload_n 0, 1, [], 0), (.getfield 27, 3, [1, 2, 2, 322], 0), (.iload 4, 2, [], 0), (.iload_n 1, 1, [], 0), (.iload_n 2, 1, [], 0), (.invokevirtual 135, 3, [2, 127, 4, 2, 972], 0), (.iload_n 1, 1, [], 0), (.iconst 2, 1, [], 2), (.if_icmp .eq 12, 3, [91], 0), (.aload_n 0, 1, [], 0), (.getfield 27, 3, [1, 2, 2, 322], 0), (.iload_n 2, 1, [], 0), (.invokevirtual 139, 3, [1, 128, 2, 2, 976], 0), (.pop, 1, [], 0)]
theorem ok_X2_tableOf_66 : vBL MT qLen qCh false q_X2_tableOf.2.2.2.2.1 q_X2_tableOf.2.2.2.2.2.1 q_X2_tableOf.2.2.1 q_X2_tableOf.1.cls q_X2_tableOf.1.name q_X2_tableOf.2.1 91 66 I_X2_tableOf_66 = true := by decide +kernel
def p_X2_tableOf_66 (a0 : Nat) (x1 : Int32) (x2 : Int32) (x4 : Int32) (h : AH) : Option (Int32 × AH) :=
  if (tg h a0).1 = 1 then (if (tg h (rR h a0 2)).1 = 2 then ((p_X3_make (rR h a0 2) x4 x1 x2 h).bind fun h101 =>
  if x1 = ((2 : Int32)) then (p_X2_tableOf_91 x4 h101)
  else
  if (tg h101 a0).1 = 1 then (if (tg h101 (rR h101 a0 2)).1 = 2 then ((p_X3_takeWrite (rR h101 a0 2) x2 h101).bind fun q102 =>
  p_X2_tableOf_91 x4 q102.2) else none) else none) else none) else none
set_option maxRecDepth 100000 in
theorem e_X2_tableOf_66 {l : Launch} {D : va_G} {dA : Nat → ClassId} {z : Nat} {sa : Nat → Nat} {Hz : Heap} (E : StrOK qLen qCh l D dA z sa Hz) {h0 fin : AH} {x : Int32}  : ∀ (a0 : Nat) (x1 : Int32) (x2 : Int32) (x4 : Int32) (h : AH), p_X2_tableOf_66 a0 x1 x2 x4 h = some (x, fin) → GM l D dA z sa Hz q_X2_tableOf h0 (some (.int x)) fin 66 [(0, .ref a0), (1, .int x1), (2, .int x2), (4, .int x4)] [] h := by
  intro a0 x1 x2 x4 h hd
  exact step E (is := I_X2_tableOf_66) (pc := 66) (K := (kx 91 (fun la st h => gI la 4 fun x4 => sE st (p_X2_tableOf_91 x4 h)) k0)) (FI := FI_X2_tableOf) (FV := FV_X2_tableOf) (FL := fL0) (rt := rtI) (ft := 91) (by exact hd) ok_X2_tableOf_66 (kx_ok (fun la st h e => by obtain ⟨x4, m_x4, e1⟩ := gI_inv e; obtain ⟨rfl, ez⟩ := sE_inv e1; exact gm_fewer (e_X2_tableOf_91 E  x4 h ez) (mem_cons m_x4 mem_nil)) k0_ok) (FI_X2_tableOf_ok E) (FV_X2_tableOf_ok E) (fL0_ok E) (rtI_ok rfl)
def I_X2_tableOf_16 : List AI := [(.aload_n 0, 1, [], 0), (.getfield 27, 3, [1, 2, 2, 322], 0), (.iconst 0, 1, [], 0), (.invokevirtual 126, 3, [1, 118, 2, 2, 966], 0), (.istore 4, 2, [], 0), (.iload 4, 2, [], 0), (.ifCond .ge 38, 3, [66], 0), (.aload_n 0, 1, [], 0), (.getfield 27, 3, [1, 2, 2, 322], 0), (.aload_n 0, 1, [], 0), (.getfield 22, 3, [1, 1, 2, 320], 0), (.getfield 62, 3, [0, 4, 0, 195], 0), (.invokevirtual 129, 3, [1, 119, 2, 2, 967], 0), (.istore 4, 2, [], 0), (.aload_n 0, 1, [], 0), (.getfield 27, 3, [1, 2, 2, 322], 0), (.iload 4, 2, [], 0), (.invokevirtual 132, 3, [2, 126, 2, 2, 968], 0), (.aload_n 0, 1, [], 0), (.dup, 1, [], 0), (.getfield 59, 3, [1, 7, 0, 332], 0), (.iconst 1, 1, [], 1), (.iadd, 1, [], 0), (.putfield 59, 3, [1, 7, 0, 332], 0)]
theorem ok_X2_tableOf_16 : vBL MT qLen qCh false q_X2_tableOf.2.2.2.2.1 q_X2_tableOf.2.2.2.2.2.1 q_X2_tableOf.2.2.1 q_X2_tableOf.1.cls q_X2_tableOf.1.name q_X2_tableOf.2.1 66 16 I_X2_tableOf_16 = true := by decide +kernel
def p_X2_tableOf_16 (a0 : Nat) (x1 : Int32) (x2 : Int32) (h : AH) : Option (Int32 × AH) :=
  if (tg h a0).1 = 1 then (if (tg h (rR h a0 2)).1 = 2 then ((p_X3_freeAt (rR h a0 2) ((0 : Int32)) h).bind fun q103 =>
  if q103.1 < 0 then (if (tg q103.2 a0).1 = 1 then (if (tg q103.2 a0).1 = 1 then (if (tg q103.2 (rR q103.2 a0 1)).1 = 0 then (if (tg q103.2 (rR q103.2 a0 2)).1 = 2 then ((p_X3_oldestBeside (rR q103.2 a0 2) (rI q103.2 (rR q103.2 a0 1) 4) q103.2).bind fun q104 =>
  if (tg q104.2 a0).1 = 1 then (if (tg q104.2 (rR q104.2 a0 2)).1 = 2 then ((p_X3_drop (rR q104.2 a0 2) q104.1 q104.2).bind fun h105 =>
  if (tg h105 a0).1 = 1 then (if (tg h105 a0).1 = 1 then (let h106 := wI h105 a0 7 ((rI h105 a0 7) + ((1 : Int32)))
  p_X2_tableOf_66 a0 x1 x2 q104.1 h106) else none) else none) else none) else none) else none) else none) else none) else none)
  else
  p_X2_tableOf_66 a0 x1 x2 q103.1 q103.2) else none) else none
set_option maxRecDepth 100000 in
theorem e_X2_tableOf_16 {l : Launch} {D : va_G} {dA : Nat → ClassId} {z : Nat} {sa : Nat → Nat} {Hz : Heap} (E : StrOK qLen qCh l D dA z sa Hz) {h0 fin : AH} {x : Int32}  : ∀ (a0 : Nat) (x1 : Int32) (x2 : Int32) (h : AH), p_X2_tableOf_16 a0 x1 x2 h = some (x, fin) → GM l D dA z sa Hz q_X2_tableOf h0 (some (.int x)) fin 16 [(0, .ref a0), (1, .int x1), (2, .int x2)] [] h := by
  intro a0 x1 x2 h hd
  exact step E (is := I_X2_tableOf_16) (pc := 16) (K := (kx 66 (fun la st h => gR la 0 fun a0 => gI la 1 fun x1 => gI la 2 fun x2 => gI la 4 fun x4 => sE st (p_X2_tableOf_66 a0 x1 x2 x4 h)) k0)) (FI := FI_X2_tableOf) (FV := FV_X2_tableOf) (FL := fL0) (rt := rtI) (ft := 66) (by exact hd) ok_X2_tableOf_16 (kx_ok (fun la st h e => by obtain ⟨a0, m_a0, e1⟩ := gR_inv e; obtain ⟨x1, m_x1, e2⟩ := gI_inv e1; obtain ⟨x2, m_x2, e3⟩ := gI_inv e2; obtain ⟨x4, m_x4, e4⟩ := gI_inv e3; obtain ⟨rfl, ez⟩ := sE_inv e4; exact gm_fewer (e_X2_tableOf_66 E  a0 x1 x2 x4 h ez) (mem_cons m_a0 (mem_cons m_x1 (mem_cons m_x2 (mem_cons m_x4 mem_nil))))) k0_ok) (FI_X2_tableOf_ok E) (FV_X2_tableOf_ok E) (fL0_ok E) (rtI_ok rfl)
def I_X2_tableOf_0 : List AI := [(.aload_n 0, 1, [], 0), (.getfield 27, 3, [1, 2, 2, 322], 0), (.iload_n 1, 1, [], 0), (.iload_n 2, 1, [], 0), (.invokevirtual 123, 3, [1, 87, 3, 2, 965], 0), (.istore_n 3, 1, [], 0), (.iload_n 3, 1, [], 0), (.ifCond .lt 5, 3, [16], 0), (.iload_n 3, 1, [], 0), (.ireturn, 1, [], 0)]
theorem ok_X2_tableOf_0 : vBL MT qLen qCh false q_X2_tableOf.2.2.2.2.1 q_X2_tableOf.2.2.2.2.2.1 q_X2_tableOf.2.2.1 q_X2_tableOf.1.cls q_X2_tableOf.1.name q_X2_tableOf.2.1 0 0 I_X2_tableOf_0 = true := by decide +kernel
def p_X2_tableOf (a0 : Nat) (x1 : Int32) (x2 : Int32) (h : AH) : Option (Int32 × AH) :=
  if (tg h a0).1 = 1 then (if (tg h (rR h a0 2)).1 = 2 then ((p_X3_find (rR h a0 2) x1 x2 h).bind fun q107 =>
  if q107.1 < 0 then (if (tg q107.2 a0).1 = 1 then (if (tg q107.2 (rR q107.2 a0 2)).1 = 2 then ((p_X3_freeAt (rR q107.2 a0 2) ((0 : Int32)) q107.2).bind fun q108 =>
  if q108.1 < 0 then (if (tg q108.2 a0).1 = 1 then (if (tg q108.2 a0).1 = 1 then (if (tg q108.2 (rR q108.2 a0 1)).1 = 0 then (if (tg q108.2 (rR q108.2 a0 2)).1 = 2 then ((p_X3_oldestBeside (rR q108.2 a0 2) (rI q108.2 (rR q108.2 a0 1) 4) q108.2).bind fun q109 =>
  if (tg q109.2 a0).1 = 1 then (if (tg q109.2 (rR q109.2 a0 2)).1 = 2 then ((p_X3_drop (rR q109.2 a0 2) q109.1 q109.2).bind fun h110 =>
  if (tg h110 a0).1 = 1 then (if (tg h110 a0).1 = 1 then (let h111 := wI h110 a0 7 ((rI h110 a0 7) + ((1 : Int32)))
  p_X2_tableOf_66 a0 x1 x2 q109.1 h111) else none) else none) else none) else none) else none) else none) else none) else none)
  else
  p_X2_tableOf_66 a0 x1 x2 q108.1 q108.2) else none) else none)
  else
  some (q107.1, q107.2)) else none) else none
set_option maxRecDepth 100000 in
theorem e_X2_tableOf_0 {l : Launch} {D : va_G} {dA : Nat → ClassId} {z : Nat} {sa : Nat → Nat} {Hz : Heap} (E : StrOK qLen qCh l D dA z sa Hz) {h0 fin : AH} {x : Int32}  : ∀ (a0 : Nat) (x1 : Int32) (x2 : Int32) (h : AH), p_X2_tableOf a0 x1 x2 h = some (x, fin) → GM l D dA z sa Hz q_X2_tableOf h0 (some (.int x)) fin 0 [(0, .ref a0), (1, .int x1), (2, .int x2)] [] h := by
  intro a0 x1 x2 h hd
  exact step E (is := I_X2_tableOf_0) (pc := 0) (K := (kx 16 (fun la st h => gR la 0 fun a0 => gI la 1 fun x1 => gI la 2 fun x2 => sE st (p_X2_tableOf_16 a0 x1 x2 h)) k0)) (FI := FI_X2_tableOf) (FV := FV_X2_tableOf) (FL := fL0) (rt := rtI) (ft := 0) (by exact hd) ok_X2_tableOf_0 (kx_ok (fun la st h e => by obtain ⟨a0, m_a0, e1⟩ := gR_inv e; obtain ⟨x1, m_x1, e2⟩ := gI_inv e1; obtain ⟨x2, m_x2, e3⟩ := gI_inv e2; obtain ⟨rfl, ez⟩ := sE_inv e3; exact gm_fewer (e_X2_tableOf_16 E  a0 x1 x2 h ez) (mem_cons m_a0 (mem_cons m_x1 (mem_cons m_x2 mem_nil)))) k0_ok) (FI_X2_tableOf_ok E) (FV_X2_tableOf_ok E) (fL0_ok E) (rtI_ok rfl)
theorem c_X2_tableOf {l : Launch} {D : va_G} {dA : Nat → ClassId} {z : Nat} {sa : Nat → Nat} {Hz : Heap} (E : StrOK qLen qCh l D dA z sa Hz) {a0 : Nat} {x1 : Int32} {x2 : Int32} {h fin : AH} {x : Int32} (hd : p_X2_tableOf a0 x1 x2 h = some (x, fin)) : CalOK l D dA z sa Hz q_X2_tableOf [.ref a0, .int x1, .int x2] h (some (.int x)) fin := calOf (by decide +kernel) (Nat.le_of_ble_eq_true rfl) (e_X2_tableOf_0 E a0 x1 x2 h hd)
def I_X3_spot_0 : List AI := [(.iload_n 0, 1, [], 0), (.bipush 7, 2, [], 7), (.iand, 1, [], 0), (.bipush 8, 2, [], 8), (.imul, 1, [], 0), (.iload_n 1, 1, [], 0), (.bipush 7, 2, [], 7), (.iand, 1, [], 0), (.iadd, 1, [], 0), (.ireturn, 1, [], 0)]
theorem ok_X3_spot_0 : vBL MT qLen qCh false q_X3_spot.2.2.2.2.1 q_X3_spot.2.2.2.2.2.1 q_X3_spot.2.2.1 q_X3_spot.1.cls q_X3_spot.1.name q_X3_spot.2.1 0 0 I_X3_spot_0 = true := by decide +kernel
def p_X3_spot (x0 : Int32) (x1 : Int32) (h : AH) : Option (Int32 × AH) :=
  some ((((x0 &&& ((7 : Int32))) * ((8 : Int32))) + (x1 &&& ((7 : Int32)))), h)
set_option maxRecDepth 100000 in
theorem e_X3_spot_0 {l : Launch} {D : va_G} {dA : Nat → ClassId} {z : Nat} {sa : Nat → Nat} {Hz : Heap} (E : StrOK qLen qCh l D dA z sa Hz) {h0 fin : AH} {x : Int32}  : ∀ (x0 : Int32) (x1 : Int32) (h : AH), p_X3_spot x0 x1 h = some (x, fin) → GM l D dA z sa Hz q_X3_spot h0 (some (.int x)) fin 0 [(0, .int x0), (1, .int x1)] [] h := by
  intro x0 x1 h hd
  exact step E (is := I_X3_spot_0) (pc := 0) (K := k0) (FI := fI0) (FV := fV0) (FL := fL0) (rt := rtI) (ft := 0) (by exact hd) ok_X3_spot_0 k0_ok (fI0_ok E) (fV0_ok E) (fL0_ok E) (rtI_ok rfl)
theorem c_X3_spot {l : Launch} {D : va_G} {dA : Nat → ClassId} {z : Nat} {sa : Nat → Nat} {Hz : Heap} (E : StrOK qLen qCh l D dA z sa Hz) {x0 : Int32} {x1 : Int32} {h fin : AH} {x : Int32} (hd : p_X3_spot x0 x1 h = some (x, fin)) : CalOK l D dA z sa Hz q_X3_spot [.int x0, .int x1] h (some (.int x)) fin := calOf (by decide +kernel) (Nat.le_of_ble_eq_true rfl) (e_X3_spot_0 E x0 x1 h hd)
def FI_X3_tell : Nat → List Value → AH → Option (Int32 × AH) := (cx 130 (fun As h => sI As fun x0 As => sI As fun x1 As => sE As (p_X3_spot x0 x1 h)) fI0)
theorem FI_X3_tell_ok {l : Launch} {D : va_G} {dA : Nat → ClassId} {z : Nat} {sa : Nat → Nat} {Hz : Heap} (E : StrOK qLen qCh l D dA z sa Hz) : ∀ mi As h x h', FI_X3_tell mi As h = some (x, h') → CalOK l D dA z sa Hz (MT mi) As h (some (.int x)) h' := (cxI_ok (fun As h x h2 e => by obtain ⟨_, _, rfl, e0⟩ := sI_inv e; obtain ⟨_, _, rfl, e1⟩ := sI_inv e0; obtain ⟨rfl, ez⟩ := sE_inv e1; exact c_X3_spot E ez) (fI0_ok E))
def I_X3_tell_33 : List AI := [(.iadd, 1, [], 0), (.iastore, 1, [], 0), (.return_, 1, [], 0)]
theorem ok_X3_tell_33 : vBL MT qLen qCh false q_X3_tell.2.2.2.2.1 q_X3_tell.2.2.2.2.2.1 q_X3_tell.2.2.1 q_X3_tell.1.cls q_X3_tell.1.name q_X3_tell.2.1 0 33 I_X3_tell_33 = true := by decide +kernel
def p_X3_tell_33 (y0 : Int32) (y1 : Int32) (y2 : Int32) (b3 : Nat) (h : AH) : Option (AH) :=
  if inB h b3 100 y2 then (let h101 := wI h b3 y2.toNatClampNeg (y1 + y0)
  some h101) else none
set_option maxRecDepth 100000 in
theorem e_X3_tell_33 {l : Launch} {D : va_G} {dA : Nat → ClassId} {z : Nat} {sa : Nat → Nat} {Hz : Heap} (E : StrOK qLen qCh l D dA z sa Hz) {h0 fin : AH}  : ∀ (y0 : Int32) (y1 : Int32) (y2 : Int32) (b3 : Nat) (h : AH), p_X3_tell_33 y0 y1 y2 b3 h = some fin → GM l D dA z sa Hz q_X3_tell h0 none fin 33 [] [.int y0, .int y1, .int y2, .ref b3] h := by
  intro y0 y1 y2 b3 h hd
  exact step E (is := I_X3_tell_33) (pc := 33) (K := k0) (FI := FI_X3_tell) (FV := fV0) (FL := fL0) (rt := rtV) (ft := 0) (by exact hd) ok_X3_tell_33 k0_ok (FI_X3_tell_ok E) (fV0_ok E) (fL0_ok E) (rtV_ok rfl)
def I_X3_tell_32 : List AI := [(.iconst 0, 1, [], 0)]
theorem ok_X3_tell_32 : vBL MT qLen qCh false q_X3_tell.2.2.2.2.1 q_X3_tell.2.2.2.2.2.1 q_X3_tell.2.2.1 q_X3_tell.1.cls q_X3_tell.1.name q_X3_tell.2.1 33 32 I_X3_tell_32 = true := by decide +kernel
def p_X3_tell_32 (y0 : Int32) (y1 : Int32) (b2 : Nat) (h : AH) : Option (AH) :=
  p_X3_tell_33 ((0 : Int32)) y0 y1 b2 h
set_option maxRecDepth 100000 in
theorem e_X3_tell_32 {l : Launch} {D : va_G} {dA : Nat → ClassId} {z : Nat} {sa : Nat → Nat} {Hz : Heap} (E : StrOK qLen qCh l D dA z sa Hz) {h0 fin : AH}  : ∀ (y0 : Int32) (y1 : Int32) (b2 : Nat) (h : AH), p_X3_tell_32 y0 y1 b2 h = some fin → GM l D dA z sa Hz q_X3_tell h0 none fin 32 [] [.int y0, .int y1, .ref b2] h := by
  intro y0 y1 b2 h hd
  exact step E (is := I_X3_tell_32) (pc := 32) (K := (kx 33 (fun la st h => sI st fun y0 st => sI st fun y1 st => sI st fun y2 st => sR st fun b3 st => sE st (p_X3_tell_33 y0 y1 y2 b3 h)) k0)) (FI := FI_X3_tell) (FV := fV0) (FL := fL0) (rt := rtV) (ft := 33) (by exact hd) ok_X3_tell_32 (kx_ok (fun la st h e => by obtain ⟨y0, _, rfl, e1⟩ := sI_inv e; obtain ⟨y1, _, rfl, e2⟩ := sI_inv e1; obtain ⟨y2, _, rfl, e3⟩ := sI_inv e2; obtain ⟨b3, _, rfl, e4⟩ := sR_inv e3; obtain ⟨rfl, ez⟩ := sE_inv e4; exact gm_fewer (e_X3_tell_33 E  y0 y1 y2 b3 h ez) mem_nil) k0_ok) (FI_X3_tell_ok E) (fV0_ok E) (fL0_ok E) (rtV_ok rfl)
def I_X3_tell_22 : List AI := [(.iadd, 1, [], 0), (.iload 5, 2, [], 0), (.ifCond .eq 7, 3, [32], 0), (.iconst 1, 1, [], 1), (.goto 4, 3, [33], 0)]
theorem ok_X3_tell_22 : vBL MT qLen qCh false q_X3_tell.2.2.2.2.1 q_X3_tell.2.2.2.2.2.1 q_X3_tell.2.2.1 q_X3_tell.1.cls q_X3_tell.1.name q_X3_tell.2.1 0 22 I_X3_tell_22 = true := by decide +kernel
def p_X3_tell_22 (x5 : Int32) (y0 : Int32) (y1 : Int32) (y2 : Int32) (b3 : Nat) (h : AH) : Option (AH) :=
  if x5 = 0 then (p_X3_tell_33 ((0 : Int32)) (y1 + y0) y2 b3 h)
  else
  p_X3_tell_33 ((1 : Int32)) (y1 + y0) y2 b3 h
set_option maxRecDepth 100000 in
theorem e_X3_tell_22 {l : Launch} {D : va_G} {dA : Nat → ClassId} {z : Nat} {sa : Nat → Nat} {Hz : Heap} (E : StrOK qLen qCh l D dA z sa Hz) {h0 fin : AH}  : ∀ (x5 : Int32) (y0 : Int32) (y1 : Int32) (y2 : Int32) (b3 : Nat) (h : AH), p_X3_tell_22 x5 y0 y1 y2 b3 h = some fin → GM l D dA z sa Hz q_X3_tell h0 none fin 22 [(5, .int x5)] [.int y0, .int y1, .int y2, .ref b3] h := by
  intro x5 y0 y1 y2 b3 h hd
  exact step E (is := I_X3_tell_22) (pc := 22) (K := (kx 32 (fun la st h => sI st fun y0 st => sI st fun y1 st => sR st fun b2 st => sE st (p_X3_tell_32 y0 y1 b2 h)) (kx 33 (fun la st h => sI st fun y0 st => sI st fun y1 st => sI st fun y2 st => sR st fun b3 st => sE st (p_X3_tell_33 y0 y1 y2 b3 h)) k0))) (FI := FI_X3_tell) (FV := fV0) (FL := fL0) (rt := rtV) (ft := 0) (by exact hd) ok_X3_tell_22 (kx_ok (fun la st h e => by obtain ⟨y0, _, rfl, e1⟩ := sI_inv e; obtain ⟨y1, _, rfl, e2⟩ := sI_inv e1; obtain ⟨b2, _, rfl, e3⟩ := sR_inv e2; obtain ⟨rfl, ez⟩ := sE_inv e3; exact gm_fewer (e_X3_tell_32 E  y0 y1 b2 h ez) mem_nil) (kx_ok (fun la st h e => by obtain ⟨y0, _, rfl, e1⟩ := sI_inv e; obtain ⟨y1, _, rfl, e2⟩ := sI_inv e1; obtain ⟨y2, _, rfl, e3⟩ := sI_inv e2; obtain ⟨b3, _, rfl, e4⟩ := sR_inv e3; obtain ⟨rfl, ez⟩ := sE_inv e4; exact gm_fewer (e_X3_tell_33 E  y0 y1 y2 b3 h ez) mem_nil) k0_ok)) (FI_X3_tell_ok E) (fV0_ok E) (fL0_ok E) (rtV_ok rfl)
def I_X3_tell_21 : List AI := [(.iconst 0, 1, [], 0)]
theorem ok_X3_tell_21 : vBL MT qLen qCh false q_X3_tell.2.2.2.2.1 q_X3_tell.2.2.2.2.2.1 q_X3_tell.2.2.1 q_X3_tell.1.cls q_X3_tell.1.name q_X3_tell.2.1 22 21 I_X3_tell_21 = true := by decide +kernel
def p_X3_tell_21 (x5 : Int32) (y0 : Int32) (y1 : Int32) (b2 : Nat) (h : AH) : Option (AH) :=
  p_X3_tell_22 x5 ((0 : Int32)) y0 y1 b2 h
set_option maxRecDepth 100000 in
theorem e_X3_tell_21 {l : Launch} {D : va_G} {dA : Nat → ClassId} {z : Nat} {sa : Nat → Nat} {Hz : Heap} (E : StrOK qLen qCh l D dA z sa Hz) {h0 fin : AH}  : ∀ (x5 : Int32) (y0 : Int32) (y1 : Int32) (b2 : Nat) (h : AH), p_X3_tell_21 x5 y0 y1 b2 h = some fin → GM l D dA z sa Hz q_X3_tell h0 none fin 21 [(5, .int x5)] [.int y0, .int y1, .ref b2] h := by
  intro x5 y0 y1 b2 h hd
  exact step E (is := I_X3_tell_21) (pc := 21) (K := (kx 22 (fun la st h => gI la 5 fun x5 => sI st fun y0 st => sI st fun y1 st => sI st fun y2 st => sR st fun b3 st => sE st (p_X3_tell_22 x5 y0 y1 y2 b3 h)) k0)) (FI := FI_X3_tell) (FV := fV0) (FL := fL0) (rt := rtV) (ft := 22) (by exact hd) ok_X3_tell_21 (kx_ok (fun la st h e => by obtain ⟨x5, m_x5, e1⟩ := gI_inv e; obtain ⟨y0, _, rfl, e2⟩ := sI_inv e1; obtain ⟨y1, _, rfl, e3⟩ := sI_inv e2; obtain ⟨y2, _, rfl, e4⟩ := sI_inv e3; obtain ⟨b3, _, rfl, e5⟩ := sR_inv e4; obtain ⟨rfl, ez⟩ := sE_inv e5; exact gm_fewer (e_X3_tell_22 E  x5 y0 y1 y2 b3 h ez) (mem_cons m_x5 mem_nil)) k0_ok) (FI_X3_tell_ok E) (fV0_ok E) (fL0_ok E) (rtV_ok rfl)
def I_X3_tell_0 : List AI := [(.aload_n 0, 1, [], 0), (.getfield 21, 3, [2, 3, 2, 288], 0), (.iload_n 1, 1, [], 0), (.iload_n 2, 1, [], 0), (.invokestatic 48, 3, [1, 130, 2, 986], 0), (.iload_n 3, 1, [], 0), (.iconst 4, 1, [], 4), (.imul, 1, [], 0), (.iload 4, 2, [], 0), (.ifCond .eq 7, 3, [21], 0), (.iconst 2, 1, [], 2), (.goto 4, 3, [22], 0)]
theorem ok_X3_tell_0 : vBL MT qLen qCh false q_X3_tell.2.2.2.2.1 q_X3_tell.2.2.2.2.2.1 q_X3_tell.2.2.1 q_X3_tell.1.cls q_X3_tell.1.name q_X3_tell.2.1 0 0 I_X3_tell_0 = true := by decide +kernel
def p_X3_tell (a0 : Nat) (x1 : Int32) (x2 : Int32) (x3 : Int32) (x4 : Int32) (x5 : Int32) (h : AH) : Option (AH) :=
  if (tg h a0).1 = 2 then ((p_X3_spot x1 x2 h).bind fun q102 =>
  if x4 = 0 then (p_X3_tell_22 x5 ((0 : Int32)) (x3 * ((4 : Int32))) q102.1 (rR h a0 3) q102.2)
  else
  p_X3_tell_22 x5 ((2 : Int32)) (x3 * ((4 : Int32))) q102.1 (rR h a0 3) q102.2) else none
set_option maxRecDepth 100000 in
theorem e_X3_tell_0 {l : Launch} {D : va_G} {dA : Nat → ClassId} {z : Nat} {sa : Nat → Nat} {Hz : Heap} (E : StrOK qLen qCh l D dA z sa Hz) {h0 fin : AH}  : ∀ (a0 : Nat) (x1 : Int32) (x2 : Int32) (x3 : Int32) (x4 : Int32) (x5 : Int32) (h : AH), p_X3_tell a0 x1 x2 x3 x4 x5 h = some fin → GM l D dA z sa Hz q_X3_tell h0 none fin 0 [(0, .ref a0), (1, .int x1), (2, .int x2), (3, .int x3), (4, .int x4), (5, .int x5)] [] h := by
  intro a0 x1 x2 x3 x4 x5 h hd
  exact step E (is := I_X3_tell_0) (pc := 0) (K := (kx 21 (fun la st h => gI la 5 fun x5 => sI st fun y0 st => sI st fun y1 st => sR st fun b2 st => sE st (p_X3_tell_21 x5 y0 y1 b2 h)) (kx 22 (fun la st h => gI la 5 fun x5 => sI st fun y0 st => sI st fun y1 st => sI st fun y2 st => sR st fun b3 st => sE st (p_X3_tell_22 x5 y0 y1 y2 b3 h)) k0))) (FI := FI_X3_tell) (FV := fV0) (FL := fL0) (rt := rtV) (ft := 0) (by exact hd) ok_X3_tell_0 (kx_ok (fun la st h e => by obtain ⟨x5, m_x5, e1⟩ := gI_inv e; obtain ⟨y0, _, rfl, e2⟩ := sI_inv e1; obtain ⟨y1, _, rfl, e3⟩ := sI_inv e2; obtain ⟨b2, _, rfl, e4⟩ := sR_inv e3; obtain ⟨rfl, ez⟩ := sE_inv e4; exact gm_fewer (e_X3_tell_21 E  x5 y0 y1 b2 h ez) (mem_cons m_x5 mem_nil)) (kx_ok (fun la st h e => by obtain ⟨x5, m_x5, e1⟩ := gI_inv e; obtain ⟨y0, _, rfl, e2⟩ := sI_inv e1; obtain ⟨y1, _, rfl, e3⟩ := sI_inv e2; obtain ⟨y2, _, rfl, e4⟩ := sI_inv e3; obtain ⟨b3, _, rfl, e5⟩ := sR_inv e4; obtain ⟨rfl, ez⟩ := sE_inv e5; exact gm_fewer (e_X3_tell_22 E  x5 y0 y1 y2 b3 h ez) (mem_cons m_x5 mem_nil)) k0_ok)) (FI_X3_tell_ok E) (fV0_ok E) (fL0_ok E) (rtV_ok rfl)
theorem c_X3_tell {l : Launch} {D : va_G} {dA : Nat → ClassId} {z : Nat} {sa : Nat → Nat} {Hz : Heap} (E : StrOK qLen qCh l D dA z sa Hz) {a0 : Nat} {x1 : Int32} {x2 : Int32} {x3 : Int32} {x4 : Int32} {x5 : Int32} {h fin : AH} (hd : p_X3_tell a0 x1 x2 x3 x4 x5 h = some fin) : CalOK l D dA z sa Hz q_X3_tell [.ref a0, .int x1, .int x2, .int x3, .int x4, .int x5] h none fin := calOf (by decide +kernel) (Nat.le_of_ble_eq_true rfl) (e_X3_tell_0 E a0 x1 x2 x3 x4 x5 h hd)
def FI_X1_isMarked : Nat → List Value → AH → Option (Int32 × AH) := (cx 60 (fun As h => sI As fun x0 As => sI As fun x1 As => sE As (p_X7_has x0 x1 h)) fI0)
theorem FI_X1_isMarked_ok {l : Launch} {D : va_G} {dA : Nat → ClassId} {z : Nat} {sa : Nat → Nat} {Hz : Heap} (E : StrOK qLen qCh l D dA z sa Hz) : ∀ mi As h x h', FI_X1_isMarked mi As h = some (x, h') → CalOK l D dA z sa Hz (MT mi) As h (some (.int x)) h' := (cxI_ok (fun As h x h2 e => by obtain ⟨_, _, rfl, e0⟩ := sI_inv e; obtain ⟨_, _, rfl, e1⟩ := sI_inv e0; obtain ⟨rfl, ez⟩ := sE_inv e1; exact c_X7_has E ez) (fI0_ok E))
def I_X1_isMarked_0 : List AI := [(.aload_n 0, 1, [], 0), (.getfield 22, 3, [0, 3, 0, 192], 0), (.iconst 1, 1, [], 1), (.iload_n 1, 1, [], 0), (.ishl, 1, [], 0), (.invokestatic 42, 3, [1, 60, 2, 677], 0), (.ireturn, 1, [], 0)]
theorem ok_X1_isMarked_0 : vBL MT qLen qCh false q_X1_isMarked.2.2.2.2.1 q_X1_isMarked.2.2.2.2.2.1 q_X1_isMarked.2.2.1 q_X1_isMarked.1.cls q_X1_isMarked.1.name q_X1_isMarked.2.1 0 0 I_X1_isMarked_0 = true := by decide +kernel
def p_X1_isMarked (a0 : Nat) (x1 : Int32) (h : AH) : Option (Int32 × AH) :=
  if (tg h a0).1 = 0 then ((p_X7_has (rI h a0 3) (((1 : Int32)) <<< (x1 &&& 31)) h).bind fun q101 =>
  if q101.1 &&& 1 = q101.1 then some (q101.1, q101.2) else none) else none
set_option maxRecDepth 100000 in
theorem e_X1_isMarked_0 {l : Launch} {D : va_G} {dA : Nat → ClassId} {z : Nat} {sa : Nat → Nat} {Hz : Heap} (E : StrOK qLen qCh l D dA z sa Hz) {h0 fin : AH} {x : Int32}  : ∀ (a0 : Nat) (x1 : Int32) (h : AH), p_X1_isMarked a0 x1 h = some (x, fin) → GM l D dA z sa Hz q_X1_isMarked h0 (some (.int x)) fin 0 [(0, .ref a0), (1, .int x1)] [] h := by
  intro a0 x1 h hd
  exact step E (is := I_X1_isMarked_0) (pc := 0) (K := k0) (FI := FI_X1_isMarked) (FV := fV0) (FL := fL0) (rt := rtZ) (ft := 0) (by exact hd) ok_X1_isMarked_0 k0_ok (FI_X1_isMarked_ok E) (fV0_ok E) (fL0_ok E) (rtZ_ok rfl)
theorem c_X1_isMarked {l : Launch} {D : va_G} {dA : Nat → ClassId} {z : Nat} {sa : Nat → Nat} {Hz : Heap} (E : StrOK qLen qCh l D dA z sa Hz) {a0 : Nat} {x1 : Int32} {h fin : AH} {x : Int32} (hd : p_X1_isMarked a0 x1 h = some (x, fin)) : CalOK l D dA z sa Hz q_X1_isMarked [.ref a0, .int x1] h (some (.int x)) fin := calOf (by decide +kernel) (Nat.le_of_ble_eq_true rfl) (e_X1_isMarked_0 E a0 x1 h hd)
def FI_X2_fill : Nat → List Value → AH → Option (Int32 × AH) := (cx 70 (fun As h => sR As fun a0 As => sI As fun x1 As => sE As (p_X1_upperWord a0 x1 h)) (cx 60 (fun As h => sI As fun x0 As => sI As fun x1 As => sE As (p_X7_has x0 x1 h)) (cx 129 (fun As h => sR As fun a0 As => sI As fun x1 As => sI As fun x2 As => sE As (p_X2_tableOf a0 x1 x2 h)) (cx 74 (fun As h => sI As fun x0 As => sE As (p_X1_firstOfLarge x0 h)) (cx 72 (fun As h => sI As fun x0 As => sE As (p_X7_frameIn x0 h)) (cx 73 (fun As h => sR As fun a0 As => sI As fun x1 As => sE As (p_X1_lastWord a0 x1 h)) (cx 75 (fun As h => sR As fun a0 As => sI As fun x1 As => sE As (p_X1_frameTold a0 x1 h)) (cx 61 (fun As h => sR As fun a0 As => sI As fun x1 As => sE As (p_X1_isWritable a0 x1 h)) (cx 132 (fun As h => sR As fun a0 As => sI As fun x1 As => sE As (p_X1_isMarked a0 x1 h)) (cx 115 (fun As h => sR As fun a0 As => sI As fun x1 As => sE As (p_X3_watches a0 x1 h)) fI0))))))))))
theorem FI_X2_fill_ok {l : Launch} {D : va_G} {dA : Nat → ClassId} {z : Nat} {sa : Nat → Nat} {Hz : Heap} (E : StrOK qLen qCh l D dA z sa Hz) : ∀ mi As h x h', FI_X2_fill mi As h = some (x, h') → CalOK l D dA z sa Hz (MT mi) As h (some (.int x)) h' := (cxI_ok (fun As h x h2 e => by obtain ⟨_, _, rfl, e0⟩ := sR_inv e; obtain ⟨_, _, rfl, e1⟩ := sI_inv e0; obtain ⟨rfl, ez⟩ := sE_inv e1; exact c_X1_upperWord E ez) ((cxI_ok (fun As h x h2 e => by obtain ⟨_, _, rfl, e0⟩ := sI_inv e; obtain ⟨_, _, rfl, e1⟩ := sI_inv e0; obtain ⟨rfl, ez⟩ := sE_inv e1; exact c_X7_has E ez) ((cxI_ok (fun As h x h2 e => by obtain ⟨_, _, rfl, e0⟩ := sR_inv e; obtain ⟨_, _, rfl, e1⟩ := sI_inv e0; obtain ⟨_, _, rfl, e2⟩ := sI_inv e1; obtain ⟨rfl, ez⟩ := sE_inv e2; exact c_X2_tableOf E ez) ((cxI_ok (fun As h x h2 e => by obtain ⟨_, _, rfl, e0⟩ := sI_inv e; obtain ⟨rfl, ez⟩ := sE_inv e0; exact c_X1_firstOfLarge E ez) ((cxI_ok (fun As h x h2 e => by obtain ⟨_, _, rfl, e0⟩ := sI_inv e; obtain ⟨rfl, ez⟩ := sE_inv e0; exact c_X7_frameIn E ez) ((cxI_ok (fun As h x h2 e => by obtain ⟨_, _, rfl, e0⟩ := sR_inv e; obtain ⟨_, _, rfl, e1⟩ := sI_inv e0; obtain ⟨rfl, ez⟩ := sE_inv e1; exact c_X1_lastWord E ez) ((cxI_ok (fun As h x h2 e => by obtain ⟨_, _, rfl, e0⟩ := sR_inv e; obtain ⟨_, _, rfl, e1⟩ := sI_inv e0; obtain ⟨rfl, ez⟩ := sE_inv e1; exact c_X1_frameTold E ez) ((cxI_ok (fun As h x h2 e => by obtain ⟨_, _, rfl, e0⟩ := sR_inv e; obtain ⟨_, _, rfl, e1⟩ := sI_inv e0; obtain ⟨rfl, ez⟩ := sE_inv e1; exact c_X1_isWritable E ez) ((cxI_ok (fun As h x h2 e => by obtain ⟨_, _, rfl, e0⟩ := sR_inv e; obtain ⟨_, _, rfl, e1⟩ := sI_inv e0; obtain ⟨rfl, ez⟩ := sE_inv e1; exact c_X1_isMarked E ez) ((cxI_ok (fun As h x h2 e => by obtain ⟨_, _, rfl, e0⟩ := sR_inv e; obtain ⟨_, _, rfl, e1⟩ := sI_inv e0; obtain ⟨rfl, ez⟩ := sE_inv e1; exact c_X3_watches E ez) (fI0_ok E))))))))))))))))))))
def FV_X2_fill : Nat → List Value → AH → Option (AH) := (cx 125 (fun As h => sR As fun a0 As => sI As fun x1 As => sI As fun x2 As => sE As (p_X1_noteUse a0 x1 x2 h)) (cx 131 (fun As h => sR As fun a0 As => sI As fun x1 As => sI As fun x2 As => sI As fun x3 As => sI As fun x4 As => sI As fun x5 As => sE As (p_X3_tell a0 x1 x2 x3 x4 x5 h)) fV0))
theorem FV_X2_fill_ok {l : Launch} {D : va_G} {dA : Nat → ClassId} {z : Nat} {sa : Nat → Nat} {Hz : Heap} (E : StrOK qLen qCh l D dA z sa Hz) : ∀ mi As h h', FV_X2_fill mi As h = some h' → CalOK l D dA z sa Hz (MT mi) As h none h' := (cxV_ok (fun As h h2 e => by obtain ⟨_, _, rfl, e0⟩ := sR_inv e; obtain ⟨_, _, rfl, e1⟩ := sI_inv e0; obtain ⟨_, _, rfl, e2⟩ := sI_inv e1; obtain ⟨rfl, ez⟩ := sE_inv e2; exact c_X1_noteUse E ez) ((cxV_ok (fun As h h2 e => by obtain ⟨_, _, rfl, e0⟩ := sR_inv e; obtain ⟨_, _, rfl, e1⟩ := sI_inv e0; obtain ⟨_, _, rfl, e2⟩ := sI_inv e1; obtain ⟨_, _, rfl, e3⟩ := sI_inv e2; obtain ⟨_, _, rfl, e4⟩ := sI_inv e3; obtain ⟨_, _, rfl, e5⟩ := sI_inv e4; obtain ⟨rfl, ez⟩ := sE_inv e5; exact c_X3_tell E ez) (fV0_ok E))))
def I_X2_fill_223 : List AI := [(.invokevirtual 103, 3, [2, 131, 6, 2, 982], 0), (.return_, 1, [], 0)]
theorem ok_X2_fill_223 : vBL MT qLen qCh false q_X2_fill.2.2.2.2.1 q_X2_fill.2.2.2.2.2.1 q_X2_fill.2.2.1 q_X2_fill.1.cls q_X2_fill.1.name q_X2_fill.2.1 0 223 I_X2_fill_223 = true := by decide +kernel
def p_X2_fill_223 (y0 : Int32) (y1 : Int32) (y2 : Int32) (y3 : Int32) (y4 : Int32) (b5 : Nat) (h : AH) : Option (AH) :=
  if (tg h b5).1 = 2 then ((p_X3_tell b5 y4 y3 y2 y1 y0 h).bind fun h101 =>
  some h101) else none
set_option maxRecDepth 100000 in
theorem e_X2_fill_223 {l : Launch} {D : va_G} {dA : Nat → ClassId} {z : Nat} {sa : Nat → Nat} {Hz : Heap} (E : StrOK qLen qCh l D dA z sa Hz) {h0 fin : AH}  : ∀ (y0 : Int32) (y1 : Int32) (y2 : Int32) (y3 : Int32) (y4 : Int32) (b5 : Nat) (h : AH), p_X2_fill_223 y0 y1 y2 y3 y4 b5 h = some fin → GM l D dA z sa Hz q_X2_fill h0 none fin 223 [] [.int y0, .int y1, .int y2, .int y3, .int y4, .ref b5] h := by
  intro y0 y1 y2 y3 y4 b5 h hd
  exact step E (is := I_X2_fill_223) (pc := 223) (K := k0) (FI := FI_X2_fill) (FV := FV_X2_fill) (FL := fL0) (rt := rtV) (ft := 0) (by exact hd) ok_X2_fill_223 k0_ok (FI_X2_fill_ok E) (FV_X2_fill_ok E) (fL0_ok E) (rtV_ok rfl)
def I_X2_fill_218 : List AI := [(.iconst 1, 1, [], 1), (.goto 4, 3, [223], 0)]
theorem ok_X2_fill_218 : vBL MT qLen qCh false q_X2_fill.2.2.2.2.1 q_X2_fill.2.2.2.2.2.1 q_X2_fill.2.2.1 q_X2_fill.1.cls q_X2_fill.1.name q_X2_fill.2.1 0 218 I_X2_fill_218 = true := by decide +kernel
def p_X2_fill_218 (y0 : Int32) (y1 : Int32) (y2 : Int32) (y3 : Int32) (b4 : Nat) (h : AH) : Option (AH) :=
  p_X2_fill_223 ((1 : Int32)) y0 y1 y2 y3 b4 h
set_option maxRecDepth 100000 in
theorem e_X2_fill_218 {l : Launch} {D : va_G} {dA : Nat → ClassId} {z : Nat} {sa : Nat → Nat} {Hz : Heap} (E : StrOK qLen qCh l D dA z sa Hz) {h0 fin : AH}  : ∀ (y0 : Int32) (y1 : Int32) (y2 : Int32) (y3 : Int32) (b4 : Nat) (h : AH), p_X2_fill_218 y0 y1 y2 y3 b4 h = some fin → GM l D dA z sa Hz q_X2_fill h0 none fin 218 [] [.int y0, .int y1, .int y2, .int y3, .ref b4] h := by
  intro y0 y1 y2 y3 b4 h hd
  exact step E (is := I_X2_fill_218) (pc := 218) (K := (kx 223 (fun la st h => sI st fun y0 st => sI st fun y1 st => sI st fun y2 st => sI st fun y3 st => sI st fun y4 st => sR st fun b5 st => sE st (p_X2_fill_223 y0 y1 y2 y3 y4 b5 h)) k0)) (FI := FI_X2_fill) (FV := FV_X2_fill) (FL := fL0) (rt := rtV) (ft := 0) (by exact hd) ok_X2_fill_218 (kx_ok (fun la st h e => by obtain ⟨y0, _, rfl, e1⟩ := sI_inv e; obtain ⟨y1, _, rfl, e2⟩ := sI_inv e1; obtain ⟨y2, _, rfl, e3⟩ := sI_inv e2; obtain ⟨y3, _, rfl, e4⟩ := sI_inv e3; obtain ⟨y4, _, rfl, e5⟩ := sI_inv e4; obtain ⟨b5, _, rfl, e6⟩ := sR_inv e5; obtain ⟨rfl, ez⟩ := sE_inv e6; exact gm_fewer (e_X2_fill_223 E  y0 y1 y2 y3 y4 b5 h ez) mem_nil) k0_ok) (FI_X2_fill_ok E) (FV_X2_fill_ok E) (fL0_ok E) (rtV_ok rfl)
def I_X2_fill_222 : List AI := [(.iconst 0, 1, [], 0)]
theorem ok_X2_fill_222 : vBL MT qLen qCh false q_X2_fill.2.2.2.2.1 q_X2_fill.2.2.2.2.2.1 q_X2_fill.2.2.1 q_X2_fill.1.cls q_X2_fill.1.name q_X2_fill.2.1 223 222 I_X2_fill_222 = true := by decide +kernel
def p_X2_fill_222 (y0 : Int32) (y1 : Int32) (y2 : Int32) (y3 : Int32) (b4 : Nat) (h : AH) : Option (AH) :=
  p_X2_fill_223 ((0 : Int32)) y0 y1 y2 y3 b4 h
set_option maxRecDepth 100000 in
theorem e_X2_fill_222 {l : Launch} {D : va_G} {dA : Nat → ClassId} {z : Nat} {sa : Nat → Nat} {Hz : Heap} (E : StrOK qLen qCh l D dA z sa Hz) {h0 fin : AH}  : ∀ (y0 : Int32) (y1 : Int32) (y2 : Int32) (y3 : Int32) (b4 : Nat) (h : AH), p_X2_fill_222 y0 y1 y2 y3 b4 h = some fin → GM l D dA z sa Hz q_X2_fill h0 none fin 222 [] [.int y0, .int y1, .int y2, .int y3, .ref b4] h := by
  intro y0 y1 y2 y3 b4 h hd
  exact step E (is := I_X2_fill_222) (pc := 222) (K := (kx 223 (fun la st h => sI st fun y0 st => sI st fun y1 st => sI st fun y2 st => sI st fun y3 st => sI st fun y4 st => sR st fun b5 st => sE st (p_X2_fill_223 y0 y1 y2 y3 y4 b5 h)) k0)) (FI := FI_X2_fill) (FV := FV_X2_fill) (FL := fL0) (rt := rtV) (ft := 223) (by exact hd) ok_X2_fill_222 (kx_ok (fun la st h e => by obtain ⟨y0, _, rfl, e1⟩ := sI_inv e; obtain ⟨y1, _, rfl, e2⟩ := sI_inv e1; obtain ⟨y2, _, rfl, e3⟩ := sI_inv e2; obtain ⟨y3, _, rfl, e4⟩ := sI_inv e3; obtain ⟨y4, _, rfl, e5⟩ := sI_inv e4; obtain ⟨b5, _, rfl, e6⟩ := sR_inv e5; obtain ⟨rfl, ez⟩ := sE_inv e6; exact gm_fewer (e_X2_fill_223 E  y0 y1 y2 y3 y4 b5 h ez) mem_nil) k0_ok) (FI_X2_fill_ok E) (FV_X2_fill_ok E) (fL0_ok E) (rtV_ok rfl)
def I_X2_fill_191 : List AI := [(.istore 9, 2, [], 0), (.aload_n 0, 1, [], 0), (.getfield 27, 3, [1, 2, 2, 322], 0), (.iload 6, 2, [], 0), (.iload_n 1, 1, [], 0), (.iload 8, 2, [], 0), (.iload 9, 2, [], 0), (.iload 4, 2, [], 0), (.ifCond .ne 12, 3, [218], 0), (.iload 7, 2, [], 0), (.iconst 4, 1, [], 4), (.invokestatic 90, 3, [1, 60, 2, 960], 0), (.ifCond .eq 7, 3, [222], 0)]
theorem ok_X2_fill_191 : vBL MT qLen qCh false q_X2_fill.2.2.2.2.1 q_X2_fill.2.2.2.2.2.1 q_X2_fill.2.2.1 q_X2_fill.1.cls q_X2_fill.1.name q_X2_fill.2.1 218 191 I_X2_fill_191 = true := by decide +kernel
def p_X2_fill_191 (a0 : Nat) (x1 : Int32) (x4 : Int32) (x6 : Int32) (x7 : Int32) (x8 : Int32) (y0 : Int32) (h : AH) : Option (AH) :=
  if (tg h a0).1 = 1 then (if x4 = 0 then ((p_X7_has x7 ((4 : Int32)) h).bind fun q102 =>
  if q102.1 = 0 then (p_X2_fill_223 ((0 : Int32)) y0 x8 x1 x6 (rR h a0 2) q102.2)
  else
  p_X2_fill_218 y0 x8 x1 x6 (rR h a0 2) q102.2)
  else
  p_X2_fill_218 y0 x8 x1 x6 (rR h a0 2) h) else none
set_option maxRecDepth 100000 in
theorem e_X2_fill_191 {l : Launch} {D : va_G} {dA : Nat → ClassId} {z : Nat} {sa : Nat → Nat} {Hz : Heap} (E : StrOK qLen qCh l D dA z sa Hz) {h0 fin : AH}  : ∀ (a0 : Nat) (x1 : Int32) (x4 : Int32) (x6 : Int32) (x7 : Int32) (x8 : Int32) (y0 : Int32) (h : AH), p_X2_fill_191 a0 x1 x4 x6 x7 x8 y0 h = some fin → GM l D dA z sa Hz q_X2_fill h0 none fin 191 [(0, .ref a0), (1, .int x1), (4, .int x4), (6, .int x6), (7, .int x7), (8, .int x8)] [.int y0] h := by
  intro a0 x1 x4 x6 x7 x8 y0 h hd
  exact step E (is := I_X2_fill_191) (pc := 191) (K := (kx 218 (fun la st h => sI st fun y0 st => sI st fun y1 st => sI st fun y2 st => sI st fun y3 st => sR st fun b4 st => sE st (p_X2_fill_218 y0 y1 y2 y3 b4 h)) (kx 222 (fun la st h => sI st fun y0 st => sI st fun y1 st => sI st fun y2 st => sI st fun y3 st => sR st fun b4 st => sE st (p_X2_fill_222 y0 y1 y2 y3 b4 h)) k0))) (FI := FI_X2_fill) (FV := FV_X2_fill) (FL := fL0) (rt := rtV) (ft := 218) (by exact hd) ok_X2_fill_191 (kx_ok (fun la st h e => by obtain ⟨y0, _, rfl, e1⟩ := sI_inv e; obtain ⟨y1, _, rfl, e2⟩ := sI_inv e1; obtain ⟨y2, _, rfl, e3⟩ := sI_inv e2; obtain ⟨y3, _, rfl, e4⟩ := sI_inv e3; obtain ⟨b4, _, rfl, e5⟩ := sR_inv e4; obtain ⟨rfl, ez⟩ := sE_inv e5; exact gm_fewer (e_X2_fill_218 E  y0 y1 y2 y3 b4 h ez) mem_nil) (kx_ok (fun la st h e => by obtain ⟨y0, _, rfl, e1⟩ := sI_inv e; obtain ⟨y1, _, rfl, e2⟩ := sI_inv e1; obtain ⟨y2, _, rfl, e3⟩ := sI_inv e2; obtain ⟨y3, _, rfl, e4⟩ := sI_inv e3; obtain ⟨b4, _, rfl, e5⟩ := sR_inv e4; obtain ⟨rfl, ez⟩ := sE_inv e5; exact gm_fewer (e_X2_fill_222 E  y0 y1 y2 y3 b4 h ez) mem_nil) k0_ok)) (FI_X2_fill_ok E) (FV_X2_fill_ok E) (fL0_ok E) (rtV_ok rfl)
def I_X2_fill_190 : List AI := [(.iconst 0, 1, [], 0)]
theorem ok_X2_fill_190 : vBL MT qLen qCh false q_X2_fill.2.2.2.2.1 q_X2_fill.2.2.2.2.2.1 q_X2_fill.2.2.1 q_X2_fill.1.cls q_X2_fill.1.name q_X2_fill.2.1 191 190 I_X2_fill_190 = true := by decide +kernel
def p_X2_fill_190 (a0 : Nat) (x1 : Int32) (x4 : Int32) (x6 : Int32) (x7 : Int32) (x8 : Int32) (h : AH) : Option (AH) :=
  p_X2_fill_191 a0 x1 x4 x6 x7 x8 ((0 : Int32)) h
set_option maxRecDepth 100000 in
theorem e_X2_fill_190 {l : Launch} {D : va_G} {dA : Nat → ClassId} {z : Nat} {sa : Nat → Nat} {Hz : Heap} (E : StrOK qLen qCh l D dA z sa Hz) {h0 fin : AH}  : ∀ (a0 : Nat) (x1 : Int32) (x4 : Int32) (x6 : Int32) (x7 : Int32) (x8 : Int32) (h : AH), p_X2_fill_190 a0 x1 x4 x6 x7 x8 h = some fin → GM l D dA z sa Hz q_X2_fill h0 none fin 190 [(0, .ref a0), (1, .int x1), (4, .int x4), (6, .int x6), (7, .int x7), (8, .int x8)] [] h := by
  intro a0 x1 x4 x6 x7 x8 h hd
  exact step E (is := I_X2_fill_190) (pc := 190) (K := (kx 191 (fun la st h => gR la 0 fun a0 => gI la 1 fun x1 => gI la 4 fun x4 => gI la 6 fun x6 => gI la 7 fun x7 => gI la 8 fun x8 => sI st fun y0 st => sE st (p_X2_fill_191 a0 x1 x4 x6 x7 x8 y0 h)) k0)) (FI := FI_X2_fill) (FV := FV_X2_fill) (FL := fL0) (rt := rtV) (ft := 191) (by exact hd) ok_X2_fill_190 (kx_ok (fun la st h e => by obtain ⟨a0, m_a0, e1⟩ := gR_inv e; obtain ⟨x1, m_x1, e2⟩ := gI_inv e1; obtain ⟨x4, m_x4, e3⟩ := gI_inv e2; obtain ⟨x6, m_x6, e4⟩ := gI_inv e3; obtain ⟨x7, m_x7, e5⟩ := gI_inv e4; obtain ⟨x8, m_x8, e6⟩ := gI_inv e5; obtain ⟨y0, _, rfl, e7⟩ := sI_inv e6; obtain ⟨rfl, ez⟩ := sE_inv e7; exact gm_fewer (e_X2_fill_191 E  a0 x1 x4 x6 x7 x8 y0 h ez) (mem_cons m_a0 (mem_cons m_x1 (mem_cons m_x4 (mem_cons m_x6 (mem_cons m_x7 (mem_cons m_x8 mem_nil))))))) k0_ok) (FI_X2_fill_ok E) (FV_X2_fill_ok E) (fL0_ok E) (rtV_ok rfl)
def I_X2_fill_150 : List AI := [(.aload_n 0, 1, [], 0), (.getfield 22, 3, [1, 1, 2, 320], 0), (.iload 8, 2, [], 0), (.invokevirtual 113, 3, [1, 61, 2, 0, 991], 0), (.ifCond .eq 31, 3, [190], 0), (.aload_n 0, 1, [], 0), (.getfield 22, 3, [1, 1, 2, 320], 0), (.iload 8, 2, [], 0), (.invokevirtual 117, 3, [1, 132, 2, 0, 992], 0), (.ifCond .eq 19, 3, [190], 0), (.aload_n 0, 1, [], 0), (.getfield 27, 3, [1, 2, 2, 322], 0), (.iload 8, 2, [], 0), (.invokevirtual 120, 3, [1, 115, 2, 2, 996], 0), (.ifCond .ne 7, 3, [190], 0), (.iconst 1, 1, [], 1), (.goto 4, 3, [191], 0)]
theorem ok_X2_fill_150 : vBL MT qLen qCh false q_X2_fill.2.2.2.2.1 q_X2_fill.2.2.2.2.2.1 q_X2_fill.2.2.1 q_X2_fill.1.cls q_X2_fill.1.name q_X2_fill.2.1 0 150 I_X2_fill_150 = true := by decide +kernel
def p_X2_fill_150 (a0 : Nat) (x1 : Int32) (x4 : Int32) (x6 : Int32) (x7 : Int32) (x8 : Int32) (h : AH) : Option (AH) :=
  if (tg h a0).1 = 1 then (if (tg h (rR h a0 1)).1 = 0 then ((p_X1_isWritable (rR h a0 1) x8 h).bind fun q103 =>
  if q103.1 = 0 then (p_X2_fill_190 a0 x1 x4 x6 x7 x8 q103.2)
  else
  if (tg q103.2 a0).1 = 1 then (if (tg q103.2 (rR q103.2 a0 1)).1 = 0 then ((p_X1_isMarked (rR q103.2 a0 1) x8 q103.2).bind fun q104 =>
  if q104.1 = 0 then (p_X2_fill_190 a0 x1 x4 x6 x7 x8 q104.2)
  else
  if (tg q104.2 a0).1 = 1 then (if (tg q104.2 (rR q104.2 a0 2)).1 = 2 then ((p_X3_watches (rR q104.2 a0 2) x8 q104.2).bind fun q105 =>
  if q105.1 = 0 then (p_X2_fill_191 a0 x1 x4 x6 x7 x8 ((1 : Int32)) q105.2)
  else
  p_X2_fill_190 a0 x1 x4 x6 x7 x8 q105.2) else none) else none) else none) else none) else none) else none
set_option maxRecDepth 100000 in
theorem e_X2_fill_150 {l : Launch} {D : va_G} {dA : Nat → ClassId} {z : Nat} {sa : Nat → Nat} {Hz : Heap} (E : StrOK qLen qCh l D dA z sa Hz) {h0 fin : AH}  : ∀ (a0 : Nat) (x1 : Int32) (x4 : Int32) (x6 : Int32) (x7 : Int32) (x8 : Int32) (h : AH), p_X2_fill_150 a0 x1 x4 x6 x7 x8 h = some fin → GM l D dA z sa Hz q_X2_fill h0 none fin 150 [(0, .ref a0), (1, .int x1), (4, .int x4), (6, .int x6), (7, .int x7), (8, .int x8)] [] h := by
  intro a0 x1 x4 x6 x7 x8 h hd
  exact step E (is := I_X2_fill_150) (pc := 150) (K := (kx 190 (fun la st h => gR la 0 fun a0 => gI la 1 fun x1 => gI la 4 fun x4 => gI la 6 fun x6 => gI la 7 fun x7 => gI la 8 fun x8 => sE st (p_X2_fill_190 a0 x1 x4 x6 x7 x8 h)) (kx 191 (fun la st h => gR la 0 fun a0 => gI la 1 fun x1 => gI la 4 fun x4 => gI la 6 fun x6 => gI la 7 fun x7 => gI la 8 fun x8 => sI st fun y0 st => sE st (p_X2_fill_191 a0 x1 x4 x6 x7 x8 y0 h)) k0))) (FI := FI_X2_fill) (FV := FV_X2_fill) (FL := fL0) (rt := rtV) (ft := 0) (by exact hd) ok_X2_fill_150 (kx_ok (fun la st h e => by obtain ⟨a0, m_a0, e1⟩ := gR_inv e; obtain ⟨x1, m_x1, e2⟩ := gI_inv e1; obtain ⟨x4, m_x4, e3⟩ := gI_inv e2; obtain ⟨x6, m_x6, e4⟩ := gI_inv e3; obtain ⟨x7, m_x7, e5⟩ := gI_inv e4; obtain ⟨x8, m_x8, e6⟩ := gI_inv e5; obtain ⟨rfl, ez⟩ := sE_inv e6; exact gm_fewer (e_X2_fill_190 E  a0 x1 x4 x6 x7 x8 h ez) (mem_cons m_a0 (mem_cons m_x1 (mem_cons m_x4 (mem_cons m_x6 (mem_cons m_x7 (mem_cons m_x8 mem_nil))))))) (kx_ok (fun la st h e => by obtain ⟨a0, m_a0, e1⟩ := gR_inv e; obtain ⟨x1, m_x1, e2⟩ := gI_inv e1; obtain ⟨x4, m_x4, e3⟩ := gI_inv e2; obtain ⟨x6, m_x6, e4⟩ := gI_inv e3; obtain ⟨x7, m_x7, e5⟩ := gI_inv e4; obtain ⟨x8, m_x8, e6⟩ := gI_inv e5; obtain ⟨y0, _, rfl, e7⟩ := sI_inv e6; obtain ⟨rfl, ez⟩ := sE_inv e7; exact gm_fewer (e_X2_fill_191 E  a0 x1 x4 x6 x7 x8 y0 h ez) (mem_cons m_a0 (mem_cons m_x1 (mem_cons m_x4 (mem_cons m_x6 (mem_cons m_x7 (mem_cons m_x8 mem_nil))))))) k0_ok)) (FI_X2_fill_ok E) (FV_X2_fill_ok E) (fL0_ok E) (rtV_ok rfl)
def I_X2_fill_107 : List AI := [(.iload_n 3, 1, [], 0), (.iconst 4, 1, [], 4), (.invokestatic 90, 3, [1, 60, 2, 960], 0), (.invokevirtual 103, 3, [2, 131, 6, 2, 982], 0), (.aload_n 0, 1, [], 0), (.getfield 22, 3, [1, 1, 2, 320], 0), (.iload_n 1, 1, [], 0), (.invokevirtual 107, 3, [1, 73, 2, 0, 989], 0), (.istore 7, 2, [], 0), (.aload_n 0, 1, [], 0), (.getfield 22, 3, [1, 1, 2, 320], 0), (.iload_n 1, 1, [], 0), (.invokevirtual 110, 3, [1, 75, 2, 0, 990], 0), (.istore 8, 2, [], 0), (.iload 4, 2, [], 0), (.ifCond .ne 13, 3, [150], 0), (.iload 7, 2, [], 0), (.bipush 18, 2, [], 18), (.invokestatic 90, 3, [1, 60, 2, 960], 0), (.ifCond .eq 43, 3, [190], 0)]
theorem ok_X2_fill_107 : vBL MT qLen qCh false q_X2_fill.2.2.2.2.1 q_X2_fill.2.2.2.2.2.1 q_X2_fill.2.2.1 q_X2_fill.1.cls q_X2_fill.1.name q_X2_fill.2.1 150 107 I_X2_fill_107 = true := by decide +kernel
def p_X2_fill_107 (a0 : Nat) (x1 : Int32) (x3 : Int32) (x4 : Int32) (x6 : Int32) (y0 : Int32) (y1 : Int32) (y2 : Int32) (y3 : Int32) (b4 : Nat) (h : AH) : Option (AH) :=
  (p_X7_has x3 ((4 : Int32)) h).bind fun q106 =>
  if (tg q106.2 b4).1 = 2 then ((p_X3_tell b4 y3 y2 y1 y0 q106.1 q106.2).bind fun h107 =>
  if (tg h107 a0).1 = 1 then (if (tg h107 (rR h107 a0 1)).1 = 0 then ((p_X1_lastWord (rR h107 a0 1) x1 h107).bind fun q108 =>
  if (tg q108.2 a0).1 = 1 then (if (tg q108.2 (rR q108.2 a0 1)).1 = 0 then ((p_X1_frameTold (rR q108.2 a0 1) x1 q108.2).bind fun q109 =>
  if x4 = 0 then ((p_X7_has q108.1 ((18 : Int32)) q109.2).bind fun q110 =>
  if q110.1 = 0 then (p_X2_fill_190 a0 x1 x4 x6 q108.1 q109.1 q110.2)
  else
  p_X2_fill_150 a0 x1 x4 x6 q108.1 q109.1 q110.2)
  else
  p_X2_fill_150 a0 x1 x4 x6 q108.1 q109.1 q109.2) else none) else none) else none) else none) else none
set_option maxRecDepth 100000 in
theorem e_X2_fill_107 {l : Launch} {D : va_G} {dA : Nat → ClassId} {z : Nat} {sa : Nat → Nat} {Hz : Heap} (E : StrOK qLen qCh l D dA z sa Hz) {h0 fin : AH}  : ∀ (a0 : Nat) (x1 : Int32) (x3 : Int32) (x4 : Int32) (x6 : Int32) (y0 : Int32) (y1 : Int32) (y2 : Int32) (y3 : Int32) (b4 : Nat) (h : AH), p_X2_fill_107 a0 x1 x3 x4 x6 y0 y1 y2 y3 b4 h = some fin → GM l D dA z sa Hz q_X2_fill h0 none fin 107 [(0, .ref a0), (1, .int x1), (3, .int x3), (4, .int x4), (6, .int x6)] [.int y0, .int y1, .int y2, .int y3, .ref b4] h := by
  intro a0 x1 x3 x4 x6 y0 y1 y2 y3 b4 h hd
  exact step E (is := I_X2_fill_107) (pc := 107) (K := (kx 150 (fun la st h => gR la 0 fun a0 => gI la 1 fun x1 => gI la 4 fun x4 => gI la 6 fun x6 => gI la 7 fun x7 => gI la 8 fun x8 => sE st (p_X2_fill_150 a0 x1 x4 x6 x7 x8 h)) (kx 190 (fun la st h => gR la 0 fun a0 => gI la 1 fun x1 => gI la 4 fun x4 => gI la 6 fun x6 => gI la 7 fun x7 => gI la 8 fun x8 => sE st (p_X2_fill_190 a0 x1 x4 x6 x7 x8 h)) k0))) (FI := FI_X2_fill) (FV := FV_X2_fill) (FL := fL0) (rt := rtV) (ft := 150) (by exact hd) ok_X2_fill_107 (kx_ok (fun la st h e => by obtain ⟨a0, m_a0, e1⟩ := gR_inv e; obtain ⟨x1, m_x1, e2⟩ := gI_inv e1; obtain ⟨x4, m_x4, e3⟩ := gI_inv e2; obtain ⟨x6, m_x6, e4⟩ := gI_inv e3; obtain ⟨x7, m_x7, e5⟩ := gI_inv e4; obtain ⟨x8, m_x8, e6⟩ := gI_inv e5; obtain ⟨rfl, ez⟩ := sE_inv e6; exact gm_fewer (e_X2_fill_150 E  a0 x1 x4 x6 x7 x8 h ez) (mem_cons m_a0 (mem_cons m_x1 (mem_cons m_x4 (mem_cons m_x6 (mem_cons m_x7 (mem_cons m_x8 mem_nil))))))) (kx_ok (fun la st h e => by obtain ⟨a0, m_a0, e1⟩ := gR_inv e; obtain ⟨x1, m_x1, e2⟩ := gI_inv e1; obtain ⟨x4, m_x4, e3⟩ := gI_inv e2; obtain ⟨x6, m_x6, e4⟩ := gI_inv e3; obtain ⟨x7, m_x7, e5⟩ := gI_inv e4; obtain ⟨x8, m_x8, e6⟩ := gI_inv e5; obtain ⟨rfl, ez⟩ := sE_inv e6; exact gm_fewer (e_X2_fill_190 E  a0 x1 x4 x6 x7 x8 h ez) (mem_cons m_a0 (mem_cons m_x1 (mem_cons m_x4 (mem_cons m_x6 (mem_cons m_x7 (mem_cons m_x8 mem_nil))))))) k0_ok)) (FI_X2_fill_ok E) (FV_X2_fill_ok E) (fL0_ok E) (rtV_ok rfl)
def I_X2_fill_106 : List AI := [(.iconst 0, 1, [], 0)]
theorem ok_X2_fill_106 : vBL MT qLen qCh false q_X2_fill.2.2.2.2.1 q_X2_fill.2.2.2.2.2.1 q_X2_fill.2.2.1 q_X2_fill.1.cls q_X2_fill.1.name q_X2_fill.2.1 107 106 I_X2_fill_106 = true := by decide +kernel
def p_X2_fill_106 (a0 : Nat) (x1 : Int32) (x3 : Int32) (x4 : Int32) (x6 : Int32) (y0 : Int32) (y1 : Int32) (y2 : Int32) (b3 : Nat) (h : AH) : Option (AH) :=
  p_X2_fill_107 a0 x1 x3 x4 x6 ((0 : Int32)) y0 y1 y2 b3 h
set_option maxRecDepth 100000 in
theorem e_X2_fill_106 {l : Launch} {D : va_G} {dA : Nat → ClassId} {z : Nat} {sa : Nat → Nat} {Hz : Heap} (E : StrOK qLen qCh l D dA z sa Hz) {h0 fin : AH}  : ∀ (a0 : Nat) (x1 : Int32) (x3 : Int32) (x4 : Int32) (x6 : Int32) (y0 : Int32) (y1 : Int32) (y2 : Int32) (b3 : Nat) (h : AH), p_X2_fill_106 a0 x1 x3 x4 x6 y0 y1 y2 b3 h = some fin → GM l D dA z sa Hz q_X2_fill h0 none fin 106 [(0, .ref a0), (1, .int x1), (3, .int x3), (4, .int x4), (6, .int x6)] [.int y0, .int y1, .int y2, .ref b3] h := by
  intro a0 x1 x3 x4 x6 y0 y1 y2 b3 h hd
  exact step E (is := I_X2_fill_106) (pc := 106) (K := (kx 107 (fun la st h => gR la 0 fun a0 => gI la 1 fun x1 => gI la 3 fun x3 => gI la 4 fun x4 => gI la 6 fun x6 => sI st fun y0 st => sI st fun y1 st => sI st fun y2 st => sI st fun y3 st => sR st fun b4 st => sE st (p_X2_fill_107 a0 x1 x3 x4 x6 y0 y1 y2 y3 b4 h)) k0)) (FI := FI_X2_fill) (FV := FV_X2_fill) (FL := fL0) (rt := rtV) (ft := 107) (by exact hd) ok_X2_fill_106 (kx_ok (fun la st h e => by obtain ⟨a0, m_a0, e1⟩ := gR_inv e; obtain ⟨x1, m_x1, e2⟩ := gI_inv e1; obtain ⟨x3, m_x3, e3⟩ := gI_inv e2; obtain ⟨x4, m_x4, e4⟩ := gI_inv e3; obtain ⟨x6, m_x6, e5⟩ := gI_inv e4; obtain ⟨y0, _, rfl, e6⟩ := sI_inv e5; obtain ⟨y1, _, rfl, e7⟩ := sI_inv e6; obtain ⟨y2, _, rfl, e8⟩ := sI_inv e7; obtain ⟨y3, _, rfl, e9⟩ := sI_inv e8; obtain ⟨b4, _, rfl, e10⟩ := sR_inv e9; obtain ⟨rfl, ez⟩ := sE_inv e10; exact gm_fewer (e_X2_fill_107 E  a0 x1 x3 x4 x6 y0 y1 y2 y3 b4 h ez) (mem_cons m_a0 (mem_cons m_x1 (mem_cons m_x3 (mem_cons m_x4 (mem_cons m_x6 mem_nil)))))) k0_ok) (FI_X2_fill_ok E) (FV_X2_fill_ok E) (fL0_ok E) (rtV_ok rfl)
def I_X2_fill_102 : List AI := [(.iconst 1, 1, [], 1), (.goto 4, 3, [107], 0)]
theorem ok_X2_fill_102 : vBL MT qLen qCh false q_X2_fill.2.2.2.2.1 q_X2_fill.2.2.2.2.2.1 q_X2_fill.2.2.1 q_X2_fill.1.cls q_X2_fill.1.name q_X2_fill.2.1 0 102 I_X2_fill_102 = true := by decide +kernel
def p_X2_fill_102 (a0 : Nat) (x1 : Int32) (x3 : Int32) (x4 : Int32) (x6 : Int32) (y0 : Int32) (y1 : Int32) (y2 : Int32) (b3 : Nat) (h : AH) : Option (AH) :=
  p_X2_fill_107 a0 x1 x3 x4 x6 ((1 : Int32)) y0 y1 y2 b3 h
set_option maxRecDepth 100000 in
theorem e_X2_fill_102 {l : Launch} {D : va_G} {dA : Nat → ClassId} {z : Nat} {sa : Nat → Nat} {Hz : Heap} (E : StrOK qLen qCh l D dA z sa Hz) {h0 fin : AH}  : ∀ (a0 : Nat) (x1 : Int32) (x3 : Int32) (x4 : Int32) (x6 : Int32) (y0 : Int32) (y1 : Int32) (y2 : Int32) (b3 : Nat) (h : AH), p_X2_fill_102 a0 x1 x3 x4 x6 y0 y1 y2 b3 h = some fin → GM l D dA z sa Hz q_X2_fill h0 none fin 102 [(0, .ref a0), (1, .int x1), (3, .int x3), (4, .int x4), (6, .int x6)] [.int y0, .int y1, .int y2, .ref b3] h := by
  intro a0 x1 x3 x4 x6 y0 y1 y2 b3 h hd
  exact step E (is := I_X2_fill_102) (pc := 102) (K := (kx 107 (fun la st h => gR la 0 fun a0 => gI la 1 fun x1 => gI la 3 fun x3 => gI la 4 fun x4 => gI la 6 fun x6 => sI st fun y0 st => sI st fun y1 st => sI st fun y2 st => sI st fun y3 st => sR st fun b4 st => sE st (p_X2_fill_107 a0 x1 x3 x4 x6 y0 y1 y2 y3 b4 h)) k0)) (FI := FI_X2_fill) (FV := FV_X2_fill) (FL := fL0) (rt := rtV) (ft := 0) (by exact hd) ok_X2_fill_102 (kx_ok (fun la st h e => by obtain ⟨a0, m_a0, e1⟩ := gR_inv e; obtain ⟨x1, m_x1, e2⟩ := gI_inv e1; obtain ⟨x3, m_x3, e3⟩ := gI_inv e2; obtain ⟨x4, m_x4, e4⟩ := gI_inv e3; obtain ⟨x6, m_x6, e5⟩ := gI_inv e4; obtain ⟨y0, _, rfl, e6⟩ := sI_inv e5; obtain ⟨y1, _, rfl, e7⟩ := sI_inv e6; obtain ⟨y2, _, rfl, e8⟩ := sI_inv e7; obtain ⟨y3, _, rfl, e9⟩ := sI_inv e8; obtain ⟨b4, _, rfl, e10⟩ := sR_inv e9; obtain ⟨rfl, ez⟩ := sE_inv e10; exact gm_fewer (e_X2_fill_107 E  a0 x1 x3 x4 x6 y0 y1 y2 y3 b4 h ez) (mem_cons m_a0 (mem_cons m_x1 (mem_cons m_x3 (mem_cons m_x4 (mem_cons m_x6 mem_nil)))))) k0_ok) (FI_X2_fill_ok E) (FV_X2_fill_ok E) (fL0_ok E) (rtV_ok rfl)
def I_X2_fill_66 : List AI := [(.istore 6, 2, [], 0), (.aload_n 0, 1, [], 0), (.getfield 27, 3, [1, 2, 2, 322], 0), (.iload 5, 2, [], 0), (.iload_n 1, 1, [], 0), (.bipush 8, 2, [], 8), (.idiv, 1, [], 0), (.iload 6, 2, [], 0), (.iload_n 3, 1, [], 0), (.iconst 2, 1, [], 2), (.invokestatic 90, 3, [1, 60, 2, 960], 0), (.ifCond .eq 21, 3, [106], 0), (.iload 4, 2, [], 0), (.ifCond .eq 12, 3, [102], 0), (.iload_n 3, 1, [], 0), (.bipush 16, 2, [], 16), (.invokestatic 90, 3, [1, 60, 2, 960], 0), (.ifCond .eq 7, 3, [106], 0)]
theorem ok_X2_fill_66 : vBL MT qLen qCh false q_X2_fill.2.2.2.2.1 q_X2_fill.2.2.2.2.2.1 q_X2_fill.2.2.1 q_X2_fill.1.cls q_X2_fill.1.name q_X2_fill.2.1 102 66 I_X2_fill_66 = true := by decide +kernel
def p_X2_fill_66 (a0 : Nat) (x1 : Int32) (x3 : Int32) (x4 : Int32) (x5 : Int32) (y0 : Int32) (h : AH) : Option (AH) :=
  if (tg h a0).1 = 1 then (if ((8 : Int32)) = 0 then none else
  (p_X7_has x3 ((2 : Int32)) h).bind fun q111 =>
  if q111.1 = 0 then (p_X2_fill_106 a0 x1 x3 x4 y0 y0 (x1 / ((8 : Int32))) x5 (rR h a0 2) q111.2)
  else
  if x4 = 0 then (p_X2_fill_102 a0 x1 x3 x4 y0 y0 (x1 / ((8 : Int32))) x5 (rR h a0 2) q111.2)
  else
  (p_X7_has x3 ((16 : Int32)) q111.2).bind fun q112 =>
  if q112.1 = 0 then (p_X2_fill_106 a0 x1 x3 x4 y0 y0 (x1 / ((8 : Int32))) x5 (rR h a0 2) q112.2)
  else
  p_X2_fill_102 a0 x1 x3 x4 y0 y0 (x1 / ((8 : Int32))) x5 (rR h a0 2) q112.2) else none
set_option maxRecDepth 100000 in
theorem e_X2_fill_66 {l : Launch} {D : va_G} {dA : Nat → ClassId} {z : Nat} {sa : Nat → Nat} {Hz : Heap} (E : StrOK qLen qCh l D dA z sa Hz) {h0 fin : AH}  : ∀ (a0 : Nat) (x1 : Int32) (x3 : Int32) (x4 : Int32) (x5 : Int32) (y0 : Int32) (h : AH), p_X2_fill_66 a0 x1 x3 x4 x5 y0 h = some fin → GM l D dA z sa Hz q_X2_fill h0 none fin 66 [(0, .ref a0), (1, .int x1), (3, .int x3), (4, .int x4), (5, .int x5)] [.int y0] h := by
  intro a0 x1 x3 x4 x5 y0 h hd
  exact step E (is := I_X2_fill_66) (pc := 66) (K := (kx 106 (fun la st h => gR la 0 fun a0 => gI la 1 fun x1 => gI la 3 fun x3 => gI la 4 fun x4 => gI la 6 fun x6 => sI st fun y0 st => sI st fun y1 st => sI st fun y2 st => sR st fun b3 st => sE st (p_X2_fill_106 a0 x1 x3 x4 x6 y0 y1 y2 b3 h)) (kx 102 (fun la st h => gR la 0 fun a0 => gI la 1 fun x1 => gI la 3 fun x3 => gI la 4 fun x4 => gI la 6 fun x6 => sI st fun y0 st => sI st fun y1 st => sI st fun y2 st => sR st fun b3 st => sE st (p_X2_fill_102 a0 x1 x3 x4 x6 y0 y1 y2 b3 h)) k0))) (FI := FI_X2_fill) (FV := FV_X2_fill) (FL := fL0) (rt := rtV) (ft := 102) (by exact hd) ok_X2_fill_66 (kx_ok (fun la st h e => by obtain ⟨a0, m_a0, e1⟩ := gR_inv e; obtain ⟨x1, m_x1, e2⟩ := gI_inv e1; obtain ⟨x3, m_x3, e3⟩ := gI_inv e2; obtain ⟨x4, m_x4, e4⟩ := gI_inv e3; obtain ⟨x6, m_x6, e5⟩ := gI_inv e4; obtain ⟨y0, _, rfl, e6⟩ := sI_inv e5; obtain ⟨y1, _, rfl, e7⟩ := sI_inv e6; obtain ⟨y2, _, rfl, e8⟩ := sI_inv e7; obtain ⟨b3, _, rfl, e9⟩ := sR_inv e8; obtain ⟨rfl, ez⟩ := sE_inv e9; exact gm_fewer (e_X2_fill_106 E  a0 x1 x3 x4 x6 y0 y1 y2 b3 h ez) (mem_cons m_a0 (mem_cons m_x1 (mem_cons m_x3 (mem_cons m_x4 (mem_cons m_x6 mem_nil)))))) (kx_ok (fun la st h e => by obtain ⟨a0, m_a0, e1⟩ := gR_inv e; obtain ⟨x1, m_x1, e2⟩ := gI_inv e1; obtain ⟨x3, m_x3, e3⟩ := gI_inv e2; obtain ⟨x4, m_x4, e4⟩ := gI_inv e3; obtain ⟨x6, m_x6, e5⟩ := gI_inv e4; obtain ⟨y0, _, rfl, e6⟩ := sI_inv e5; obtain ⟨y1, _, rfl, e7⟩ := sI_inv e6; obtain ⟨y2, _, rfl, e8⟩ := sI_inv e7; obtain ⟨b3, _, rfl, e9⟩ := sR_inv e8; obtain ⟨rfl, ez⟩ := sE_inv e9; exact gm_fewer (e_X2_fill_102 E  a0 x1 x3 x4 x6 y0 y1 y2 b3 h ez) (mem_cons m_a0 (mem_cons m_x1 (mem_cons m_x3 (mem_cons m_x4 (mem_cons m_x6 mem_nil)))))) k0_ok)) (FI_X2_fill_ok E) (FV_X2_fill_ok E) (fL0_ok E) (rtV_ok rfl)
def I_X2_fill_57 : List AI := [(.aload_n 0, 1, [], 0), (.iconst 1, 1, [], 1), (.iload_n 3, 1, [], 0), (.invokestatic 100, 3, [1, 72, 1, 981], 0), (.invokevirtual 94, 3, [1, 129, 3, 1, 961], 0)]
theorem ok_X2_fill_57 : vBL MT qLen qCh false q_X2_fill.2.2.2.2.1 q_X2_fill.2.2.2.2.2.1 q_X2_fill.2.2.1 q_X2_fill.1.cls q_X2_fill.1.name q_X2_fill.2.1 66 57 I_X2_fill_57 = true := by decide +kernel
def p_X2_fill_57 (a0 : Nat) (x1 : Int32) (x3 : Int32) (x4 : Int32) (x5 : Int32) (h : AH) : Option (AH) :=
  (p_X7_frameIn x3 h).bind fun q113 =>
  if (tg q113.2 a0).1 = 1 then ((p_X2_tableOf a0 ((1 : Int32)) q113.1 q113.2).bind fun q114 =>
  p_X2_fill_66 a0 x1 x3 x4 x5 q114.1 q114.2) else none
set_option maxRecDepth 100000 in
theorem e_X2_fill_57 {l : Launch} {D : va_G} {dA : Nat → ClassId} {z : Nat} {sa : Nat → Nat} {Hz : Heap} (E : StrOK qLen qCh l D dA z sa Hz) {h0 fin : AH}  : ∀ (a0 : Nat) (x1 : Int32) (x3 : Int32) (x4 : Int32) (x5 : Int32) (h : AH), p_X2_fill_57 a0 x1 x3 x4 x5 h = some fin → GM l D dA z sa Hz q_X2_fill h0 none fin 57 [(0, .ref a0), (1, .int x1), (3, .int x3), (4, .int x4), (5, .int x5)] [] h := by
  intro a0 x1 x3 x4 x5 h hd
  exact step E (is := I_X2_fill_57) (pc := 57) (K := (kx 66 (fun la st h => gR la 0 fun a0 => gI la 1 fun x1 => gI la 3 fun x3 => gI la 4 fun x4 => gI la 5 fun x5 => sI st fun y0 st => sE st (p_X2_fill_66 a0 x1 x3 x4 x5 y0 h)) k0)) (FI := FI_X2_fill) (FV := FV_X2_fill) (FL := fL0) (rt := rtV) (ft := 66) (by exact hd) ok_X2_fill_57 (kx_ok (fun la st h e => by obtain ⟨a0, m_a0, e1⟩ := gR_inv e; obtain ⟨x1, m_x1, e2⟩ := gI_inv e1; obtain ⟨x3, m_x3, e3⟩ := gI_inv e2; obtain ⟨x4, m_x4, e4⟩ := gI_inv e3; obtain ⟨x5, m_x5, e5⟩ := gI_inv e4; obtain ⟨y0, _, rfl, e6⟩ := sI_inv e5; obtain ⟨rfl, ez⟩ := sE_inv e6; exact gm_fewer (e_X2_fill_66 E  a0 x1 x3 x4 x5 y0 h ez) (mem_cons m_a0 (mem_cons m_x1 (mem_cons m_x3 (mem_cons m_x4 (mem_cons m_x5 mem_nil)))))) k0_ok) (FI_X2_fill_ok E) (FV_X2_fill_ok E) (fL0_ok E) (rtV_ok rfl)
def I_X2_fill_0 : List AI := [(.aload_n 0, 1, [], 0), (.getfield 22, 3, [1, 1, 2, 320], 0), (.iload_n 1, 1, [], 0), (.iload_n 2, 1, [], 0), (.invokevirtual 84, 3, [2, 125, 3, 0, 950], 0), (.aload_n 0, 1, [], 0), (.getfield 22, 3, [1, 1, 2, 320], 0), (.iload_n 1, 1, [], 0), (.invokevirtual 87, 3, [1, 70, 2, 0, 959], 0), (.istore_n 3, 1, [], 0), (.iload_n 3, 1, [], 0), (.bipush 32, 2, [], 32), (.invokestatic 90, 3, [1, 60, 2, 960], 0), (.istore 4, 2, [], 0), (.aload_n 0, 1, [], 0), (.iconst 0, 1, [], 0), (.aload_n 0, 1, [], 0), (.getfield 22, 3, [1, 1, 2, 320], 0), (.getfield 62, 3, [0, 4, 0, 195], 0), (.invokevirtual 94, 3, [1, 129, 3, 1, 961], 0), (.istore 5, 2, [], 0), (.iload 4, 2, [], 0), (.ifCond .eq 15, 3, [57], 0), (.aload_n 0, 1, [], 0), (.iconst 2, 1, [], 2), (.iload_n 3, 1, [], 0), (.invokestatic 97, 3, [1, 74, 1, 980], 0), (.invokevirtual 94, 3, [1, 129, 3, 1, 961], 0), (.goto 12, 3, [66], 0)]
theorem ok_X2_fill_0 : vBL MT qLen qCh false q_X2_fill.2.2.2.2.1 q_X2_fill.2.2.2.2.2.1 q_X2_fill.2.2.1 q_X2_fill.1.cls q_X2_fill.1.name q_X2_fill.2.1 0 0 I_X2_fill_0 = true := by decide +kernel
def p_X2_fill (a0 : Nat) (x1 : Int32) (x2 : Int32) (h : AH) : Option (AH) :=
  if (tg h a0).1 = 1 then (if (tg h (rR h a0 1)).1 = 0 then ((p_X1_noteUse (rR h a0 1) x1 x2 h).bind fun h115 =>
  if (tg h115 a0).1 = 1 then (if (tg h115 (rR h115 a0 1)).1 = 0 then ((p_X1_upperWord (rR h115 a0 1) x1 h115).bind fun q116 =>
  (p_X7_has q116.1 ((32 : Int32)) q116.2).bind fun q117 =>
  if (tg q117.2 a0).1 = 1 then (if (tg q117.2 (rR q117.2 a0 1)).1 = 0 then (if (tg q117.2 a0).1 = 1 then ((p_X2_tableOf a0 ((0 : Int32)) (rI q117.2 (rR q117.2 a0 1) 4) q117.2).bind fun q118 =>
  if q117.1 = 0 then ((p_X7_frameIn q116.1 q118.2).bind fun q119 =>
  if (tg q119.2 a0).1 = 1 then ((p_X2_tableOf a0 ((1 : Int32)) q119.1 q119.2).bind fun q120 =>
  p_X2_fill_66 a0 x1 q116.1 q117.1 q118.1 q120.1 q120.2) else none)
  else
  (p_X1_firstOfLarge q116.1 q118.2).bind fun q121 =>
  if (tg q121.2 a0).1 = 1 then ((p_X2_tableOf a0 ((2 : Int32)) q121.1 q121.2).bind fun q122 =>
  p_X2_fill_66 a0 x1 q116.1 q117.1 q118.1 q122.1 q122.2) else none) else none) else none) else none) else none) else none) else none) else none
set_option maxRecDepth 100000 in
theorem e_X2_fill_0 {l : Launch} {D : va_G} {dA : Nat → ClassId} {z : Nat} {sa : Nat → Nat} {Hz : Heap} (E : StrOK qLen qCh l D dA z sa Hz) {h0 fin : AH}  : ∀ (a0 : Nat) (x1 : Int32) (x2 : Int32) (h : AH), p_X2_fill a0 x1 x2 h = some fin → GM l D dA z sa Hz q_X2_fill h0 none fin 0 [(0, .ref a0), (1, .int x1), (2, .int x2)] [] h := by
  intro a0 x1 x2 h hd
  exact step E (is := I_X2_fill_0) (pc := 0) (K := (kx 57 (fun la st h => gR la 0 fun a0 => gI la 1 fun x1 => gI la 3 fun x3 => gI la 4 fun x4 => gI la 5 fun x5 => sE st (p_X2_fill_57 a0 x1 x3 x4 x5 h)) (kx 66 (fun la st h => gR la 0 fun a0 => gI la 1 fun x1 => gI la 3 fun x3 => gI la 4 fun x4 => gI la 5 fun x5 => sI st fun y0 st => sE st (p_X2_fill_66 a0 x1 x3 x4 x5 y0 h)) k0))) (FI := FI_X2_fill) (FV := FV_X2_fill) (FL := fL0) (rt := rtV) (ft := 0) (by exact hd) ok_X2_fill_0 (kx_ok (fun la st h e => by obtain ⟨a0, m_a0, e1⟩ := gR_inv e; obtain ⟨x1, m_x1, e2⟩ := gI_inv e1; obtain ⟨x3, m_x3, e3⟩ := gI_inv e2; obtain ⟨x4, m_x4, e4⟩ := gI_inv e3; obtain ⟨x5, m_x5, e5⟩ := gI_inv e4; obtain ⟨rfl, ez⟩ := sE_inv e5; exact gm_fewer (e_X2_fill_57 E  a0 x1 x3 x4 x5 h ez) (mem_cons m_a0 (mem_cons m_x1 (mem_cons m_x3 (mem_cons m_x4 (mem_cons m_x5 mem_nil)))))) (kx_ok (fun la st h e => by obtain ⟨a0, m_a0, e1⟩ := gR_inv e; obtain ⟨x1, m_x1, e2⟩ := gI_inv e1; obtain ⟨x3, m_x3, e3⟩ := gI_inv e2; obtain ⟨x4, m_x4, e4⟩ := gI_inv e3; obtain ⟨x5, m_x5, e5⟩ := gI_inv e4; obtain ⟨y0, _, rfl, e6⟩ := sI_inv e5; obtain ⟨rfl, ez⟩ := sE_inv e6; exact gm_fewer (e_X2_fill_66 E  a0 x1 x3 x4 x5 y0 h ez) (mem_cons m_a0 (mem_cons m_x1 (mem_cons m_x3 (mem_cons m_x4 (mem_cons m_x5 mem_nil)))))) k0_ok)) (FI_X2_fill_ok E) (FV_X2_fill_ok E) (fL0_ok E) (rtV_ok rfl)
theorem c_X2_fill {l : Launch} {D : va_G} {dA : Nat → ClassId} {z : Nat} {sa : Nat → Nat} {Hz : Heap} (E : StrOK qLen qCh l D dA z sa Hz) {a0 : Nat} {x1 : Int32} {x2 : Int32} {h fin : AH} (hd : p_X2_fill a0 x1 x2 h = some fin) : CalOK l D dA z sa Hz q_X2_fill [.ref a0, .int x1, .int x2] h none fin := calOf (by decide +kernel) (Nat.le_of_ble_eq_true rfl) (e_X2_fill_0 E a0 x1 x2 h hd)
def FI_X2_reach : Nat → List Value → AH → Option (Int32 × AH) := (cx 91 (fun As h => sR As fun a0 As => sI As fun x1 As => sI As fun x2 As => sE As (p_X2_hostByHardware a0 x1 x2 h)) (cx 76 (fun As h => sR As fun a0 As => sI As fun x1 As => sI As fun x2 As => sE As (p_X1_seek a0 x1 x2 h)) fI0))
theorem FI_X2_reach_ok {l : Launch} {D : va_G} {dA : Nat → ClassId} {z : Nat} {sa : Nat → Nat} {Hz : Heap} (E : StrOK qLen qCh l D dA z sa Hz) : ∀ mi As h x h', FI_X2_reach mi As h = some (x, h') → CalOK l D dA z sa Hz (MT mi) As h (some (.int x)) h' := (cxI_ok (fun As h x h2 e => by obtain ⟨_, _, rfl, e0⟩ := sR_inv e; obtain ⟨_, _, rfl, e1⟩ := sI_inv e0; obtain ⟨_, _, rfl, e2⟩ := sI_inv e1; obtain ⟨rfl, ez⟩ := sE_inv e2; exact c_X2_hostByHardware E ez) ((cxI_ok (fun As h x h2 e => by obtain ⟨_, _, rfl, e0⟩ := sR_inv e; obtain ⟨_, _, rfl, e1⟩ := sI_inv e0; obtain ⟨_, _, rfl, e2⟩ := sI_inv e1; obtain ⟨rfl, ez⟩ := sE_inv e2; exact c_X1_seek E ez) (fI0_ok E))))
def FV_X2_reach : Nat → List Value → AH → Option (AH) := (cx 133 (fun As h => sR As fun a0 As => sI As fun x1 As => sI As fun x2 As => sE As (p_X2_fill a0 x1 x2 h)) fV0)
theorem FV_X2_reach_ok {l : Launch} {D : va_G} {dA : Nat → ClassId} {z : Nat} {sa : Nat → Nat} {Hz : Heap} (E : StrOK qLen qCh l D dA z sa Hz) : ∀ mi As h h', FV_X2_reach mi As h = some h' → CalOK l D dA z sa Hz (MT mi) As h none h' := (cxV_ok (fun As h h2 e => by obtain ⟨_, _, rfl, e0⟩ := sR_inv e; obtain ⟨_, _, rfl, e1⟩ := sI_inv e0; obtain ⟨_, _, rfl, e2⟩ := sI_inv e1; obtain ⟨rfl, ez⟩ := sE_inv e2; exact c_X2_fill E ez) (fV0_ok E))
def I_X2_reach_62 : List AI := [(.aload_n 0, 1, [], 0), (.iload_n 1, 1, [], 0), (.iload_n 2, 1, [], 0), (.invokevirtual 80, 3, [2, 133, 3, 1, 946], 0), (.iload 4, 2, [], 0), (.ireturn, 1, [], 0)]
theorem ok_X2_reach_62 : vBL MT qLen qCh false q_X2_reach.2.2.2.2.1 q_X2_reach.2.2.2.2.2.1 q_X2_reach.2.2.1 q_X2_reach.1.cls q_X2_reach.1.name q_X2_reach.2.1 0 62 I_X2_reach_62 = true := by decide +kernel
def p_X2_reach_62 (a0 : Nat) (x1 : Int32) (x2 : Int32) (x4 : Int32) (h : AH) : Option (Int32 × AH) :=
  if (tg h a0).1 = 1 then ((p_X2_fill a0 x1 x2 h).bind fun h101 =>
  some (x4, h101)) else none
set_option maxRecDepth 100000 in
theorem e_X2_reach_62 {l : Launch} {D : va_G} {dA : Nat → ClassId} {z : Nat} {sa : Nat → Nat} {Hz : Heap} (E : StrOK qLen qCh l D dA z sa Hz) {h0 fin : AH} {x : Int32}  : ∀ (a0 : Nat) (x1 : Int32) (x2 : Int32) (x4 : Int32) (h : AH), p_X2_reach_62 a0 x1 x2 x4 h = some (x, fin) → GM l D dA z sa Hz q_X2_reach h0 (some (.int x)) fin 62 [(0, .ref a0), (1, .int x1), (2, .int x2), (4, .int x4)] [] h := by
  intro a0 x1 x2 x4 h hd
  exact step E (is := I_X2_reach_62) (pc := 62) (K := k0) (FI := FI_X2_reach) (FV := FV_X2_reach) (FL := fL0) (rt := rtI) (ft := 0) (by exact hd) ok_X2_reach_62 k0_ok (FI_X2_reach_ok E) (FV_X2_reach_ok E) (fL0_ok E) (rtI_ok rfl)
def I_X2_reach_23 : List AI := [(.aload_n 0, 1, [], 0), (.dup, 1, [], 0), (.getfield 50, 3, [1, 4, 0, 326], 0), (.iconst 1, 1, [], 1), (.iadd, 1, [], 0), (.putfield 50, 3, [1, 4, 0, 326], 0), (.aload_n 0, 1, [], 0), (.getfield 22, 3, [1, 1, 2, 320], 0), (.iload_n 1, 1, [], 0), (.iload_n 2, 1, [], 0), (.invokevirtual 77, 3, [1, 76, 3, 0, 818], 0), (.istore 4, 2, [], 0), (.iload 4, 2, [], 0), (.ifCond .ge 16, 3, [62], 0), (.aload_n 0, 1, [], 0), (.dup, 1, [], 0), (.getfield 53, 3, [1, 5, 0, 328], 0), (.iconst 1, 1, [], 1), (.iadd, 1, [], 0), (.putfield 53, 3, [1, 5, 0, 328], 0), (.iload 4, 2, [], 0), (.ireturn, 1, [], 0)]
theorem ok_X2_reach_23 : vBL MT qLen qCh false q_X2_reach.2.2.2.2.1 q_X2_reach.2.2.2.2.2.1 q_X2_reach.2.2.1 q_X2_reach.1.cls q_X2_reach.1.name q_X2_reach.2.1 0 23 I_X2_reach_23 = true := by decide +kernel
def p_X2_reach_23 (a0 : Nat) (x1 : Int32) (x2 : Int32) (h : AH) : Option (Int32 × AH) :=
  if (tg h a0).1 = 1 then (if (tg h a0).1 = 1 then (let h102 := wI h a0 4 ((rI h a0 4) + ((1 : Int32)))
  if (tg h102 a0).1 = 1 then (if (tg h102 (rR h102 a0 1)).1 = 0 then ((p_X1_seek (rR h102 a0 1) x1 x2 h102).bind fun q103 =>
  if q103.1 < 0 then (if (tg q103.2 a0).1 = 1 then (if (tg q103.2 a0).1 = 1 then (let h105 := wI q103.2 a0 5 ((rI q103.2 a0 5) + ((1 : Int32)))
  some (q103.1, h105)) else none) else none)
  else
  if (tg q103.2 a0).1 = 1 then ((p_X2_fill a0 x1 x2 q103.2).bind fun h104 =>
  some (q103.1, h104)) else none) else none) else none) else none) else none
set_option maxRecDepth 100000 in
theorem e_X2_reach_23 {l : Launch} {D : va_G} {dA : Nat → ClassId} {z : Nat} {sa : Nat → Nat} {Hz : Heap} (E : StrOK qLen qCh l D dA z sa Hz) {h0 fin : AH} {x : Int32}  : ∀ (a0 : Nat) (x1 : Int32) (x2 : Int32) (h : AH), p_X2_reach_23 a0 x1 x2 h = some (x, fin) → GM l D dA z sa Hz q_X2_reach h0 (some (.int x)) fin 23 [(0, .ref a0), (1, .int x1), (2, .int x2)] [] h := by
  intro a0 x1 x2 h hd
  exact step E (is := I_X2_reach_23) (pc := 23) (K := (kx 62 (fun la st h => gR la 0 fun a0 => gI la 1 fun x1 => gI la 2 fun x2 => gI la 4 fun x4 => sE st (p_X2_reach_62 a0 x1 x2 x4 h)) k0)) (FI := FI_X2_reach) (FV := FV_X2_reach) (FL := fL0) (rt := rtI) (ft := 0) (by exact hd) ok_X2_reach_23 (kx_ok (fun la st h e => by obtain ⟨a0, m_a0, e1⟩ := gR_inv e; obtain ⟨x1, m_x1, e2⟩ := gI_inv e1; obtain ⟨x2, m_x2, e3⟩ := gI_inv e2; obtain ⟨x4, m_x4, e4⟩ := gI_inv e3; obtain ⟨rfl, ez⟩ := sE_inv e4; exact gm_fewer (e_X2_reach_62 E  a0 x1 x2 x4 h ez) (mem_cons m_a0 (mem_cons m_x1 (mem_cons m_x2 (mem_cons m_x4 mem_nil))))) k0_ok) (FI_X2_reach_ok E) (FV_X2_reach_ok E) (fL0_ok E) (rtI_ok rfl)
def I_X2_reach_0 : List AI := [(.aload_n 0, 1, [], 0), (.iload_n 1, 1, [], 0), (.iload_n 2, 1, [], 0), (.invokevirtual 73, 3, [1, 91, 3, 1, 817], 0), (.istore_n 3, 1, [], 0), (.iload_n 3, 1, [], 0), (.ifCond .lt 15, 3, [23], 0), (.aload_n 0, 1, [], 0), (.dup, 1, [], 0), (.getfield 46, 3, [1, 3, 0, 324], 0), (.iconst 1, 1, [], 1), (.iadd, 1, [], 0), (.putfield 46, 3, [1, 3, 0, 324], 0), (.iload_n 3, 1, [], 0), (.ireturn, 1, [], 0)]
theorem ok_X2_reach_0 : vBL MT qLen qCh false q_X2_reach.2.2.2.2.1 q_X2_reach.2.2.2.2.2.1 q_X2_reach.2.2.1 q_X2_reach.1.cls q_X2_reach.1.name q_X2_reach.2.1 0 0 I_X2_reach_0 = true := by decide +kernel
def p_X2_reach (a0 : Nat) (x1 : Int32) (x2 : Int32) (h : AH) : Option (Int32 × AH) :=
  if (tg h a0).1 = 1 then ((p_X2_hostByHardware a0 x1 x2 h).bind fun q106 =>
  if q106.1 < 0 then (if (tg q106.2 a0).1 = 1 then (if (tg q106.2 a0).1 = 1 then (let h107 := wI q106.2 a0 4 ((rI q106.2 a0 4) + ((1 : Int32)))
  if (tg h107 a0).1 = 1 then (if (tg h107 (rR h107 a0 1)).1 = 0 then ((p_X1_seek (rR h107 a0 1) x1 x2 h107).bind fun q108 =>
  if q108.1 < 0 then (if (tg q108.2 a0).1 = 1 then (if (tg q108.2 a0).1 = 1 then (let h110 := wI q108.2 a0 5 ((rI q108.2 a0 5) + ((1 : Int32)))
  some (q108.1, h110)) else none) else none)
  else
  if (tg q108.2 a0).1 = 1 then ((p_X2_fill a0 x1 x2 q108.2).bind fun h109 =>
  some (q108.1, h109)) else none) else none) else none) else none) else none)
  else
  if (tg q106.2 a0).1 = 1 then (if (tg q106.2 a0).1 = 1 then (let h111 := wI q106.2 a0 3 ((rI q106.2 a0 3) + ((1 : Int32)))
  some (q106.1, h111)) else none) else none) else none
set_option maxRecDepth 100000 in
theorem e_X2_reach_0 {l : Launch} {D : va_G} {dA : Nat → ClassId} {z : Nat} {sa : Nat → Nat} {Hz : Heap} (E : StrOK qLen qCh l D dA z sa Hz) {h0 fin : AH} {x : Int32}  : ∀ (a0 : Nat) (x1 : Int32) (x2 : Int32) (h : AH), p_X2_reach a0 x1 x2 h = some (x, fin) → GM l D dA z sa Hz q_X2_reach h0 (some (.int x)) fin 0 [(0, .ref a0), (1, .int x1), (2, .int x2)] [] h := by
  intro a0 x1 x2 h hd
  exact step E (is := I_X2_reach_0) (pc := 0) (K := (kx 23 (fun la st h => gR la 0 fun a0 => gI la 1 fun x1 => gI la 2 fun x2 => sE st (p_X2_reach_23 a0 x1 x2 h)) k0)) (FI := FI_X2_reach) (FV := FV_X2_reach) (FL := fL0) (rt := rtI) (ft := 0) (by exact hd) ok_X2_reach_0 (kx_ok (fun la st h e => by obtain ⟨a0, m_a0, e1⟩ := gR_inv e; obtain ⟨x1, m_x1, e2⟩ := gI_inv e1; obtain ⟨x2, m_x2, e3⟩ := gI_inv e2; obtain ⟨rfl, ez⟩ := sE_inv e3; exact gm_fewer (e_X2_reach_23 E  a0 x1 x2 h ez) (mem_cons m_a0 (mem_cons m_x1 (mem_cons m_x2 mem_nil)))) k0_ok) (FI_X2_reach_ok E) (FV_X2_reach_ok E) (fL0_ok E) (rtI_ok rfl)
theorem c_X2_reach {l : Launch} {D : va_G} {dA : Nat → ClassId} {z : Nat} {sa : Nat → Nat} {Hz : Heap} (E : StrOK qLen qCh l D dA z sa Hz) {a0 : Nat} {x1 : Int32} {x2 : Int32} {h fin : AH} {x : Int32} (hd : p_X2_reach a0 x1 x2 h = some (x, fin)) : CalOK l D dA z sa Hz q_X2_reach [.ref a0, .int x1, .int x2] h (some (.int x)) fin := calOf (by decide +kernel) (Nat.le_of_ble_eq_true rfl) (e_X2_reach_0 E a0 x1 x2 h hd)
def FI_X7_runTold : Nat → List Value → AH → Option (Int32 × AH) := (cx 134 (fun As h => sR As fun a0 As => sI As fun x1 As => sI As fun x2 As => sE As (p_X2_reach a0 x1 x2 h)) fI0)
theorem FI_X7_runTold_ok {l : Launch} {D : va_G} {dA : Nat → ClassId} {z : Nat} {sa : Nat → Nat} {Hz : Heap} (E : StrOK qLen qCh l D dA z sa Hz) : ∀ mi As h x h', FI_X7_runTold mi As h = some (x, h') → CalOK l D dA z sa Hz (MT mi) As h (some (.int x)) h' := (cxI_ok (fun As h x h2 e => by obtain ⟨_, _, rfl, e0⟩ := sR_inv e; obtain ⟨_, _, rfl, e1⟩ := sI_inv e0; obtain ⟨_, _, rfl, e2⟩ := sI_inv e1; obtain ⟨rfl, ez⟩ := sE_inv e2; exact c_X2_reach E ez) (fI0_ok E))
def FV_X7_runTold : Nat → List Value → AH → Option (AH) := (cx 48 (fun As h => sR As fun a0 As => sR As fun a1 As => sI As fun x2 As => sE As (p_X2_startAnew a0 a1 x2 h)) fV0)
theorem FV_X7_runTold_ok {l : Launch} {D : va_G} {dA : Nat → ClassId} {z : Nat} {sa : Nat → Nat} {Hz : Heap} (E : StrOK qLen qCh l D dA z sa Hz) : ∀ mi As h h', FV_X7_runTold mi As h = some h' → CalOK l D dA z sa Hz (MT mi) As h none h' := (cxV_ok (fun As h h2 e => by obtain ⟨_, _, rfl, e0⟩ := sR_inv e; obtain ⟨_, _, rfl, e1⟩ := sR_inv e0; obtain ⟨_, _, rfl, e2⟩ := sI_inv e1; obtain ⟨rfl, ez⟩ := sE_inv e2; exact c_X2_startAnew E ez) (fV0_ok E))
def I_X7_runTold_70 : List AI := [(.return_, 1, [], 0)]
theorem ok_X7_runTold_70 : vBL MT qLen qCh false q_X7_runTold.2.2.2.2.1 q_X7_runTold.2.2.2.2.2.1 q_X7_runTold.2.2.1 q_X7_runTold.1.cls q_X7_runTold.1.name q_X7_runTold.2.1 0 70 I_X7_runTold_70 = true := by decide +kernel
def p_X7_runTold_70 (h : AH) : Option (AH) :=
  some h
set_option maxRecDepth 100000 in
theorem e_X7_runTold_70 {l : Launch} {D : va_G} {dA : Nat → ClassId} {z : Nat} {sa : Nat → Nat} {Hz : Heap} (E : StrOK qLen qCh l D dA z sa Hz) {h0 fin : AH}  : ∀  (h : AH), p_X7_runTold_70 h = some fin → GM l D dA z sa Hz q_X7_runTold h0 none fin 70 [] [] h := by
  intro h hd
  exact step E (is := I_X7_runTold_70) (pc := 70) (K := k0) (FI := FI_X7_runTold) (FV := FV_X7_runTold) (FL := fL0) (rt := rtV) (ft := 0) (by exact hd) ok_X7_runTold_70 k0_ok (FI_X7_runTold_ok E) (FV_X7_runTold_ok E) (fL0_ok E) (rtV_ok rfl)
def I_X7_runTold_17 : List AI := [(.iload_n 2, 1, [], 0), (.aload_n 0, 1, [], 0), (.getfield 19, 3, [6, 1, 2, 355], 0), (.getfield 345, 3, [5, 6, 0, 226], 0), (.if_icmp .ge 45, 3, [70], 0), (.iload_n 2, 1, [], 0), (.bipush 10, 2, [], 10), (.if_icmp .ge 39, 3, [70], 0), (.aload_n 0, 1, [], 0), (.getfield 33, 3, [6, 5, 2, 359], 0), (.aload_n 0, 1, [], 0), (.getfield 19, 3, [6, 1, 2, 355], 0), (.getfield 359, 3, [5, 5, 2, 223], 0), (.iload_n 2, 1, [], 0), (.iaload, 1, [], 0), (.iconst 4, 1, [], 4), (.idiv, 1, [], 0), (.aload_n 0, 1, [], 0), (.getfield 19, 3, [6, 1, 2, 355], 0), (.getfield 359, 3, [5, 5, 2, 223], 0), (.iload_n 2, 1, [], 0), (.iaload, 1, [], 0), (.iconst 4, 1, [], 4), (.irem, 1, [], 0), (.invokevirtual 214, 3, [1, 134, 3, 1, 942], 0), (.pop, 1, [], 0), (.iinc 2 1, 3, [], 1), (.goto (-50), 3, [17], 0)]
theorem ok_X7_runTold_17 : vBL MT qLen qCh false q_X7_runTold.2.2.2.2.1 q_X7_runTold.2.2.2.2.2.1 q_X7_runTold.2.2.1 q_X7_runTold.1.cls q_X7_runTold.1.name q_X7_runTold.2.1 0 17 I_X7_runTold_17 = true := by decide +kernel
def p_X7_runTold_17 : Nat → Nat → Int32 → AH → Option (AH)
  | 0, _, _, _ => none
  | n + 1, a0, x2, h => if (tg h a0).1 = 6 then (if (tg h (rR h a0 1)).1 = 5 then (if x2 < (rI h (rR h a0 1) 6) then (if x2 < ((10 : Int32)) then (if (tg h a0).1 = 6 then (if (tg h a0).1 = 6 then (if (tg h (rR h a0 1)).1 = 5 then (if inB h (rR h (rR h a0 1) 5) 100 x2 then (if ((4 : Int32)) = 0 then none else
    if (tg h a0).1 = 6 then (if (tg h (rR h a0 1)).1 = 5 then (if inB h (rR h (rR h a0 1) 5) 100 x2 then (if ((4 : Int32)) = 0 then none else
    if (tg h (rR h a0 5)).1 = 1 then ((p_X2_reach (rR h a0 5) ((rI h (rR h (rR h a0 1) 5) x2.toNatClampNeg) / ((4 : Int32))) (irm (rI h (rR h (rR h a0 1) 5) x2.toNatClampNeg) ((4 : Int32))) h).bind fun q101 =>
    p_X7_runTold_17 n a0 (x2 + (1 : Int32)) q101.2) else none) else none) else none) else none) else none) else none) else none) else none)
    else
    p_X7_runTold_70 h)
    else
    p_X7_runTold_70 h) else none) else none
set_option maxRecDepth 100000 in
theorem e_X7_runTold_17 {l : Launch} {D : va_G} {dA : Nat → ClassId} {z : Nat} {sa : Nat → Nat} {Hz : Heap} (E : StrOK qLen qCh l D dA z sa Hz) {h0 fin : AH}  : ∀ (n : Nat) (a0 : Nat) (x2 : Int32) (h : AH), p_X7_runTold_17 n a0 x2 h = some fin → GM l D dA z sa Hz q_X7_runTold h0 none fin 17 [(0, .ref a0), (2, .int x2)] [] h := by
  intro n
  induction n with
  | zero => intro a0 x2 h hd; exact nomatch hd
  | succ n ih =>
    intro a0 x2 h hd
    exact step E (is := I_X7_runTold_17) (pc := 17) (K := (kx 70 (fun la st h => sE st (p_X7_runTold_70 h)) (kx 17 (fun la st h => gR la 0 fun a0 => gI la 2 fun x2 => sE st (p_X7_runTold_17 n a0 x2 h)) k0))) (FI := FI_X7_runTold) (FV := FV_X7_runTold) (FL := fL0) (rt := rtV) (ft := 0) (by exact hd) ok_X7_runTold_17 (kx_ok (fun la st h e => by obtain ⟨rfl, ez⟩ := sE_inv e; exact gm_fewer (e_X7_runTold_70 E   h ez) mem_nil) (kx_ok (fun la st h e => by obtain ⟨a0, m_a0, e1⟩ := gR_inv e; obtain ⟨x2, m_x2, e2⟩ := gI_inv e1; obtain ⟨rfl, ez⟩ := sE_inv e2; exact gm_fewer (ih a0 x2 h ez) (mem_cons m_a0 (mem_cons m_x2 mem_nil))) k0_ok)) (FI_X7_runTold_ok E) (FV_X7_runTold_ok E) (fL0_ok E) (rtV_ok rfl)
def I_X7_runTold_0 : List AI := [(.aload_n 0, 1, [], 0), (.getfield 33, 3, [6, 5, 2, 359], 0), (.aload_n 0, 1, [], 0), (.getfield 19, 3, [6, 1, 2, 355], 0), (.getfield 258, 3, [5, 0, 2, 212], 0), (.iload_n 1, 1, [], 0), (.invokevirtual 354, 3, [2, 48, 3, 1, 610], 0), (.iconst 0, 1, [], 0), (.istore_n 2, 1, [], 0)]
theorem ok_X7_runTold_0 : vBL MT qLen qCh false q_X7_runTold.2.2.2.2.1 q_X7_runTold.2.2.2.2.2.1 q_X7_runTold.2.2.1 q_X7_runTold.1.cls q_X7_runTold.1.name q_X7_runTold.2.1 17 0 I_X7_runTold_0 = true := by decide +kernel
def p_X7_runTold (a0 : Nat) (x1 : Int32) (h : AH) : Option (AH) :=
  if (tg h a0).1 = 6 then (if (tg h a0).1 = 6 then (if (tg h (rR h a0 1)).1 = 5 then (if (tg h (rR h a0 5)).1 = 1 then ((p_X2_startAnew (rR h a0 5) (rR h (rR h a0 1) 0) x1 h).bind fun h102 =>
  p_X7_runTold_17 FU a0 ((0 : Int32)) h102) else none) else none) else none) else none
set_option maxRecDepth 100000 in
theorem e_X7_runTold_0 {l : Launch} {D : va_G} {dA : Nat → ClassId} {z : Nat} {sa : Nat → Nat} {Hz : Heap} (E : StrOK qLen qCh l D dA z sa Hz) {h0 fin : AH}  : ∀ (a0 : Nat) (x1 : Int32) (h : AH), p_X7_runTold a0 x1 h = some fin → GM l D dA z sa Hz q_X7_runTold h0 none fin 0 [(0, .ref a0), (1, .int x1)] [] h := by
  intro a0 x1 h hd
  exact step E (is := I_X7_runTold_0) (pc := 0) (K := (kx 17 (fun la st h => gR la 0 fun a0 => gI la 2 fun x2 => sE st (p_X7_runTold_17 FU a0 x2 h)) k0)) (FI := FI_X7_runTold) (FV := FV_X7_runTold) (FL := fL0) (rt := rtV) (ft := 17) (by exact hd) ok_X7_runTold_0 (kx_ok (fun la st h e => by obtain ⟨a0, m_a0, e1⟩ := gR_inv e; obtain ⟨x2, m_x2, e2⟩ := gI_inv e1; obtain ⟨rfl, ez⟩ := sE_inv e2; exact gm_fewer (e_X7_runTold_17 E  FU a0 x2 h ez) (mem_cons m_a0 (mem_cons m_x2 mem_nil))) k0_ok) (FI_X7_runTold_ok E) (FV_X7_runTold_ok E) (fL0_ok E) (rtV_ok rfl)
theorem c_X7_runTold {l : Launch} {D : va_G} {dA : Nat → ClassId} {z : Nat} {sa : Nat → Nat} {Hz : Heap} (E : StrOK qLen qCh l D dA z sa Hz) {a0 : Nat} {x1 : Int32} {h fin : AH} (hd : p_X7_runTold a0 x1 h = some fin) : CalOK l D dA z sa Hz q_X7_runTold [.ref a0, .int x1] h none fin := calOf (by decide +kernel) (Nat.le_of_ble_eq_true rfl) (e_X7_runTold_0 E a0 x1 h hd)
def FI_X7_runFaults : Nat → List Value → AH → Option (Int32 × AH) := (cx 123 (fun As h => sR As fun a0 As => sI As fun x1 As => sE As (p_X7_mayRun a0 x1 h)) (cx 50 (fun As h => sR As fun a0 As => sI As fun x1 As => sE As (p_X7_answer a0 x1 h)) fI0))
theorem FI_X7_runFaults_ok {l : Launch} {D : va_G} {dA : Nat → ClassId} {z : Nat} {sa : Nat → Nat} {Hz : Heap} (E : StrOK qLen qCh l D dA z sa Hz) : ∀ mi As h x h', FI_X7_runFaults mi As h = some (x, h') → CalOK l D dA z sa Hz (MT mi) As h (some (.int x)) h' := (cxI_ok (fun As h x h2 e => by obtain ⟨_, _, rfl, e0⟩ := sR_inv e; obtain ⟨_, _, rfl, e1⟩ := sI_inv e0; obtain ⟨rfl, ez⟩ := sE_inv e1; exact c_X7_mayRun E ez) ((cxI_ok (fun As h x h2 e => by obtain ⟨_, _, rfl, e0⟩ := sR_inv e; obtain ⟨_, _, rfl, e1⟩ := sI_inv e0; obtain ⟨rfl, ez⟩ := sE_inv e1; exact c_X7_answer E ez) (fI0_ok E))))
def FV_X7_runFaults : Nat → List Value → AH → Option (AH) := (cx 135 (fun As h => sR As fun a0 As => sI As fun x1 As => sE As (p_X7_runTold a0 x1 h)) fV0)
theorem FV_X7_runFaults_ok {l : Launch} {D : va_G} {dA : Nat → ClassId} {z : Nat} {sa : Nat → Nat} {Hz : Heap} (E : StrOK qLen qCh l D dA z sa Hz) : ∀ mi As h h', FV_X7_runFaults mi As h = some h' → CalOK l D dA z sa Hz (MT mi) As h none h' := (cxV_ok (fun As h h2 e => by obtain ⟨_, _, rfl, e0⟩ := sR_inv e; obtain ⟨_, _, rfl, e1⟩ := sI_inv e0; obtain ⟨rfl, ez⟩ := sE_inv e1; exact c_X7_runTold E ez) (fV0_ok E))
def I_X7_runFaults_10 : List AI := [(.aload_n 0, 1, [], 0), (.iload_n 1, 1, [], 0), (.invokevirtual 194, 3, [2, 135, 2, 6, 938], 0), (.aload_n 0, 1, [], 0), (.aload_n 0, 1, [], 0), (.getfield 33, 3, [6, 5, 2, 359], 0), (.getfield 197, 3, [1, 4, 0, 327], 0), (.invokevirtual 68, 3, [1, 50, 2, 6, 633], 0), (.ireturn, 1, [], 0)]
theorem ok_X7_runFaults_10 : vBL MT qLen qCh false q_X7_runFaults.2.2.2.2.1 q_X7_runFaults.2.2.2.2.2.1 q_X7_runFaults.2.2.1 q_X7_runFaults.1.cls q_X7_runFaults.1.name q_X7_runFaults.2.1 0 10 I_X7_runFaults_10 = true := by decide +kernel
def p_X7_runFaults_10 (a0 : Nat) (x1 : Int32) (h : AH) : Option (Int32 × AH) :=
  if (tg h a0).1 = 6 then ((p_X7_runTold a0 x1 h).bind fun h101 =>
  if (tg h101 a0).1 = 6 then (if (tg h101 (rR h101 a0 5)).1 = 1 then (if (tg h101 a0).1 = 6 then ((p_X7_answer a0 (rI h101 (rR h101 a0 5) 4) h101).bind fun q102 =>
  some (q102.1, q102.2)) else none) else none) else none) else none
set_option maxRecDepth 100000 in
theorem e_X7_runFaults_10 {l : Launch} {D : va_G} {dA : Nat → ClassId} {z : Nat} {sa : Nat → Nat} {Hz : Heap} (E : StrOK qLen qCh l D dA z sa Hz) {h0 fin : AH} {x : Int32}  : ∀ (a0 : Nat) (x1 : Int32) (h : AH), p_X7_runFaults_10 a0 x1 h = some (x, fin) → GM l D dA z sa Hz q_X7_runFaults h0 (some (.int x)) fin 10 [(0, .ref a0), (1, .int x1)] [] h := by
  intro a0 x1 h hd
  exact step E (is := I_X7_runFaults_10) (pc := 10) (K := k0) (FI := FI_X7_runFaults) (FV := FV_X7_runFaults) (FL := fL0) (rt := rtI) (ft := 0) (by exact hd) ok_X7_runFaults_10 k0_ok (FI_X7_runFaults_ok E) (FV_X7_runFaults_ok E) (fL0_ok E) (rtI_ok rfl)
def I_X7_runFaults_0 : List AI := [(.aload_n 0, 1, [], 0), (.iload_n 1, 1, [], 0), (.invokevirtual 191, 3, [1, 123, 2, 6, 926], 0), (.ifCond .ne 5, 3, [10], 0), (.iconst (-1), 1, [], (-1)), (.ireturn, 1, [], 0)]
theorem ok_X7_runFaults_0 : vBL MT qLen qCh false q_X7_runFaults.2.2.2.2.1 q_X7_runFaults.2.2.2.2.2.1 q_X7_runFaults.2.2.1 q_X7_runFaults.1.cls q_X7_runFaults.1.name q_X7_runFaults.2.1 0 0 I_X7_runFaults_0 = true := by decide +kernel
def p_X7_runFaults (a0 : Nat) (x1 : Int32) (h : AH) : Option (Int32 × AH) :=
  if (tg h a0).1 = 6 then ((p_X7_mayRun a0 x1 h).bind fun q103 =>
  if q103.1 = 0 then (some (((-1 : Int32)), q103.2))
  else
  if (tg q103.2 a0).1 = 6 then ((p_X7_runTold a0 x1 q103.2).bind fun h104 =>
  if (tg h104 a0).1 = 6 then (if (tg h104 (rR h104 a0 5)).1 = 1 then (if (tg h104 a0).1 = 6 then ((p_X7_answer a0 (rI h104 (rR h104 a0 5) 4) h104).bind fun q105 =>
  some (q105.1, q105.2)) else none) else none) else none) else none) else none
set_option maxRecDepth 100000 in
theorem e_X7_runFaults_0 {l : Launch} {D : va_G} {dA : Nat → ClassId} {z : Nat} {sa : Nat → Nat} {Hz : Heap} (E : StrOK qLen qCh l D dA z sa Hz) {h0 fin : AH} {x : Int32}  : ∀ (a0 : Nat) (x1 : Int32) (h : AH), p_X7_runFaults a0 x1 h = some (x, fin) → GM l D dA z sa Hz q_X7_runFaults h0 (some (.int x)) fin 0 [(0, .ref a0), (1, .int x1)] [] h := by
  intro a0 x1 h hd
  exact step E (is := I_X7_runFaults_0) (pc := 0) (K := (kx 10 (fun la st h => gR la 0 fun a0 => gI la 1 fun x1 => sE st (p_X7_runFaults_10 a0 x1 h)) k0)) (FI := FI_X7_runFaults) (FV := FV_X7_runFaults) (FL := fL0) (rt := rtI) (ft := 0) (by exact hd) ok_X7_runFaults_0 (kx_ok (fun la st h e => by obtain ⟨a0, m_a0, e1⟩ := gR_inv e; obtain ⟨x1, m_x1, e2⟩ := gI_inv e1; obtain ⟨rfl, ez⟩ := sE_inv e2; exact gm_fewer (e_X7_runFaults_10 E  a0 x1 h ez) (mem_cons m_a0 (mem_cons m_x1 mem_nil))) k0_ok) (FI_X7_runFaults_ok E) (FV_X7_runFaults_ok E) (fL0_ok E) (rtI_ok rfl)
theorem c_X7_runFaults {l : Launch} {D : va_G} {dA : Nat → ClassId} {z : Nat} {sa : Nat → Nat} {Hz : Heap} (E : StrOK qLen qCh l D dA z sa Hz) {a0 : Nat} {x1 : Int32} {h fin : AH} {x : Int32} (hd : p_X7_runFaults a0 x1 h = some (x, fin)) : CalOK l D dA z sa Hz q_X7_runFaults [.ref a0, .int x1] h (some (.int x)) fin := calOf (by decide +kernel) (Nat.le_of_ble_eq_true rfl) (e_X7_runFaults_0 E a0 x1 h hd)
def FI_X7_runRefused : Nat → List Value → AH → Option (Int32 × AH) := (cx 123 (fun As h => sR As fun a0 As => sI As fun x1 As => sE As (p_X7_mayRun a0 x1 h)) (cx 50 (fun As h => sR As fun a0 As => sI As fun x1 As => sE As (p_X7_answer a0 x1 h)) fI0))
theorem FI_X7_runRefused_ok {l : Launch} {D : va_G} {dA : Nat → ClassId} {z : Nat} {sa : Nat → Nat} {Hz : Heap} (E : StrOK qLen qCh l D dA z sa Hz) : ∀ mi As h x h', FI_X7_runRefused mi As h = some (x, h') → CalOK l D dA z sa Hz (MT mi) As h (some (.int x)) h' := (cxI_ok (fun As h x h2 e => by obtain ⟨_, _, rfl, e0⟩ := sR_inv e; obtain ⟨_, _, rfl, e1⟩ := sI_inv e0; obtain ⟨rfl, ez⟩ := sE_inv e1; exact c_X7_mayRun E ez) ((cxI_ok (fun As h x h2 e => by obtain ⟨_, _, rfl, e0⟩ := sR_inv e; obtain ⟨_, _, rfl, e1⟩ := sI_inv e0; obtain ⟨rfl, ez⟩ := sE_inv e1; exact c_X7_answer E ez) (fI0_ok E))))
def FV_X7_runRefused : Nat → List Value → AH → Option (AH) := (cx 135 (fun As h => sR As fun a0 As => sI As fun x1 As => sE As (p_X7_runTold a0 x1 h)) fV0)
theorem FV_X7_runRefused_ok {l : Launch} {D : va_G} {dA : Nat → ClassId} {z : Nat} {sa : Nat → Nat} {Hz : Heap} (E : StrOK qLen qCh l D dA z sa Hz) : ∀ mi As h h', FV_X7_runRefused mi As h = some h' → CalOK l D dA z sa Hz (MT mi) As h none h' := (cxV_ok (fun As h h2 e => by obtain ⟨_, _, rfl, e0⟩ := sR_inv e; obtain ⟨_, _, rfl, e1⟩ := sI_inv e0; obtain ⟨rfl, ez⟩ := sE_inv e1; exact c_X7_runTold E ez) (fV0_ok E))
def I_X7_runRefused_10 : List AI := [(.aload_n 0, 1, [], 0), (.iload_n 1, 1, [], 0), (.invokevirtual 194, 3, [2, 135, 2, 6, 938], 0), (.aload_n 0, 1, [], 0), (.aload_n 0, 1, [], 0), (.getfield 33, 3, [6, 5, 2, 359], 0), (.getfield 200, 3, [1, 5, 0, 329], 0), (.invokevirtual 68, 3, [1, 50, 2, 6, 633], 0), (.ireturn, 1, [], 0)]
theorem ok_X7_runRefused_10 : vBL MT qLen qCh false q_X7_runRefused.2.2.2.2.1 q_X7_runRefused.2.2.2.2.2.1 q_X7_runRefused.2.2.1 q_X7_runRefused.1.cls q_X7_runRefused.1.name q_X7_runRefused.2.1 0 10 I_X7_runRefused_10 = true := by decide +kernel
def p_X7_runRefused_10 (a0 : Nat) (x1 : Int32) (h : AH) : Option (Int32 × AH) :=
  if (tg h a0).1 = 6 then ((p_X7_runTold a0 x1 h).bind fun h101 =>
  if (tg h101 a0).1 = 6 then (if (tg h101 (rR h101 a0 5)).1 = 1 then (if (tg h101 a0).1 = 6 then ((p_X7_answer a0 (rI h101 (rR h101 a0 5) 5) h101).bind fun q102 =>
  some (q102.1, q102.2)) else none) else none) else none) else none
set_option maxRecDepth 100000 in
theorem e_X7_runRefused_10 {l : Launch} {D : va_G} {dA : Nat → ClassId} {z : Nat} {sa : Nat → Nat} {Hz : Heap} (E : StrOK qLen qCh l D dA z sa Hz) {h0 fin : AH} {x : Int32}  : ∀ (a0 : Nat) (x1 : Int32) (h : AH), p_X7_runRefused_10 a0 x1 h = some (x, fin) → GM l D dA z sa Hz q_X7_runRefused h0 (some (.int x)) fin 10 [(0, .ref a0), (1, .int x1)] [] h := by
  intro a0 x1 h hd
  exact step E (is := I_X7_runRefused_10) (pc := 10) (K := k0) (FI := FI_X7_runRefused) (FV := FV_X7_runRefused) (FL := fL0) (rt := rtI) (ft := 0) (by exact hd) ok_X7_runRefused_10 k0_ok (FI_X7_runRefused_ok E) (FV_X7_runRefused_ok E) (fL0_ok E) (rtI_ok rfl)
def I_X7_runRefused_0 : List AI := [(.aload_n 0, 1, [], 0), (.iload_n 1, 1, [], 0), (.invokevirtual 191, 3, [1, 123, 2, 6, 926], 0), (.ifCond .ne 5, 3, [10], 0), (.iconst (-1), 1, [], (-1)), (.ireturn, 1, [], 0)]
theorem ok_X7_runRefused_0 : vBL MT qLen qCh false q_X7_runRefused.2.2.2.2.1 q_X7_runRefused.2.2.2.2.2.1 q_X7_runRefused.2.2.1 q_X7_runRefused.1.cls q_X7_runRefused.1.name q_X7_runRefused.2.1 0 0 I_X7_runRefused_0 = true := by decide +kernel
def p_X7_runRefused (a0 : Nat) (x1 : Int32) (h : AH) : Option (Int32 × AH) :=
  if (tg h a0).1 = 6 then ((p_X7_mayRun a0 x1 h).bind fun q103 =>
  if q103.1 = 0 then (some (((-1 : Int32)), q103.2))
  else
  if (tg q103.2 a0).1 = 6 then ((p_X7_runTold a0 x1 q103.2).bind fun h104 =>
  if (tg h104 a0).1 = 6 then (if (tg h104 (rR h104 a0 5)).1 = 1 then (if (tg h104 a0).1 = 6 then ((p_X7_answer a0 (rI h104 (rR h104 a0 5) 5) h104).bind fun q105 =>
  some (q105.1, q105.2)) else none) else none) else none) else none) else none
set_option maxRecDepth 100000 in
theorem e_X7_runRefused_0 {l : Launch} {D : va_G} {dA : Nat → ClassId} {z : Nat} {sa : Nat → Nat} {Hz : Heap} (E : StrOK qLen qCh l D dA z sa Hz) {h0 fin : AH} {x : Int32}  : ∀ (a0 : Nat) (x1 : Int32) (h : AH), p_X7_runRefused a0 x1 h = some (x, fin) → GM l D dA z sa Hz q_X7_runRefused h0 (some (.int x)) fin 0 [(0, .ref a0), (1, .int x1)] [] h := by
  intro a0 x1 h hd
  exact step E (is := I_X7_runRefused_0) (pc := 0) (K := (kx 10 (fun la st h => gR la 0 fun a0 => gI la 1 fun x1 => sE st (p_X7_runRefused_10 a0 x1 h)) k0)) (FI := FI_X7_runRefused) (FV := FV_X7_runRefused) (FL := fL0) (rt := rtI) (ft := 0) (by exact hd) ok_X7_runRefused_0 (kx_ok (fun la st h e => by obtain ⟨a0, m_a0, e1⟩ := gR_inv e; obtain ⟨x1, m_x1, e2⟩ := gI_inv e1; obtain ⟨rfl, ez⟩ := sE_inv e2; exact gm_fewer (e_X7_runRefused_10 E  a0 x1 h ez) (mem_cons m_a0 (mem_cons m_x1 mem_nil))) k0_ok) (FI_X7_runRefused_ok E) (FV_X7_runRefused_ok E) (fL0_ok E) (rtI_ok rfl)
theorem c_X7_runRefused {l : Launch} {D : va_G} {dA : Nat → ClassId} {z : Nat} {sa : Nat → Nat} {Hz : Heap} (E : StrOK qLen qCh l D dA z sa Hz) {a0 : Nat} {x1 : Int32} {h fin : AH} {x : Int32} (hd : p_X7_runRefused a0 x1 h = some (x, fin)) : CalOK l D dA z sa Hz q_X7_runRefused [.ref a0, .int x1] h (some (.int x)) fin := calOf (by decide +kernel) (Nat.le_of_ble_eq_true rfl) (e_X7_runRefused_0 E a0 x1 h hd)
def FI_X7_runDrops : Nat → List Value → AH → Option (Int32 × AH) := (cx 123 (fun As h => sR As fun a0 As => sI As fun x1 As => sE As (p_X7_mayRun a0 x1 h)) (cx 50 (fun As h => sR As fun a0 As => sI As fun x1 As => sE As (p_X7_answer a0 x1 h)) fI0))
theorem FI_X7_runDrops_ok {l : Launch} {D : va_G} {dA : Nat → ClassId} {z : Nat} {sa : Nat → Nat} {Hz : Heap} (E : StrOK qLen qCh l D dA z sa Hz) : ∀ mi As h x h', FI_X7_runDrops mi As h = some (x, h') → CalOK l D dA z sa Hz (MT mi) As h (some (.int x)) h' := (cxI_ok (fun As h x h2 e => by obtain ⟨_, _, rfl, e0⟩ := sR_inv e; obtain ⟨_, _, rfl, e1⟩ := sI_inv e0; obtain ⟨rfl, ez⟩ := sE_inv e1; exact c_X7_mayRun E ez) ((cxI_ok (fun As h x h2 e => by obtain ⟨_, _, rfl, e0⟩ := sR_inv e; obtain ⟨_, _, rfl, e1⟩ := sI_inv e0; obtain ⟨rfl, ez⟩ := sE_inv e1; exact c_X7_answer E ez) (fI0_ok E))))
def FV_X7_runDrops : Nat → List Value → AH → Option (AH) := (cx 135 (fun As h => sR As fun a0 As => sI As fun x1 As => sE As (p_X7_runTold a0 x1 h)) fV0)
theorem FV_X7_runDrops_ok {l : Launch} {D : va_G} {dA : Nat → ClassId} {z : Nat} {sa : Nat → Nat} {Hz : Heap} (E : StrOK qLen qCh l D dA z sa Hz) : ∀ mi As h h', FV_X7_runDrops mi As h = some h' → CalOK l D dA z sa Hz (MT mi) As h none h' := (cxV_ok (fun As h h2 e => by obtain ⟨_, _, rfl, e0⟩ := sR_inv e; obtain ⟨_, _, rfl, e1⟩ := sI_inv e0; obtain ⟨rfl, ez⟩ := sE_inv e1; exact c_X7_runTold E ez) (fV0_ok E))
def I_X7_runDrops_10 : List AI := [(.aload_n 0, 1, [], 0), (.iload_n 1, 1, [], 0), (.invokevirtual 194, 3, [2, 135, 2, 6, 938], 0), (.aload_n 0, 1, [], 0), (.aload_n 0, 1, [], 0), (.getfield 33, 3, [6, 5, 2, 359], 0), (.getfield 203, 3, [1, 7, 0, 333], 0), (.invokevirtual 68, 3, [1, 50, 2, 6, 633], 0), (.ireturn, 1, [], 0)]
theorem ok_X7_runDrops_10 : vBL MT qLen qCh false q_X7_runDrops.2.2.2.2.1 q_X7_runDrops.2.2.2.2.2.1 q_X7_runDrops.2.2.1 q_X7_runDrops.1.cls q_X7_runDrops.1.name q_X7_runDrops.2.1 0 10 I_X7_runDrops_10 = true := by decide +kernel
def p_X7_runDrops_10 (a0 : Nat) (x1 : Int32) (h : AH) : Option (Int32 × AH) :=
  if (tg h a0).1 = 6 then ((p_X7_runTold a0 x1 h).bind fun h101 =>
  if (tg h101 a0).1 = 6 then (if (tg h101 (rR h101 a0 5)).1 = 1 then (if (tg h101 a0).1 = 6 then ((p_X7_answer a0 (rI h101 (rR h101 a0 5) 7) h101).bind fun q102 =>
  some (q102.1, q102.2)) else none) else none) else none) else none
set_option maxRecDepth 100000 in
theorem e_X7_runDrops_10 {l : Launch} {D : va_G} {dA : Nat → ClassId} {z : Nat} {sa : Nat → Nat} {Hz : Heap} (E : StrOK qLen qCh l D dA z sa Hz) {h0 fin : AH} {x : Int32}  : ∀ (a0 : Nat) (x1 : Int32) (h : AH), p_X7_runDrops_10 a0 x1 h = some (x, fin) → GM l D dA z sa Hz q_X7_runDrops h0 (some (.int x)) fin 10 [(0, .ref a0), (1, .int x1)] [] h := by
  intro a0 x1 h hd
  exact step E (is := I_X7_runDrops_10) (pc := 10) (K := k0) (FI := FI_X7_runDrops) (FV := FV_X7_runDrops) (FL := fL0) (rt := rtI) (ft := 0) (by exact hd) ok_X7_runDrops_10 k0_ok (FI_X7_runDrops_ok E) (FV_X7_runDrops_ok E) (fL0_ok E) (rtI_ok rfl)
def I_X7_runDrops_0 : List AI := [(.aload_n 0, 1, [], 0), (.iload_n 1, 1, [], 0), (.invokevirtual 191, 3, [1, 123, 2, 6, 926], 0), (.ifCond .ne 5, 3, [10], 0), (.iconst (-1), 1, [], (-1)), (.ireturn, 1, [], 0)]
theorem ok_X7_runDrops_0 : vBL MT qLen qCh false q_X7_runDrops.2.2.2.2.1 q_X7_runDrops.2.2.2.2.2.1 q_X7_runDrops.2.2.1 q_X7_runDrops.1.cls q_X7_runDrops.1.name q_X7_runDrops.2.1 0 0 I_X7_runDrops_0 = true := by decide +kernel
def p_X7_runDrops (a0 : Nat) (x1 : Int32) (h : AH) : Option (Int32 × AH) :=
  if (tg h a0).1 = 6 then ((p_X7_mayRun a0 x1 h).bind fun q103 =>
  if q103.1 = 0 then (some (((-1 : Int32)), q103.2))
  else
  if (tg q103.2 a0).1 = 6 then ((p_X7_runTold a0 x1 q103.2).bind fun h104 =>
  if (tg h104 a0).1 = 6 then (if (tg h104 (rR h104 a0 5)).1 = 1 then (if (tg h104 a0).1 = 6 then ((p_X7_answer a0 (rI h104 (rR h104 a0 5) 7) h104).bind fun q105 =>
  some (q105.1, q105.2)) else none) else none) else none) else none) else none
set_option maxRecDepth 100000 in
theorem e_X7_runDrops_0 {l : Launch} {D : va_G} {dA : Nat → ClassId} {z : Nat} {sa : Nat → Nat} {Hz : Heap} (E : StrOK qLen qCh l D dA z sa Hz) {h0 fin : AH} {x : Int32}  : ∀ (a0 : Nat) (x1 : Int32) (h : AH), p_X7_runDrops a0 x1 h = some (x, fin) → GM l D dA z sa Hz q_X7_runDrops h0 (some (.int x)) fin 0 [(0, .ref a0), (1, .int x1)] [] h := by
  intro a0 x1 h hd
  exact step E (is := I_X7_runDrops_0) (pc := 0) (K := (kx 10 (fun la st h => gR la 0 fun a0 => gI la 1 fun x1 => sE st (p_X7_runDrops_10 a0 x1 h)) k0)) (FI := FI_X7_runDrops) (FV := FV_X7_runDrops) (FL := fL0) (rt := rtI) (ft := 0) (by exact hd) ok_X7_runDrops_0 (kx_ok (fun la st h e => by obtain ⟨a0, m_a0, e1⟩ := gR_inv e; obtain ⟨x1, m_x1, e2⟩ := gI_inv e1; obtain ⟨rfl, ez⟩ := sE_inv e2; exact gm_fewer (e_X7_runDrops_10 E  a0 x1 h ez) (mem_cons m_a0 (mem_cons m_x1 mem_nil))) k0_ok) (FI_X7_runDrops_ok E) (FV_X7_runDrops_ok E) (fL0_ok E) (rtI_ok rfl)
theorem c_X7_runDrops {l : Launch} {D : va_G} {dA : Nat → ClassId} {z : Nat} {sa : Nat → Nat} {Hz : Heap} (E : StrOK qLen qCh l D dA z sa Hz) {a0 : Nat} {x1 : Int32} {h fin : AH} {x : Int32} (hd : p_X7_runDrops a0 x1 h = some (x, fin)) : CalOK l D dA z sa Hz q_X7_runDrops [.ref a0, .int x1] h (some (.int x)) fin := calOf (by decide +kernel) (Nat.le_of_ble_eq_true rfl) (e_X7_runDrops_0 E a0 x1 h hd)
def FI_X7_poolFor : Nat → List Value → AH → Option (Int32 × AH) := (cx 9 (fun As h => sR As fun a0 As => sI As fun x1 As => sE As (p_X7_refuse a0 x1 h)) (cx 50 (fun As h => sR As fun a0 As => sI As fun x1 As => sE As (p_X7_answer a0 x1 h)) fI0))
theorem FI_X7_poolFor_ok {l : Launch} {D : va_G} {dA : Nat → ClassId} {z : Nat} {sa : Nat → Nat} {Hz : Heap} (E : StrOK qLen qCh l D dA z sa Hz) : ∀ mi As h x h', FI_X7_poolFor mi As h = some (x, h') → CalOK l D dA z sa Hz (MT mi) As h (some (.int x)) h' := (cxI_ok (fun As h x h2 e => by obtain ⟨_, _, rfl, e0⟩ := sR_inv e; obtain ⟨_, _, rfl, e1⟩ := sI_inv e0; obtain ⟨rfl, ez⟩ := sE_inv e1; exact c_X7_refuse E ez) ((cxI_ok (fun As h x h2 e => by obtain ⟨_, _, rfl, e0⟩ := sR_inv e; obtain ⟨_, _, rfl, e1⟩ := sI_inv e0; obtain ⟨rfl, ez⟩ := sE_inv e1; exact c_X7_answer E ez) (fI0_ok E))))
def FV_X7_poolFor : Nat → List Value → AH → Option (AH) := (cx 135 (fun As h => sR As fun a0 As => sI As fun x1 As => sE As (p_X7_runTold a0 x1 h)) fV0)
theorem FV_X7_poolFor_ok {l : Launch} {D : va_G} {dA : Nat → ClassId} {z : Nat} {sa : Nat → Nat} {Hz : Heap} (E : StrOK qLen qCh l D dA z sa Hz) : ∀ mi As h h', FV_X7_poolFor mi As h = some h' → CalOK l D dA z sa Hz (MT mi) As h none h' := (cxV_ok (fun As h h2 e => by obtain ⟨_, _, rfl, e0⟩ := sR_inv e; obtain ⟨_, _, rfl, e1⟩ := sI_inv e0; obtain ⟨rfl, ez⟩ := sE_inv e1; exact c_X7_runTold E ez) (fV0_ok E))
def I_X7_poolFor_23 : List AI := [(.aload_n 0, 1, [], 0), (.iconst 2, 1, [], 2), (.invokevirtual 54, 3, [1, 9, 2, 6, 403], 0), (.ireturn, 1, [], 0)]
theorem ok_X7_poolFor_23 : vBL MT qLen qCh false q_X7_poolFor.2.2.2.2.1 q_X7_poolFor.2.2.2.2.2.1 q_X7_poolFor.2.2.1 q_X7_poolFor.1.cls q_X7_poolFor.1.name q_X7_poolFor.2.1 0 23 I_X7_poolFor_23 = true := by decide +kernel
def p_X7_poolFor_23 (a0 : Nat) (h : AH) : Option (Int32 × AH) :=
  if (tg h a0).1 = 6 then ((p_X7_refuse a0 ((2 : Int32)) h).bind fun q101 =>
  some (q101.1, q101.2)) else none
set_option maxRecDepth 100000 in
theorem e_X7_poolFor_23 {l : Launch} {D : va_G} {dA : Nat → ClassId} {z : Nat} {sa : Nat → Nat} {Hz : Heap} (E : StrOK qLen qCh l D dA z sa Hz) {h0 fin : AH} {x : Int32}  : ∀ (a0 : Nat) (h : AH), p_X7_poolFor_23 a0 h = some (x, fin) → GM l D dA z sa Hz q_X7_poolFor h0 (some (.int x)) fin 23 [(0, .ref a0)] [] h := by
  intro a0 h hd
  exact step E (is := I_X7_poolFor_23) (pc := 23) (K := k0) (FI := FI_X7_poolFor) (FV := FV_X7_poolFor) (FL := fL0) (rt := rtI) (ft := 0) (by exact hd) ok_X7_poolFor_23 k0_ok (FI_X7_poolFor_ok E) (FV_X7_poolFor_ok E) (fL0_ok E) (rtI_ok rfl)
def I_X7_poolFor_65 : List AI := [(.aload_n 0, 1, [], 0), (.bipush (-2), 2, [], (-2)), (.invokevirtual 68, 3, [1, 50, 2, 6, 633], 0), (.ireturn, 1, [], 0)]
theorem ok_X7_poolFor_65 : vBL MT qLen qCh false q_X7_poolFor.2.2.2.2.1 q_X7_poolFor.2.2.2.2.2.1 q_X7_poolFor.2.2.1 q_X7_poolFor.1.cls q_X7_poolFor.1.name q_X7_poolFor.2.1 0 65 I_X7_poolFor_65 = true := by decide +kernel
def p_X7_poolFor_65 (a0 : Nat) (h : AH) : Option (Int32 × AH) :=
  if (tg h a0).1 = 6 then ((p_X7_answer a0 ((-2 : Int32)) h).bind fun q102 =>
  some (q102.1, q102.2)) else none
set_option maxRecDepth 100000 in
theorem e_X7_poolFor_65 {l : Launch} {D : va_G} {dA : Nat → ClassId} {z : Nat} {sa : Nat → Nat} {Hz : Heap} (E : StrOK qLen qCh l D dA z sa Hz) {h0 fin : AH} {x : Int32}  : ∀ (a0 : Nat) (h : AH), p_X7_poolFor_65 a0 h = some (x, fin) → GM l D dA z sa Hz q_X7_poolFor h0 (some (.int x)) fin 65 [(0, .ref a0)] [] h := by
  intro a0 h hd
  exact step E (is := I_X7_poolFor_65) (pc := 65) (K := k0) (FI := FI_X7_poolFor) (FV := FV_X7_poolFor) (FL := fL0) (rt := rtI) (ft := 0) (by exact hd) ok_X7_poolFor_65 k0_ok (FI_X7_poolFor_ok E) (FV_X7_poolFor_ok E) (fL0_ok E) (rtI_ok rfl)
def I_X7_poolFor_59 : List AI := [(.iinc 2 1, 3, [], 1), (.goto (-31), 3, [31], 0)]
theorem ok_X7_poolFor_59 : vBL MT qLen qCh false q_X7_poolFor.2.2.2.2.1 q_X7_poolFor.2.2.2.2.2.1 q_X7_poolFor.2.2.1 q_X7_poolFor.1.cls q_X7_poolFor.1.name q_X7_poolFor.2.1 0 59 I_X7_poolFor_59 = true := by decide +kernel
def p_X7_poolFor_59 (k31 : Nat → Int32 → Int32 → AH → Option (Int32 × AH)) (a0 : Nat) (x1 : Int32) (x2 : Int32) (h : AH) : Option (Int32 × AH) :=
  k31 a0 x1 (x2 + (1 : Int32)) h
set_option maxRecDepth 100000 in
theorem e_X7_poolFor_59 {l : Launch} {D : va_G} {dA : Nat → ClassId} {z : Nat} {sa : Nat → Nat} {Hz : Heap} (E : StrOK qLen qCh l D dA z sa Hz) {h0 fin : AH} {x : Int32}  {k31 : Nat → Int32 → Int32 → AH → Option (Int32 × AH)} (hk31 : ∀ (a0 : Nat) (x1 : Int32) (x2 : Int32) (h : AH), k31 a0 x1 x2 h = some (x, fin) → GM l D dA z sa Hz q_X7_poolFor h0 (some (.int x)) fin 31 [(0, .ref a0), (1, .int x1), (2, .int x2)] [] h) : ∀ (a0 : Nat) (x1 : Int32) (x2 : Int32) (h : AH), p_X7_poolFor_59 k31 a0 x1 x2 h = some (x, fin) → GM l D dA z sa Hz q_X7_poolFor h0 (some (.int x)) fin 59 [(0, .ref a0), (1, .int x1), (2, .int x2)] [] h := by
  intro a0 x1 x2 h hd
  exact step E (is := I_X7_poolFor_59) (pc := 59) (K := (kx 31 (fun la st h => gR la 0 fun a0 => gI la 1 fun x1 => gI la 2 fun x2 => sE st (k31 a0 x1 x2 h)) k0)) (FI := FI_X7_poolFor) (FV := FV_X7_poolFor) (FL := fL0) (rt := rtI) (ft := 0) (by exact hd) ok_X7_poolFor_59 (kx_ok (fun la st h e => by obtain ⟨a0, m_a0, e1⟩ := gR_inv e; obtain ⟨x1, m_x1, e2⟩ := gI_inv e1; obtain ⟨x2, m_x2, e3⟩ := gI_inv e2; obtain ⟨rfl, ez⟩ := sE_inv e3; exact gm_fewer (hk31 a0 x1 x2 h ez) (mem_cons m_a0 (mem_cons m_x1 (mem_cons m_x2 mem_nil)))) k0_ok) (FI_X7_poolFor_ok E) (FV_X7_poolFor_ok E) (fL0_ok E) (rtI_ok rfl)
def I_X7_poolFor_31 : List AI := [(.iload_n 2, 1, [], 0), (.bipush 8, 2, [], 8), (.if_icmp .gt 31, 3, [65], 0), (.aload_n 0, 1, [], 0), (.iload_n 2, 1, [], 0), (.invokevirtual 194, 3, [2, 135, 2, 6, 938], 0), (.aload_n 0, 1, [], 0), (.getfield 33, 3, [6, 5, 2, 359], 0), (.getfield 197, 3, [1, 4, 0, 327], 0), (.iload_n 1, 1, [], 0), (.if_icmp .gt 9, 3, [59], 0), (.aload_n 0, 1, [], 0), (.iload_n 2, 1, [], 0), (.invokevirtual 68, 3, [1, 50, 2, 6, 633], 0), (.ireturn, 1, [], 0)]
theorem ok_X7_poolFor_31 : vBL MT qLen qCh false q_X7_poolFor.2.2.2.2.1 q_X7_poolFor.2.2.2.2.2.1 q_X7_poolFor.2.2.1 q_X7_poolFor.1.cls q_X7_poolFor.1.name q_X7_poolFor.2.1 0 31 I_X7_poolFor_31 = true := by decide +kernel
def p_X7_poolFor_31 : Nat → Nat → Int32 → Int32 → AH → Option (Int32 × AH)
  | 0, _, _, _, _ => none
  | n + 1, a0, x1, x2, h => if ((8 : Int32)) < x2 then (if (tg h a0).1 = 6 then ((p_X7_answer a0 ((-2 : Int32)) h).bind fun q103 =>
    some (q103.1, q103.2)) else none)
    else
    if (tg h a0).1 = 6 then ((p_X7_runTold a0 x2 h).bind fun h104 =>
    if (tg h104 a0).1 = 6 then (if (tg h104 (rR h104 a0 5)).1 = 1 then (if x1 < (rI h104 (rR h104 a0 5) 4) then (p_X7_poolFor_31 n a0 x1 (x2 + (1 : Int32)) h104)
    else
    if (tg h104 a0).1 = 6 then ((p_X7_answer a0 x2 h104).bind fun q105 =>
    some (q105.1, q105.2)) else none) else none) else none) else none
set_option maxRecDepth 100000 in
theorem e_X7_poolFor_31 {l : Launch} {D : va_G} {dA : Nat → ClassId} {z : Nat} {sa : Nat → Nat} {Hz : Heap} (E : StrOK qLen qCh l D dA z sa Hz) {h0 fin : AH} {x : Int32}  : ∀ (n : Nat) (a0 : Nat) (x1 : Int32) (x2 : Int32) (h : AH), p_X7_poolFor_31 n a0 x1 x2 h = some (x, fin) → GM l D dA z sa Hz q_X7_poolFor h0 (some (.int x)) fin 31 [(0, .ref a0), (1, .int x1), (2, .int x2)] [] h := by
  intro n
  induction n with
  | zero => intro a0 x1 x2 h hd; exact nomatch hd
  | succ n ih =>
    intro a0 x1 x2 h hd
    exact step E (is := I_X7_poolFor_31) (pc := 31) (K := (kx 65 (fun la st h => gR la 0 fun a0 => sE st (p_X7_poolFor_65 a0 h)) (kx 59 (fun la st h => gR la 0 fun a0 => gI la 1 fun x1 => gI la 2 fun x2 => sE st (p_X7_poolFor_59 (p_X7_poolFor_31 n) a0 x1 x2 h)) k0))) (FI := FI_X7_poolFor) (FV := FV_X7_poolFor) (FL := fL0) (rt := rtI) (ft := 0) (by exact hd) ok_X7_poolFor_31 (kx_ok (fun la st h e => by obtain ⟨a0, m_a0, e1⟩ := gR_inv e; obtain ⟨rfl, ez⟩ := sE_inv e1; exact gm_fewer (e_X7_poolFor_65 E  a0 h ez) (mem_cons m_a0 mem_nil)) (kx_ok (fun la st h e => by obtain ⟨a0, m_a0, e1⟩ := gR_inv e; obtain ⟨x1, m_x1, e2⟩ := gI_inv e1; obtain ⟨x2, m_x2, e3⟩ := gI_inv e2; obtain ⟨rfl, ez⟩ := sE_inv e3; exact gm_fewer (e_X7_poolFor_59 E ih a0 x1 x2 h ez) (mem_cons m_a0 (mem_cons m_x1 (mem_cons m_x2 mem_nil)))) k0_ok)) (FI_X7_poolFor_ok E) (FV_X7_poolFor_ok E) (fL0_ok E) (rtI_ok rfl)
def I_X7_poolFor_29 : List AI := [(.iconst 3, 1, [], 3), (.istore_n 2, 1, [], 0)]
theorem ok_X7_poolFor_29 : vBL MT qLen qCh false q_X7_poolFor.2.2.2.2.1 q_X7_poolFor.2.2.2.2.2.1 q_X7_poolFor.2.2.1 q_X7_poolFor.1.cls q_X7_poolFor.1.name q_X7_poolFor.2.1 31 29 I_X7_poolFor_29 = true := by decide +kernel
def p_X7_poolFor_29 (a0 : Nat) (x1 : Int32) (h : AH) : Option (Int32 × AH) :=
  p_X7_poolFor_31 FU a0 x1 ((3 : Int32)) h
set_option maxRecDepth 100000 in
theorem e_X7_poolFor_29 {l : Launch} {D : va_G} {dA : Nat → ClassId} {z : Nat} {sa : Nat → Nat} {Hz : Heap} (E : StrOK qLen qCh l D dA z sa Hz) {h0 fin : AH} {x : Int32}  : ∀ (a0 : Nat) (x1 : Int32) (h : AH), p_X7_poolFor_29 a0 x1 h = some (x, fin) → GM l D dA z sa Hz q_X7_poolFor h0 (some (.int x)) fin 29 [(0, .ref a0), (1, .int x1)] [] h := by
  intro a0 x1 h hd
  exact step E (is := I_X7_poolFor_29) (pc := 29) (K := (kx 31 (fun la st h => gR la 0 fun a0 => gI la 1 fun x1 => gI la 2 fun x2 => sE st (p_X7_poolFor_31 FU a0 x1 x2 h)) k0)) (FI := FI_X7_poolFor) (FV := FV_X7_poolFor) (FL := fL0) (rt := rtI) (ft := 31) (by exact hd) ok_X7_poolFor_29 (kx_ok (fun la st h e => by obtain ⟨a0, m_a0, e1⟩ := gR_inv e; obtain ⟨x1, m_x1, e2⟩ := gI_inv e1; obtain ⟨x2, m_x2, e3⟩ := gI_inv e2; obtain ⟨rfl, ez⟩ := sE_inv e3; exact gm_fewer (e_X7_poolFor_31 E  FU a0 x1 x2 h ez) (mem_cons m_a0 (mem_cons m_x1 (mem_cons m_x2 mem_nil)))) k0_ok) (FI_X7_poolFor_ok E) (FV_X7_poolFor_ok E) (fL0_ok E) (rtI_ok rfl)
def I_X7_poolFor_13 : List AI := [(.iload_n 1, 1, [], 0), (.ifCond .lt 9, 3, [23], 0), (.iload_n 1, 1, [], 0), (.bipush 10, 2, [], 10), (.if_icmp .le 9, 3, [29], 0)]
theorem ok_X7_poolFor_13 : vBL MT qLen qCh false q_X7_poolFor.2.2.2.2.1 q_X7_poolFor.2.2.2.2.2.1 q_X7_poolFor.2.2.1 q_X7_poolFor.1.cls q_X7_poolFor.1.name q_X7_poolFor.2.1 23 13 I_X7_poolFor_13 = true := by decide +kernel
def p_X7_poolFor_13 (a0 : Nat) (x1 : Int32) (h : AH) : Option (Int32 × AH) :=
  if x1 < 0 then (p_X7_poolFor_23 a0 h)
  else
  if ((10 : Int32)) < x1 then (p_X7_poolFor_23 a0 h)
  else
  p_X7_poolFor_31 FU a0 x1 ((3 : Int32)) h
set_option maxRecDepth 100000 in
theorem e_X7_poolFor_13 {l : Launch} {D : va_G} {dA : Nat → ClassId} {z : Nat} {sa : Nat → Nat} {Hz : Heap} (E : StrOK qLen qCh l D dA z sa Hz) {h0 fin : AH} {x : Int32}  : ∀ (a0 : Nat) (x1 : Int32) (h : AH), p_X7_poolFor_13 a0 x1 h = some (x, fin) → GM l D dA z sa Hz q_X7_poolFor h0 (some (.int x)) fin 13 [(0, .ref a0), (1, .int x1)] [] h := by
  intro a0 x1 h hd
  exact step E (is := I_X7_poolFor_13) (pc := 13) (K := (kx 23 (fun la st h => gR la 0 fun a0 => sE st (p_X7_poolFor_23 a0 h)) (kx 29 (fun la st h => gR la 0 fun a0 => gI la 1 fun x1 => sE st (p_X7_poolFor_29 a0 x1 h)) k0))) (FI := FI_X7_poolFor) (FV := FV_X7_poolFor) (FL := fL0) (rt := rtI) (ft := 23) (by exact hd) ok_X7_poolFor_13 (kx_ok (fun la st h e => by obtain ⟨a0, m_a0, e1⟩ := gR_inv e; obtain ⟨rfl, ez⟩ := sE_inv e1; exact gm_fewer (e_X7_poolFor_23 E  a0 h ez) (mem_cons m_a0 mem_nil)) (kx_ok (fun la st h e => by obtain ⟨a0, m_a0, e1⟩ := gR_inv e; obtain ⟨x1, m_x1, e2⟩ := gI_inv e1; obtain ⟨rfl, ez⟩ := sE_inv e2; exact gm_fewer (e_X7_poolFor_29 E  a0 x1 h ez) (mem_cons m_a0 (mem_cons m_x1 mem_nil))) k0_ok)) (FI_X7_poolFor_ok E) (FV_X7_poolFor_ok E) (fL0_ok E) (rtI_ok rfl)
def I_X7_poolFor_0 : List AI := [(.aload_n 0, 1, [], 0), (.getfield 107, 3, [6, 3, 3, 357], 0), (.ifCond .ne 9, 3, [13], 0), (.aload_n 0, 1, [], 0), (.iconst 1, 1, [], 1), (.invokevirtual 54, 3, [1, 9, 2, 6, 403], 0), (.ireturn, 1, [], 0)]
theorem ok_X7_poolFor_0 : vBL MT qLen qCh false q_X7_poolFor.2.2.2.2.1 q_X7_poolFor.2.2.2.2.2.1 q_X7_poolFor.2.2.1 q_X7_poolFor.1.cls q_X7_poolFor.1.name q_X7_poolFor.2.1 0 0 I_X7_poolFor_0 = true := by decide +kernel
def p_X7_poolFor (a0 : Nat) (x1 : Int32) (h : AH) : Option (Int32 × AH) :=
  if (tg h a0).1 = 6 then (if (rI h a0 3) = 0 then (if (tg h a0).1 = 6 then ((p_X7_refuse a0 ((1 : Int32)) h).bind fun q106 =>
  some (q106.1, q106.2)) else none)
  else
  if x1 < 0 then (p_X7_poolFor_23 a0 h)
  else
  if ((10 : Int32)) < x1 then (p_X7_poolFor_23 a0 h)
  else
  p_X7_poolFor_31 FU a0 x1 ((3 : Int32)) h) else none
set_option maxRecDepth 100000 in
theorem e_X7_poolFor_0 {l : Launch} {D : va_G} {dA : Nat → ClassId} {z : Nat} {sa : Nat → Nat} {Hz : Heap} (E : StrOK qLen qCh l D dA z sa Hz) {h0 fin : AH} {x : Int32}  : ∀ (a0 : Nat) (x1 : Int32) (h : AH), p_X7_poolFor a0 x1 h = some (x, fin) → GM l D dA z sa Hz q_X7_poolFor h0 (some (.int x)) fin 0 [(0, .ref a0), (1, .int x1)] [] h := by
  intro a0 x1 h hd
  exact step E (is := I_X7_poolFor_0) (pc := 0) (K := (kx 13 (fun la st h => gR la 0 fun a0 => gI la 1 fun x1 => sE st (p_X7_poolFor_13 a0 x1 h)) k0)) (FI := FI_X7_poolFor) (FV := FV_X7_poolFor) (FL := fL0) (rt := rtI) (ft := 0) (by exact hd) ok_X7_poolFor_0 (kx_ok (fun la st h e => by obtain ⟨a0, m_a0, e1⟩ := gR_inv e; obtain ⟨x1, m_x1, e2⟩ := gI_inv e1; obtain ⟨rfl, ez⟩ := sE_inv e2; exact gm_fewer (e_X7_poolFor_13 E  a0 x1 h ez) (mem_cons m_a0 (mem_cons m_x1 mem_nil))) k0_ok) (FI_X7_poolFor_ok E) (FV_X7_poolFor_ok E) (fL0_ok E) (rtI_ok rfl)
theorem c_X7_poolFor {l : Launch} {D : va_G} {dA : Nat → ClassId} {z : Nat} {sa : Nat → Nat} {Hz : Heap} (E : StrOK qLen qCh l D dA z sa Hz) {a0 : Nat} {x1 : Int32} {h fin : AH} {x : Int32} (hd : p_X7_poolFor a0 x1 h = some (x, fin)) : CalOK l D dA z sa Hz q_X7_poolFor [.ref a0, .int x1] h (some (.int x)) fin := calOf (by decide +kernel) (Nat.le_of_ble_eq_true rfl) (e_X7_poolFor_0 E a0 x1 h hd)
def I_X3_copyFrom_0 : List AI := [(.aload_n 1, 1, [], 0), (.getfield 9, 3, [2, 0, 2, 285], 0), (.iconst 0, 1, [], 0), (.aload_n 0, 1, [], 0), (.getfield 9, 3, [2, 0, 2, 285], 0), (.iconst 0, 1, [], 0), (.bipush 8, 2, [], 8), (.invokestatic 35, 3, [4, 1026], 0), (.aload_n 1, 1, [], 0), (.getfield 15, 3, [2, 1, 2, 286], 0), (.iconst 0, 1, [], 0), (.aload_n 0, 1, [], 0), (.getfield 15, 3, [2, 1, 2, 286], 0), (.iconst 0, 1, [], 0), (.bipush 8, 2, [], 8), (.invokestatic 35, 3, [4, 1026], 0), (.aload_n 1, 1, [], 0), (.getfield 18, 3, [2, 2, 2, 287], 0), (.iconst 0, 1, [], 0), (.aload_n 0, 1, [], 0), (.getfield 18, 3, [2, 2, 2, 287], 0), (.iconst 0, 1, [], 0), (.bipush 8, 2, [], 8), (.invokestatic 35, 3, [4, 1026], 0), (.aload_n 1, 1, [], 0), (.getfield 21, 3, [2, 3, 2, 288], 0), (.iconst 0, 1, [], 0), (.aload_n 0, 1, [], 0), (.getfield 21, 3, [2, 3, 2, 288], 0), (.iconst 0, 1, [], 0), (.bipush 64, 2, [], 64), (.invokestatic 35, 3, [4, 1026], 0), (.aload_n 0, 1, [], 0), (.aload_n 1, 1, [], 0), (.getfield 41, 3, [2, 4, 0, 289], 0), (.putfield 41, 3, [2, 4, 0, 289], 0), (.aload_n 0, 1, [], 0), (.aload_n 1, 1, [], 0), (.getfield 24, 3, [2, 5, 0, 292], 0), (.putfield 24, 3, [2, 5, 0, 292], 0), (.aload_n 0, 1, [], 0), (.aload_n 1, 1, [], 0), (.getfield 28, 3, [2, 6, 0, 293], 0), (.putfield 28, 3, [2, 6, 0, 293], 0), (.return_, 1, [], 0)]
theorem ok_X3_copyFrom_0 : vBL MT qLen qCh false q_X3_copyFrom.2.2.2.2.1 q_X3_copyFrom.2.2.2.2.2.1 q_X3_copyFrom.2.2.1 q_X3_copyFrom.1.cls q_X3_copyFrom.1.name q_X3_copyFrom.2.1 0 0 I_X3_copyFrom_0 = true := by decide +kernel
def p_X3_copyFrom (a0 : Nat) (a1 : Nat) (h : AH) : Option (AH) :=
  if (tg h a1).1 = 2 then (if (tg h a0).1 = 2 then (if ((tg h (rR h a1 0)).1 = 100 ∧ (tg h (rR h a0 0)).1 = 100) ∧ (¬ ((0 : Int32)) < 0 ∧ ¬ ((0 : Int32)) < 0 ∧ ¬ ((8 : Int32)) < 0) ∧ ((0 : Int32)).toNatClampNeg + ((8 : Int32)).toNatClampNeg ≤ (tg h (rR h a1 0)).2 ∧ ((0 : Int32)).toNatClampNeg + ((8 : Int32)).toNatClampNeg ≤ (tg h (rR h a0 0)).2 then (let h101 := cpI h (rR h a1 0) ((0 : Int32)).toNatClampNeg (rR h a0 0) ((0 : Int32)).toNatClampNeg ((8 : Int32)).toNatClampNeg
  if (tg h101 a1).1 = 2 then (if (tg h101 a0).1 = 2 then (if ((tg h101 (rR h101 a1 1)).1 = 100 ∧ (tg h101 (rR h101 a0 1)).1 = 100) ∧ (¬ ((0 : Int32)) < 0 ∧ ¬ ((0 : Int32)) < 0 ∧ ¬ ((8 : Int32)) < 0) ∧ ((0 : Int32)).toNatClampNeg + ((8 : Int32)).toNatClampNeg ≤ (tg h101 (rR h101 a1 1)).2 ∧ ((0 : Int32)).toNatClampNeg + ((8 : Int32)).toNatClampNeg ≤ (tg h101 (rR h101 a0 1)).2 then (let h102 := cpI h101 (rR h101 a1 1) ((0 : Int32)).toNatClampNeg (rR h101 a0 1) ((0 : Int32)).toNatClampNeg ((8 : Int32)).toNatClampNeg
  if (tg h102 a1).1 = 2 then (if (tg h102 a0).1 = 2 then (if ((tg h102 (rR h102 a1 2)).1 = 100 ∧ (tg h102 (rR h102 a0 2)).1 = 100) ∧ (¬ ((0 : Int32)) < 0 ∧ ¬ ((0 : Int32)) < 0 ∧ ¬ ((8 : Int32)) < 0) ∧ ((0 : Int32)).toNatClampNeg + ((8 : Int32)).toNatClampNeg ≤ (tg h102 (rR h102 a1 2)).2 ∧ ((0 : Int32)).toNatClampNeg + ((8 : Int32)).toNatClampNeg ≤ (tg h102 (rR h102 a0 2)).2 then (let h103 := cpI h102 (rR h102 a1 2) ((0 : Int32)).toNatClampNeg (rR h102 a0 2) ((0 : Int32)).toNatClampNeg ((8 : Int32)).toNatClampNeg
  if (tg h103 a1).1 = 2 then (if (tg h103 a0).1 = 2 then (if ((tg h103 (rR h103 a1 3)).1 = 100 ∧ (tg h103 (rR h103 a0 3)).1 = 100) ∧ (¬ ((0 : Int32)) < 0 ∧ ¬ ((0 : Int32)) < 0 ∧ ¬ ((64 : Int32)) < 0) ∧ ((0 : Int32)).toNatClampNeg + ((64 : Int32)).toNatClampNeg ≤ (tg h103 (rR h103 a1 3)).2 ∧ ((0 : Int32)).toNatClampNeg + ((64 : Int32)).toNatClampNeg ≤ (tg h103 (rR h103 a0 3)).2 then (let h104 := cpI h103 (rR h103 a1 3) ((0 : Int32)).toNatClampNeg (rR h103 a0 3) ((0 : Int32)).toNatClampNeg ((64 : Int32)).toNatClampNeg
  if (tg h104 a1).1 = 2 then (if (tg h104 a0).1 = 2 then (let h105 := wI h104 a0 4 (rI h104 a1 4)
  if (tg h105 a1).1 = 2 then (if (tg h105 a0).1 = 2 then (let h106 := wI h105 a0 5 (rI h105 a1 5)
  if (tg h106 a1).1 = 2 then (if (tg h106 a0).1 = 2 then (let h107 := wI h106 a0 6 (rI h106 a1 6)
  some h107) else none) else none) else none) else none) else none) else none) else none) else none) else none) else none) else none) else none) else none) else none) else none) else none) else none) else none
set_option maxRecDepth 100000 in
theorem e_X3_copyFrom_0 {l : Launch} {D : va_G} {dA : Nat → ClassId} {z : Nat} {sa : Nat → Nat} {Hz : Heap} (E : StrOK qLen qCh l D dA z sa Hz) {h0 fin : AH}  : ∀ (a0 : Nat) (a1 : Nat) (h : AH), p_X3_copyFrom a0 a1 h = some fin → GM l D dA z sa Hz q_X3_copyFrom h0 none fin 0 [(0, .ref a0), (1, .ref a1)] [] h := by
  intro a0 a1 h hd
  exact step E (is := I_X3_copyFrom_0) (pc := 0) (K := k0) (FI := fI0) (FV := fV0) (FL := fL0) (rt := rtV) (ft := 0) (by exact hd) ok_X3_copyFrom_0 k0_ok (fI0_ok E) (fV0_ok E) (fL0_ok E) (rtV_ok rfl)
theorem c_X3_copyFrom {l : Launch} {D : va_G} {dA : Nat → ClassId} {z : Nat} {sa : Nat → Nat} {Hz : Heap} (E : StrOK qLen qCh l D dA z sa Hz) {a0 : Nat} {a1 : Nat} {h fin : AH} (hd : p_X3_copyFrom a0 a1 h = some fin) : CalOK l D dA z sa Hz q_X3_copyFrom [.ref a0, .ref a1] h none fin := calOf (by decide +kernel) (Nat.le_of_ble_eq_true rfl) (e_X3_copyFrom_0 E a0 a1 h hd)
def FV_X4_copyFrom : Nat → List Value → AH → Option (AH) := (cx 44 (fun As h => sR As fun a0 As => sR As fun a1 As => sE As (p_X1_copyFrom a0 a1 h)) (cx 140 (fun As h => sR As fun a0 As => sR As fun a1 As => sE As (p_X3_copyFrom a0 a1 h)) fV0))
theorem FV_X4_copyFrom_ok {l : Launch} {D : va_G} {dA : Nat → ClassId} {z : Nat} {sa : Nat → Nat} {Hz : Heap} (E : StrOK qLen qCh l D dA z sa Hz) : ∀ mi As h h', FV_X4_copyFrom mi As h = some h' → CalOK l D dA z sa Hz (MT mi) As h none h' := (cxV_ok (fun As h h2 e => by obtain ⟨_, _, rfl, e0⟩ := sR_inv e; obtain ⟨_, _, rfl, e1⟩ := sR_inv e0; obtain ⟨rfl, ez⟩ := sE_inv e1; exact c_X1_copyFrom E ez) ((cxV_ok (fun As h h2 e => by obtain ⟨_, _, rfl, e0⟩ := sR_inv e; obtain ⟨_, _, rfl, e1⟩ := sR_inv e0; obtain ⟨rfl, ez⟩ := sE_inv e1; exact c_X3_copyFrom E ez) (fV0_ok E))))
def I_X4_copyFrom_0 : List AI := [(.aload_n 0, 1, [], 0), (.getfield 10, 3, [3, 0, 2, 309], 0), (.aload_n 1, 1, [], 0), (.getfield 10, 3, [3, 0, 2, 309], 0), (.invokevirtual 23, 3, [2, 44, 2, 0, 1021], 0), (.aload_n 0, 1, [], 0), (.getfield 19, 3, [3, 1, 2, 311], 0), (.aload_n 1, 1, [], 0), (.getfield 19, 3, [3, 1, 2, 311], 0), (.invokevirtual 27, 3, [2, 140, 2, 2, 1022], 0), (.return_, 1, [], 0)]
theorem ok_X4_copyFrom_0 : vBL MT qLen qCh false q_X4_copyFrom.2.2.2.2.1 q_X4_copyFrom.2.2.2.2.2.1 q_X4_copyFrom.2.2.1 q_X4_copyFrom.1.cls q_X4_copyFrom.1.name q_X4_copyFrom.2.1 0 0 I_X4_copyFrom_0 = true := by decide +kernel
def p_X4_copyFrom (a0 : Nat) (a1 : Nat) (h : AH) : Option (AH) :=
  if (tg h a0).1 = 3 then (if (tg h a1).1 = 3 then (if (tg h (rR h a0 0)).1 = 0 then ((p_X1_copyFrom (rR h a0 0) (rR h a1 0) h).bind fun h101 =>
  if (tg h101 a0).1 = 3 then (if (tg h101 a1).1 = 3 then (if (tg h101 (rR h101 a0 1)).1 = 2 then ((p_X3_copyFrom (rR h101 a0 1) (rR h101 a1 1) h101).bind fun h102 =>
  some h102) else none) else none) else none) else none) else none) else none
set_option maxRecDepth 100000 in
theorem e_X4_copyFrom_0 {l : Launch} {D : va_G} {dA : Nat → ClassId} {z : Nat} {sa : Nat → Nat} {Hz : Heap} (E : StrOK qLen qCh l D dA z sa Hz) {h0 fin : AH}  : ∀ (a0 : Nat) (a1 : Nat) (h : AH), p_X4_copyFrom a0 a1 h = some fin → GM l D dA z sa Hz q_X4_copyFrom h0 none fin 0 [(0, .ref a0), (1, .ref a1)] [] h := by
  intro a0 a1 h hd
  exact step E (is := I_X4_copyFrom_0) (pc := 0) (K := k0) (FI := fI0) (FV := FV_X4_copyFrom) (FL := fL0) (rt := rtV) (ft := 0) (by exact hd) ok_X4_copyFrom_0 k0_ok (fI0_ok E) (FV_X4_copyFrom_ok E) (fL0_ok E) (rtV_ok rfl)
theorem c_X4_copyFrom {l : Launch} {D : va_G} {dA : Nat → ClassId} {z : Nat} {sa : Nat → Nat} {Hz : Heap} (E : StrOK qLen qCh l D dA z sa Hz) {a0 : Nat} {a1 : Nat} {h fin : AH} (hd : p_X4_copyFrom a0 a1 h = some fin) : CalOK l D dA z sa Hz q_X4_copyFrom [.ref a0, .ref a1] h none fin := calOf (by decide +kernel) (Nat.le_of_ble_eq_true rfl) (e_X4_copyFrom_0 E a0 a1 h hd)
def FV_X2_startFrom : Nat → List Value → AH → Option (AH) := (cx 141 (fun As h => sR As fun a0 As => sR As fun a1 As => sE As (p_X4_copyFrom a0 a1 h)) (cx 47 (fun As h => sR As fun a0 As => sE As (p_X2_clearCounts a0 h)) fV0))
theorem FV_X2_startFrom_ok {l : Launch} {D : va_G} {dA : Nat → ClassId} {z : Nat} {sa : Nat → Nat} {Hz : Heap} (E : StrOK qLen qCh l D dA z sa Hz) : ∀ mi As h h', FV_X2_startFrom mi As h = some h' → CalOK l D dA z sa Hz (MT mi) As h none h' := (cxV_ok (fun As h h2 e => by obtain ⟨_, _, rfl, e0⟩ := sR_inv e; obtain ⟨_, _, rfl, e1⟩ := sR_inv e0; obtain ⟨rfl, ez⟩ := sE_inv e1; exact c_X4_copyFrom E ez) ((cxV_ok (fun As h h2 e => by obtain ⟨_, _, rfl, e0⟩ := sR_inv e; obtain ⟨rfl, ez⟩ := sE_inv e0; exact c_X2_clearCounts E ez) (fV0_ok E))))
def I_X2_startFrom_0 : List AI := [(.aload_n 0, 1, [], 0), (.getfield 12, 3, [1, 0, 2, 318], 0), (.aload_n 1, 1, [], 0), (.invokevirtual 43, 3, [2, 141, 2, 3, 1017], 0), (.aload_n 0, 1, [], 0), (.invokevirtual 40, 3, [2, 47, 1, 1, 629], 0), (.return_, 1, [], 0)]
theorem ok_X2_startFrom_0 : vBL MT qLen qCh false q_X2_startFrom.2.2.2.2.1 q_X2_startFrom.2.2.2.2.2.1 q_X2_startFrom.2.2.1 q_X2_startFrom.1.cls q_X2_startFrom.1.name q_X2_startFrom.2.1 0 0 I_X2_startFrom_0 = true := by decide +kernel
def p_X2_startFrom (a0 : Nat) (a1 : Nat) (h : AH) : Option (AH) :=
  if (tg h a0).1 = 1 then (if (tg h (rR h a0 0)).1 = 3 then ((p_X4_copyFrom (rR h a0 0) a1 h).bind fun h101 =>
  if (tg h101 a0).1 = 1 then ((p_X2_clearCounts a0 h101).bind fun h102 =>
  some h102) else none) else none) else none
set_option maxRecDepth 100000 in
theorem e_X2_startFrom_0 {l : Launch} {D : va_G} {dA : Nat → ClassId} {z : Nat} {sa : Nat → Nat} {Hz : Heap} (E : StrOK qLen qCh l D dA z sa Hz) {h0 fin : AH}  : ∀ (a0 : Nat) (a1 : Nat) (h : AH), p_X2_startFrom a0 a1 h = some fin → GM l D dA z sa Hz q_X2_startFrom h0 none fin 0 [(0, .ref a0), (1, .ref a1)] [] h := by
  intro a0 a1 h hd
  exact step E (is := I_X2_startFrom_0) (pc := 0) (K := k0) (FI := fI0) (FV := FV_X2_startFrom) (FL := fL0) (rt := rtV) (ft := 0) (by exact hd) ok_X2_startFrom_0 k0_ok (fI0_ok E) (FV_X2_startFrom_ok E) (fL0_ok E) (rtV_ok rfl)
theorem c_X2_startFrom {l : Launch} {D : va_G} {dA : Nat → ClassId} {z : Nat} {sa : Nat → Nat} {Hz : Heap} (E : StrOK qLen qCh l D dA z sa Hz) {a0 : Nat} {a1 : Nat} {h fin : AH} (hd : p_X2_startFrom a0 a1 h = some fin) : CalOK l D dA z sa Hz q_X2_startFrom [.ref a0, .ref a1] h none fin := calOf (by decide +kernel) (Nat.le_of_ble_eq_true rfl) (e_X2_startFrom_0 E a0 a1 h hd)
def FI_X7_sweep : Nat → List Value → AH → Option (Int32 × AH) := (cx 68 (fun As h => sR As fun a0 As => sI As fun x1 As => sE As (p_X7_isPage a0 x1 h)) (cx 9 (fun As h => sR As fun a0 As => sI As fun x1 As => sE As (p_X7_refuse a0 x1 h)) (cx 134 (fun As h => sR As fun a0 As => sI As fun x1 As => sI As fun x2 As => sE As (p_X2_reach a0 x1 x2 h)) (cx 50 (fun As h => sR As fun a0 As => sI As fun x1 As => sE As (p_X7_answer a0 x1 h)) fI0))))
theorem FI_X7_sweep_ok {l : Launch} {D : va_G} {dA : Nat → ClassId} {z : Nat} {sa : Nat → Nat} {Hz : Heap} (E : StrOK qLen qCh l D dA z sa Hz) : ∀ mi As h x h', FI_X7_sweep mi As h = some (x, h') → CalOK l D dA z sa Hz (MT mi) As h (some (.int x)) h' := (cxI_ok (fun As h x h2 e => by obtain ⟨_, _, rfl, e0⟩ := sR_inv e; obtain ⟨_, _, rfl, e1⟩ := sI_inv e0; obtain ⟨rfl, ez⟩ := sE_inv e1; exact c_X7_isPage E ez) ((cxI_ok (fun As h x h2 e => by obtain ⟨_, _, rfl, e0⟩ := sR_inv e; obtain ⟨_, _, rfl, e1⟩ := sI_inv e0; obtain ⟨rfl, ez⟩ := sE_inv e1; exact c_X7_refuse E ez) ((cxI_ok (fun As h x h2 e => by obtain ⟨_, _, rfl, e0⟩ := sR_inv e; obtain ⟨_, _, rfl, e1⟩ := sI_inv e0; obtain ⟨_, _, rfl, e2⟩ := sI_inv e1; obtain ⟨rfl, ez⟩ := sE_inv e2; exact c_X2_reach E ez) ((cxI_ok (fun As h x h2 e => by obtain ⟨_, _, rfl, e0⟩ := sR_inv e; obtain ⟨_, _, rfl, e1⟩ := sI_inv e0; obtain ⟨rfl, ez⟩ := sE_inv e1; exact c_X7_answer E ez) (fI0_ok E))))))))
def FV_X7_sweep : Nat → List Value → AH → Option (AH) := (cx 142 (fun As h => sR As fun a0 As => sR As fun a1 As => sE As (p_X2_startFrom a0 a1 h)) fV0)
theorem FV_X7_sweep_ok {l : Launch} {D : va_G} {dA : Nat → ClassId} {z : Nat} {sa : Nat → Nat} {Hz : Heap} (E : StrOK qLen qCh l D dA z sa Hz) : ∀ mi As h h', FV_X7_sweep mi As h = some h' → CalOK l D dA z sa Hz (MT mi) As h none h' := (cxV_ok (fun As h h2 e => by obtain ⟨_, _, rfl, e0⟩ := sR_inv e; obtain ⟨_, _, rfl, e1⟩ := sR_inv e0; obtain ⟨rfl, ez⟩ := sE_inv e1; exact c_X2_startFrom E ez) (fV0_ok E))
def I_X7_sweep_16 : List AI := [(.aload_n 0, 1, [], 0), (.iconst 1, 1, [], 1), (.invokevirtual 54, 3, [1, 9, 2, 6, 403], 0), (.ireturn, 1, [], 0)]
theorem ok_X7_sweep_16 : vBL MT qLen qCh false q_X7_sweep.2.2.2.2.1 q_X7_sweep.2.2.2.2.2.1 q_X7_sweep.2.2.1 q_X7_sweep.1.cls q_X7_sweep.1.name q_X7_sweep.2.1 0 16 I_X7_sweep_16 = true := by decide +kernel
def p_X7_sweep_16 (a0 : Nat) (h : AH) : Option (Int32 × AH) :=
  if (tg h a0).1 = 6 then ((p_X7_refuse a0 ((1 : Int32)) h).bind fun q101 =>
  some (q101.1, q101.2)) else none
set_option maxRecDepth 100000 in
theorem e_X7_sweep_16 {l : Launch} {D : va_G} {dA : Nat → ClassId} {z : Nat} {sa : Nat → Nat} {Hz : Heap} (E : StrOK qLen qCh l D dA z sa Hz) {h0 fin : AH} {x : Int32}  : ∀ (a0 : Nat) (h : AH), p_X7_sweep_16 a0 h = some (x, fin) → GM l D dA z sa Hz q_X7_sweep h0 (some (.int x)) fin 16 [(0, .ref a0)] [] h := by
  intro a0 h hd
  exact step E (is := I_X7_sweep_16) (pc := 16) (K := k0) (FI := FI_X7_sweep) (FV := FV_X7_sweep) (FL := fL0) (rt := rtI) (ft := 0) (by exact hd) ok_X7_sweep_16 k0_ok (FI_X7_sweep_ok E) (FV_X7_sweep_ok E) (fL0_ok E) (rtI_ok rfl)
def I_X7_sweep_70 : List AI := [(.aload_n 0, 1, [], 0), (.aload_n 0, 1, [], 0), (.getfield 33, 3, [6, 5, 2, 359], 0), (.getfield 197, 3, [1, 4, 0, 327], 0), (.invokevirtual 68, 3, [1, 50, 2, 6, 633], 0), (.ireturn, 1, [], 0)]
theorem ok_X7_sweep_70 : vBL MT qLen qCh false q_X7_sweep.2.2.2.2.1 q_X7_sweep.2.2.2.2.2.1 q_X7_sweep.2.2.1 q_X7_sweep.1.cls q_X7_sweep.1.name q_X7_sweep.2.1 0 70 I_X7_sweep_70 = true := by decide +kernel
def p_X7_sweep_70 (a0 : Nat) (h : AH) : Option (Int32 × AH) :=
  if (tg h a0).1 = 6 then (if (tg h (rR h a0 5)).1 = 1 then (if (tg h a0).1 = 6 then ((p_X7_answer a0 (rI h (rR h a0 5) 4) h).bind fun q102 =>
  some (q102.1, q102.2)) else none) else none) else none
set_option maxRecDepth 100000 in
theorem e_X7_sweep_70 {l : Launch} {D : va_G} {dA : Nat → ClassId} {z : Nat} {sa : Nat → Nat} {Hz : Heap} (E : StrOK qLen qCh l D dA z sa Hz) {h0 fin : AH} {x : Int32}  : ∀ (a0 : Nat) (h : AH), p_X7_sweep_70 a0 h = some (x, fin) → GM l D dA z sa Hz q_X7_sweep h0 (some (.int x)) fin 70 [(0, .ref a0)] [] h := by
  intro a0 h hd
  exact step E (is := I_X7_sweep_70) (pc := 70) (K := k0) (FI := FI_X7_sweep) (FV := FV_X7_sweep) (FL := fL0) (rt := rtI) (ft := 0) (by exact hd) ok_X7_sweep_70 k0_ok (FI_X7_sweep_ok E) (FV_X7_sweep_ok E) (fL0_ok E) (rtI_ok rfl)
def I_X7_sweep_49 : List AI := [(.iload_n 3, 1, [], 0), (.iload_n 2, 1, [], 0), (.if_icmp .gt 19, 3, [70], 0), (.aload_n 0, 1, [], 0), (.getfield 33, 3, [6, 5, 2, 359], 0), (.iload_n 3, 1, [], 0), (.iconst 0, 1, [], 0), (.invokevirtual 214, 3, [1, 134, 3, 1, 942], 0), (.pop, 1, [], 0), (.iinc 3 1, 3, [], 1), (.goto (-18), 3, [49], 0)]
theorem ok_X7_sweep_49 : vBL MT qLen qCh false q_X7_sweep.2.2.2.2.1 q_X7_sweep.2.2.2.2.2.1 q_X7_sweep.2.2.1 q_X7_sweep.1.cls q_X7_sweep.1.name q_X7_sweep.2.1 0 49 I_X7_sweep_49 = true := by decide +kernel
def p_X7_sweep_49 : Nat → Nat → Int32 → Int32 → AH → Option (Int32 × AH)
  | 0, _, _, _, _ => none
  | n + 1, a0, x2, x3, h => if x2 < x3 then (if (tg h a0).1 = 6 then (if (tg h (rR h a0 5)).1 = 1 then (if (tg h a0).1 = 6 then ((p_X7_answer a0 (rI h (rR h a0 5) 4) h).bind fun q103 =>
    some (q103.1, q103.2)) else none) else none) else none)
    else
    if (tg h a0).1 = 6 then (if (tg h (rR h a0 5)).1 = 1 then ((p_X2_reach (rR h a0 5) x3 ((0 : Int32)) h).bind fun q104 =>
    p_X7_sweep_49 n a0 x2 (x3 + (1 : Int32)) q104.2) else none) else none
set_option maxRecDepth 100000 in
theorem e_X7_sweep_49 {l : Launch} {D : va_G} {dA : Nat → ClassId} {z : Nat} {sa : Nat → Nat} {Hz : Heap} (E : StrOK qLen qCh l D dA z sa Hz) {h0 fin : AH} {x : Int32}  : ∀ (n : Nat) (a0 : Nat) (x2 : Int32) (x3 : Int32) (h : AH), p_X7_sweep_49 n a0 x2 x3 h = some (x, fin) → GM l D dA z sa Hz q_X7_sweep h0 (some (.int x)) fin 49 [(0, .ref a0), (2, .int x2), (3, .int x3)] [] h := by
  intro n
  induction n with
  | zero => intro a0 x2 x3 h hd; exact nomatch hd
  | succ n ih =>
    intro a0 x2 x3 h hd
    exact step E (is := I_X7_sweep_49) (pc := 49) (K := (kx 70 (fun la st h => gR la 0 fun a0 => sE st (p_X7_sweep_70 a0 h)) (kx 49 (fun la st h => gR la 0 fun a0 => gI la 2 fun x2 => gI la 3 fun x3 => sE st (p_X7_sweep_49 n a0 x2 x3 h)) k0))) (FI := FI_X7_sweep) (FV := FV_X7_sweep) (FL := fL0) (rt := rtI) (ft := 0) (by exact hd) ok_X7_sweep_49 (kx_ok (fun la st h e => by obtain ⟨a0, m_a0, e1⟩ := gR_inv e; obtain ⟨rfl, ez⟩ := sE_inv e1; exact gm_fewer (e_X7_sweep_70 E  a0 h ez) (mem_cons m_a0 mem_nil)) (kx_ok (fun la st h e => by obtain ⟨a0, m_a0, e1⟩ := gR_inv e; obtain ⟨x2, m_x2, e2⟩ := gI_inv e1; obtain ⟨x3, m_x3, e3⟩ := gI_inv e2; obtain ⟨rfl, ez⟩ := sE_inv e3; exact gm_fewer (ih a0 x2 x3 h ez) (mem_cons m_a0 (mem_cons m_x2 (mem_cons m_x3 mem_nil)))) k0_ok)) (FI_X7_sweep_ok E) (FV_X7_sweep_ok E) (fL0_ok E) (rtI_ok rfl)
def I_X7_sweep_33 : List AI := [(.aload_n 0, 1, [], 0), (.getfield 33, 3, [6, 5, 2, 359], 0), (.aload_n 0, 1, [], 0), (.getfield 29, 3, [6, 4, 2, 358], 0), (.getfield 206, 3, [1, 0, 2, 319], 0), (.invokevirtual 210, 3, [2, 142, 2, 1, 1013], 0), (.iload_n 1, 1, [], 0), (.istore_n 3, 1, [], 0)]
theorem ok_X7_sweep_33 : vBL MT qLen qCh false q_X7_sweep.2.2.2.2.1 q_X7_sweep.2.2.2.2.2.1 q_X7_sweep.2.2.1 q_X7_sweep.1.cls q_X7_sweep.1.name q_X7_sweep.2.1 49 33 I_X7_sweep_33 = true := by decide +kernel
def p_X7_sweep_33 (a0 : Nat) (x1 : Int32) (x2 : Int32) (h : AH) : Option (Int32 × AH) :=
  if (tg h a0).1 = 6 then (if (tg h a0).1 = 6 then (if (tg h (rR h a0 4)).1 = 1 then (if (tg h (rR h a0 5)).1 = 1 then ((p_X2_startFrom (rR h a0 5) (rR h (rR h a0 4) 0) h).bind fun h105 =>
  p_X7_sweep_49 FU a0 x2 x1 h105) else none) else none) else none) else none
set_option maxRecDepth 100000 in
theorem e_X7_sweep_33 {l : Launch} {D : va_G} {dA : Nat → ClassId} {z : Nat} {sa : Nat → Nat} {Hz : Heap} (E : StrOK qLen qCh l D dA z sa Hz) {h0 fin : AH} {x : Int32}  : ∀ (a0 : Nat) (x1 : Int32) (x2 : Int32) (h : AH), p_X7_sweep_33 a0 x1 x2 h = some (x, fin) → GM l D dA z sa Hz q_X7_sweep h0 (some (.int x)) fin 33 [(0, .ref a0), (1, .int x1), (2, .int x2)] [] h := by
  intro a0 x1 x2 h hd
  exact step E (is := I_X7_sweep_33) (pc := 33) (K := (kx 49 (fun la st h => gR la 0 fun a0 => gI la 2 fun x2 => gI la 3 fun x3 => sE st (p_X7_sweep_49 FU a0 x2 x3 h)) k0)) (FI := FI_X7_sweep) (FV := FV_X7_sweep) (FL := fL0) (rt := rtI) (ft := 49) (by exact hd) ok_X7_sweep_33 (kx_ok (fun la st h e => by obtain ⟨a0, m_a0, e1⟩ := gR_inv e; obtain ⟨x2, m_x2, e2⟩ := gI_inv e1; obtain ⟨x3, m_x3, e3⟩ := gI_inv e2; obtain ⟨rfl, ez⟩ := sE_inv e3; exact gm_fewer (e_X7_sweep_49 E  FU a0 x2 x3 h ez) (mem_cons m_a0 (mem_cons m_x2 (mem_cons m_x3 mem_nil)))) k0_ok) (FI_X7_sweep_ok E) (FV_X7_sweep_ok E) (fL0_ok E) (rtI_ok rfl)
def I_X7_sweep_22 : List AI := [(.iload_n 2, 1, [], 0), (.iload_n 1, 1, [], 0), (.if_icmp .ge 9, 3, [33], 0), (.aload_n 0, 1, [], 0), (.iconst 2, 1, [], 2), (.invokevirtual 54, 3, [1, 9, 2, 6, 403], 0), (.ireturn, 1, [], 0)]
theorem ok_X7_sweep_22 : vBL MT qLen qCh false q_X7_sweep.2.2.2.2.1 q_X7_sweep.2.2.2.2.2.1 q_X7_sweep.2.2.1 q_X7_sweep.1.cls q_X7_sweep.1.name q_X7_sweep.2.1 0 22 I_X7_sweep_22 = true := by decide +kernel
def p_X7_sweep_22 (a0 : Nat) (x1 : Int32) (x2 : Int32) (h : AH) : Option (Int32 × AH) :=
  if x2 < x1 then (if (tg h a0).1 = 6 then ((p_X7_refuse a0 ((2 : Int32)) h).bind fun q107 =>
  some (q107.1, q107.2)) else none)
  else
  if (tg h a0).1 = 6 then (if (tg h a0).1 = 6 then (if (tg h (rR h a0 4)).1 = 1 then (if (tg h (rR h a0 5)).1 = 1 then ((p_X2_startFrom (rR h a0 5) (rR h (rR h a0 4) 0) h).bind fun h106 =>
  p_X7_sweep_49 FU a0 x2 x1 h106) else none) else none) else none) else none
set_option maxRecDepth 100000 in
theorem e_X7_sweep_22 {l : Launch} {D : va_G} {dA : Nat → ClassId} {z : Nat} {sa : Nat → Nat} {Hz : Heap} (E : StrOK qLen qCh l D dA z sa Hz) {h0 fin : AH} {x : Int32}  : ∀ (a0 : Nat) (x1 : Int32) (x2 : Int32) (h : AH), p_X7_sweep_22 a0 x1 x2 h = some (x, fin) → GM l D dA z sa Hz q_X7_sweep h0 (some (.int x)) fin 22 [(0, .ref a0), (1, .int x1), (2, .int x2)] [] h := by
  intro a0 x1 x2 h hd
  exact step E (is := I_X7_sweep_22) (pc := 22) (K := (kx 33 (fun la st h => gR la 0 fun a0 => gI la 1 fun x1 => gI la 2 fun x2 => sE st (p_X7_sweep_33 a0 x1 x2 h)) k0)) (FI := FI_X7_sweep) (FV := FV_X7_sweep) (FL := fL0) (rt := rtI) (ft := 0) (by exact hd) ok_X7_sweep_22 (kx_ok (fun la st h e => by obtain ⟨a0, m_a0, e1⟩ := gR_inv e; obtain ⟨x1, m_x1, e2⟩ := gI_inv e1; obtain ⟨x2, m_x2, e3⟩ := gI_inv e2; obtain ⟨rfl, ez⟩ := sE_inv e3; exact gm_fewer (e_X7_sweep_33 E  a0 x1 x2 h ez) (mem_cons m_a0 (mem_cons m_x1 (mem_cons m_x2 mem_nil)))) k0_ok) (FI_X7_sweep_ok E) (FV_X7_sweep_ok E) (fL0_ok E) (rtI_ok rfl)
def I_X7_sweep_0 : List AI := [(.aload_n 0, 1, [], 0), (.iload_n 1, 1, [], 0), (.invokevirtual 120, 3, [1, 68, 2, 6, 704], 0), (.ifCond .eq 11, 3, [16], 0), (.aload_n 0, 1, [], 0), (.iload_n 2, 1, [], 0), (.invokevirtual 120, 3, [1, 68, 2, 6, 704], 0), (.ifCond .ne 9, 3, [22], 0)]
theorem ok_X7_sweep_0 : vBL MT qLen qCh false q_X7_sweep.2.2.2.2.1 q_X7_sweep.2.2.2.2.2.1 q_X7_sweep.2.2.1 q_X7_sweep.1.cls q_X7_sweep.1.name q_X7_sweep.2.1 16 0 I_X7_sweep_0 = true := by decide +kernel
def p_X7_sweep (a0 : Nat) (x1 : Int32) (x2 : Int32) (h : AH) : Option (Int32 × AH) :=
  if (tg h a0).1 = 6 then ((p_X7_isPage a0 x1 h).bind fun q108 =>
  if q108.1 = 0 then (p_X7_sweep_16 a0 q108.2)
  else
  if (tg q108.2 a0).1 = 6 then ((p_X7_isPage a0 x2 q108.2).bind fun q109 =>
  if q109.1 = 0 then (p_X7_sweep_16 a0 q109.2)
  else
  if x2 < x1 then (if (tg q109.2 a0).1 = 6 then ((p_X7_refuse a0 ((2 : Int32)) q109.2).bind fun q111 =>
  some (q111.1, q111.2)) else none)
  else
  if (tg q109.2 a0).1 = 6 then (if (tg q109.2 a0).1 = 6 then (if (tg q109.2 (rR q109.2 a0 4)).1 = 1 then (if (tg q109.2 (rR q109.2 a0 5)).1 = 1 then ((p_X2_startFrom (rR q109.2 a0 5) (rR q109.2 (rR q109.2 a0 4) 0) q109.2).bind fun h110 =>
  p_X7_sweep_49 FU a0 x2 x1 h110) else none) else none) else none) else none) else none) else none
set_option maxRecDepth 100000 in
theorem e_X7_sweep_0 {l : Launch} {D : va_G} {dA : Nat → ClassId} {z : Nat} {sa : Nat → Nat} {Hz : Heap} (E : StrOK qLen qCh l D dA z sa Hz) {h0 fin : AH} {x : Int32}  : ∀ (a0 : Nat) (x1 : Int32) (x2 : Int32) (h : AH), p_X7_sweep a0 x1 x2 h = some (x, fin) → GM l D dA z sa Hz q_X7_sweep h0 (some (.int x)) fin 0 [(0, .ref a0), (1, .int x1), (2, .int x2)] [] h := by
  intro a0 x1 x2 h hd
  exact step E (is := I_X7_sweep_0) (pc := 0) (K := (kx 16 (fun la st h => gR la 0 fun a0 => sE st (p_X7_sweep_16 a0 h)) (kx 22 (fun la st h => gR la 0 fun a0 => gI la 1 fun x1 => gI la 2 fun x2 => sE st (p_X7_sweep_22 a0 x1 x2 h)) k0))) (FI := FI_X7_sweep) (FV := FV_X7_sweep) (FL := fL0) (rt := rtI) (ft := 16) (by exact hd) ok_X7_sweep_0 (kx_ok (fun la st h e => by obtain ⟨a0, m_a0, e1⟩ := gR_inv e; obtain ⟨rfl, ez⟩ := sE_inv e1; exact gm_fewer (e_X7_sweep_16 E  a0 h ez) (mem_cons m_a0 mem_nil)) (kx_ok (fun la st h e => by obtain ⟨a0, m_a0, e1⟩ := gR_inv e; obtain ⟨x1, m_x1, e2⟩ := gI_inv e1; obtain ⟨x2, m_x2, e3⟩ := gI_inv e2; obtain ⟨rfl, ez⟩ := sE_inv e3; exact gm_fewer (e_X7_sweep_22 E  a0 x1 x2 h ez) (mem_cons m_a0 (mem_cons m_x1 (mem_cons m_x2 mem_nil)))) k0_ok)) (FI_X7_sweep_ok E) (FV_X7_sweep_ok E) (fL0_ok E) (rtI_ok rfl)
theorem c_X7_sweep {l : Launch} {D : va_G} {dA : Nat → ClassId} {z : Nat} {sa : Nat → Nat} {Hz : Heap} (E : StrOK qLen qCh l D dA z sa Hz) {a0 : Nat} {x1 : Int32} {x2 : Int32} {h fin : AH} {x : Int32} (hd : p_X7_sweep a0 x1 x2 h = some (x, fin)) : CalOK l D dA z sa Hz q_X7_sweep [.ref a0, .int x1, .int x2] h (some (.int x)) fin := calOf (by decide +kernel) (Nat.le_of_ble_eq_true rfl) (e_X7_sweep_0 E a0 x1 x2 h hd)
def FI_X7_mayDraw : Nat → List Value → AH → Option (Int32 × AH) := (cx 121 (fun As h => sR As fun a0 As => sI As fun x1 As => sE As (p_X7_declines a0 x1 h)) (cx 122 (fun As h => sR As fun a0 As => sE As (p_X7_agrees a0 h)) fI0))
theorem FI_X7_mayDraw_ok {l : Launch} {D : va_G} {dA : Nat → ClassId} {z : Nat} {sa : Nat → Nat} {Hz : Heap} (E : StrOK qLen qCh l D dA z sa Hz) : ∀ mi As h x h', FI_X7_mayDraw mi As h = some (x, h') → CalOK l D dA z sa Hz (MT mi) As h (some (.int x)) h' := (cxI_ok (fun As h x h2 e => by obtain ⟨_, _, rfl, e0⟩ := sR_inv e; obtain ⟨_, _, rfl, e1⟩ := sI_inv e0; obtain ⟨rfl, ez⟩ := sE_inv e1; exact c_X7_declines E ez) ((cxI_ok (fun As h x h2 e => by obtain ⟨_, _, rfl, e0⟩ := sR_inv e; obtain ⟨rfl, ez⟩ := sE_inv e0; exact c_X7_agrees E ez) (fI0_ok E))))
def I_X7_mayDraw_35 : List AI := [(.aload_n 0, 1, [], 0), (.iconst 2, 1, [], 2), (.invokevirtual 294, 3, [1, 121, 2, 6, 930], 0), (.ireturn, 1, [], 0)]
theorem ok_X7_mayDraw_35 : vBL MT qLen qCh false q_X7_mayDraw.2.2.2.2.1 q_X7_mayDraw.2.2.2.2.2.1 q_X7_mayDraw.2.2.1 q_X7_mayDraw.1.cls q_X7_mayDraw.1.name q_X7_mayDraw.2.1 0 35 I_X7_mayDraw_35 = true := by decide +kernel
def p_X7_mayDraw_35 (a0 : Nat) (h : AH) : Option (Int32 × AH) :=
  if (tg h a0).1 = 6 then ((p_X7_declines a0 ((2 : Int32)) h).bind fun q101 =>
  if q101.1 &&& 1 = q101.1 then some (q101.1, q101.2) else none) else none
set_option maxRecDepth 100000 in
theorem e_X7_mayDraw_35 {l : Launch} {D : va_G} {dA : Nat → ClassId} {z : Nat} {sa : Nat → Nat} {Hz : Heap} (E : StrOK qLen qCh l D dA z sa Hz) {h0 fin : AH} {x : Int32}  : ∀ (a0 : Nat) (h : AH), p_X7_mayDraw_35 a0 h = some (x, fin) → GM l D dA z sa Hz q_X7_mayDraw h0 (some (.int x)) fin 35 [(0, .ref a0)] [] h := by
  intro a0 h hd
  exact step E (is := I_X7_mayDraw_35) (pc := 35) (K := k0) (FI := FI_X7_mayDraw) (FV := fV0) (FL := fL0) (rt := rtZ) (ft := 0) (by exact hd) ok_X7_mayDraw_35 k0_ok (FI_X7_mayDraw_ok E) (fV0_ok E) (fL0_ok E) (rtZ_ok rfl)
def I_X7_mayDraw_41 : List AI := [(.aload_n 0, 1, [], 0), (.invokevirtual 307, 3, [1, 122, 1, 6, 934], 0), (.ireturn, 1, [], 0)]
theorem ok_X7_mayDraw_41 : vBL MT qLen qCh false q_X7_mayDraw.2.2.2.2.1 q_X7_mayDraw.2.2.2.2.2.1 q_X7_mayDraw.2.2.1 q_X7_mayDraw.1.cls q_X7_mayDraw.1.name q_X7_mayDraw.2.1 0 41 I_X7_mayDraw_41 = true := by decide +kernel
def p_X7_mayDraw_41 (a0 : Nat) (h : AH) : Option (Int32 × AH) :=
  if (tg h a0).1 = 6 then ((p_X7_agrees a0 h).bind fun q102 =>
  if q102.1 &&& 1 = q102.1 then some (q102.1, q102.2) else none) else none
set_option maxRecDepth 100000 in
theorem e_X7_mayDraw_41 {l : Launch} {D : va_G} {dA : Nat → ClassId} {z : Nat} {sa : Nat → Nat} {Hz : Heap} (E : StrOK qLen qCh l D dA z sa Hz) {h0 fin : AH} {x : Int32}  : ∀ (a0 : Nat) (h : AH), p_X7_mayDraw_41 a0 h = some (x, fin) → GM l D dA z sa Hz q_X7_mayDraw h0 (some (.int x)) fin 41 [(0, .ref a0)] [] h := by
  intro a0 h hd
  exact step E (is := I_X7_mayDraw_41) (pc := 41) (K := k0) (FI := FI_X7_mayDraw) (FV := fV0) (FL := fL0) (rt := rtZ) (ft := 0) (by exact hd) ok_X7_mayDraw_41 k0_ok (FI_X7_mayDraw_ok E) (fV0_ok E) (fL0_ok E) (rtZ_ok rfl)
def I_X7_mayDraw_13 : List AI := [(.iload_n 1, 1, [], 0), (.ifCond .lt 21, 3, [35], 0), (.iload_n 1, 1, [], 0), (.ldc_w 358, 3, [0, 1035], 65536), (.if_icmp .gt 14, 3, [35], 0), (.iload_n 2, 1, [], 0), (.ifCond .lt 10, 3, [35], 0), (.iload_n 2, 1, [], 0), (.sipush 200, 3, [], 200), (.if_icmp .le 9, 3, [41], 0)]
theorem ok_X7_mayDraw_13 : vBL MT qLen qCh false q_X7_mayDraw.2.2.2.2.1 q_X7_mayDraw.2.2.2.2.2.1 q_X7_mayDraw.2.2.1 q_X7_mayDraw.1.cls q_X7_mayDraw.1.name q_X7_mayDraw.2.1 35 13 I_X7_mayDraw_13 = true := by decide +kernel
def p_X7_mayDraw_13 (a0 : Nat) (x1 : Int32) (x2 : Int32) (h : AH) : Option (Int32 × AH) :=
  if x1 < 0 then (p_X7_mayDraw_35 a0 h)
  else
  if ((65536 : Int32)) < x1 then (p_X7_mayDraw_35 a0 h)
  else
  if x2 < 0 then (p_X7_mayDraw_35 a0 h)
  else
  if ((200 : Int32)) < x2 then (p_X7_mayDraw_35 a0 h)
  else
  if (tg h a0).1 = 6 then ((p_X7_agrees a0 h).bind fun q103 =>
  if q103.1 &&& 1 = q103.1 then some (q103.1, q103.2) else none) else none
set_option maxRecDepth 100000 in
theorem e_X7_mayDraw_13 {l : Launch} {D : va_G} {dA : Nat → ClassId} {z : Nat} {sa : Nat → Nat} {Hz : Heap} (E : StrOK qLen qCh l D dA z sa Hz) {h0 fin : AH} {x : Int32}  : ∀ (a0 : Nat) (x1 : Int32) (x2 : Int32) (h : AH), p_X7_mayDraw_13 a0 x1 x2 h = some (x, fin) → GM l D dA z sa Hz q_X7_mayDraw h0 (some (.int x)) fin 13 [(0, .ref a0), (1, .int x1), (2, .int x2)] [] h := by
  intro a0 x1 x2 h hd
  exact step E (is := I_X7_mayDraw_13) (pc := 13) (K := (kx 35 (fun la st h => gR la 0 fun a0 => sE st (p_X7_mayDraw_35 a0 h)) (kx 41 (fun la st h => gR la 0 fun a0 => sE st (p_X7_mayDraw_41 a0 h)) k0))) (FI := FI_X7_mayDraw) (FV := fV0) (FL := fL0) (rt := rtZ) (ft := 35) (by exact hd) ok_X7_mayDraw_13 (kx_ok (fun la st h e => by obtain ⟨a0, m_a0, e1⟩ := gR_inv e; obtain ⟨rfl, ez⟩ := sE_inv e1; exact gm_fewer (e_X7_mayDraw_35 E  a0 h ez) (mem_cons m_a0 mem_nil)) (kx_ok (fun la st h e => by obtain ⟨a0, m_a0, e1⟩ := gR_inv e; obtain ⟨rfl, ez⟩ := sE_inv e1; exact gm_fewer (e_X7_mayDraw_41 E  a0 h ez) (mem_cons m_a0 mem_nil)) k0_ok)) (FI_X7_mayDraw_ok E) (fV0_ok E) (fL0_ok E) (rtZ_ok rfl)
def I_X7_mayDraw_0 : List AI := [(.aload_n 0, 1, [], 0), (.getfield 107, 3, [6, 3, 3, 357], 0), (.ifCond .ne 9, 3, [13], 0), (.aload_n 0, 1, [], 0), (.iconst 1, 1, [], 1), (.invokevirtual 294, 3, [1, 121, 2, 6, 930], 0), (.ireturn, 1, [], 0)]
theorem ok_X7_mayDraw_0 : vBL MT qLen qCh false q_X7_mayDraw.2.2.2.2.1 q_X7_mayDraw.2.2.2.2.2.1 q_X7_mayDraw.2.2.1 q_X7_mayDraw.1.cls q_X7_mayDraw.1.name q_X7_mayDraw.2.1 0 0 I_X7_mayDraw_0 = true := by decide +kernel
def p_X7_mayDraw (a0 : Nat) (x1 : Int32) (x2 : Int32) (h : AH) : Option (Int32 × AH) :=
  if (tg h a0).1 = 6 then (if (rI h a0 3) = 0 then (if (tg h a0).1 = 6 then ((p_X7_declines a0 ((1 : Int32)) h).bind fun q105 =>
  if q105.1 &&& 1 = q105.1 then some (q105.1, q105.2) else none) else none)
  else
  if x1 < 0 then (p_X7_mayDraw_35 a0 h)
  else
  if ((65536 : Int32)) < x1 then (p_X7_mayDraw_35 a0 h)
  else
  if x2 < 0 then (p_X7_mayDraw_35 a0 h)
  else
  if ((200 : Int32)) < x2 then (p_X7_mayDraw_35 a0 h)
  else
  if (tg h a0).1 = 6 then ((p_X7_agrees a0 h).bind fun q104 =>
  if q104.1 &&& 1 = q104.1 then some (q104.1, q104.2) else none) else none) else none
set_option maxRecDepth 100000 in
theorem e_X7_mayDraw_0 {l : Launch} {D : va_G} {dA : Nat → ClassId} {z : Nat} {sa : Nat → Nat} {Hz : Heap} (E : StrOK qLen qCh l D dA z sa Hz) {h0 fin : AH} {x : Int32}  : ∀ (a0 : Nat) (x1 : Int32) (x2 : Int32) (h : AH), p_X7_mayDraw a0 x1 x2 h = some (x, fin) → GM l D dA z sa Hz q_X7_mayDraw h0 (some (.int x)) fin 0 [(0, .ref a0), (1, .int x1), (2, .int x2)] [] h := by
  intro a0 x1 x2 h hd
  exact step E (is := I_X7_mayDraw_0) (pc := 0) (K := (kx 13 (fun la st h => gR la 0 fun a0 => gI la 1 fun x1 => gI la 2 fun x2 => sE st (p_X7_mayDraw_13 a0 x1 x2 h)) k0)) (FI := FI_X7_mayDraw) (FV := fV0) (FL := fL0) (rt := rtZ) (ft := 0) (by exact hd) ok_X7_mayDraw_0 (kx_ok (fun la st h e => by obtain ⟨a0, m_a0, e1⟩ := gR_inv e; obtain ⟨x1, m_x1, e2⟩ := gI_inv e1; obtain ⟨x2, m_x2, e3⟩ := gI_inv e2; obtain ⟨rfl, ez⟩ := sE_inv e3; exact gm_fewer (e_X7_mayDraw_13 E  a0 x1 x2 h ez) (mem_cons m_a0 (mem_cons m_x1 (mem_cons m_x2 mem_nil)))) k0_ok) (FI_X7_mayDraw_ok E) (fV0_ok E) (fL0_ok E) (rtZ_ok rfl)
theorem c_X7_mayDraw {l : Launch} {D : va_G} {dA : Nat → ClassId} {z : Nat} {sa : Nat → Nat} {Hz : Heap} (E : StrOK qLen qCh l D dA z sa Hz) {a0 : Nat} {x1 : Int32} {x2 : Int32} {h fin : AH} {x : Int32} (hd : p_X7_mayDraw a0 x1 x2 h = some (x, fin)) : CalOK l D dA z sa Hz q_X7_mayDraw [.ref a0, .int x1, .int x2] h (some (.int x)) fin := calOf (by decide +kernel) (Nat.le_of_ble_eq_true rfl) (e_X7_mayDraw_0 E a0 x1 x2 h hd)
def I_X7_nextSeed_0 : List AI := [(.bipush 75, 2, [], 75), (.iload_n 0, 1, [], 0), (.imul, 1, [], 0), (.bipush 74, 2, [], 74), (.iadd, 1, [], 0), (.ldc_w 369, 3, [0, 1043], 65537), (.irem, 1, [], 0), (.ireturn, 1, [], 0)]
theorem ok_X7_nextSeed_0 : vBL MT qLen qCh false q_X7_nextSeed.2.2.2.2.1 q_X7_nextSeed.2.2.2.2.2.1 q_X7_nextSeed.2.2.1 q_X7_nextSeed.1.cls q_X7_nextSeed.1.name q_X7_nextSeed.2.1 0 0 I_X7_nextSeed_0 = true := by decide +kernel
def p_X7_nextSeed (x0 : Int32) (h : AH) : Option (Int32 × AH) :=
  if ((65537 : Int32)) = 0 then none else
  some ((irm ((((75 : Int32)) * x0) + ((74 : Int32))) ((65537 : Int32))), h)
set_option maxRecDepth 100000 in
theorem e_X7_nextSeed_0 {l : Launch} {D : va_G} {dA : Nat → ClassId} {z : Nat} {sa : Nat → Nat} {Hz : Heap} (E : StrOK qLen qCh l D dA z sa Hz) {h0 fin : AH} {x : Int32}  : ∀ (x0 : Int32) (h : AH), p_X7_nextSeed x0 h = some (x, fin) → GM l D dA z sa Hz q_X7_nextSeed h0 (some (.int x)) fin 0 [(0, .int x0)] [] h := by
  intro x0 h hd
  exact step E (is := I_X7_nextSeed_0) (pc := 0) (K := k0) (FI := fI0) (FV := fV0) (FL := fL0) (rt := rtI) (ft := 0) (by exact hd) ok_X7_nextSeed_0 k0_ok (fI0_ok E) (fV0_ok E) (fL0_ok E) (rtI_ok rfl)
theorem c_X7_nextSeed {l : Launch} {D : va_G} {dA : Nat → ClassId} {z : Nat} {sa : Nat → Nat} {Hz : Heap} (E : StrOK qLen qCh l D dA z sa Hz) {x0 : Int32} {h fin : AH} {x : Int32} (hd : p_X7_nextSeed x0 h = some (x, fin)) : CalOK l D dA z sa Hz q_X7_nextSeed [.int x0] h (some (.int x)) fin := calOf (by decide +kernel) (Nat.le_of_ble_eq_true rfl) (e_X7_nextSeed_0 E x0 h hd)
def FI_X7_runDrawn : Nat → List Value → AH → Option (Int32 × AH) := (cx 145 (fun As h => sI As fun x0 As => sE As (p_X7_nextSeed x0 h)) (cx 134 (fun As h => sR As fun a0 As => sI As fun x1 As => sI As fun x2 As => sE As (p_X2_reach a0 x1 x2 h)) fI0))
theorem FI_X7_runDrawn_ok {l : Launch} {D : va_G} {dA : Nat → ClassId} {z : Nat} {sa : Nat → Nat} {Hz : Heap} (E : StrOK qLen qCh l D dA z sa Hz) : ∀ mi As h x h', FI_X7_runDrawn mi As h = some (x, h') → CalOK l D dA z sa Hz (MT mi) As h (some (.int x)) h' := (cxI_ok (fun As h x h2 e => by obtain ⟨_, _, rfl, e0⟩ := sI_inv e; obtain ⟨rfl, ez⟩ := sE_inv e0; exact c_X7_nextSeed E ez) ((cxI_ok (fun As h x h2 e => by obtain ⟨_, _, rfl, e0⟩ := sR_inv e; obtain ⟨_, _, rfl, e1⟩ := sI_inv e0; obtain ⟨_, _, rfl, e2⟩ := sI_inv e1; obtain ⟨rfl, ez⟩ := sE_inv e2; exact c_X2_reach E ez) (fI0_ok E))))
def FV_X7_runDrawn : Nat → List Value → AH → Option (AH) := (cx 142 (fun As h => sR As fun a0 As => sR As fun a1 As => sE As (p_X2_startFrom a0 a1 h)) fV0)
theorem FV_X7_runDrawn_ok {l : Launch} {D : va_G} {dA : Nat → ClassId} {z : Nat} {sa : Nat → Nat} {Hz : Heap} (E : StrOK qLen qCh l D dA z sa Hz) : ∀ mi As h h', FV_X7_runDrawn mi As h = some h' → CalOK l D dA z sa Hz (MT mi) As h none h' := (cxV_ok (fun As h h2 e => by obtain ⟨_, _, rfl, e0⟩ := sR_inv e; obtain ⟨_, _, rfl, e1⟩ := sR_inv e0; obtain ⟨rfl, ez⟩ := sE_inv e1; exact c_X2_startFrom E ez) (fV0_ok E))
def I_X7_runDrawn_60 : List AI := [(.return_, 1, [], 0)]
theorem ok_X7_runDrawn_60 : vBL MT qLen qCh false q_X7_runDrawn.2.2.2.2.1 q_X7_runDrawn.2.2.2.2.2.1 q_X7_runDrawn.2.2.1 q_X7_runDrawn.1.cls q_X7_runDrawn.1.name q_X7_runDrawn.2.1 0 60 I_X7_runDrawn_60 = true := by decide +kernel
def p_X7_runDrawn_60 (h : AH) : Option (AH) :=
  some h
set_option maxRecDepth 100000 in
theorem e_X7_runDrawn_60 {l : Launch} {D : va_G} {dA : Nat → ClassId} {z : Nat} {sa : Nat → Nat} {Hz : Heap} (E : StrOK qLen qCh l D dA z sa Hz) {h0 fin : AH}  : ∀  (h : AH), p_X7_runDrawn_60 h = some fin → GM l D dA z sa Hz q_X7_runDrawn h0 none fin 60 [] [] h := by
  intro h hd
  exact step E (is := I_X7_runDrawn_60) (pc := 60) (K := k0) (FI := FI_X7_runDrawn) (FV := FV_X7_runDrawn) (FL := fL0) (rt := rtV) (ft := 0) (by exact hd) ok_X7_runDrawn_60 k0_ok (FI_X7_runDrawn_ok E) (FV_X7_runDrawn_ok E) (fL0_ok E) (rtV_ok rfl)
def I_X7_runDrawn_30 : List AI := [(.iload_n 3, 1, [], 0), (.bipush 64, 2, [], 64), (.irem, 1, [], 0), (.istore 5, 2, [], 0), (.iload_n 3, 1, [], 0), (.invokestatic 363, 3, [1, 145, 1, 1040], 0), (.istore_n 3, 1, [], 0), (.aload_n 0, 1, [], 0), (.getfield 33, 3, [6, 5, 2, 359], 0), (.iload 5, 2, [], 0), (.iload_n 3, 1, [], 0), (.iconst 4, 1, [], 4), (.irem, 1, [], 0), (.invokevirtual 214, 3, [1, 134, 3, 1, 942], 0), (.pop, 1, [], 0), (.iinc 4 1, 3, [], 1), (.goto (-38), 3, [19], 0)]
theorem ok_X7_runDrawn_30 : vBL MT qLen qCh false q_X7_runDrawn.2.2.2.2.1 q_X7_runDrawn.2.2.2.2.2.1 q_X7_runDrawn.2.2.1 q_X7_runDrawn.1.cls q_X7_runDrawn.1.name q_X7_runDrawn.2.1 0 30 I_X7_runDrawn_30 = true := by decide +kernel
def p_X7_runDrawn_30 (k19 : Nat → Int32 → Int32 → Int32 → AH → Option (AH)) (a0 : Nat) (x2 : Int32) (x3 : Int32) (x4 : Int32) (h : AH) : Option (AH) :=
  if ((64 : Int32)) = 0 then none else
  let x101 := irm x3 ((64 : Int32))
  (p_X7_nextSeed x3 h).bind fun q102 =>
  if (tg q102.2 a0).1 = 6 then (if ((4 : Int32)) = 0 then none else
  if (tg q102.2 (rR q102.2 a0 5)).1 = 1 then ((p_X2_reach (rR q102.2 a0 5) x101 (irm q102.1 ((4 : Int32))) q102.2).bind fun q103 =>
  k19 a0 x2 q102.1 (x4 + (1 : Int32)) q103.2) else none) else none
set_option maxRecDepth 100000 in
theorem e_X7_runDrawn_30 {l : Launch} {D : va_G} {dA : Nat → ClassId} {z : Nat} {sa : Nat → Nat} {Hz : Heap} (E : StrOK qLen qCh l D dA z sa Hz) {h0 fin : AH}  {k19 : Nat → Int32 → Int32 → Int32 → AH → Option (AH)} (hk19 : ∀ (a0 : Nat) (x2 : Int32) (x3 : Int32) (x4 : Int32) (h : AH), k19 a0 x2 x3 x4 h = some fin → GM l D dA z sa Hz q_X7_runDrawn h0 none fin 19 [(0, .ref a0), (2, .int x2), (3, .int x3), (4, .int x4)] [] h) : ∀ (a0 : Nat) (x2 : Int32) (x3 : Int32) (x4 : Int32) (h : AH), p_X7_runDrawn_30 k19 a0 x2 x3 x4 h = some fin → GM l D dA z sa Hz q_X7_runDrawn h0 none fin 30 [(0, .ref a0), (2, .int x2), (3, .int x3), (4, .int x4)] [] h := by
  intro a0 x2 x3 x4 h hd
  exact step E (is := I_X7_runDrawn_30) (pc := 30) (K := (kx 19 (fun la st h => gR la 0 fun a0 => gI la 2 fun x2 => gI la 3 fun x3 => gI la 4 fun x4 => sE st (k19 a0 x2 x3 x4 h)) k0)) (FI := FI_X7_runDrawn) (FV := FV_X7_runDrawn) (FL := fL0) (rt := rtV) (ft := 0) (by exact hd) ok_X7_runDrawn_30 (kx_ok (fun la st h e => by obtain ⟨a0, m_a0, e1⟩ := gR_inv e; obtain ⟨x2, m_x2, e2⟩ := gI_inv e1; obtain ⟨x3, m_x3, e3⟩ := gI_inv e2; obtain ⟨x4, m_x4, e4⟩ := gI_inv e3; obtain ⟨rfl, ez⟩ := sE_inv e4; exact gm_fewer (hk19 a0 x2 x3 x4 h ez) (mem_cons m_a0 (mem_cons m_x2 (mem_cons m_x3 (mem_cons m_x4 mem_nil))))) k0_ok) (FI_X7_runDrawn_ok E) (FV_X7_runDrawn_ok E) (fL0_ok E) (rtV_ok rfl)
def I_X7_runDrawn_19 : List AI := [(.iload 4, 2, [], 0), (.iload_n 2, 1, [], 0), (.if_icmp .ge 38, 3, [60], 0), (.iload_n 3, 1, [], 0), (.invokestatic 363, 3, [1, 145, 1, 1040], 0), (.istore_n 3, 1, [], 0)]
theorem ok_X7_runDrawn_19 : vBL MT qLen qCh false q_X7_runDrawn.2.2.2.2.1 q_X7_runDrawn.2.2.2.2.2.1 q_X7_runDrawn.2.2.1 q_X7_runDrawn.1.cls q_X7_runDrawn.1.name q_X7_runDrawn.2.1 30 19 I_X7_runDrawn_19 = true := by decide +kernel
def p_X7_runDrawn_19 : Nat → Nat → Int32 → Int32 → Int32 → AH → Option (AH)
  | 0, _, _, _, _, _ => none
  | n + 1, a0, x2, x3, x4, h => if x4 < x2 then ((p_X7_nextSeed x3 h).bind fun q104 =>
    p_X7_runDrawn_30 (p_X7_runDrawn_19 n) a0 x2 q104.1 x4 q104.2)
    else
    some h
set_option maxRecDepth 100000 in
theorem a_X7_runDrawn_19 (f : Int32 → AH → Option (Int32 × AH)) (g : Nat → Int32 → Int32 → AH → Option (Int32 × AH)) (k30 : Nat → Int32 → Int32 → Int32 → AH → Option AH) (k60 : AH → Option AH) (a0 : Nat) (x2 x3 x4 : Int32) (h : AH) : evL (kx 60 (fun la st h => sE st (k60 h)) (kx 30 (fun la st h => gR la 0 fun a0 => gI la 2 fun x2 => gI la 3 fun x3 => gI la 4 fun x4 => sE st (k30 a0 x2 x3 x4 h)) k0)) (cx 145 (fun As h => sI As fun x0 As => sE As (f x0 h)) (cx 134 (fun As h => sR As fun a0 As => sI As fun x1 As => sI As fun x2 As => sE As (g a0 x1 x2 h)) fI0)) FV_X7_runDrawn fL0 strLen strCh (0, fun _ => 0) rtV 30 I_X7_runDrawn_19 [(0, .ref a0), (2, .int x2), (3, .int x3), (4, .int x4)] [] h = (if x4 < x2 then (f x3 h).bind fun q => k30 a0 x2 q.1 x4 q.2 else k60 h) := rfl
set_option maxRecDepth 100000 in
theorem e_X7_runDrawn_19 {l : Launch} {D : va_G} {dA : Nat → ClassId} {z : Nat} {sa : Nat → Nat} {Hz : Heap} (E : StrOK qLen qCh l D dA z sa Hz) {h0 fin : AH}  : ∀ (n : Nat) (a0 : Nat) (x2 : Int32) (x3 : Int32) (x4 : Int32) (h : AH), p_X7_runDrawn_19 n a0 x2 x3 x4 h = some fin → GM l D dA z sa Hz q_X7_runDrawn h0 none fin 19 [(0, .ref a0), (2, .int x2), (3, .int x3), (4, .int x4)] [] h := by
  intro n
  induction n with
  | zero => intro a0 x2 x3 x4 h hd; exact nomatch hd
  | succ n ih =>
    intro a0 x2 x3 x4 h hd
    exact step E (is := I_X7_runDrawn_19) (pc := 19) (K := (kx 60 (fun la st h => sE st (p_X7_runDrawn_60 h)) (kx 30 (fun la st h => gR la 0 fun a0 => gI la 2 fun x2 => gI la 3 fun x3 => gI la 4 fun x4 => sE st (p_X7_runDrawn_30 (p_X7_runDrawn_19 n) a0 x2 x3 x4 h)) k0))) (FI := FI_X7_runDrawn) (FV := FV_X7_runDrawn) (FL := fL0) (rt := rtV) (ft := 30) ((a_X7_runDrawn_19 p_X7_nextSeed p_X2_reach (p_X7_runDrawn_30 (p_X7_runDrawn_19 n)) p_X7_runDrawn_60 a0 x2 x3 x4 h).trans hd) ok_X7_runDrawn_19 (kx_ok (fun la st h e => by obtain ⟨rfl, ez⟩ := sE_inv e; exact gm_fewer (e_X7_runDrawn_60 E   h ez) mem_nil) (kx_ok (fun la st h e => by obtain ⟨a0, m_a0, e1⟩ := gR_inv e; obtain ⟨x2, m_x2, e2⟩ := gI_inv e1; obtain ⟨x3, m_x3, e3⟩ := gI_inv e2; obtain ⟨x4, m_x4, e4⟩ := gI_inv e3; obtain ⟨rfl, ez⟩ := sE_inv e4; exact gm_fewer (e_X7_runDrawn_30 E ih a0 x2 x3 x4 h ez) (mem_cons m_a0 (mem_cons m_x2 (mem_cons m_x3 (mem_cons m_x4 mem_nil))))) k0_ok)) (FI_X7_runDrawn_ok E) (FV_X7_runDrawn_ok E) (fL0_ok E) (rtV_ok rfl)
def I_X7_runDrawn_0 : List AI := [(.aload_n 0, 1, [], 0), (.getfield 33, 3, [6, 5, 2, 359], 0), (.aload_n 0, 1, [], 0), (.getfield 29, 3, [6, 4, 2, 358], 0), (.getfield 206, 3, [1, 0, 2, 319], 0), (.invokevirtual 210, 3, [2, 142, 2, 1, 1013], 0), (.iload_n 1, 1, [], 0), (.istore_n 3, 1, [], 0), (.iconst 0, 1, [], 0), (.istore 4, 2, [], 0)]
theorem ok_X7_runDrawn_0 : vBL MT qLen qCh false q_X7_runDrawn.2.2.2.2.1 q_X7_runDrawn.2.2.2.2.2.1 q_X7_runDrawn.2.2.1 q_X7_runDrawn.1.cls q_X7_runDrawn.1.name q_X7_runDrawn.2.1 19 0 I_X7_runDrawn_0 = true := by decide +kernel
def p_X7_runDrawn (a0 : Nat) (x1 : Int32) (x2 : Int32) (h : AH) : Option (AH) :=
  if (tg h a0).1 = 6 then (if (tg h a0).1 = 6 then (if (tg h (rR h a0 4)).1 = 1 then (if (tg h (rR h a0 5)).1 = 1 then ((p_X2_startFrom (rR h a0 5) (rR h (rR h a0 4) 0) h).bind fun h105 =>
  p_X7_runDrawn_19 FU a0 x2 x1 ((0 : Int32)) h105) else none) else none) else none) else none
set_option maxRecDepth 100000 in
theorem e_X7_runDrawn_0 {l : Launch} {D : va_G} {dA : Nat → ClassId} {z : Nat} {sa : Nat → Nat} {Hz : Heap} (E : StrOK qLen qCh l D dA z sa Hz) {h0 fin : AH}  : ∀ (a0 : Nat) (x1 : Int32) (x2 : Int32) (h : AH), p_X7_runDrawn a0 x1 x2 h = some fin → GM l D dA z sa Hz q_X7_runDrawn h0 none fin 0 [(0, .ref a0), (1, .int x1), (2, .int x2)] [] h := by
  intro a0 x1 x2 h hd
  exact step E (is := I_X7_runDrawn_0) (pc := 0) (K := (kx 19 (fun la st h => gR la 0 fun a0 => gI la 2 fun x2 => gI la 3 fun x3 => gI la 4 fun x4 => sE st (p_X7_runDrawn_19 FU a0 x2 x3 x4 h)) k0)) (FI := FI_X7_runDrawn) (FV := FV_X7_runDrawn) (FL := fL0) (rt := rtV) (ft := 19) (by exact hd) ok_X7_runDrawn_0 (kx_ok (fun la st h e => by obtain ⟨a0, m_a0, e1⟩ := gR_inv e; obtain ⟨x2, m_x2, e2⟩ := gI_inv e1; obtain ⟨x3, m_x3, e3⟩ := gI_inv e2; obtain ⟨x4, m_x4, e4⟩ := gI_inv e3; obtain ⟨rfl, ez⟩ := sE_inv e4; exact gm_fewer (e_X7_runDrawn_19 E  FU a0 x2 x3 x4 h ez) (mem_cons m_a0 (mem_cons m_x2 (mem_cons m_x3 (mem_cons m_x4 mem_nil))))) k0_ok) (FI_X7_runDrawn_ok E) (FV_X7_runDrawn_ok E) (fL0_ok E) (rtV_ok rfl)
theorem c_X7_runDrawn {l : Launch} {D : va_G} {dA : Nat → ClassId} {z : Nat} {sa : Nat → Nat} {Hz : Heap} (E : StrOK qLen qCh l D dA z sa Hz) {a0 : Nat} {x1 : Int32} {x2 : Int32} {h fin : AH} (hd : p_X7_runDrawn a0 x1 x2 h = some fin) : CalOK l D dA z sa Hz q_X7_runDrawn [.ref a0, .int x1, .int x2] h none fin := calOf (by decide +kernel) (Nat.le_of_ble_eq_true rfl) (e_X7_runDrawn_0 E a0 x1 x2 h hd)
def FI_X7_drawnFaults : Nat → List Value → AH → Option (Int32 × AH) := (cx 144 (fun As h => sR As fun a0 As => sI As fun x1 As => sI As fun x2 As => sE As (p_X7_mayDraw a0 x1 x2 h)) (cx 50 (fun As h => sR As fun a0 As => sI As fun x1 As => sE As (p_X7_answer a0 x1 h)) fI0))
theorem FI_X7_drawnFaults_ok {l : Launch} {D : va_G} {dA : Nat → ClassId} {z : Nat} {sa : Nat → Nat} {Hz : Heap} (E : StrOK qLen qCh l D dA z sa Hz) : ∀ mi As h x h', FI_X7_drawnFaults mi As h = some (x, h') → CalOK l D dA z sa Hz (MT mi) As h (some (.int x)) h' := (cxI_ok (fun As h x h2 e => by obtain ⟨_, _, rfl, e0⟩ := sR_inv e; obtain ⟨_, _, rfl, e1⟩ := sI_inv e0; obtain ⟨_, _, rfl, e2⟩ := sI_inv e1; obtain ⟨rfl, ez⟩ := sE_inv e2; exact c_X7_mayDraw E ez) ((cxI_ok (fun As h x h2 e => by obtain ⟨_, _, rfl, e0⟩ := sR_inv e; obtain ⟨_, _, rfl, e1⟩ := sI_inv e0; obtain ⟨rfl, ez⟩ := sE_inv e1; exact c_X7_answer E ez) (fI0_ok E))))
def FV_X7_drawnFaults : Nat → List Value → AH → Option (AH) := (cx 146 (fun As h => sR As fun a0 As => sI As fun x1 As => sI As fun x2 As => sE As (p_X7_runDrawn a0 x1 x2 h)) fV0)
theorem FV_X7_drawnFaults_ok {l : Launch} {D : va_G} {dA : Nat → ClassId} {z : Nat} {sa : Nat → Nat} {Hz : Heap} (E : StrOK qLen qCh l D dA z sa Hz) : ∀ mi As h h', FV_X7_drawnFaults mi As h = some h' → CalOK l D dA z sa Hz (MT mi) As h none h' := (cxV_ok (fun As h h2 e => by obtain ⟨_, _, rfl, e0⟩ := sR_inv e; obtain ⟨_, _, rfl, e1⟩ := sI_inv e0; obtain ⟨_, _, rfl, e2⟩ := sI_inv e1; obtain ⟨rfl, ez⟩ := sE_inv e2; exact c_X7_runDrawn E ez) (fV0_ok E))
def I_X7_drawnFaults_11 : List AI := [(.aload_n 0, 1, [], 0), (.iload_n 1, 1, [], 0), (.iload_n 2, 1, [], 0), (.invokevirtual 220, 3, [2, 146, 3, 6, 1036], 0), (.aload_n 0, 1, [], 0), (.aload_n 0, 1, [], 0), (.getfield 33, 3, [6, 5, 2, 359], 0), (.getfield 197, 3, [1, 4, 0, 327], 0), (.invokevirtual 68, 3, [1, 50, 2, 6, 633], 0), (.ireturn, 1, [], 0)]
theorem ok_X7_drawnFaults_11 : vBL MT qLen qCh false q_X7_drawnFaults.2.2.2.2.1 q_X7_drawnFaults.2.2.2.2.2.1 q_X7_drawnFaults.2.2.1 q_X7_drawnFaults.1.cls q_X7_drawnFaults.1.name q_X7_drawnFaults.2.1 0 11 I_X7_drawnFaults_11 = true := by decide +kernel
def p_X7_drawnFaults_11 (a0 : Nat) (x1 : Int32) (x2 : Int32) (h : AH) : Option (Int32 × AH) :=
  if (tg h a0).1 = 6 then ((p_X7_runDrawn a0 x1 x2 h).bind fun h101 =>
  if (tg h101 a0).1 = 6 then (if (tg h101 (rR h101 a0 5)).1 = 1 then (if (tg h101 a0).1 = 6 then ((p_X7_answer a0 (rI h101 (rR h101 a0 5) 4) h101).bind fun q102 =>
  some (q102.1, q102.2)) else none) else none) else none) else none
set_option maxRecDepth 100000 in
theorem e_X7_drawnFaults_11 {l : Launch} {D : va_G} {dA : Nat → ClassId} {z : Nat} {sa : Nat → Nat} {Hz : Heap} (E : StrOK qLen qCh l D dA z sa Hz) {h0 fin : AH} {x : Int32}  : ∀ (a0 : Nat) (x1 : Int32) (x2 : Int32) (h : AH), p_X7_drawnFaults_11 a0 x1 x2 h = some (x, fin) → GM l D dA z sa Hz q_X7_drawnFaults h0 (some (.int x)) fin 11 [(0, .ref a0), (1, .int x1), (2, .int x2)] [] h := by
  intro a0 x1 x2 h hd
  exact step E (is := I_X7_drawnFaults_11) (pc := 11) (K := k0) (FI := FI_X7_drawnFaults) (FV := FV_X7_drawnFaults) (FL := fL0) (rt := rtI) (ft := 0) (by exact hd) ok_X7_drawnFaults_11 k0_ok (FI_X7_drawnFaults_ok E) (FV_X7_drawnFaults_ok E) (fL0_ok E) (rtI_ok rfl)
def I_X7_drawnFaults_0 : List AI := [(.aload_n 0, 1, [], 0), (.iload_n 1, 1, [], 0), (.iload_n 2, 1, [], 0), (.invokevirtual 217, 3, [1, 144, 3, 6, 1031], 0), (.ifCond .ne 5, 3, [11], 0), (.iconst (-1), 1, [], (-1)), (.ireturn, 1, [], 0)]
theorem ok_X7_drawnFaults_0 : vBL MT qLen qCh false q_X7_drawnFaults.2.2.2.2.1 q_X7_drawnFaults.2.2.2.2.2.1 q_X7_drawnFaults.2.2.1 q_X7_drawnFaults.1.cls q_X7_drawnFaults.1.name q_X7_drawnFaults.2.1 0 0 I_X7_drawnFaults_0 = true := by decide +kernel
def p_X7_drawnFaults (a0 : Nat) (x1 : Int32) (x2 : Int32) (h : AH) : Option (Int32 × AH) :=
  if (tg h a0).1 = 6 then ((p_X7_mayDraw a0 x1 x2 h).bind fun q103 =>
  if q103.1 = 0 then (some (((-1 : Int32)), q103.2))
  else
  if (tg q103.2 a0).1 = 6 then ((p_X7_runDrawn a0 x1 x2 q103.2).bind fun h104 =>
  if (tg h104 a0).1 = 6 then (if (tg h104 (rR h104 a0 5)).1 = 1 then (if (tg h104 a0).1 = 6 then ((p_X7_answer a0 (rI h104 (rR h104 a0 5) 4) h104).bind fun q105 =>
  some (q105.1, q105.2)) else none) else none) else none) else none) else none
set_option maxRecDepth 100000 in
theorem e_X7_drawnFaults_0 {l : Launch} {D : va_G} {dA : Nat → ClassId} {z : Nat} {sa : Nat → Nat} {Hz : Heap} (E : StrOK qLen qCh l D dA z sa Hz) {h0 fin : AH} {x : Int32}  : ∀ (a0 : Nat) (x1 : Int32) (x2 : Int32) (h : AH), p_X7_drawnFaults a0 x1 x2 h = some (x, fin) → GM l D dA z sa Hz q_X7_drawnFaults h0 (some (.int x)) fin 0 [(0, .ref a0), (1, .int x1), (2, .int x2)] [] h := by
  intro a0 x1 x2 h hd
  exact step E (is := I_X7_drawnFaults_0) (pc := 0) (K := (kx 11 (fun la st h => gR la 0 fun a0 => gI la 1 fun x1 => gI la 2 fun x2 => sE st (p_X7_drawnFaults_11 a0 x1 x2 h)) k0)) (FI := FI_X7_drawnFaults) (FV := FV_X7_drawnFaults) (FL := fL0) (rt := rtI) (ft := 0) (by exact hd) ok_X7_drawnFaults_0 (kx_ok (fun la st h e => by obtain ⟨a0, m_a0, e1⟩ := gR_inv e; obtain ⟨x1, m_x1, e2⟩ := gI_inv e1; obtain ⟨x2, m_x2, e3⟩ := gI_inv e2; obtain ⟨rfl, ez⟩ := sE_inv e3; exact gm_fewer (e_X7_drawnFaults_11 E  a0 x1 x2 h ez) (mem_cons m_a0 (mem_cons m_x1 (mem_cons m_x2 mem_nil)))) k0_ok) (FI_X7_drawnFaults_ok E) (FV_X7_drawnFaults_ok E) (fL0_ok E) (rtI_ok rfl)
theorem c_X7_drawnFaults {l : Launch} {D : va_G} {dA : Nat → ClassId} {z : Nat} {sa : Nat → Nat} {Hz : Heap} (E : StrOK qLen qCh l D dA z sa Hz) {a0 : Nat} {x1 : Int32} {x2 : Int32} {h fin : AH} {x : Int32} (hd : p_X7_drawnFaults a0 x1 x2 h = some (x, fin)) : CalOK l D dA z sa Hz q_X7_drawnFaults [.ref a0, .int x1, .int x2] h (some (.int x)) fin := calOf (by decide +kernel) (Nat.le_of_ble_eq_true rfl) (e_X7_drawnFaults_0 E a0 x1 x2 h hd)
def FI_X7_drawnMarks : Nat → List Value → AH → Option (Int32 × AH) := (cx 144 (fun As h => sR As fun a0 As => sI As fun x1 As => sI As fun x2 As => sE As (p_X7_mayDraw a0 x1 x2 h)) (cx 50 (fun As h => sR As fun a0 As => sI As fun x1 As => sE As (p_X7_answer a0 x1 h)) fI0))
theorem FI_X7_drawnMarks_ok {l : Launch} {D : va_G} {dA : Nat → ClassId} {z : Nat} {sa : Nat → Nat} {Hz : Heap} (E : StrOK qLen qCh l D dA z sa Hz) : ∀ mi As h x h', FI_X7_drawnMarks mi As h = some (x, h') → CalOK l D dA z sa Hz (MT mi) As h (some (.int x)) h' := (cxI_ok (fun As h x h2 e => by obtain ⟨_, _, rfl, e0⟩ := sR_inv e; obtain ⟨_, _, rfl, e1⟩ := sI_inv e0; obtain ⟨_, _, rfl, e2⟩ := sI_inv e1; obtain ⟨rfl, ez⟩ := sE_inv e2; exact c_X7_mayDraw E ez) ((cxI_ok (fun As h x h2 e => by obtain ⟨_, _, rfl, e0⟩ := sR_inv e; obtain ⟨_, _, rfl, e1⟩ := sI_inv e0; obtain ⟨rfl, ez⟩ := sE_inv e1; exact c_X7_answer E ez) (fI0_ok E))))
def FV_X7_drawnMarks : Nat → List Value → AH → Option (AH) := (cx 146 (fun As h => sR As fun a0 As => sI As fun x1 As => sI As fun x2 As => sE As (p_X7_runDrawn a0 x1 x2 h)) fV0)
theorem FV_X7_drawnMarks_ok {l : Launch} {D : va_G} {dA : Nat → ClassId} {z : Nat} {sa : Nat → Nat} {Hz : Heap} (E : StrOK qLen qCh l D dA z sa Hz) : ∀ mi As h h', FV_X7_drawnMarks mi As h = some h' → CalOK l D dA z sa Hz (MT mi) As h none h' := (cxV_ok (fun As h h2 e => by obtain ⟨_, _, rfl, e0⟩ := sR_inv e; obtain ⟨_, _, rfl, e1⟩ := sI_inv e0; obtain ⟨_, _, rfl, e2⟩ := sI_inv e1; obtain ⟨rfl, ez⟩ := sE_inv e2; exact c_X7_runDrawn E ez) (fV0_ok E))
def I_X7_drawnMarks_11 : List AI := [(.aload_n 0, 1, [], 0), (.iload_n 1, 1, [], 0), (.iload_n 2, 1, [], 0), (.invokevirtual 220, 3, [2, 146, 3, 6, 1036], 0), (.aload_n 0, 1, [], 0), (.aload_n 0, 1, [], 0), (.getfield 33, 3, [6, 5, 2, 359], 0), (.getfield 87, 3, [1, 1, 2, 321], 0), (.getfield 114, 3, [0, 3, 0, 193], 0), (.invokevirtual 68, 3, [1, 50, 2, 6, 633], 0), (.ireturn, 1, [], 0)]
theorem ok_X7_drawnMarks_11 : vBL MT qLen qCh false q_X7_drawnMarks.2.2.2.2.1 q_X7_drawnMarks.2.2.2.2.2.1 q_X7_drawnMarks.2.2.1 q_X7_drawnMarks.1.cls q_X7_drawnMarks.1.name q_X7_drawnMarks.2.1 0 11 I_X7_drawnMarks_11 = true := by decide +kernel
def p_X7_drawnMarks_11 (a0 : Nat) (x1 : Int32) (x2 : Int32) (h : AH) : Option (Int32 × AH) :=
  if (tg h a0).1 = 6 then ((p_X7_runDrawn a0 x1 x2 h).bind fun h101 =>
  if (tg h101 a0).1 = 6 then (if (tg h101 (rR h101 a0 5)).1 = 1 then (if (tg h101 (rR h101 (rR h101 a0 5) 1)).1 = 0 then (if (tg h101 a0).1 = 6 then ((p_X7_answer a0 (rI h101 (rR h101 (rR h101 a0 5) 1) 3) h101).bind fun q102 =>
  some (q102.1, q102.2)) else none) else none) else none) else none) else none
set_option maxRecDepth 100000 in
theorem e_X7_drawnMarks_11 {l : Launch} {D : va_G} {dA : Nat → ClassId} {z : Nat} {sa : Nat → Nat} {Hz : Heap} (E : StrOK qLen qCh l D dA z sa Hz) {h0 fin : AH} {x : Int32}  : ∀ (a0 : Nat) (x1 : Int32) (x2 : Int32) (h : AH), p_X7_drawnMarks_11 a0 x1 x2 h = some (x, fin) → GM l D dA z sa Hz q_X7_drawnMarks h0 (some (.int x)) fin 11 [(0, .ref a0), (1, .int x1), (2, .int x2)] [] h := by
  intro a0 x1 x2 h hd
  exact step E (is := I_X7_drawnMarks_11) (pc := 11) (K := k0) (FI := FI_X7_drawnMarks) (FV := FV_X7_drawnMarks) (FL := fL0) (rt := rtI) (ft := 0) (by exact hd) ok_X7_drawnMarks_11 k0_ok (FI_X7_drawnMarks_ok E) (FV_X7_drawnMarks_ok E) (fL0_ok E) (rtI_ok rfl)
def I_X7_drawnMarks_0 : List AI := [(.aload_n 0, 1, [], 0), (.iload_n 1, 1, [], 0), (.iload_n 2, 1, [], 0), (.invokevirtual 217, 3, [1, 144, 3, 6, 1031], 0), (.ifCond .ne 5, 3, [11], 0), (.iconst (-1), 1, [], (-1)), (.ireturn, 1, [], 0)]
theorem ok_X7_drawnMarks_0 : vBL MT qLen qCh false q_X7_drawnMarks.2.2.2.2.1 q_X7_drawnMarks.2.2.2.2.2.1 q_X7_drawnMarks.2.2.1 q_X7_drawnMarks.1.cls q_X7_drawnMarks.1.name q_X7_drawnMarks.2.1 0 0 I_X7_drawnMarks_0 = true := by decide +kernel
def p_X7_drawnMarks (a0 : Nat) (x1 : Int32) (x2 : Int32) (h : AH) : Option (Int32 × AH) :=
  if (tg h a0).1 = 6 then ((p_X7_mayDraw a0 x1 x2 h).bind fun q103 =>
  if q103.1 = 0 then (some (((-1 : Int32)), q103.2))
  else
  if (tg q103.2 a0).1 = 6 then ((p_X7_runDrawn a0 x1 x2 q103.2).bind fun h104 =>
  if (tg h104 a0).1 = 6 then (if (tg h104 (rR h104 a0 5)).1 = 1 then (if (tg h104 (rR h104 (rR h104 a0 5) 1)).1 = 0 then (if (tg h104 a0).1 = 6 then ((p_X7_answer a0 (rI h104 (rR h104 (rR h104 a0 5) 1) 3) h104).bind fun q105 =>
  some (q105.1, q105.2)) else none) else none) else none) else none) else none) else none
set_option maxRecDepth 100000 in
theorem e_X7_drawnMarks_0 {l : Launch} {D : va_G} {dA : Nat → ClassId} {z : Nat} {sa : Nat → Nat} {Hz : Heap} (E : StrOK qLen qCh l D dA z sa Hz) {h0 fin : AH} {x : Int32}  : ∀ (a0 : Nat) (x1 : Int32) (x2 : Int32) (h : AH), p_X7_drawnMarks a0 x1 x2 h = some (x, fin) → GM l D dA z sa Hz q_X7_drawnMarks h0 (some (.int x)) fin 0 [(0, .ref a0), (1, .int x1), (2, .int x2)] [] h := by
  intro a0 x1 x2 h hd
  exact step E (is := I_X7_drawnMarks_0) (pc := 0) (K := (kx 11 (fun la st h => gR la 0 fun a0 => gI la 1 fun x1 => gI la 2 fun x2 => sE st (p_X7_drawnMarks_11 a0 x1 x2 h)) k0)) (FI := FI_X7_drawnMarks) (FV := FV_X7_drawnMarks) (FL := fL0) (rt := rtI) (ft := 0) (by exact hd) ok_X7_drawnMarks_0 (kx_ok (fun la st h e => by obtain ⟨a0, m_a0, e1⟩ := gR_inv e; obtain ⟨x1, m_x1, e2⟩ := gI_inv e1; obtain ⟨x2, m_x2, e3⟩ := gI_inv e2; obtain ⟨rfl, ez⟩ := sE_inv e3; exact gm_fewer (e_X7_drawnMarks_11 E  a0 x1 x2 h ez) (mem_cons m_a0 (mem_cons m_x1 (mem_cons m_x2 mem_nil)))) k0_ok) (FI_X7_drawnMarks_ok E) (FV_X7_drawnMarks_ok E) (fL0_ok E) (rtI_ok rfl)
theorem c_X7_drawnMarks {l : Launch} {D : va_G} {dA : Nat → ClassId} {z : Nat} {sa : Nat → Nat} {Hz : Heap} (E : StrOK qLen qCh l D dA z sa Hz) {a0 : Nat} {x1 : Int32} {x2 : Int32} {h fin : AH} {x : Int32} (hd : p_X7_drawnMarks a0 x1 x2 h = some (x, fin)) : CalOK l D dA z sa Hz q_X7_drawnMarks [.ref a0, .int x1, .int x2] h (some (.int x)) fin := calOf (by decide +kernel) (Nat.le_of_ble_eq_true rfl) (e_X7_drawnMarks_0 E a0 x1 x2 h hd)
def I_X7_divisor_34 : List AI := [(.iload_n 2, 1, [], 0), (.ireturn, 1, [], 0)]
theorem ok_X7_divisor_34 : vBL MT qLen qCh false q_X7_divisor.2.2.2.2.1 q_X7_divisor.2.2.2.2.2.1 q_X7_divisor.2.2.1 q_X7_divisor.1.cls q_X7_divisor.1.name q_X7_divisor.2.1 0 34 I_X7_divisor_34 = true := by decide +kernel
def p_X7_divisor_34 (x2 : Int32) (h : AH) : Option (Int32 × AH) :=
  some (x2, h)
set_option maxRecDepth 100000 in
theorem e_X7_divisor_34 {l : Launch} {D : va_G} {dA : Nat → ClassId} {z : Nat} {sa : Nat → Nat} {Hz : Heap} (E : StrOK qLen qCh l D dA z sa Hz) {h0 fin : AH} {x : Int32}  : ∀ (x2 : Int32) (h : AH), p_X7_divisor_34 x2 h = some (x, fin) → GM l D dA z sa Hz q_X7_divisor h0 (some (.int x)) fin 34 [(2, .int x2)] [] h := by
  intro x2 h hd
  exact step E (is := I_X7_divisor_34) (pc := 34) (K := k0) (FI := fI0) (FV := fV0) (FL := fL0) (rt := rtI) (ft := 0) (by exact hd) ok_X7_divisor_34 k0_ok (fI0_ok E) (fV0_ok E) (fL0_ok E) (rtI_ok rfl)
def I_X7_divisor_7 : List AI := [(.iload 4, 2, [], 0), (.bipush 64, 2, [], 64), (.if_icmp .ge 23, 3, [34], 0), (.iload_n 3, 1, [], 0), (.ifCond .eq 19, 3, [34], 0), (.iload_n 2, 1, [], 0), (.iload_n 3, 1, [], 0), (.irem, 1, [], 0), (.istore 5, 2, [], 0), (.iload_n 3, 1, [], 0), (.istore_n 2, 1, [], 0), (.iload 5, 2, [], 0), (.istore_n 3, 1, [], 0), (.iinc 4 1, 3, [], 1), (.goto (-24), 3, [7], 0)]
theorem ok_X7_divisor_7 : vBL MT qLen qCh false q_X7_divisor.2.2.2.2.1 q_X7_divisor.2.2.2.2.2.1 q_X7_divisor.2.2.1 q_X7_divisor.1.cls q_X7_divisor.1.name q_X7_divisor.2.1 0 7 I_X7_divisor_7 = true := by decide +kernel
def p_X7_divisor_7 : Nat → Int32 → Int32 → Int32 → AH → Option (Int32 × AH)
  | 0, _, _, _, _ => none
  | n + 1, x2, x3, x4, h => if x4 < ((64 : Int32)) then (if x3 = 0 then (p_X7_divisor_34 x2 h)
    else
    if x3 = 0 then none else
    let x101 := irm x2 x3
    p_X7_divisor_7 n x3 x101 (x4 + (1 : Int32)) h)
    else
    p_X7_divisor_34 x2 h
set_option maxRecDepth 100000 in
theorem e_X7_divisor_7 {l : Launch} {D : va_G} {dA : Nat → ClassId} {z : Nat} {sa : Nat → Nat} {Hz : Heap} (E : StrOK qLen qCh l D dA z sa Hz) {h0 fin : AH} {x : Int32}  : ∀ (n : Nat) (x2 : Int32) (x3 : Int32) (x4 : Int32) (h : AH), p_X7_divisor_7 n x2 x3 x4 h = some (x, fin) → GM l D dA z sa Hz q_X7_divisor h0 (some (.int x)) fin 7 [(2, .int x2), (3, .int x3), (4, .int x4)] [] h := by
  intro n
  induction n with
  | zero => intro x2 x3 x4 h hd; exact nomatch hd
  | succ n ih =>
    intro x2 x3 x4 h hd
    exact step E (is := I_X7_divisor_7) (pc := 7) (K := (kx 34 (fun la st h => gI la 2 fun x2 => sE st (p_X7_divisor_34 x2 h)) (kx 7 (fun la st h => gI la 2 fun x2 => gI la 3 fun x3 => gI la 4 fun x4 => sE st (p_X7_divisor_7 n x2 x3 x4 h)) k0))) (FI := fI0) (FV := fV0) (FL := fL0) (rt := rtI) (ft := 0) (by exact hd) ok_X7_divisor_7 (kx_ok (fun la st h e => by obtain ⟨x2, m_x2, e1⟩ := gI_inv e; obtain ⟨rfl, ez⟩ := sE_inv e1; exact gm_fewer (e_X7_divisor_34 E  x2 h ez) (mem_cons m_x2 mem_nil)) (kx_ok (fun la st h e => by obtain ⟨x2, m_x2, e1⟩ := gI_inv e; obtain ⟨x3, m_x3, e2⟩ := gI_inv e1; obtain ⟨x4, m_x4, e3⟩ := gI_inv e2; obtain ⟨rfl, ez⟩ := sE_inv e3; exact gm_fewer (ih x2 x3 x4 h ez) (mem_cons m_x2 (mem_cons m_x3 (mem_cons m_x4 mem_nil)))) k0_ok)) (fI0_ok E) (fV0_ok E) (fL0_ok E) (rtI_ok rfl)
def I_X7_divisor_0 : List AI := [(.iload_n 0, 1, [], 0), (.istore_n 2, 1, [], 0), (.iload_n 1, 1, [], 0), (.istore_n 3, 1, [], 0), (.iconst 0, 1, [], 0), (.istore 4, 2, [], 0)]
theorem ok_X7_divisor_0 : vBL MT qLen qCh false q_X7_divisor.2.2.2.2.1 q_X7_divisor.2.2.2.2.2.1 q_X7_divisor.2.2.1 q_X7_divisor.1.cls q_X7_divisor.1.name q_X7_divisor.2.1 7 0 I_X7_divisor_0 = true := by decide +kernel
def p_X7_divisor (x0 : Int32) (x1 : Int32) (h : AH) : Option (Int32 × AH) :=
  p_X7_divisor_7 FU x0 x1 ((0 : Int32)) h
set_option maxRecDepth 100000 in
theorem e_X7_divisor_0 {l : Launch} {D : va_G} {dA : Nat → ClassId} {z : Nat} {sa : Nat → Nat} {Hz : Heap} (E : StrOK qLen qCh l D dA z sa Hz) {h0 fin : AH} {x : Int32}  : ∀ (x0 : Int32) (x1 : Int32) (h : AH), p_X7_divisor x0 x1 h = some (x, fin) → GM l D dA z sa Hz q_X7_divisor h0 (some (.int x)) fin 0 [(0, .int x0), (1, .int x1)] [] h := by
  intro x0 x1 h hd
  exact step E (is := I_X7_divisor_0) (pc := 0) (K := (kx 7 (fun la st h => gI la 2 fun x2 => gI la 3 fun x3 => gI la 4 fun x4 => sE st (p_X7_divisor_7 FU x2 x3 x4 h)) k0)) (FI := fI0) (FV := fV0) (FL := fL0) (rt := rtI) (ft := 7) (by exact hd) ok_X7_divisor_0 (kx_ok (fun la st h e => by obtain ⟨x2, m_x2, e1⟩ := gI_inv e; obtain ⟨x3, m_x3, e2⟩ := gI_inv e1; obtain ⟨x4, m_x4, e3⟩ := gI_inv e2; obtain ⟨rfl, ez⟩ := sE_inv e3; exact gm_fewer (e_X7_divisor_7 E  FU x2 x3 x4 h ez) (mem_cons m_x2 (mem_cons m_x3 (mem_cons m_x4 mem_nil)))) k0_ok) (fI0_ok E) (fV0_ok E) (fL0_ok E) (rtI_ok rfl)
theorem c_X7_divisor {l : Launch} {D : va_G} {dA : Nat → ClassId} {z : Nat} {sa : Nat → Nat} {Hz : Heap} (E : StrOK qLen qCh l D dA z sa Hz) {x0 : Int32} {x1 : Int32} {h fin : AH} {x : Int32} (hd : p_X7_divisor x0 x1 h = some (x, fin)) : CalOK l D dA z sa Hz q_X7_divisor [.int x0, .int x1] h (some (.int x)) fin := calOf (by decide +kernel) (Nat.le_of_ble_eq_true rfl) (e_X7_divisor_0 E x0 x1 h hd)
