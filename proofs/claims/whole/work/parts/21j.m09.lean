/-! ===== methods 225 to 249 ===== -/
def FI_X9_readLine : Nat → List Value → AH → Option (Int32 × AH) := (cx 208 (fun As h => sR As fun a0 As => sT As fun t1 As => sE As (p_X9_isWord a0 t1 h)) fI0)
theorem FI_X9_readLine_ok {l : Launch} {D : va_G} {dA : Nat → ClassId} {z : Nat} {sa : Nat → Nat} {Hz : Heap} (E : StrOK qLen qCh l D dA z sa Hz) : ∀ mi As h x h', FI_X9_readLine mi As h = some (x, h') → CalOK l D dA z sa Hz (MT mi) As h (some (.int x)) h' := (cxI_ok (fun As h x h2 e => by obtain ⟨_, _, rfl, e0⟩ := sR_inv e; obtain ⟨_, _, rfl, e1⟩ := sT_inv e0; obtain ⟨rfl, ez⟩ := sE_inv e1; exact c_X9_isWord E ez) (fI0_ok E))
def FV_X9_readLine : Nat → List Value → AH → Option (AH) := (cx 214 (fun As h => sR As fun a0 As => sE As (p_X9_readMachine a0 h)) (cx 217 (fun As h => sR As fun a0 As => sE As (p_X9_readHost a0 h)) (cx 218 (fun As h => sR As fun a0 As => sE As (p_X9_readWord a0 h)) (cx 220 (fun As h => sR As fun a0 As => sE As (p_X9_readRun a0 h)) (cx 222 (fun As h => sR As fun a0 As => sE As (p_X9_readUnsure a0 h)) (cx 224 (fun As h => sR As fun a0 As => sE As (p_X9_readSaw a0 h)) (cx 209 (fun As h => sR As fun a0 As => sI As fun x1 As => sE As (p_X9_flaw a0 x1 h)) fV0)))))))
theorem FV_X9_readLine_ok {l : Launch} {D : va_G} {dA : Nat → ClassId} {z : Nat} {sa : Nat → Nat} {Hz : Heap} (E : StrOK qLen qCh l D dA z sa Hz) : ∀ mi As h h', FV_X9_readLine mi As h = some h' → CalOK l D dA z sa Hz (MT mi) As h none h' := (cxV_ok (fun As h h2 e => by obtain ⟨_, _, rfl, e0⟩ := sR_inv e; obtain ⟨rfl, ez⟩ := sE_inv e0; exact c_X9_readMachine E ez) ((cxV_ok (fun As h h2 e => by obtain ⟨_, _, rfl, e0⟩ := sR_inv e; obtain ⟨rfl, ez⟩ := sE_inv e0; exact c_X9_readHost E ez) ((cxV_ok (fun As h h2 e => by obtain ⟨_, _, rfl, e0⟩ := sR_inv e; obtain ⟨rfl, ez⟩ := sE_inv e0; exact c_X9_readWord E ez) ((cxV_ok (fun As h h2 e => by obtain ⟨_, _, rfl, e0⟩ := sR_inv e; obtain ⟨rfl, ez⟩ := sE_inv e0; exact c_X9_readRun E ez) ((cxV_ok (fun As h h2 e => by obtain ⟨_, _, rfl, e0⟩ := sR_inv e; obtain ⟨rfl, ez⟩ := sE_inv e0; exact c_X9_readUnsure E ez) ((cxV_ok (fun As h h2 e => by obtain ⟨_, _, rfl, e0⟩ := sR_inv e; obtain ⟨rfl, ez⟩ := sE_inv e0; exact c_X9_readSaw E ez) ((cxV_ok (fun As h h2 e => by obtain ⟨_, _, rfl, e0⟩ := sR_inv e; obtain ⟨_, _, rfl, e1⟩ := sI_inv e0; obtain ⟨rfl, ez⟩ := sE_inv e1; exact c_X9_flaw E ez) (fV0_ok E))))))))))))))
def I_X9_readLine_101 : List AI := [(.return_, 1, [], 0)]
theorem ok_X9_readLine_101 : vBL MT qLen qCh false q_X9_readLine.2.2.2.2.1 q_X9_readLine.2.2.2.2.2.1 q_X9_readLine.2.2.1 q_X9_readLine.1.cls q_X9_readLine.1.name q_X9_readLine.2.1 0 101 I_X9_readLine_101 = true := by decide +kernel
def p_X9_readLine_101 (h : AH) : Option (AH) :=
  some h
set_option maxRecDepth 100000 in
theorem e_X9_readLine_101 {l : Launch} {D : va_G} {dA : Nat → ClassId} {z : Nat} {sa : Nat → Nat} {Hz : Heap} (E : StrOK qLen qCh l D dA z sa Hz) {h0 fin : AH}  : ∀  (h : AH), p_X9_readLine_101 h = some fin → GM l D dA z sa Hz q_X9_readLine h0 none fin 101 [] [] h := by
  intro h hd
  exact step E (is := I_X9_readLine_101) (pc := 101) (K := k0) (FI := FI_X9_readLine) (FV := FV_X9_readLine) (FL := fL0) (rt := rtV) (ft := 0) (by exact hd) ok_X9_readLine_101 k0_ok (FI_X9_readLine_ok E) (FV_X9_readLine_ok E) (fL0_ok E) (rtV_ok rfl)
def I_X9_readLine_96 : List AI := [(.aload_n 0, 1, [], 0), (.iconst 1, 1, [], 1), (.invokevirtual 108, 3, [2, 209, 2, 8, 1595], 0)]
theorem ok_X9_readLine_96 : vBL MT qLen qCh false q_X9_readLine.2.2.2.2.1 q_X9_readLine.2.2.2.2.2.1 q_X9_readLine.2.2.1 q_X9_readLine.1.cls q_X9_readLine.1.name q_X9_readLine.2.1 101 96 I_X9_readLine_96 = true := by decide +kernel
def p_X9_readLine_96 (a0 : Nat) (h : AH) : Option (AH) :=
  if (tg h a0).1 = 8 then ((p_X9_flaw a0 ((1 : Int32)) h).bind fun h101 =>
  p_X9_readLine_101 h101) else none
set_option maxRecDepth 100000 in
theorem e_X9_readLine_96 {l : Launch} {D : va_G} {dA : Nat → ClassId} {z : Nat} {sa : Nat → Nat} {Hz : Heap} (E : StrOK qLen qCh l D dA z sa Hz) {h0 fin : AH}  : ∀ (a0 : Nat) (h : AH), p_X9_readLine_96 a0 h = some fin → GM l D dA z sa Hz q_X9_readLine h0 none fin 96 [(0, .ref a0)] [] h := by
  intro a0 h hd
  exact step E (is := I_X9_readLine_96) (pc := 96) (K := (kx 101 (fun la st h => sE st (p_X9_readLine_101 h)) k0)) (FI := FI_X9_readLine) (FV := FV_X9_readLine) (FL := fL0) (rt := rtV) (ft := 101) (by exact hd) ok_X9_readLine_96 (kx_ok (fun la st h e => by obtain ⟨rfl, ez⟩ := sE_inv e; exact gm_fewer (e_X9_readLine_101 E   h ez) mem_nil) k0_ok) (FI_X9_readLine_ok E) (FV_X9_readLine_ok E) (fL0_ok E) (rtV_ok rfl)
def I_X9_readLine_80 : List AI := [(.aload_n 0, 1, [], 0), (.ldc 169, 2, [8, 0], 0), (.invokevirtual 104, 3, [1, 208, 2, 8, 1582], 0), (.ifCond .eq 10, 3, [96], 0), (.aload_n 0, 1, [], 0), (.invokevirtual 171, 3, [2, 224, 1, 8, 1659], 0), (.goto 8, 3, [101], 0)]
theorem ok_X9_readLine_80 : vBL MT qLen qCh false q_X9_readLine.2.2.2.2.1 q_X9_readLine.2.2.2.2.2.1 q_X9_readLine.2.2.1 q_X9_readLine.1.cls q_X9_readLine.1.name q_X9_readLine.2.1 0 80 I_X9_readLine_80 = true := by decide +kernel
def p_X9_readLine_80 (a0 : Nat) (h : AH) : Option (AH) :=
  if (tg h a0).1 = 8 then ((p_X9_isWord a0 8 h).bind fun q102 =>
  if q102.1 = 0 then (if (tg q102.2 a0).1 = 8 then ((p_X9_flaw a0 ((1 : Int32)) q102.2).bind fun h103 =>
  p_X9_readLine_101 h103) else none)
  else
  if (tg q102.2 a0).1 = 8 then ((p_X9_readSaw a0 q102.2).bind fun h104 =>
  p_X9_readLine_101 h104) else none) else none
set_option maxRecDepth 100000 in
theorem e_X9_readLine_80 {l : Launch} {D : va_G} {dA : Nat → ClassId} {z : Nat} {sa : Nat → Nat} {Hz : Heap} (E : StrOK qLen qCh l D dA z sa Hz) {h0 fin : AH}  : ∀ (a0 : Nat) (h : AH), p_X9_readLine_80 a0 h = some fin → GM l D dA z sa Hz q_X9_readLine h0 none fin 80 [(0, .ref a0)] [] h := by
  intro a0 h hd
  exact step E (is := I_X9_readLine_80) (pc := 80) (K := (kx 96 (fun la st h => gR la 0 fun a0 => sE st (p_X9_readLine_96 a0 h)) (kx 101 (fun la st h => sE st (p_X9_readLine_101 h)) k0))) (FI := FI_X9_readLine) (FV := FV_X9_readLine) (FL := fL0) (rt := rtV) (ft := 0) (by exact hd) ok_X9_readLine_80 (kx_ok (fun la st h e => by obtain ⟨a0, m_a0, e1⟩ := gR_inv e; obtain ⟨rfl, ez⟩ := sE_inv e1; exact gm_fewer (e_X9_readLine_96 E  a0 h ez) (mem_cons m_a0 mem_nil)) (kx_ok (fun la st h e => by obtain ⟨rfl, ez⟩ := sE_inv e; exact gm_fewer (e_X9_readLine_101 E   h ez) mem_nil) k0_ok)) (FI_X9_readLine_ok E) (FV_X9_readLine_ok E) (fL0_ok E) (rtV_ok rfl)
def I_X9_readLine_64 : List AI := [(.aload_n 0, 1, [], 0), (.ldc 164, 2, [7, 0], 0), (.invokevirtual 104, 3, [1, 208, 2, 8, 1582], 0), (.ifCond .eq 10, 3, [80], 0), (.aload_n 0, 1, [], 0), (.invokevirtual 166, 3, [2, 222, 1, 8, 1650], 0), (.goto 24, 3, [101], 0)]
theorem ok_X9_readLine_64 : vBL MT qLen qCh false q_X9_readLine.2.2.2.2.1 q_X9_readLine.2.2.2.2.2.1 q_X9_readLine.2.2.1 q_X9_readLine.1.cls q_X9_readLine.1.name q_X9_readLine.2.1 0 64 I_X9_readLine_64 = true := by decide +kernel
def p_X9_readLine_64 (a0 : Nat) (h : AH) : Option (AH) :=
  if (tg h a0).1 = 8 then ((p_X9_isWord a0 7 h).bind fun q105 =>
  if q105.1 = 0 then (if (tg q105.2 a0).1 = 8 then ((p_X9_isWord a0 8 q105.2).bind fun q106 =>
  if q106.1 = 0 then (if (tg q106.2 a0).1 = 8 then ((p_X9_flaw a0 ((1 : Int32)) q106.2).bind fun h107 =>
  p_X9_readLine_101 h107) else none)
  else
  if (tg q106.2 a0).1 = 8 then ((p_X9_readSaw a0 q106.2).bind fun h108 =>
  p_X9_readLine_101 h108) else none) else none)
  else
  if (tg q105.2 a0).1 = 8 then ((p_X9_readUnsure a0 q105.2).bind fun h109 =>
  p_X9_readLine_101 h109) else none) else none
set_option maxRecDepth 100000 in
theorem e_X9_readLine_64 {l : Launch} {D : va_G} {dA : Nat → ClassId} {z : Nat} {sa : Nat → Nat} {Hz : Heap} (E : StrOK qLen qCh l D dA z sa Hz) {h0 fin : AH}  : ∀ (a0 : Nat) (h : AH), p_X9_readLine_64 a0 h = some fin → GM l D dA z sa Hz q_X9_readLine h0 none fin 64 [(0, .ref a0)] [] h := by
  intro a0 h hd
  exact step E (is := I_X9_readLine_64) (pc := 64) (K := (kx 80 (fun la st h => gR la 0 fun a0 => sE st (p_X9_readLine_80 a0 h)) (kx 101 (fun la st h => sE st (p_X9_readLine_101 h)) k0))) (FI := FI_X9_readLine) (FV := FV_X9_readLine) (FL := fL0) (rt := rtV) (ft := 0) (by exact hd) ok_X9_readLine_64 (kx_ok (fun la st h e => by obtain ⟨a0, m_a0, e1⟩ := gR_inv e; obtain ⟨rfl, ez⟩ := sE_inv e1; exact gm_fewer (e_X9_readLine_80 E  a0 h ez) (mem_cons m_a0 mem_nil)) (kx_ok (fun la st h e => by obtain ⟨rfl, ez⟩ := sE_inv e; exact gm_fewer (e_X9_readLine_101 E   h ez) mem_nil) k0_ok)) (FI_X9_readLine_ok E) (FV_X9_readLine_ok E) (fL0_ok E) (rtV_ok rfl)
def I_X9_readLine_48 : List AI := [(.aload_n 0, 1, [], 0), (.ldc 159, 2, [6, 0], 0), (.invokevirtual 104, 3, [1, 208, 2, 8, 1582], 0), (.ifCond .eq 10, 3, [64], 0), (.aload_n 0, 1, [], 0), (.invokevirtual 161, 3, [2, 220, 1, 8, 1637], 0), (.goto 40, 3, [101], 0)]
theorem ok_X9_readLine_48 : vBL MT qLen qCh false q_X9_readLine.2.2.2.2.1 q_X9_readLine.2.2.2.2.2.1 q_X9_readLine.2.2.1 q_X9_readLine.1.cls q_X9_readLine.1.name q_X9_readLine.2.1 0 48 I_X9_readLine_48 = true := by decide +kernel
def p_X9_readLine_48 (a0 : Nat) (h : AH) : Option (AH) :=
  if (tg h a0).1 = 8 then ((p_X9_isWord a0 6 h).bind fun q110 =>
  if q110.1 = 0 then (if (tg q110.2 a0).1 = 8 then ((p_X9_isWord a0 7 q110.2).bind fun q111 =>
  if q111.1 = 0 then (if (tg q111.2 a0).1 = 8 then ((p_X9_isWord a0 8 q111.2).bind fun q112 =>
  if q112.1 = 0 then (if (tg q112.2 a0).1 = 8 then ((p_X9_flaw a0 ((1 : Int32)) q112.2).bind fun h113 =>
  p_X9_readLine_101 h113) else none)
  else
  if (tg q112.2 a0).1 = 8 then ((p_X9_readSaw a0 q112.2).bind fun h114 =>
  p_X9_readLine_101 h114) else none) else none)
  else
  if (tg q111.2 a0).1 = 8 then ((p_X9_readUnsure a0 q111.2).bind fun h115 =>
  p_X9_readLine_101 h115) else none) else none)
  else
  if (tg q110.2 a0).1 = 8 then ((p_X9_readRun a0 q110.2).bind fun h116 =>
  p_X9_readLine_101 h116) else none) else none
set_option maxRecDepth 100000 in
theorem e_X9_readLine_48 {l : Launch} {D : va_G} {dA : Nat → ClassId} {z : Nat} {sa : Nat → Nat} {Hz : Heap} (E : StrOK qLen qCh l D dA z sa Hz) {h0 fin : AH}  : ∀ (a0 : Nat) (h : AH), p_X9_readLine_48 a0 h = some fin → GM l D dA z sa Hz q_X9_readLine h0 none fin 48 [(0, .ref a0)] [] h := by
  intro a0 h hd
  exact step E (is := I_X9_readLine_48) (pc := 48) (K := (kx 64 (fun la st h => gR la 0 fun a0 => sE st (p_X9_readLine_64 a0 h)) (kx 101 (fun la st h => sE st (p_X9_readLine_101 h)) k0))) (FI := FI_X9_readLine) (FV := FV_X9_readLine) (FL := fL0) (rt := rtV) (ft := 0) (by exact hd) ok_X9_readLine_48 (kx_ok (fun la st h e => by obtain ⟨a0, m_a0, e1⟩ := gR_inv e; obtain ⟨rfl, ez⟩ := sE_inv e1; exact gm_fewer (e_X9_readLine_64 E  a0 h ez) (mem_cons m_a0 mem_nil)) (kx_ok (fun la st h e => by obtain ⟨rfl, ez⟩ := sE_inv e; exact gm_fewer (e_X9_readLine_101 E   h ez) mem_nil) k0_ok)) (FI_X9_readLine_ok E) (FV_X9_readLine_ok E) (fL0_ok E) (rtV_ok rfl)
def I_X9_readLine_32 : List AI := [(.aload_n 0, 1, [], 0), (.ldc 154, 2, [5, 0], 0), (.invokevirtual 104, 3, [1, 208, 2, 8, 1582], 0), (.ifCond .eq 10, 3, [48], 0), (.aload_n 0, 1, [], 0), (.invokevirtual 156, 3, [2, 218, 1, 8, 1632], 0), (.goto 56, 3, [101], 0)]
theorem ok_X9_readLine_32 : vBL MT qLen qCh false q_X9_readLine.2.2.2.2.1 q_X9_readLine.2.2.2.2.2.1 q_X9_readLine.2.2.1 q_X9_readLine.1.cls q_X9_readLine.1.name q_X9_readLine.2.1 0 32 I_X9_readLine_32 = true := by decide +kernel
def p_X9_readLine_32 (a0 : Nat) (h : AH) : Option (AH) :=
  if (tg h a0).1 = 8 then ((p_X9_isWord a0 5 h).bind fun q117 =>
  if q117.1 = 0 then (if (tg q117.2 a0).1 = 8 then ((p_X9_isWord a0 6 q117.2).bind fun q118 =>
  if q118.1 = 0 then (if (tg q118.2 a0).1 = 8 then ((p_X9_isWord a0 7 q118.2).bind fun q119 =>
  if q119.1 = 0 then (if (tg q119.2 a0).1 = 8 then ((p_X9_isWord a0 8 q119.2).bind fun q120 =>
  if q120.1 = 0 then (if (tg q120.2 a0).1 = 8 then ((p_X9_flaw a0 ((1 : Int32)) q120.2).bind fun h121 =>
  p_X9_readLine_101 h121) else none)
  else
  if (tg q120.2 a0).1 = 8 then ((p_X9_readSaw a0 q120.2).bind fun h122 =>
  p_X9_readLine_101 h122) else none) else none)
  else
  if (tg q119.2 a0).1 = 8 then ((p_X9_readUnsure a0 q119.2).bind fun h123 =>
  p_X9_readLine_101 h123) else none) else none)
  else
  if (tg q118.2 a0).1 = 8 then ((p_X9_readRun a0 q118.2).bind fun h124 =>
  p_X9_readLine_101 h124) else none) else none)
  else
  if (tg q117.2 a0).1 = 8 then ((p_X9_readWord a0 q117.2).bind fun h125 =>
  p_X9_readLine_101 h125) else none) else none
set_option maxRecDepth 100000 in
theorem e_X9_readLine_32 {l : Launch} {D : va_G} {dA : Nat → ClassId} {z : Nat} {sa : Nat → Nat} {Hz : Heap} (E : StrOK qLen qCh l D dA z sa Hz) {h0 fin : AH}  : ∀ (a0 : Nat) (h : AH), p_X9_readLine_32 a0 h = some fin → GM l D dA z sa Hz q_X9_readLine h0 none fin 32 [(0, .ref a0)] [] h := by
  intro a0 h hd
  exact step E (is := I_X9_readLine_32) (pc := 32) (K := (kx 48 (fun la st h => gR la 0 fun a0 => sE st (p_X9_readLine_48 a0 h)) (kx 101 (fun la st h => sE st (p_X9_readLine_101 h)) k0))) (FI := FI_X9_readLine) (FV := FV_X9_readLine) (FL := fL0) (rt := rtV) (ft := 0) (by exact hd) ok_X9_readLine_32 (kx_ok (fun la st h e => by obtain ⟨a0, m_a0, e1⟩ := gR_inv e; obtain ⟨rfl, ez⟩ := sE_inv e1; exact gm_fewer (e_X9_readLine_48 E  a0 h ez) (mem_cons m_a0 mem_nil)) (kx_ok (fun la st h e => by obtain ⟨rfl, ez⟩ := sE_inv e; exact gm_fewer (e_X9_readLine_101 E   h ez) mem_nil) k0_ok)) (FI_X9_readLine_ok E) (FV_X9_readLine_ok E) (fL0_ok E) (rtV_ok rfl)
def I_X9_readLine_16 : List AI := [(.aload_n 0, 1, [], 0), (.ldc 149, 2, [4, 0], 0), (.invokevirtual 104, 3, [1, 208, 2, 8, 1582], 0), (.ifCond .eq 10, 3, [32], 0), (.aload_n 0, 1, [], 0), (.invokevirtual 151, 3, [2, 217, 1, 8, 1617], 0), (.goto 72, 3, [101], 0)]
theorem ok_X9_readLine_16 : vBL MT qLen qCh false q_X9_readLine.2.2.2.2.1 q_X9_readLine.2.2.2.2.2.1 q_X9_readLine.2.2.1 q_X9_readLine.1.cls q_X9_readLine.1.name q_X9_readLine.2.1 0 16 I_X9_readLine_16 = true := by decide +kernel
def p_X9_readLine_16 (a0 : Nat) (h : AH) : Option (AH) :=
  if (tg h a0).1 = 8 then ((p_X9_isWord a0 4 h).bind fun q126 =>
  if q126.1 = 0 then (if (tg q126.2 a0).1 = 8 then ((p_X9_isWord a0 5 q126.2).bind fun q127 =>
  if q127.1 = 0 then (if (tg q127.2 a0).1 = 8 then ((p_X9_isWord a0 6 q127.2).bind fun q128 =>
  if q128.1 = 0 then (if (tg q128.2 a0).1 = 8 then ((p_X9_isWord a0 7 q128.2).bind fun q129 =>
  if q129.1 = 0 then (if (tg q129.2 a0).1 = 8 then ((p_X9_isWord a0 8 q129.2).bind fun q130 =>
  if q130.1 = 0 then (if (tg q130.2 a0).1 = 8 then ((p_X9_flaw a0 ((1 : Int32)) q130.2).bind fun h131 =>
  p_X9_readLine_101 h131) else none)
  else
  if (tg q130.2 a0).1 = 8 then ((p_X9_readSaw a0 q130.2).bind fun h132 =>
  p_X9_readLine_101 h132) else none) else none)
  else
  if (tg q129.2 a0).1 = 8 then ((p_X9_readUnsure a0 q129.2).bind fun h133 =>
  p_X9_readLine_101 h133) else none) else none)
  else
  if (tg q128.2 a0).1 = 8 then ((p_X9_readRun a0 q128.2).bind fun h134 =>
  p_X9_readLine_101 h134) else none) else none)
  else
  if (tg q127.2 a0).1 = 8 then ((p_X9_readWord a0 q127.2).bind fun h135 =>
  p_X9_readLine_101 h135) else none) else none)
  else
  if (tg q126.2 a0).1 = 8 then ((p_X9_readHost a0 q126.2).bind fun h136 =>
  p_X9_readLine_101 h136) else none) else none
set_option maxRecDepth 100000 in
theorem e_X9_readLine_16 {l : Launch} {D : va_G} {dA : Nat → ClassId} {z : Nat} {sa : Nat → Nat} {Hz : Heap} (E : StrOK qLen qCh l D dA z sa Hz) {h0 fin : AH}  : ∀ (a0 : Nat) (h : AH), p_X9_readLine_16 a0 h = some fin → GM l D dA z sa Hz q_X9_readLine h0 none fin 16 [(0, .ref a0)] [] h := by
  intro a0 h hd
  exact step E (is := I_X9_readLine_16) (pc := 16) (K := (kx 32 (fun la st h => gR la 0 fun a0 => sE st (p_X9_readLine_32 a0 h)) (kx 101 (fun la st h => sE st (p_X9_readLine_101 h)) k0))) (FI := FI_X9_readLine) (FV := FV_X9_readLine) (FL := fL0) (rt := rtV) (ft := 0) (by exact hd) ok_X9_readLine_16 (kx_ok (fun la st h e => by obtain ⟨a0, m_a0, e1⟩ := gR_inv e; obtain ⟨rfl, ez⟩ := sE_inv e1; exact gm_fewer (e_X9_readLine_32 E  a0 h ez) (mem_cons m_a0 mem_nil)) (kx_ok (fun la st h e => by obtain ⟨rfl, ez⟩ := sE_inv e; exact gm_fewer (e_X9_readLine_101 E   h ez) mem_nil) k0_ok)) (FI_X9_readLine_ok E) (FV_X9_readLine_ok E) (fL0_ok E) (rtV_ok rfl)
def I_X9_readLine_0 : List AI := [(.aload_n 0, 1, [], 0), (.ldc 144, 2, [1, 0], 0), (.invokevirtual 104, 3, [1, 208, 2, 8, 1582], 0), (.ifCond .eq 10, 3, [16], 0), (.aload_n 0, 1, [], 0), (.invokevirtual 146, 3, [2, 214, 1, 8, 1591], 0), (.goto 88, 3, [101], 0)]
theorem ok_X9_readLine_0 : vBL MT qLen qCh false q_X9_readLine.2.2.2.2.1 q_X9_readLine.2.2.2.2.2.1 q_X9_readLine.2.2.1 q_X9_readLine.1.cls q_X9_readLine.1.name q_X9_readLine.2.1 0 0 I_X9_readLine_0 = true := by decide +kernel
def p_X9_readLine (a0 : Nat) (h : AH) : Option (AH) :=
  if (tg h a0).1 = 8 then ((p_X9_isWord a0 1 h).bind fun q137 =>
  if q137.1 = 0 then (if (tg q137.2 a0).1 = 8 then ((p_X9_isWord a0 4 q137.2).bind fun q138 =>
  if q138.1 = 0 then (if (tg q138.2 a0).1 = 8 then ((p_X9_isWord a0 5 q138.2).bind fun q139 =>
  if q139.1 = 0 then (if (tg q139.2 a0).1 = 8 then ((p_X9_isWord a0 6 q139.2).bind fun q140 =>
  if q140.1 = 0 then (if (tg q140.2 a0).1 = 8 then ((p_X9_isWord a0 7 q140.2).bind fun q141 =>
  if q141.1 = 0 then (if (tg q141.2 a0).1 = 8 then ((p_X9_isWord a0 8 q141.2).bind fun q142 =>
  if q142.1 = 0 then (if (tg q142.2 a0).1 = 8 then ((p_X9_flaw a0 ((1 : Int32)) q142.2).bind fun h143 =>
  p_X9_readLine_101 h143) else none)
  else
  if (tg q142.2 a0).1 = 8 then ((p_X9_readSaw a0 q142.2).bind fun h144 =>
  p_X9_readLine_101 h144) else none) else none)
  else
  if (tg q141.2 a0).1 = 8 then ((p_X9_readUnsure a0 q141.2).bind fun h145 =>
  p_X9_readLine_101 h145) else none) else none)
  else
  if (tg q140.2 a0).1 = 8 then ((p_X9_readRun a0 q140.2).bind fun h146 =>
  p_X9_readLine_101 h146) else none) else none)
  else
  if (tg q139.2 a0).1 = 8 then ((p_X9_readWord a0 q139.2).bind fun h147 =>
  p_X9_readLine_101 h147) else none) else none)
  else
  if (tg q138.2 a0).1 = 8 then ((p_X9_readHost a0 q138.2).bind fun h148 =>
  p_X9_readLine_101 h148) else none) else none)
  else
  if (tg q137.2 a0).1 = 8 then ((p_X9_readMachine a0 q137.2).bind fun h149 =>
  p_X9_readLine_101 h149) else none) else none
set_option maxRecDepth 100000 in
theorem e_X9_readLine_0 {l : Launch} {D : va_G} {dA : Nat → ClassId} {z : Nat} {sa : Nat → Nat} {Hz : Heap} (E : StrOK qLen qCh l D dA z sa Hz) {h0 fin : AH}  : ∀ (a0 : Nat) (h : AH), p_X9_readLine a0 h = some fin → GM l D dA z sa Hz q_X9_readLine h0 none fin 0 [(0, .ref a0)] [] h := by
  intro a0 h hd
  exact step E (is := I_X9_readLine_0) (pc := 0) (K := (kx 16 (fun la st h => gR la 0 fun a0 => sE st (p_X9_readLine_16 a0 h)) (kx 101 (fun la st h => sE st (p_X9_readLine_101 h)) k0))) (FI := FI_X9_readLine) (FV := FV_X9_readLine) (FL := fL0) (rt := rtV) (ft := 0) (by exact hd) ok_X9_readLine_0 (kx_ok (fun la st h e => by obtain ⟨a0, m_a0, e1⟩ := gR_inv e; obtain ⟨rfl, ez⟩ := sE_inv e1; exact gm_fewer (e_X9_readLine_16 E  a0 h ez) (mem_cons m_a0 mem_nil)) (kx_ok (fun la st h e => by obtain ⟨rfl, ez⟩ := sE_inv e; exact gm_fewer (e_X9_readLine_101 E   h ez) mem_nil) k0_ok)) (FI_X9_readLine_ok E) (FV_X9_readLine_ok E) (fL0_ok E) (rtV_ok rfl)
theorem c_X9_readLine {l : Launch} {D : va_G} {dA : Nat → ClassId} {z : Nat} {sa : Nat → Nat} {Hz : Heap} (E : StrOK qLen qCh l D dA z sa Hz) {a0 : Nat} {h fin : AH} (hd : p_X9_readLine a0 h = some fin) : CalOK l D dA z sa Hz q_X9_readLine [.ref a0] h none fin := calOf (by decide +kernel) (Nat.le_of_ble_eq_true rfl) (e_X9_readLine_0 E a0 h hd)
def FV_X9_eatsSemicolon : Nat → List Value → AH → Option (AH) := (cx 206 (fun As h => sR As fun a0 As => sE As (p_X9_goesOn a0 h)) fV0)
theorem FV_X9_eatsSemicolon_ok {l : Launch} {D : va_G} {dA : Nat → ClassId} {z : Nat} {sa : Nat → Nat} {Hz : Heap} (E : StrOK qLen qCh l D dA z sa Hz) : ∀ mi As h h', FV_X9_eatsSemicolon mi As h = some h' → CalOK l D dA z sa Hz (MT mi) As h none h' := (cxV_ok (fun As h h2 e => by obtain ⟨_, _, rfl, e0⟩ := sR_inv e; obtain ⟨rfl, ez⟩ := sE_inv e0; exact c_X9_goesOn E ez) (fV0_ok E))
def I_X9_eatsSemicolon_22 : List AI := [(.iload_n 1, 1, [], 0), (.ireturn, 1, [], 0)]
theorem ok_X9_eatsSemicolon_22 : vBL MT qLen qCh false q_X9_eatsSemicolon.2.2.2.2.1 q_X9_eatsSemicolon.2.2.2.2.2.1 q_X9_eatsSemicolon.2.2.1 q_X9_eatsSemicolon.1.cls q_X9_eatsSemicolon.1.name q_X9_eatsSemicolon.2.1 0 22 I_X9_eatsSemicolon_22 = true := by decide +kernel
def p_X9_eatsSemicolon_22 (x1 : Int32) (h : AH) : Option (Int32 × AH) :=
  if x1 &&& 1 = x1 then some (x1, h) else none
set_option maxRecDepth 100000 in
theorem e_X9_eatsSemicolon_22 {l : Launch} {D : va_G} {dA : Nat → ClassId} {z : Nat} {sa : Nat → Nat} {Hz : Heap} (E : StrOK qLen qCh l D dA z sa Hz) {h0 fin : AH} {x : Int32}  : ∀ (x1 : Int32) (h : AH), p_X9_eatsSemicolon_22 x1 h = some (x, fin) → GM l D dA z sa Hz q_X9_eatsSemicolon h0 (some (.int x)) fin 22 [(1, .int x1)] [] h := by
  intro x1 h hd
  exact step E (is := I_X9_eatsSemicolon_22) (pc := 22) (K := k0) (FI := fI0) (FV := FV_X9_eatsSemicolon) (FL := fL0) (rt := rtZ) (ft := 0) (by exact hd) ok_X9_eatsSemicolon_22 k0_ok (fI0_ok E) (FV_X9_eatsSemicolon_ok E) (fL0_ok E) (rtZ_ok rfl)
def I_X9_eatsSemicolon_13 : List AI := [(.istore_n 1, 1, [], 0), (.iload_n 1, 1, [], 0), (.ifCond .eq 7, 3, [22], 0), (.aload_n 0, 1, [], 0), (.invokevirtual 101, 3, [2, 206, 1, 8, 1558], 0)]
theorem ok_X9_eatsSemicolon_13 : vBL MT qLen qCh false q_X9_eatsSemicolon.2.2.2.2.1 q_X9_eatsSemicolon.2.2.2.2.2.1 q_X9_eatsSemicolon.2.2.1 q_X9_eatsSemicolon.1.cls q_X9_eatsSemicolon.1.name q_X9_eatsSemicolon.2.1 22 13 I_X9_eatsSemicolon_13 = true := by decide +kernel
def p_X9_eatsSemicolon_13 (a0 : Nat) (y0 : Int32) (h : AH) : Option (Int32 × AH) :=
  if y0 = 0 then (p_X9_eatsSemicolon_22 y0 h)
  else
  if (tg h a0).1 = 8 then ((p_X9_goesOn a0 h).bind fun h101 =>
  p_X9_eatsSemicolon_22 y0 h101) else none
set_option maxRecDepth 100000 in
theorem e_X9_eatsSemicolon_13 {l : Launch} {D : va_G} {dA : Nat → ClassId} {z : Nat} {sa : Nat → Nat} {Hz : Heap} (E : StrOK qLen qCh l D dA z sa Hz) {h0 fin : AH} {x : Int32}  : ∀ (a0 : Nat) (y0 : Int32) (h : AH), p_X9_eatsSemicolon_13 a0 y0 h = some (x, fin) → GM l D dA z sa Hz q_X9_eatsSemicolon h0 (some (.int x)) fin 13 [(0, .ref a0)] [.int y0] h := by
  intro a0 y0 h hd
  exact step E (is := I_X9_eatsSemicolon_13) (pc := 13) (K := (kx 22 (fun la st h => gI la 1 fun x1 => sE st (p_X9_eatsSemicolon_22 x1 h)) k0)) (FI := fI0) (FV := FV_X9_eatsSemicolon) (FL := fL0) (rt := rtZ) (ft := 22) (by exact hd) ok_X9_eatsSemicolon_13 (kx_ok (fun la st h e => by obtain ⟨x1, m_x1, e1⟩ := gI_inv e; obtain ⟨rfl, ez⟩ := sE_inv e1; exact gm_fewer (e_X9_eatsSemicolon_22 E  x1 h ez) (mem_cons m_x1 mem_nil)) k0_ok) (fI0_ok E) (FV_X9_eatsSemicolon_ok E) (fL0_ok E) (rtZ_ok rfl)
def I_X9_eatsSemicolon_12 : List AI := [(.iconst 0, 1, [], 0)]
theorem ok_X9_eatsSemicolon_12 : vBL MT qLen qCh false q_X9_eatsSemicolon.2.2.2.2.1 q_X9_eatsSemicolon.2.2.2.2.2.1 q_X9_eatsSemicolon.2.2.1 q_X9_eatsSemicolon.1.cls q_X9_eatsSemicolon.1.name q_X9_eatsSemicolon.2.1 13 12 I_X9_eatsSemicolon_12 = true := by decide +kernel
def p_X9_eatsSemicolon_12 (a0 : Nat) (h : AH) : Option (Int32 × AH) :=
  p_X9_eatsSemicolon_13 a0 ((0 : Int32)) h
set_option maxRecDepth 100000 in
theorem e_X9_eatsSemicolon_12 {l : Launch} {D : va_G} {dA : Nat → ClassId} {z : Nat} {sa : Nat → Nat} {Hz : Heap} (E : StrOK qLen qCh l D dA z sa Hz) {h0 fin : AH} {x : Int32}  : ∀ (a0 : Nat) (h : AH), p_X9_eatsSemicolon_12 a0 h = some (x, fin) → GM l D dA z sa Hz q_X9_eatsSemicolon h0 (some (.int x)) fin 12 [(0, .ref a0)] [] h := by
  intro a0 h hd
  exact step E (is := I_X9_eatsSemicolon_12) (pc := 12) (K := (kx 13 (fun la st h => gR la 0 fun a0 => sI st fun y0 st => sE st (p_X9_eatsSemicolon_13 a0 y0 h)) k0)) (FI := fI0) (FV := FV_X9_eatsSemicolon) (FL := fL0) (rt := rtZ) (ft := 13) (by exact hd) ok_X9_eatsSemicolon_12 (kx_ok (fun la st h e => by obtain ⟨a0, m_a0, e1⟩ := gR_inv e; obtain ⟨y0, _, rfl, e2⟩ := sI_inv e1; obtain ⟨rfl, ez⟩ := sE_inv e2; exact gm_fewer (e_X9_eatsSemicolon_13 E  a0 y0 h ez) (mem_cons m_a0 mem_nil)) k0_ok) (fI0_ok E) (FV_X9_eatsSemicolon_ok E) (fL0_ok E) (rtZ_ok rfl)
def I_X9_eatsSemicolon_0 : List AI := [(.aload_n 0, 1, [], 0), (.getfield 65, 3, [8, 9, 0, 1354], 0), (.iconst 4, 1, [], 4), (.if_icmp .ne 7, 3, [12], 0), (.iconst 1, 1, [], 1), (.goto 4, 3, [13], 0)]
theorem ok_X9_eatsSemicolon_0 : vBL MT qLen qCh false q_X9_eatsSemicolon.2.2.2.2.1 q_X9_eatsSemicolon.2.2.2.2.2.1 q_X9_eatsSemicolon.2.2.1 q_X9_eatsSemicolon.1.cls q_X9_eatsSemicolon.1.name q_X9_eatsSemicolon.2.1 0 0 I_X9_eatsSemicolon_0 = true := by decide +kernel
def p_X9_eatsSemicolon (a0 : Nat) (h : AH) : Option (Int32 × AH) :=
  if (tg h a0).1 = 8 then (if (rI h a0 9) = ((4 : Int32)) then (p_X9_eatsSemicolon_13 a0 ((1 : Int32)) h)
  else
  p_X9_eatsSemicolon_13 a0 ((0 : Int32)) h) else none
set_option maxRecDepth 100000 in
theorem e_X9_eatsSemicolon_0 {l : Launch} {D : va_G} {dA : Nat → ClassId} {z : Nat} {sa : Nat → Nat} {Hz : Heap} (E : StrOK qLen qCh l D dA z sa Hz) {h0 fin : AH} {x : Int32}  : ∀ (a0 : Nat) (h : AH), p_X9_eatsSemicolon a0 h = some (x, fin) → GM l D dA z sa Hz q_X9_eatsSemicolon h0 (some (.int x)) fin 0 [(0, .ref a0)] [] h := by
  intro a0 h hd
  exact step E (is := I_X9_eatsSemicolon_0) (pc := 0) (K := (kx 12 (fun la st h => gR la 0 fun a0 => sE st (p_X9_eatsSemicolon_12 a0 h)) (kx 13 (fun la st h => gR la 0 fun a0 => sI st fun y0 st => sE st (p_X9_eatsSemicolon_13 a0 y0 h)) k0))) (FI := fI0) (FV := FV_X9_eatsSemicolon) (FL := fL0) (rt := rtZ) (ft := 0) (by exact hd) ok_X9_eatsSemicolon_0 (kx_ok (fun la st h e => by obtain ⟨a0, m_a0, e1⟩ := gR_inv e; obtain ⟨rfl, ez⟩ := sE_inv e1; exact gm_fewer (e_X9_eatsSemicolon_12 E  a0 h ez) (mem_cons m_a0 mem_nil)) (kx_ok (fun la st h e => by obtain ⟨a0, m_a0, e1⟩ := gR_inv e; obtain ⟨y0, _, rfl, e2⟩ := sI_inv e1; obtain ⟨rfl, ez⟩ := sE_inv e2; exact gm_fewer (e_X9_eatsSemicolon_13 E  a0 y0 h ez) (mem_cons m_a0 mem_nil)) k0_ok)) (fI0_ok E) (FV_X9_eatsSemicolon_ok E) (fL0_ok E) (rtZ_ok rfl)
theorem c_X9_eatsSemicolon {l : Launch} {D : va_G} {dA : Nat → ClassId} {z : Nat} {sa : Nat → Nat} {Hz : Heap} (E : StrOK qLen qCh l D dA z sa Hz) {a0 : Nat} {h fin : AH} {x : Int32} (hd : p_X9_eatsSemicolon a0 h = some (x, fin)) : CalOK l D dA z sa Hz q_X9_eatsSemicolon [.ref a0] h (some (.int x)) fin := calOf (by decide +kernel) (Nat.le_of_ble_eq_true rfl) (e_X9_eatsSemicolon_0 E a0 h hd)
def FI_X9_readAll : Nat → List Value → AH → Option (Int32 × AH) := (cx 226 (fun As h => sR As fun a0 As => sE As (p_X9_eatsSemicolon a0 h)) fI0)
theorem FI_X9_readAll_ok {l : Launch} {D : va_G} {dA : Nat → ClassId} {z : Nat} {sa : Nat → Nat} {Hz : Heap} (E : StrOK qLen qCh l D dA z sa Hz) : ∀ mi As h x h', FI_X9_readAll mi As h = some (x, h') → CalOK l D dA z sa Hz (MT mi) As h (some (.int x)) h' := (cxI_ok (fun As h x h2 e => by obtain ⟨_, _, rfl, e0⟩ := sR_inv e; obtain ⟨rfl, ez⟩ := sE_inv e0; exact c_X9_eatsSemicolon E ez) (fI0_ok E))
def FV_X9_readAll : Nat → List Value → AH → Option (AH) := (cx 225 (fun As h => sR As fun a0 As => sE As (p_X9_readLine a0 h)) (cx 209 (fun As h => sR As fun a0 As => sI As fun x1 As => sE As (p_X9_flaw a0 x1 h)) fV0))
theorem FV_X9_readAll_ok {l : Launch} {D : va_G} {dA : Nat → ClassId} {z : Nat} {sa : Nat → Nat} {Hz : Heap} (E : StrOK qLen qCh l D dA z sa Hz) : ∀ mi As h h', FV_X9_readAll mi As h = some h' → CalOK l D dA z sa Hz (MT mi) As h none h' := (cxV_ok (fun As h h2 e => by obtain ⟨_, _, rfl, e0⟩ := sR_inv e; obtain ⟨rfl, ez⟩ := sE_inv e0; exact c_X9_readLine E ez) ((cxV_ok (fun As h h2 e => by obtain ⟨_, _, rfl, e0⟩ := sR_inv e; obtain ⟨_, _, rfl, e1⟩ := sI_inv e0; obtain ⟨rfl, ez⟩ := sE_inv e1; exact c_X9_flaw E ez) (fV0_ok E))))
def I_X9_readAll_47 : List AI := [(.return_, 1, [], 0)]
theorem ok_X9_readAll_47 : vBL MT qLen qCh false q_X9_readAll.2.2.2.2.1 q_X9_readAll.2.2.2.2.2.1 q_X9_readAll.2.2.1 q_X9_readAll.1.cls q_X9_readAll.1.name q_X9_readAll.2.1 0 47 I_X9_readAll_47 = true := by decide +kernel
def p_X9_readAll_47 (h : AH) : Option (AH) :=
  some h
set_option maxRecDepth 100000 in
theorem e_X9_readAll_47 {l : Launch} {D : va_G} {dA : Nat → ClassId} {z : Nat} {sa : Nat → Nat} {Hz : Heap} (E : StrOK qLen qCh l D dA z sa Hz) {h0 fin : AH}  : ∀  (h : AH), p_X9_readAll_47 h = some fin → GM l D dA z sa Hz q_X9_readAll h0 none fin 47 [] [] h := by
  intro h hd
  exact step E (is := I_X9_readAll_47) (pc := 47) (K := k0) (FI := FI_X9_readAll) (FV := FV_X9_readAll) (FL := fL0) (rt := rtV) (ft := 0) (by exact hd) ok_X9_readAll_47 k0_ok (FI_X9_readAll_ok E) (FV_X9_readAll_ok E) (fL0_ok E) (rtV_ok rfl)
def I_X9_readAll_31 : List AI := [(.aload_n 0, 1, [], 0), (.getfield 120, 3, [8, 4, 2, 1349], 0), (.getfield 124, 3, [7, 0, 0, 1491], 0), (.ifCond .ne 9, 3, [47], 0), (.aload_n 0, 1, [], 0), (.bipush 6, 2, [], 6), (.invokevirtual 108, 3, [2, 209, 2, 8, 1595], 0)]
theorem ok_X9_readAll_31 : vBL MT qLen qCh false q_X9_readAll.2.2.2.2.1 q_X9_readAll.2.2.2.2.2.1 q_X9_readAll.2.2.1 q_X9_readAll.1.cls q_X9_readAll.1.name q_X9_readAll.2.1 47 31 I_X9_readAll_31 = true := by decide +kernel
def p_X9_readAll_31 (a0 : Nat) (h : AH) : Option (AH) :=
  if (tg h a0).1 = 8 then (if (tg h (rR h a0 4)).1 = 7 then (if (rI h (rR h a0 4) 0) = 0 then (if (tg h a0).1 = 8 then ((p_X9_flaw a0 ((6 : Int32)) h).bind fun h101 =>
  p_X9_readAll_47 h101) else none)
  else
  p_X9_readAll_47 h) else none) else none
set_option maxRecDepth 100000 in
theorem e_X9_readAll_31 {l : Launch} {D : va_G} {dA : Nat → ClassId} {z : Nat} {sa : Nat → Nat} {Hz : Heap} (E : StrOK qLen qCh l D dA z sa Hz) {h0 fin : AH}  : ∀ (a0 : Nat) (h : AH), p_X9_readAll_31 a0 h = some fin → GM l D dA z sa Hz q_X9_readAll h0 none fin 31 [(0, .ref a0)] [] h := by
  intro a0 h hd
  exact step E (is := I_X9_readAll_31) (pc := 31) (K := (kx 47 (fun la st h => sE st (p_X9_readAll_47 h)) k0)) (FI := FI_X9_readAll) (FV := FV_X9_readAll) (FL := fL0) (rt := rtV) (ft := 47) (by exact hd) ok_X9_readAll_31 (kx_ok (fun la st h e => by obtain ⟨rfl, ez⟩ := sE_inv e; exact gm_fewer (e_X9_readAll_47 E   h ez) mem_nil) k0_ok) (FI_X9_readAll_ok E) (FV_X9_readAll_ok E) (fL0_ok E) (rtV_ok rfl)
def I_X9_readAll_18 : List AI := [(.aload_n 0, 1, [], 0), (.getfield 65, 3, [8, 9, 0, 1354], 0), (.iconst 1, 1, [], 1), (.if_icmp .eq 8, 3, [31], 0), (.aload_n 0, 1, [], 0), (.iconst 1, 1, [], 1), (.invokevirtual 108, 3, [2, 209, 2, 8, 1595], 0)]
theorem ok_X9_readAll_18 : vBL MT qLen qCh false q_X9_readAll.2.2.2.2.1 q_X9_readAll.2.2.2.2.2.1 q_X9_readAll.2.2.1 q_X9_readAll.1.cls q_X9_readAll.1.name q_X9_readAll.2.1 31 18 I_X9_readAll_18 = true := by decide +kernel
def p_X9_readAll_18 (a0 : Nat) (h : AH) : Option (AH) :=
  if (tg h a0).1 = 8 then (if (rI h a0 9) = ((1 : Int32)) then (p_X9_readAll_31 a0 h)
  else
  if (tg h a0).1 = 8 then ((p_X9_flaw a0 ((1 : Int32)) h).bind fun h102 =>
  p_X9_readAll_31 a0 h102) else none) else none
set_option maxRecDepth 100000 in
theorem e_X9_readAll_18 {l : Launch} {D : va_G} {dA : Nat → ClassId} {z : Nat} {sa : Nat → Nat} {Hz : Heap} (E : StrOK qLen qCh l D dA z sa Hz) {h0 fin : AH}  : ∀ (a0 : Nat) (h : AH), p_X9_readAll_18 a0 h = some fin → GM l D dA z sa Hz q_X9_readAll h0 none fin 18 [(0, .ref a0)] [] h := by
  intro a0 h hd
  exact step E (is := I_X9_readAll_18) (pc := 18) (K := (kx 31 (fun la st h => gR la 0 fun a0 => sE st (p_X9_readAll_31 a0 h)) k0)) (FI := FI_X9_readAll) (FV := FV_X9_readAll) (FL := fL0) (rt := rtV) (ft := 31) (by exact hd) ok_X9_readAll_18 (kx_ok (fun la st h e => by obtain ⟨a0, m_a0, e1⟩ := gR_inv e; obtain ⟨rfl, ez⟩ := sE_inv e1; exact gm_fewer (e_X9_readAll_31 E  a0 h ez) (mem_cons m_a0 mem_nil)) k0_ok) (FI_X9_readAll_ok E) (FV_X9_readAll_ok E) (fL0_ok E) (rtV_ok rfl)
def I_X9_readAll_2 : List AI := [(.iload_n 1, 1, [], 0), (.ifCond .eq 15, 3, [18], 0), (.aload_n 0, 1, [], 0), (.invokevirtual 137, 3, [2, 225, 1, 8, 1577], 0), (.aload_n 0, 1, [], 0), (.invokevirtual 140, 3, [1, 226, 1, 8, 1671], 0), (.istore_n 1, 1, [], 0), (.goto (-13), 3, [2], 0)]
theorem ok_X9_readAll_2 : vBL MT qLen qCh false q_X9_readAll.2.2.2.2.1 q_X9_readAll.2.2.2.2.2.1 q_X9_readAll.2.2.1 q_X9_readAll.1.cls q_X9_readAll.1.name q_X9_readAll.2.1 0 2 I_X9_readAll_2 = true := by decide +kernel
def p_X9_readAll_2 : Nat → Nat → Int32 → AH → Option (AH)
  | 0, _, _, _ => none
  | n + 1, a0, x1, h => if x1 = 0 then (if (tg h a0).1 = 8 then (if (rI h a0 9) = ((1 : Int32)) then (p_X9_readAll_31 a0 h)
    else
    if (tg h a0).1 = 8 then ((p_X9_flaw a0 ((1 : Int32)) h).bind fun h103 =>
    p_X9_readAll_31 a0 h103) else none) else none)
    else
    if (tg h a0).1 = 8 then ((p_X9_readLine a0 h).bind fun h104 =>
    if (tg h104 a0).1 = 8 then ((p_X9_eatsSemicolon a0 h104).bind fun q105 =>
    p_X9_readAll_2 n a0 q105.1 q105.2) else none) else none
set_option maxRecDepth 100000 in
theorem e_X9_readAll_2 {l : Launch} {D : va_G} {dA : Nat → ClassId} {z : Nat} {sa : Nat → Nat} {Hz : Heap} (E : StrOK qLen qCh l D dA z sa Hz) {h0 fin : AH}  : ∀ (n : Nat) (a0 : Nat) (x1 : Int32) (h : AH), p_X9_readAll_2 n a0 x1 h = some fin → GM l D dA z sa Hz q_X9_readAll h0 none fin 2 [(0, .ref a0), (1, .int x1)] [] h := by
  intro n
  induction n with
  | zero => intro a0 x1 h hd; exact nomatch hd
  | succ n ih =>
    intro a0 x1 h hd
    exact step E (is := I_X9_readAll_2) (pc := 2) (K := (kx 18 (fun la st h => gR la 0 fun a0 => sE st (p_X9_readAll_18 a0 h)) (kx 2 (fun la st h => gR la 0 fun a0 => gI la 1 fun x1 => sE st (p_X9_readAll_2 n a0 x1 h)) k0))) (FI := FI_X9_readAll) (FV := FV_X9_readAll) (FL := fL0) (rt := rtV) (ft := 0) (by exact hd) ok_X9_readAll_2 (kx_ok (fun la st h e => by obtain ⟨a0, m_a0, e1⟩ := gR_inv e; obtain ⟨rfl, ez⟩ := sE_inv e1; exact gm_fewer (e_X9_readAll_18 E  a0 h ez) (mem_cons m_a0 mem_nil)) (kx_ok (fun la st h e => by obtain ⟨a0, m_a0, e1⟩ := gR_inv e; obtain ⟨x1, m_x1, e2⟩ := gI_inv e1; obtain ⟨rfl, ez⟩ := sE_inv e2; exact gm_fewer (ih a0 x1 h ez) (mem_cons m_a0 (mem_cons m_x1 mem_nil))) k0_ok)) (FI_X9_readAll_ok E) (FV_X9_readAll_ok E) (fL0_ok E) (rtV_ok rfl)
def I_X9_readAll_0 : List AI := [(.iconst 1, 1, [], 1), (.istore_n 1, 1, [], 0)]
theorem ok_X9_readAll_0 : vBL MT qLen qCh false q_X9_readAll.2.2.2.2.1 q_X9_readAll.2.2.2.2.2.1 q_X9_readAll.2.2.1 q_X9_readAll.1.cls q_X9_readAll.1.name q_X9_readAll.2.1 2 0 I_X9_readAll_0 = true := by decide +kernel
def p_X9_readAll (a0 : Nat) (h : AH) : Option (AH) :=
  p_X9_readAll_2 FU a0 ((1 : Int32)) h
set_option maxRecDepth 100000 in
theorem e_X9_readAll_0 {l : Launch} {D : va_G} {dA : Nat → ClassId} {z : Nat} {sa : Nat → Nat} {Hz : Heap} (E : StrOK qLen qCh l D dA z sa Hz) {h0 fin : AH}  : ∀ (a0 : Nat) (h : AH), p_X9_readAll a0 h = some fin → GM l D dA z sa Hz q_X9_readAll h0 none fin 0 [(0, .ref a0)] [] h := by
  intro a0 h hd
  exact step E (is := I_X9_readAll_0) (pc := 0) (K := (kx 2 (fun la st h => gR la 0 fun a0 => gI la 1 fun x1 => sE st (p_X9_readAll_2 FU a0 x1 h)) k0)) (FI := FI_X9_readAll) (FV := FV_X9_readAll) (FL := fL0) (rt := rtV) (ft := 2) (by exact hd) ok_X9_readAll_0 (kx_ok (fun la st h e => by obtain ⟨a0, m_a0, e1⟩ := gR_inv e; obtain ⟨x1, m_x1, e2⟩ := gI_inv e1; obtain ⟨rfl, ez⟩ := sE_inv e2; exact gm_fewer (e_X9_readAll_2 E  FU a0 x1 h ez) (mem_cons m_a0 (mem_cons m_x1 mem_nil))) k0_ok) (FI_X9_readAll_ok E) (FV_X9_readAll_ok E) (fL0_ok E) (rtV_ok rfl)
theorem c_X9_readAll {l : Launch} {D : va_G} {dA : Nat → ClassId} {z : Nat} {sa : Nat → Nat} {Hz : Heap} (E : StrOK qLen qCh l D dA z sa Hz) {a0 : Nat} {h fin : AH} (hd : p_X9_readAll a0 h = some fin) : CalOK l D dA z sa Hz q_X9_readAll [.ref a0] h none fin := calOf (by decide +kernel) (Nat.le_of_ble_eq_true rfl) (e_X9_readAll_0 E a0 h hd)
def I_X9_bit_14 : List AI := [(.ireturn, 1, [], 0)]
theorem ok_X9_bit_14 : vBL MT qLen qCh false q_X9_bit.2.2.2.2.1 q_X9_bit.2.2.2.2.2.1 q_X9_bit.2.2.1 q_X9_bit.1.cls q_X9_bit.1.name q_X9_bit.2.1 0 14 I_X9_bit_14 = true := by decide +kernel
def p_X9_bit_14 (y0 : Int32) (h : AH) : Option (Int32 × AH) :=
  if y0 &&& 1 = y0 then some (y0, h) else none
set_option maxRecDepth 100000 in
theorem e_X9_bit_14 {l : Launch} {D : va_G} {dA : Nat → ClassId} {z : Nat} {sa : Nat → Nat} {Hz : Heap} (E : StrOK qLen qCh l D dA z sa Hz) {h0 fin : AH} {x : Int32}  : ∀ (y0 : Int32) (h : AH), p_X9_bit_14 y0 h = some (x, fin) → GM l D dA z sa Hz q_X9_bit h0 (some (.int x)) fin 14 [] [.int y0] h := by
  intro y0 h hd
  exact step E (is := I_X9_bit_14) (pc := 14) (K := k0) (FI := fI0) (FV := fV0) (FL := fL0) (rt := rtZ) (ft := 0) (by exact hd) ok_X9_bit_14 k0_ok (fI0_ok E) (fV0_ok E) (fL0_ok E) (rtZ_ok rfl)
def I_X9_bit_13 : List AI := [(.iconst 0, 1, [], 0)]
theorem ok_X9_bit_13 : vBL MT qLen qCh false q_X9_bit.2.2.2.2.1 q_X9_bit.2.2.2.2.2.1 q_X9_bit.2.2.1 q_X9_bit.1.cls q_X9_bit.1.name q_X9_bit.2.1 14 13 I_X9_bit_13 = true := by decide +kernel
def p_X9_bit_13 (h : AH) : Option (Int32 × AH) :=
  p_X9_bit_14 ((0 : Int32)) h
set_option maxRecDepth 100000 in
theorem e_X9_bit_13 {l : Launch} {D : va_G} {dA : Nat → ClassId} {z : Nat} {sa : Nat → Nat} {Hz : Heap} (E : StrOK qLen qCh l D dA z sa Hz) {h0 fin : AH} {x : Int32}  : ∀  (h : AH), p_X9_bit_13 h = some (x, fin) → GM l D dA z sa Hz q_X9_bit h0 (some (.int x)) fin 13 [] [] h := by
  intro h hd
  exact step E (is := I_X9_bit_13) (pc := 13) (K := (kx 14 (fun la st h => sI st fun y0 st => sE st (p_X9_bit_14 y0 h)) k0)) (FI := fI0) (FV := fV0) (FL := fL0) (rt := rtZ) (ft := 14) (by exact hd) ok_X9_bit_13 (kx_ok (fun la st h e => by obtain ⟨y0, _, rfl, e1⟩ := sI_inv e; obtain ⟨rfl, ez⟩ := sE_inv e1; exact gm_fewer (e_X9_bit_14 E  y0 h ez) mem_nil) k0_ok) (fI0_ok E) (fV0_ok E) (fL0_ok E) (rtZ_ok rfl)
def I_X9_bit_0 : List AI := [(.iload_n 0, 1, [], 0), (.iload_n 1, 1, [], 0), (.ishr, 1, [], 0), (.iconst 1, 1, [], 1), (.iand, 1, [], 0), (.iconst 1, 1, [], 1), (.if_icmp .ne 7, 3, [13], 0), (.iconst 1, 1, [], 1), (.goto 4, 3, [14], 0)]
theorem ok_X9_bit_0 : vBL MT qLen qCh false q_X9_bit.2.2.2.2.1 q_X9_bit.2.2.2.2.2.1 q_X9_bit.2.2.1 q_X9_bit.1.cls q_X9_bit.1.name q_X9_bit.2.1 0 0 I_X9_bit_0 = true := by decide +kernel
def p_X9_bit (x0 : Int32) (x1 : Int32) (h : AH) : Option (Int32 × AH) :=
  if ((x0 >>> (x1 &&& 31)) &&& ((1 : Int32))) = ((1 : Int32)) then (p_X9_bit_14 ((1 : Int32)) h)
  else
  p_X9_bit_14 ((0 : Int32)) h
set_option maxRecDepth 100000 in
theorem e_X9_bit_0 {l : Launch} {D : va_G} {dA : Nat → ClassId} {z : Nat} {sa : Nat → Nat} {Hz : Heap} (E : StrOK qLen qCh l D dA z sa Hz) {h0 fin : AH} {x : Int32}  : ∀ (x0 : Int32) (x1 : Int32) (h : AH), p_X9_bit x0 x1 h = some (x, fin) → GM l D dA z sa Hz q_X9_bit h0 (some (.int x)) fin 0 [(0, .int x0), (1, .int x1)] [] h := by
  intro x0 x1 h hd
  exact step E (is := I_X9_bit_0) (pc := 0) (K := (kx 13 (fun la st h => sE st (p_X9_bit_13 h)) (kx 14 (fun la st h => sI st fun y0 st => sE st (p_X9_bit_14 y0 h)) k0))) (FI := fI0) (FV := fV0) (FL := fL0) (rt := rtZ) (ft := 0) (by exact hd) ok_X9_bit_0 (kx_ok (fun la st h e => by obtain ⟨rfl, ez⟩ := sE_inv e; exact gm_fewer (e_X9_bit_13 E   h ez) mem_nil) (kx_ok (fun la st h e => by obtain ⟨y0, _, rfl, e1⟩ := sI_inv e; obtain ⟨rfl, ez⟩ := sE_inv e1; exact gm_fewer (e_X9_bit_14 E  y0 h ez) mem_nil) k0_ok)) (fI0_ok E) (fV0_ok E) (fL0_ok E) (rtZ_ok rfl)
theorem c_X9_bit {l : Launch} {D : va_G} {dA : Nat → ClassId} {z : Nat} {sa : Nat → Nat} {Hz : Heap} (E : StrOK qLen qCh l D dA z sa Hz) {x0 : Int32} {x1 : Int32} {h fin : AH} {x : Int32} (hd : p_X9_bit x0 x1 h = some (x, fin)) : CalOK l D dA z sa Hz q_X9_bit [.int x0, .int x1] h (some (.int x)) fin := calOf (by decide +kernel) (Nat.le_of_ble_eq_true rfl) (e_X9_bit_0 E x0 x1 h hd)
def I_X9_frees_76 : List AI := [(.return_, 1, [], 0)]
theorem ok_X9_frees_76 : vBL MT qLen qCh false q_X9_frees.2.2.2.2.1 q_X9_frees.2.2.2.2.2.1 q_X9_frees.2.2.1 q_X9_frees.1.cls q_X9_frees.1.name q_X9_frees.2.1 0 76 I_X9_frees_76 = true := by decide +kernel
def p_X9_frees_76 (h : AH) : Option (AH) :=
  some h
set_option maxRecDepth 100000 in
theorem e_X9_frees_76 {l : Launch} {D : va_G} {dA : Nat → ClassId} {z : Nat} {sa : Nat → Nat} {Hz : Heap} (E : StrOK qLen qCh l D dA z sa Hz) {h0 fin : AH}  : ∀  (h : AH), p_X9_frees_76 h = some fin → GM l D dA z sa Hz q_X9_frees h0 none fin 76 [] [] h := by
  intro h hd
  exact step E (is := I_X9_frees_76) (pc := 76) (K := k0) (FI := fI0) (FV := fV0) (FL := fL0) (rt := rtV) (ft := 0) (by exact hd) ok_X9_frees_76 k0_ok (fI0_ok E) (fV0_ok E) (fL0_ok E) (rtV_ok rfl)
def I_X9_frees_48 : List AI := [(.iload_n 2, 1, [], 0), (.bipush 8, 2, [], 8), (.if_icmp .ge 25, 3, [76], 0), (.aload_n 0, 1, [], 0), (.getfield 21, 3, [8, 16, 2, 1361], 0), (.sipush 179, 3, [], 179), (.bipush 8, 2, [], 8), (.iload_n 1, 1, [], 0), (.imul, 1, [], 0), (.iadd, 1, [], 0), (.iload_n 2, 1, [], 0), (.iadd, 1, [], 0), (.iconst (-1), 1, [], (-1)), (.iastore, 1, [], 0), (.iinc 2 1, 3, [], 1), (.goto (-25), 3, [48], 0)]
theorem ok_X9_frees_48 : vBL MT qLen qCh false q_X9_frees.2.2.2.2.1 q_X9_frees.2.2.2.2.2.1 q_X9_frees.2.2.1 q_X9_frees.1.cls q_X9_frees.1.name q_X9_frees.2.1 0 48 I_X9_frees_48 = true := by decide +kernel
def p_X9_frees_48 : Nat → Nat → Int32 → Int32 → AH → Option (AH)
  | 0, _, _, _, _ => none
  | n + 1, a0, x1, x2, h => if x2 < ((8 : Int32)) then (if (tg h a0).1 = 8 then (if inB h (rR h a0 16) 100 ((((179 : Int32)) + (((8 : Int32)) * x1)) + x2) then (let h101 := wI h (rR h a0 16) ((((179 : Int32)) + (((8 : Int32)) * x1)) + x2).toNatClampNeg ((-1 : Int32))
    p_X9_frees_48 n a0 x1 (x2 + (1 : Int32)) h101) else none) else none)
    else
    some h
set_option maxRecDepth 100000 in
theorem e_X9_frees_48 {l : Launch} {D : va_G} {dA : Nat → ClassId} {z : Nat} {sa : Nat → Nat} {Hz : Heap} (E : StrOK qLen qCh l D dA z sa Hz) {h0 fin : AH}  : ∀ (n : Nat) (a0 : Nat) (x1 : Int32) (x2 : Int32) (h : AH), p_X9_frees_48 n a0 x1 x2 h = some fin → GM l D dA z sa Hz q_X9_frees h0 none fin 48 [(0, .ref a0), (1, .int x1), (2, .int x2)] [] h := by
  intro n
  induction n with
  | zero => intro a0 x1 x2 h hd; exact nomatch hd
  | succ n ih =>
    intro a0 x1 x2 h hd
    exact step E (is := I_X9_frees_48) (pc := 48) (K := (kx 76 (fun la st h => sE st (p_X9_frees_76 h)) (kx 48 (fun la st h => gR la 0 fun a0 => gI la 1 fun x1 => gI la 2 fun x2 => sE st (p_X9_frees_48 n a0 x1 x2 h)) k0))) (FI := fI0) (FV := fV0) (FL := fL0) (rt := rtV) (ft := 0) (by exact hd) ok_X9_frees_48 (kx_ok (fun la st h e => by obtain ⟨rfl, ez⟩ := sE_inv e; exact gm_fewer (e_X9_frees_76 E   h ez) mem_nil) (kx_ok (fun la st h e => by obtain ⟨a0, m_a0, e1⟩ := gR_inv e; obtain ⟨x1, m_x1, e2⟩ := gI_inv e1; obtain ⟨x2, m_x2, e3⟩ := gI_inv e2; obtain ⟨rfl, ez⟩ := sE_inv e3; exact gm_fewer (ih a0 x1 x2 h ez) (mem_cons m_a0 (mem_cons m_x1 (mem_cons m_x2 mem_nil)))) k0_ok)) (fI0_ok E) (fV0_ok E) (fL0_ok E) (rtV_ok rfl)
def I_X9_frees_0 : List AI := [(.aload_n 0, 1, [], 0), (.getfield 21, 3, [8, 16, 2, 1361], 0), (.sipush 147, 3, [], 147), (.iload_n 1, 1, [], 0), (.iadd, 1, [], 0), (.bipush (-2), 2, [], (-2)), (.iastore, 1, [], 0), (.aload_n 0, 1, [], 0), (.getfield 21, 3, [8, 16, 2, 1361], 0), (.sipush 155, 3, [], 155), (.iload_n 1, 1, [], 0), (.iadd, 1, [], 0), (.bipush (-2), 2, [], (-2)), (.iastore, 1, [], 0), (.aload_n 0, 1, [], 0), (.getfield 21, 3, [8, 16, 2, 1361], 0), (.sipush 163, 3, [], 163), (.iload_n 1, 1, [], 0), (.iadd, 1, [], 0), (.iconst 0, 1, [], 0), (.iastore, 1, [], 0), (.aload_n 0, 1, [], 0), (.getfield 21, 3, [8, 16, 2, 1361], 0), (.sipush 171, 3, [], 171), (.iload_n 1, 1, [], 0), (.iadd, 1, [], 0), (.iconst 0, 1, [], 0), (.iastore, 1, [], 0), (.iconst 0, 1, [], 0), (.istore_n 2, 1, [], 0)]
theorem ok_X9_frees_0 : vBL MT qLen qCh false q_X9_frees.2.2.2.2.1 q_X9_frees.2.2.2.2.2.1 q_X9_frees.2.2.1 q_X9_frees.1.cls q_X9_frees.1.name q_X9_frees.2.1 48 0 I_X9_frees_0 = true := by decide +kernel
def p_X9_frees (a0 : Nat) (x1 : Int32) (h : AH) : Option (AH) :=
  if (tg h a0).1 = 8 then (if inB h (rR h a0 16) 100 (((147 : Int32)) + x1) then (let h102 := wI h (rR h a0 16) (((147 : Int32)) + x1).toNatClampNeg ((-2 : Int32))
  if (tg h102 a0).1 = 8 then (if inB h102 (rR h102 a0 16) 100 (((155 : Int32)) + x1) then (let h103 := wI h102 (rR h102 a0 16) (((155 : Int32)) + x1).toNatClampNeg ((-2 : Int32))
  if (tg h103 a0).1 = 8 then (if inB h103 (rR h103 a0 16) 100 (((163 : Int32)) + x1) then (let h104 := wI h103 (rR h103 a0 16) (((163 : Int32)) + x1).toNatClampNeg ((0 : Int32))
  if (tg h104 a0).1 = 8 then (if inB h104 (rR h104 a0 16) 100 (((171 : Int32)) + x1) then (let h105 := wI h104 (rR h104 a0 16) (((171 : Int32)) + x1).toNatClampNeg ((0 : Int32))
  p_X9_frees_48 FU a0 x1 ((0 : Int32)) h105) else none) else none) else none) else none) else none) else none) else none) else none
set_option maxRecDepth 100000 in
theorem e_X9_frees_0 {l : Launch} {D : va_G} {dA : Nat → ClassId} {z : Nat} {sa : Nat → Nat} {Hz : Heap} (E : StrOK qLen qCh l D dA z sa Hz) {h0 fin : AH}  : ∀ (a0 : Nat) (x1 : Int32) (h : AH), p_X9_frees a0 x1 h = some fin → GM l D dA z sa Hz q_X9_frees h0 none fin 0 [(0, .ref a0), (1, .int x1)] [] h := by
  intro a0 x1 h hd
  exact step E (is := I_X9_frees_0) (pc := 0) (K := (kx 48 (fun la st h => gR la 0 fun a0 => gI la 1 fun x1 => gI la 2 fun x2 => sE st (p_X9_frees_48 FU a0 x1 x2 h)) k0)) (FI := fI0) (FV := fV0) (FL := fL0) (rt := rtV) (ft := 48) (by exact hd) ok_X9_frees_0 (kx_ok (fun la st h e => by obtain ⟨a0, m_a0, e1⟩ := gR_inv e; obtain ⟨x1, m_x1, e2⟩ := gI_inv e1; obtain ⟨x2, m_x2, e3⟩ := gI_inv e2; obtain ⟨rfl, ez⟩ := sE_inv e3; exact gm_fewer (e_X9_frees_48 E  FU a0 x1 x2 h ez) (mem_cons m_a0 (mem_cons m_x1 (mem_cons m_x2 mem_nil)))) k0_ok) (fI0_ok E) (fV0_ok E) (fL0_ok E) (rtV_ok rfl)
theorem c_X9_frees {l : Launch} {D : va_G} {dA : Nat → ClassId} {z : Nat} {sa : Nat → Nat} {Hz : Heap} (E : StrOK qLen qCh l D dA z sa Hz) {a0 : Nat} {x1 : Int32} {h fin : AH} (hd : p_X9_frees a0 x1 h = some fin) : CalOK l D dA z sa Hz q_X9_frees [.ref a0, .int x1] h none fin := calOf (by decide +kernel) (Nat.le_of_ble_eq_true rfl) (e_X9_frees_0 E a0 x1 h hd)
def I_X9_begins_0 : List AI := [(.aload_n 0, 1, [], 0), (.aload_n 0, 1, [], 0), (.getfield 265, 3, [8, 3, 2, 1348], 0), (.getfield 124, 3, [7, 0, 0, 1491], 0), (.putfield 297, 3, [8, 26, 0, 1371], 0), (.aload_n 0, 1, [], 0), (.iconst 0, 1, [], 0), (.putfield 298, 3, [8, 27, 0, 1372], 0), (.aload_n 0, 1, [], 0), (.iconst 0, 1, [], 0), (.putfield 301, 3, [8, 28, 0, 1373], 0), (.aload_n 0, 1, [], 0), (.iconst 0, 1, [], 0), (.putfield 304, 3, [8, 29, 0, 1374], 0), (.return_, 1, [], 0)]
theorem ok_X9_begins_0 : vBL MT qLen qCh false q_X9_begins.2.2.2.2.1 q_X9_begins.2.2.2.2.2.1 q_X9_begins.2.2.1 q_X9_begins.1.cls q_X9_begins.1.name q_X9_begins.2.1 0 0 I_X9_begins_0 = true := by decide +kernel
def p_X9_begins (a0 : Nat) (h : AH) : Option (AH) :=
  if (tg h a0).1 = 8 then (if (tg h (rR h a0 3)).1 = 7 then (if (tg h a0).1 = 8 then (let h101 := wI h a0 26 (rI h (rR h a0 3) 0)
  if (tg h101 a0).1 = 8 then (let h102 := wI h101 a0 27 ((0 : Int32))
  if (tg h102 a0).1 = 8 then (let h103 := wI h102 a0 28 ((0 : Int32))
  if (tg h103 a0).1 = 8 then (let h104 := wI h103 a0 29 ((0 : Int32))
  some h104) else none) else none) else none) else none) else none) else none
set_option maxRecDepth 100000 in
theorem e_X9_begins_0 {l : Launch} {D : va_G} {dA : Nat → ClassId} {z : Nat} {sa : Nat → Nat} {Hz : Heap} (E : StrOK qLen qCh l D dA z sa Hz) {h0 fin : AH}  : ∀ (a0 : Nat) (h : AH), p_X9_begins a0 h = some fin → GM l D dA z sa Hz q_X9_begins h0 none fin 0 [(0, .ref a0)] [] h := by
  intro a0 h hd
  exact step E (is := I_X9_begins_0) (pc := 0) (K := k0) (FI := fI0) (FV := fV0) (FL := fL0) (rt := rtV) (ft := 0) (by exact hd) ok_X9_begins_0 k0_ok (fI0_ok E) (fV0_ok E) (fL0_ok E) (rtV_ok rfl)
theorem c_X9_begins {l : Launch} {D : va_G} {dA : Nat → ClassId} {z : Nat} {sa : Nat → Nat} {Hz : Heap} (E : StrOK qLen qCh l D dA z sa Hz) {a0 : Nat} {h fin : AH} (hd : p_X9_begins a0 h = some fin) : CalOK l D dA z sa Hz q_X9_begins [.ref a0] h none fin := calOf (by decide +kernel) (Nat.le_of_ble_eq_true rfl) (e_X9_begins_0 E a0 h hd)
def FI_X9_asTold : Nat → List Value → AH → Option (Int32 × AH) := (cx 228 (fun As h => sI As fun x0 As => sI As fun x1 As => sE As (p_X9_bit x0 x1 h)) fI0)
theorem FI_X9_asTold_ok {l : Launch} {D : va_G} {dA : Nat → ClassId} {z : Nat} {sa : Nat → Nat} {Hz : Heap} (E : StrOK qLen qCh l D dA z sa Hz) : ∀ mi As h x h', FI_X9_asTold mi As h = some (x, h') → CalOK l D dA z sa Hz (MT mi) As h (some (.int x)) h' := (cxI_ok (fun As h x h2 e => by obtain ⟨_, _, rfl, e0⟩ := sI_inv e; obtain ⟨_, _, rfl, e1⟩ := sI_inv e0; obtain ⟨rfl, ez⟩ := sE_inv e1; exact c_X9_bit E ez) (fI0_ok E))
def FV_X9_asTold : Nat → List Value → AH → Option (AH) := (cx 229 (fun As h => sR As fun a0 As => sI As fun x1 As => sE As (p_X9_frees a0 x1 h)) (cx 230 (fun As h => sR As fun a0 As => sE As (p_X9_begins a0 h)) fV0))
theorem FV_X9_asTold_ok {l : Launch} {D : va_G} {dA : Nat → ClassId} {z : Nat} {sa : Nat → Nat} {Hz : Heap} (E : StrOK qLen qCh l D dA z sa Hz) : ∀ mi As h h', FV_X9_asTold mi As h = some h' → CalOK l D dA z sa Hz (MT mi) As h none h' := (cxV_ok (fun As h h2 e => by obtain ⟨_, _, rfl, e0⟩ := sR_inv e; obtain ⟨_, _, rfl, e1⟩ := sI_inv e0; obtain ⟨rfl, ez⟩ := sE_inv e1; exact c_X9_frees E ez) ((cxV_ok (fun As h h2 e => by obtain ⟨_, _, rfl, e0⟩ := sR_inv e; obtain ⟨rfl, ez⟩ := sE_inv e0; exact c_X9_begins E ez) (fV0_ok E))))
def I_X9_asTold_184 : List AI := [(.aload_n 0, 1, [], 0), (.invokevirtual 294, 3, [2, 230, 1, 8, 1686], 0), (.return_, 1, [], 0)]
theorem ok_X9_asTold_184 : vBL MT qLen qCh false q_X9_asTold.2.2.2.2.1 q_X9_asTold.2.2.2.2.2.1 q_X9_asTold.2.2.1 q_X9_asTold.1.cls q_X9_asTold.1.name q_X9_asTold.2.1 0 184 I_X9_asTold_184 = true := by decide +kernel
def p_X9_asTold_184 (a0 : Nat) (h : AH) : Option (AH) :=
  if (tg h a0).1 = 8 then ((p_X9_begins a0 h).bind fun h101 =>
  some h101) else none
set_option maxRecDepth 100000 in
theorem e_X9_asTold_184 {l : Launch} {D : va_G} {dA : Nat → ClassId} {z : Nat} {sa : Nat → Nat} {Hz : Heap} (E : StrOK qLen qCh l D dA z sa Hz) {h0 fin : AH}  : ∀ (a0 : Nat) (h : AH), p_X9_asTold_184 a0 h = some fin → GM l D dA z sa Hz q_X9_asTold h0 none fin 184 [(0, .ref a0)] [] h := by
  intro a0 h hd
  exact step E (is := I_X9_asTold_184) (pc := 184) (K := k0) (FI := FI_X9_asTold) (FV := FV_X9_asTold) (FL := fL0) (rt := rtV) (ft := 0) (by exact hd) ok_X9_asTold_184 k0_ok (FI_X9_asTold_ok E) (FV_X9_asTold_ok E) (fL0_ok E) (rtV_ok rfl)
def I_X9_asTold_167 : List AI := [(.iload_n 2, 1, [], 0), (.bipush 8, 2, [], 8), (.if_icmp .ge 14, 3, [184], 0), (.aload_n 0, 1, [], 0), (.iload_n 2, 1, [], 0), (.invokevirtual 310, 3, [2, 229, 2, 8, 1682], 0), (.iinc 2 1, 3, [], 1), (.goto (-14), 3, [167], 0)]
theorem ok_X9_asTold_167 : vBL MT qLen qCh false q_X9_asTold.2.2.2.2.1 q_X9_asTold.2.2.2.2.2.1 q_X9_asTold.2.2.1 q_X9_asTold.1.cls q_X9_asTold.1.name q_X9_asTold.2.1 0 167 I_X9_asTold_167 = true := by decide +kernel
def p_X9_asTold_167 : Nat → Nat → Int32 → AH → Option (AH)
  | 0, _, _, _ => none
  | n + 1, a0, x2, h => if x2 < ((8 : Int32)) then (if (tg h a0).1 = 8 then ((p_X9_frees a0 x2 h).bind fun h103 =>
    p_X9_asTold_167 n a0 (x2 + (1 : Int32)) h103) else none)
    else
    if (tg h a0).1 = 8 then ((p_X9_begins a0 h).bind fun h102 =>
    some h102) else none
set_option maxRecDepth 100000 in
theorem e_X9_asTold_167 {l : Launch} {D : va_G} {dA : Nat → ClassId} {z : Nat} {sa : Nat → Nat} {Hz : Heap} (E : StrOK qLen qCh l D dA z sa Hz) {h0 fin : AH}  : ∀ (n : Nat) (a0 : Nat) (x2 : Int32) (h : AH), p_X9_asTold_167 n a0 x2 h = some fin → GM l D dA z sa Hz q_X9_asTold h0 none fin 167 [(0, .ref a0), (2, .int x2)] [] h := by
  intro n
  induction n with
  | zero => intro a0 x2 h hd; exact nomatch hd
  | succ n ih =>
    intro a0 x2 h hd
    exact step E (is := I_X9_asTold_167) (pc := 167) (K := (kx 184 (fun la st h => gR la 0 fun a0 => sE st (p_X9_asTold_184 a0 h)) (kx 167 (fun la st h => gR la 0 fun a0 => gI la 2 fun x2 => sE st (p_X9_asTold_167 n a0 x2 h)) k0))) (FI := FI_X9_asTold) (FV := FV_X9_asTold) (FL := fL0) (rt := rtV) (ft := 0) (by exact hd) ok_X9_asTold_167 (kx_ok (fun la st h e => by obtain ⟨a0, m_a0, e1⟩ := gR_inv e; obtain ⟨rfl, ez⟩ := sE_inv e1; exact gm_fewer (e_X9_asTold_184 E  a0 h ez) (mem_cons m_a0 mem_nil)) (kx_ok (fun la st h e => by obtain ⟨a0, m_a0, e1⟩ := gR_inv e; obtain ⟨x2, m_x2, e2⟩ := gI_inv e1; obtain ⟨rfl, ez⟩ := sE_inv e2; exact gm_fewer (ih a0 x2 h ez) (mem_cons m_a0 (mem_cons m_x2 mem_nil))) k0_ok)) (FI_X9_asTold_ok E) (FV_X9_asTold_ok E) (fL0_ok E) (rtV_ok rfl)
def I_X9_asTold_135 : List AI := [(.aload_n 0, 1, [], 0), (.getfield 21, 3, [8, 16, 2, 1361], 0), (.sipush 144, 3, [], 144), (.aload_n 0, 1, [], 0), (.getfield 265, 3, [8, 3, 2, 1348], 0), (.getfield 202, 3, [7, 2, 0, 1493], 0), (.iastore, 1, [], 0), (.aload_n 0, 1, [], 0), (.getfield 21, 3, [8, 16, 2, 1361], 0), (.sipush 146, 3, [], 146), (.aload_n 0, 1, [], 0), (.getfield 265, 3, [8, 3, 2, 1348], 0), (.getfield 184, 3, [7, 1, 0, 1492], 0), (.iastore, 1, [], 0), (.iconst 0, 1, [], 0), (.istore_n 2, 1, [], 0)]
theorem ok_X9_asTold_135 : vBL MT qLen qCh false q_X9_asTold.2.2.2.2.1 q_X9_asTold.2.2.2.2.2.1 q_X9_asTold.2.2.1 q_X9_asTold.1.cls q_X9_asTold.1.name q_X9_asTold.2.1 167 135 I_X9_asTold_135 = true := by decide +kernel
def p_X9_asTold_135 (a0 : Nat) (h : AH) : Option (AH) :=
  if (tg h a0).1 = 8 then (if (tg h a0).1 = 8 then (if (tg h (rR h a0 3)).1 = 7 then (if inB h (rR h a0 16) 100 ((144 : Int32)) then (let h104 := wI h (rR h a0 16) ((144 : Int32)).toNatClampNeg (rI h (rR h a0 3) 2)
  if (tg h104 a0).1 = 8 then (if (tg h104 a0).1 = 8 then (if (tg h104 (rR h104 a0 3)).1 = 7 then (if inB h104 (rR h104 a0 16) 100 ((146 : Int32)) then (let h105 := wI h104 (rR h104 a0 16) ((146 : Int32)).toNatClampNeg (rI h104 (rR h104 a0 3) 1)
  p_X9_asTold_167 FU a0 ((0 : Int32)) h105) else none) else none) else none) else none) else none) else none) else none) else none
set_option maxRecDepth 100000 in
theorem e_X9_asTold_135 {l : Launch} {D : va_G} {dA : Nat → ClassId} {z : Nat} {sa : Nat → Nat} {Hz : Heap} (E : StrOK qLen qCh l D dA z sa Hz) {h0 fin : AH}  : ∀ (a0 : Nat) (h : AH), p_X9_asTold_135 a0 h = some fin → GM l D dA z sa Hz q_X9_asTold h0 none fin 135 [(0, .ref a0)] [] h := by
  intro a0 h hd
  exact step E (is := I_X9_asTold_135) (pc := 135) (K := (kx 167 (fun la st h => gR la 0 fun a0 => gI la 2 fun x2 => sE st (p_X9_asTold_167 FU a0 x2 h)) k0)) (FI := FI_X9_asTold) (FV := FV_X9_asTold) (FL := fL0) (rt := rtV) (ft := 167) (by exact hd) ok_X9_asTold_135 (kx_ok (fun la st h e => by obtain ⟨a0, m_a0, e1⟩ := gR_inv e; obtain ⟨x2, m_x2, e2⟩ := gI_inv e1; obtain ⟨rfl, ez⟩ := sE_inv e2; exact gm_fewer (e_X9_asTold_167 E  FU a0 x2 h ez) (mem_cons m_a0 (mem_cons m_x2 mem_nil))) k0_ok) (FI_X9_asTold_ok E) (FV_X9_asTold_ok E) (fL0_ok E) (rtV_ok rfl)
def I_X9_asTold_104 : List AI := [(.iload_n 2, 1, [], 0), (.bipush 16, 2, [], 16), (.if_icmp .ge 28, 3, [135], 0), (.aload_n 0, 1, [], 0), (.getfield 21, 3, [8, 16, 2, 1361], 0), (.sipush 128, 3, [], 128), (.iload_n 2, 1, [], 0), (.iadd, 1, [], 0), (.aload_n 0, 1, [], 0), (.getfield 265, 3, [8, 3, 2, 1348], 0), (.getfield 193, 3, [7, 8, 2, 1502], 0), (.iload_n 2, 1, [], 0), (.iaload, 1, [], 0), (.iastore, 1, [], 0), (.iinc 2 1, 3, [], 1), (.goto (-28), 3, [104], 0)]
theorem ok_X9_asTold_104 : vBL MT qLen qCh false q_X9_asTold.2.2.2.2.1 q_X9_asTold.2.2.2.2.2.1 q_X9_asTold.2.2.1 q_X9_asTold.1.cls q_X9_asTold.1.name q_X9_asTold.2.1 0 104 I_X9_asTold_104 = true := by decide +kernel
def p_X9_asTold_104 : Nat → Nat → Int32 → AH → Option (AH)
  | 0, _, _, _ => none
  | n + 1, a0, x2, h => if x2 < ((16 : Int32)) then (if (tg h a0).1 = 8 then (if (tg h a0).1 = 8 then (if (tg h (rR h a0 3)).1 = 7 then (if inB h (rR h (rR h a0 3) 8) 100 x2 then (if inB h (rR h a0 16) 100 (((128 : Int32)) + x2) then (let h108 := wI h (rR h a0 16) (((128 : Int32)) + x2).toNatClampNeg (rI h (rR h (rR h a0 3) 8) x2.toNatClampNeg)
    p_X9_asTold_104 n a0 (x2 + (1 : Int32)) h108) else none) else none) else none) else none) else none)
    else
    if (tg h a0).1 = 8 then (if (tg h a0).1 = 8 then (if (tg h (rR h a0 3)).1 = 7 then (if inB h (rR h a0 16) 100 ((144 : Int32)) then (let h106 := wI h (rR h a0 16) ((144 : Int32)).toNatClampNeg (rI h (rR h a0 3) 2)
    if (tg h106 a0).1 = 8 then (if (tg h106 a0).1 = 8 then (if (tg h106 (rR h106 a0 3)).1 = 7 then (if inB h106 (rR h106 a0 16) 100 ((146 : Int32)) then (let h107 := wI h106 (rR h106 a0 16) ((146 : Int32)).toNatClampNeg (rI h106 (rR h106 a0 3) 1)
    p_X9_asTold_167 FU a0 ((0 : Int32)) h107) else none) else none) else none) else none) else none) else none) else none) else none
set_option maxRecDepth 100000 in
theorem e_X9_asTold_104 {l : Launch} {D : va_G} {dA : Nat → ClassId} {z : Nat} {sa : Nat → Nat} {Hz : Heap} (E : StrOK qLen qCh l D dA z sa Hz) {h0 fin : AH}  : ∀ (n : Nat) (a0 : Nat) (x2 : Int32) (h : AH), p_X9_asTold_104 n a0 x2 h = some fin → GM l D dA z sa Hz q_X9_asTold h0 none fin 104 [(0, .ref a0), (2, .int x2)] [] h := by
  intro n
  induction n with
  | zero => intro a0 x2 h hd; exact nomatch hd
  | succ n ih =>
    intro a0 x2 h hd
    exact step E (is := I_X9_asTold_104) (pc := 104) (K := (kx 135 (fun la st h => gR la 0 fun a0 => sE st (p_X9_asTold_135 a0 h)) (kx 104 (fun la st h => gR la 0 fun a0 => gI la 2 fun x2 => sE st (p_X9_asTold_104 n a0 x2 h)) k0))) (FI := FI_X9_asTold) (FV := FV_X9_asTold) (FL := fL0) (rt := rtV) (ft := 0) (by exact hd) ok_X9_asTold_104 (kx_ok (fun la st h e => by obtain ⟨a0, m_a0, e1⟩ := gR_inv e; obtain ⟨rfl, ez⟩ := sE_inv e1; exact gm_fewer (e_X9_asTold_135 E  a0 h ez) (mem_cons m_a0 mem_nil)) (kx_ok (fun la st h e => by obtain ⟨a0, m_a0, e1⟩ := gR_inv e; obtain ⟨x2, m_x2, e2⟩ := gI_inv e1; obtain ⟨rfl, ez⟩ := sE_inv e2; exact gm_fewer (ih a0 x2 h ez) (mem_cons m_a0 (mem_cons m_x2 mem_nil))) k0_ok)) (FI_X9_asTold_ok E) (FV_X9_asTold_ok E) (fL0_ok E) (rtV_ok rfl)
def I_X9_asTold_102 : List AI := [(.iconst 0, 1, [], 0), (.istore_n 2, 1, [], 0)]
theorem ok_X9_asTold_102 : vBL MT qLen qCh false q_X9_asTold.2.2.2.2.1 q_X9_asTold.2.2.2.2.2.1 q_X9_asTold.2.2.1 q_X9_asTold.1.cls q_X9_asTold.1.name q_X9_asTold.2.1 104 102 I_X9_asTold_102 = true := by decide +kernel
def p_X9_asTold_102 (a0 : Nat) (h : AH) : Option (AH) :=
  p_X9_asTold_104 FU a0 ((0 : Int32)) h
set_option maxRecDepth 100000 in
theorem e_X9_asTold_102 {l : Launch} {D : va_G} {dA : Nat → ClassId} {z : Nat} {sa : Nat → Nat} {Hz : Heap} (E : StrOK qLen qCh l D dA z sa Hz) {h0 fin : AH}  : ∀ (a0 : Nat) (h : AH), p_X9_asTold_102 a0 h = some fin → GM l D dA z sa Hz q_X9_asTold h0 none fin 102 [(0, .ref a0)] [] h := by
  intro a0 h hd
  exact step E (is := I_X9_asTold_102) (pc := 102) (K := (kx 104 (fun la st h => gR la 0 fun a0 => gI la 2 fun x2 => sE st (p_X9_asTold_104 FU a0 x2 h)) k0)) (FI := FI_X9_asTold) (FV := FV_X9_asTold) (FL := fL0) (rt := rtV) (ft := 104) (by exact hd) ok_X9_asTold_102 (kx_ok (fun la st h e => by obtain ⟨a0, m_a0, e1⟩ := gR_inv e; obtain ⟨x2, m_x2, e2⟩ := gI_inv e1; obtain ⟨rfl, ez⟩ := sE_inv e2; exact gm_fewer (e_X9_asTold_104 E  FU a0 x2 h ez) (mem_cons m_a0 (mem_cons m_x2 mem_nil))) k0_ok) (FI_X9_asTold_ok E) (FV_X9_asTold_ok E) (fL0_ok E) (rtV_ok rfl)
def I_X9_asTold_96 : List AI := [(.iinc 2 1, 3, [], 1), (.goto (-45), 3, [54], 0)]
theorem ok_X9_asTold_96 : vBL MT qLen qCh false q_X9_asTold.2.2.2.2.1 q_X9_asTold.2.2.2.2.2.1 q_X9_asTold.2.2.1 q_X9_asTold.1.cls q_X9_asTold.1.name q_X9_asTold.2.1 0 96 I_X9_asTold_96 = true := by decide +kernel
def p_X9_asTold_96 (k54 : Nat → Int32 → Int32 → AH → Option (AH)) (a0 : Nat) (x1 : Int32) (x2 : Int32) (h : AH) : Option (AH) :=
  k54 a0 x1 (x2 + (1 : Int32)) h
set_option maxRecDepth 100000 in
theorem e_X9_asTold_96 {l : Launch} {D : va_G} {dA : Nat → ClassId} {z : Nat} {sa : Nat → Nat} {Hz : Heap} (E : StrOK qLen qCh l D dA z sa Hz) {h0 fin : AH}  {k54 : Nat → Int32 → Int32 → AH → Option (AH)} (hk54 : ∀ (a0 : Nat) (x1 : Int32) (x2 : Int32) (h : AH), k54 a0 x1 x2 h = some fin → GM l D dA z sa Hz q_X9_asTold h0 none fin 54 [(0, .ref a0), (1, .int x1), (2, .int x2)] [] h) : ∀ (a0 : Nat) (x1 : Int32) (x2 : Int32) (h : AH), p_X9_asTold_96 k54 a0 x1 x2 h = some fin → GM l D dA z sa Hz q_X9_asTold h0 none fin 96 [(0, .ref a0), (1, .int x1), (2, .int x2)] [] h := by
  intro a0 x1 x2 h hd
  exact step E (is := I_X9_asTold_96) (pc := 96) (K := (kx 54 (fun la st h => gR la 0 fun a0 => gI la 1 fun x1 => gI la 2 fun x2 => sE st (k54 a0 x1 x2 h)) k0)) (FI := FI_X9_asTold) (FV := FV_X9_asTold) (FL := fL0) (rt := rtV) (ft := 0) (by exact hd) ok_X9_asTold_96 (kx_ok (fun la st h e => by obtain ⟨a0, m_a0, e1⟩ := gR_inv e; obtain ⟨x1, m_x1, e2⟩ := gI_inv e1; obtain ⟨x2, m_x2, e3⟩ := gI_inv e2; obtain ⟨rfl, ez⟩ := sE_inv e3; exact gm_fewer (hk54 a0 x1 x2 h ez) (mem_cons m_a0 (mem_cons m_x1 (mem_cons m_x2 mem_nil)))) k0_ok) (FI_X9_asTold_ok E) (FV_X9_asTold_ok E) (fL0_ok E) (rtV_ok rfl)
def I_X9_asTold_54 : List AI := [(.iload_n 2, 1, [], 0), (.aload_n 0, 1, [], 0), (.getfield 265, 3, [8, 3, 2, 1348], 0), (.getfield 224, 3, [7, 6, 0, 1498], 0), (.if_icmp .ge 40, 3, [102], 0), (.iload_n 1, 1, [], 0), (.iload_n 2, 1, [], 0), (.invokestatic 307, 3, [1, 228, 2, 1679], 0), (.ifCond .eq 26, 3, [96], 0), (.aload_n 0, 1, [], 0), (.getfield 21, 3, [8, 16, 2, 1361], 0), (.aload_n 0, 1, [], 0), (.getfield 265, 3, [8, 3, 2, 1348], 0), (.getfield 230, 3, [7, 13, 2, 1512], 0), (.iload_n 2, 1, [], 0), (.iaload, 1, [], 0), (.aload_n 0, 1, [], 0), (.getfield 265, 3, [8, 3, 2, 1348], 0), (.getfield 232, 3, [7, 14, 2, 1514], 0), (.iload_n 2, 1, [], 0), (.iaload, 1, [], 0), (.iastore, 1, [], 0)]
theorem ok_X9_asTold_54 : vBL MT qLen qCh false q_X9_asTold.2.2.2.2.1 q_X9_asTold.2.2.2.2.2.1 q_X9_asTold.2.2.1 q_X9_asTold.1.cls q_X9_asTold.1.name q_X9_asTold.2.1 96 54 I_X9_asTold_54 = true := by decide +kernel
def p_X9_asTold_54 : Nat → Nat → Int32 → Int32 → AH → Option (AH)
  | 0, _, _, _, _ => none
  | n + 1, a0, x1, x2, h => if (tg h a0).1 = 8 then (if (tg h (rR h a0 3)).1 = 7 then (if x2 < (rI h (rR h a0 3) 6) then ((p_X9_bit x1 x2 h).bind fun q109 =>
    if q109.1 = 0 then (p_X9_asTold_96 (p_X9_asTold_54 n) a0 x1 x2 q109.2)
    else
    if (tg q109.2 a0).1 = 8 then (if (tg q109.2 a0).1 = 8 then (if (tg q109.2 (rR q109.2 a0 3)).1 = 7 then (if inB q109.2 (rR q109.2 (rR q109.2 a0 3) 13) 100 x2 then (if (tg q109.2 a0).1 = 8 then (if (tg q109.2 (rR q109.2 a0 3)).1 = 7 then (if inB q109.2 (rR q109.2 (rR q109.2 a0 3) 14) 100 x2 then (if inB q109.2 (rR q109.2 a0 16) 100 (rI q109.2 (rR q109.2 (rR q109.2 a0 3) 13) x2.toNatClampNeg) then (let h110 := wI q109.2 (rR q109.2 a0 16) (rI q109.2 (rR q109.2 (rR q109.2 a0 3) 13) x2.toNatClampNeg).toNatClampNeg (rI q109.2 (rR q109.2 (rR q109.2 a0 3) 14) x2.toNatClampNeg)
    p_X9_asTold_96 (p_X9_asTold_54 n) a0 x1 x2 h110) else none) else none) else none) else none) else none) else none) else none) else none)
    else
    p_X9_asTold_104 FU a0 ((0 : Int32)) h) else none) else none
set_option maxRecDepth 100000 in
theorem e_X9_asTold_54 {l : Launch} {D : va_G} {dA : Nat → ClassId} {z : Nat} {sa : Nat → Nat} {Hz : Heap} (E : StrOK qLen qCh l D dA z sa Hz) {h0 fin : AH}  : ∀ (n : Nat) (a0 : Nat) (x1 : Int32) (x2 : Int32) (h : AH), p_X9_asTold_54 n a0 x1 x2 h = some fin → GM l D dA z sa Hz q_X9_asTold h0 none fin 54 [(0, .ref a0), (1, .int x1), (2, .int x2)] [] h := by
  intro n
  induction n with
  | zero => intro a0 x1 x2 h hd; exact nomatch hd
  | succ n ih =>
    intro a0 x1 x2 h hd
    exact step E (is := I_X9_asTold_54) (pc := 54) (K := (kx 102 (fun la st h => gR la 0 fun a0 => sE st (p_X9_asTold_102 a0 h)) (kx 96 (fun la st h => gR la 0 fun a0 => gI la 1 fun x1 => gI la 2 fun x2 => sE st (p_X9_asTold_96 (p_X9_asTold_54 n) a0 x1 x2 h)) k0))) (FI := FI_X9_asTold) (FV := FV_X9_asTold) (FL := fL0) (rt := rtV) (ft := 96) (by exact hd) ok_X9_asTold_54 (kx_ok (fun la st h e => by obtain ⟨a0, m_a0, e1⟩ := gR_inv e; obtain ⟨rfl, ez⟩ := sE_inv e1; exact gm_fewer (e_X9_asTold_102 E  a0 h ez) (mem_cons m_a0 mem_nil)) (kx_ok (fun la st h e => by obtain ⟨a0, m_a0, e1⟩ := gR_inv e; obtain ⟨x1, m_x1, e2⟩ := gI_inv e1; obtain ⟨x2, m_x2, e3⟩ := gI_inv e2; obtain ⟨rfl, ez⟩ := sE_inv e3; exact gm_fewer (e_X9_asTold_96 E ih a0 x1 x2 h ez) (mem_cons m_a0 (mem_cons m_x1 (mem_cons m_x2 mem_nil)))) k0_ok)) (FI_X9_asTold_ok E) (FV_X9_asTold_ok E) (fL0_ok E) (rtV_ok rfl)
def I_X9_asTold_52 : List AI := [(.iconst 0, 1, [], 0), (.istore_n 2, 1, [], 0)]
theorem ok_X9_asTold_52 : vBL MT qLen qCh false q_X9_asTold.2.2.2.2.1 q_X9_asTold.2.2.2.2.2.1 q_X9_asTold.2.2.1 q_X9_asTold.1.cls q_X9_asTold.1.name q_X9_asTold.2.1 54 52 I_X9_asTold_52 = true := by decide +kernel
def p_X9_asTold_52 (a0 : Nat) (x1 : Int32) (h : AH) : Option (AH) :=
  p_X9_asTold_54 FU a0 x1 ((0 : Int32)) h
set_option maxRecDepth 100000 in
theorem e_X9_asTold_52 {l : Launch} {D : va_G} {dA : Nat → ClassId} {z : Nat} {sa : Nat → Nat} {Hz : Heap} (E : StrOK qLen qCh l D dA z sa Hz) {h0 fin : AH}  : ∀ (a0 : Nat) (x1 : Int32) (h : AH), p_X9_asTold_52 a0 x1 h = some fin → GM l D dA z sa Hz q_X9_asTold h0 none fin 52 [(0, .ref a0), (1, .int x1)] [] h := by
  intro a0 x1 h hd
  exact step E (is := I_X9_asTold_52) (pc := 52) (K := (kx 54 (fun la st h => gR la 0 fun a0 => gI la 1 fun x1 => gI la 2 fun x2 => sE st (p_X9_asTold_54 FU a0 x1 x2 h)) k0)) (FI := FI_X9_asTold) (FV := FV_X9_asTold) (FL := fL0) (rt := rtV) (ft := 54) (by exact hd) ok_X9_asTold_52 (kx_ok (fun la st h e => by obtain ⟨a0, m_a0, e1⟩ := gR_inv e; obtain ⟨x1, m_x1, e2⟩ := gI_inv e1; obtain ⟨x2, m_x2, e3⟩ := gI_inv e2; obtain ⟨rfl, ez⟩ := sE_inv e3; exact gm_fewer (e_X9_asTold_54 E  FU a0 x1 x2 h ez) (mem_cons m_a0 (mem_cons m_x1 (mem_cons m_x2 mem_nil)))) k0_ok) (FI_X9_asTold_ok E) (FV_X9_asTold_ok E) (fL0_ok E) (rtV_ok rfl)
def I_X9_asTold_24 : List AI := [(.iload_n 2, 1, [], 0), (.sipush 128, 3, [], 128), (.if_icmp .ge 24, 3, [52], 0), (.aload_n 0, 1, [], 0), (.getfield 21, 3, [8, 16, 2, 1361], 0), (.iload_n 2, 1, [], 0), (.aload_n 0, 1, [], 0), (.getfield 265, 3, [8, 3, 2, 1348], 0), (.getfield 211, 3, [7, 9, 2, 1504], 0), (.iload_n 2, 1, [], 0), (.iaload, 1, [], 0), (.iastore, 1, [], 0), (.iinc 2 1, 3, [], 1), (.goto (-25), 3, [24], 0)]
theorem ok_X9_asTold_24 : vBL MT qLen qCh false q_X9_asTold.2.2.2.2.1 q_X9_asTold.2.2.2.2.2.1 q_X9_asTold.2.2.1 q_X9_asTold.1.cls q_X9_asTold.1.name q_X9_asTold.2.1 0 24 I_X9_asTold_24 = true := by decide +kernel
def p_X9_asTold_24 : Nat → Nat → Int32 → Int32 → AH → Option (AH)
  | 0, _, _, _, _ => none
  | n + 1, a0, x1, x2, h => if x2 < ((128 : Int32)) then (if (tg h a0).1 = 8 then (if (tg h a0).1 = 8 then (if (tg h (rR h a0 3)).1 = 7 then (if inB h (rR h (rR h a0 3) 9) 100 x2 then (if inB h (rR h a0 16) 100 x2 then (let h111 := wI h (rR h a0 16) x2.toNatClampNeg (rI h (rR h (rR h a0 3) 9) x2.toNatClampNeg)
    p_X9_asTold_24 n a0 x1 (x2 + (1 : Int32)) h111) else none) else none) else none) else none) else none)
    else
    p_X9_asTold_54 FU a0 x1 ((0 : Int32)) h
set_option maxRecDepth 100000 in
theorem e_X9_asTold_24 {l : Launch} {D : va_G} {dA : Nat → ClassId} {z : Nat} {sa : Nat → Nat} {Hz : Heap} (E : StrOK qLen qCh l D dA z sa Hz) {h0 fin : AH}  : ∀ (n : Nat) (a0 : Nat) (x1 : Int32) (x2 : Int32) (h : AH), p_X9_asTold_24 n a0 x1 x2 h = some fin → GM l D dA z sa Hz q_X9_asTold h0 none fin 24 [(0, .ref a0), (1, .int x1), (2, .int x2)] [] h := by
  intro n
  induction n with
  | zero => intro a0 x1 x2 h hd; exact nomatch hd
  | succ n ih =>
    intro a0 x1 x2 h hd
    exact step E (is := I_X9_asTold_24) (pc := 24) (K := (kx 52 (fun la st h => gR la 0 fun a0 => gI la 1 fun x1 => sE st (p_X9_asTold_52 a0 x1 h)) (kx 24 (fun la st h => gR la 0 fun a0 => gI la 1 fun x1 => gI la 2 fun x2 => sE st (p_X9_asTold_24 n a0 x1 x2 h)) k0))) (FI := FI_X9_asTold) (FV := FV_X9_asTold) (FL := fL0) (rt := rtV) (ft := 0) (by exact hd) ok_X9_asTold_24 (kx_ok (fun la st h e => by obtain ⟨a0, m_a0, e1⟩ := gR_inv e; obtain ⟨x1, m_x1, e2⟩ := gI_inv e1; obtain ⟨rfl, ez⟩ := sE_inv e2; exact gm_fewer (e_X9_asTold_52 E  a0 x1 h ez) (mem_cons m_a0 (mem_cons m_x1 mem_nil))) (kx_ok (fun la st h e => by obtain ⟨a0, m_a0, e1⟩ := gR_inv e; obtain ⟨x1, m_x1, e2⟩ := gI_inv e1; obtain ⟨x2, m_x2, e3⟩ := gI_inv e2; obtain ⟨rfl, ez⟩ := sE_inv e3; exact gm_fewer (ih a0 x1 x2 h ez) (mem_cons m_a0 (mem_cons m_x1 (mem_cons m_x2 mem_nil)))) k0_ok)) (FI_X9_asTold_ok E) (FV_X9_asTold_ok E) (fL0_ok E) (rtV_ok rfl)
def I_X9_asTold_22 : List AI := [(.iconst 0, 1, [], 0), (.istore_n 2, 1, [], 0)]
theorem ok_X9_asTold_22 : vBL MT qLen qCh false q_X9_asTold.2.2.2.2.1 q_X9_asTold.2.2.2.2.2.1 q_X9_asTold.2.2.1 q_X9_asTold.1.cls q_X9_asTold.1.name q_X9_asTold.2.1 24 22 I_X9_asTold_22 = true := by decide +kernel
def p_X9_asTold_22 (a0 : Nat) (x1 : Int32) (h : AH) : Option (AH) :=
  p_X9_asTold_24 FU a0 x1 ((0 : Int32)) h
set_option maxRecDepth 100000 in
theorem e_X9_asTold_22 {l : Launch} {D : va_G} {dA : Nat → ClassId} {z : Nat} {sa : Nat → Nat} {Hz : Heap} (E : StrOK qLen qCh l D dA z sa Hz) {h0 fin : AH}  : ∀ (a0 : Nat) (x1 : Int32) (h : AH), p_X9_asTold_22 a0 x1 h = some fin → GM l D dA z sa Hz q_X9_asTold h0 none fin 22 [(0, .ref a0), (1, .int x1)] [] h := by
  intro a0 x1 h hd
  exact step E (is := I_X9_asTold_22) (pc := 22) (K := (kx 24 (fun la st h => gR la 0 fun a0 => gI la 1 fun x1 => gI la 2 fun x2 => sE st (p_X9_asTold_24 FU a0 x1 x2 h)) k0)) (FI := FI_X9_asTold) (FV := FV_X9_asTold) (FL := fL0) (rt := rtV) (ft := 24) (by exact hd) ok_X9_asTold_22 (kx_ok (fun la st h e => by obtain ⟨a0, m_a0, e1⟩ := gR_inv e; obtain ⟨x1, m_x1, e2⟩ := gI_inv e1; obtain ⟨x2, m_x2, e3⟩ := gI_inv e2; obtain ⟨rfl, ez⟩ := sE_inv e3; exact gm_fewer (e_X9_asTold_24 E  FU a0 x1 x2 h ez) (mem_cons m_a0 (mem_cons m_x1 (mem_cons m_x2 mem_nil)))) k0_ok) (FI_X9_asTold_ok E) (FV_X9_asTold_ok E) (fL0_ok E) (rtV_ok rfl)
def I_X9_asTold_2 : List AI := [(.iload_n 2, 1, [], 0), (.sipush 244, 3, [], 244), (.if_icmp .ge 16, 3, [22], 0), (.aload_n 0, 1, [], 0), (.getfield 21, 3, [8, 16, 2, 1361], 0), (.iload_n 2, 1, [], 0), (.iconst 0, 1, [], 0), (.iastore, 1, [], 0), (.iinc 2 1, 3, [], 1), (.goto (-17), 3, [2], 0)]
theorem ok_X9_asTold_2 : vBL MT qLen qCh false q_X9_asTold.2.2.2.2.1 q_X9_asTold.2.2.2.2.2.1 q_X9_asTold.2.2.1 q_X9_asTold.1.cls q_X9_asTold.1.name q_X9_asTold.2.1 0 2 I_X9_asTold_2 = true := by decide +kernel
def p_X9_asTold_2 : Nat → Nat → Int32 → Int32 → AH → Option (AH)
  | 0, _, _, _, _ => none
  | n + 1, a0, x1, x2, h => if x2 < ((244 : Int32)) then (if (tg h a0).1 = 8 then (if inB h (rR h a0 16) 100 x2 then (let h112 := wI h (rR h a0 16) x2.toNatClampNeg ((0 : Int32))
    p_X9_asTold_2 n a0 x1 (x2 + (1 : Int32)) h112) else none) else none)
    else
    p_X9_asTold_24 FU a0 x1 ((0 : Int32)) h
set_option maxRecDepth 100000 in
theorem e_X9_asTold_2 {l : Launch} {D : va_G} {dA : Nat → ClassId} {z : Nat} {sa : Nat → Nat} {Hz : Heap} (E : StrOK qLen qCh l D dA z sa Hz) {h0 fin : AH}  : ∀ (n : Nat) (a0 : Nat) (x1 : Int32) (x2 : Int32) (h : AH), p_X9_asTold_2 n a0 x1 x2 h = some fin → GM l D dA z sa Hz q_X9_asTold h0 none fin 2 [(0, .ref a0), (1, .int x1), (2, .int x2)] [] h := by
  intro n
  induction n with
  | zero => intro a0 x1 x2 h hd; exact nomatch hd
  | succ n ih =>
    intro a0 x1 x2 h hd
    exact step E (is := I_X9_asTold_2) (pc := 2) (K := (kx 22 (fun la st h => gR la 0 fun a0 => gI la 1 fun x1 => sE st (p_X9_asTold_22 a0 x1 h)) (kx 2 (fun la st h => gR la 0 fun a0 => gI la 1 fun x1 => gI la 2 fun x2 => sE st (p_X9_asTold_2 n a0 x1 x2 h)) k0))) (FI := FI_X9_asTold) (FV := FV_X9_asTold) (FL := fL0) (rt := rtV) (ft := 0) (by exact hd) ok_X9_asTold_2 (kx_ok (fun la st h e => by obtain ⟨a0, m_a0, e1⟩ := gR_inv e; obtain ⟨x1, m_x1, e2⟩ := gI_inv e1; obtain ⟨rfl, ez⟩ := sE_inv e2; exact gm_fewer (e_X9_asTold_22 E  a0 x1 h ez) (mem_cons m_a0 (mem_cons m_x1 mem_nil))) (kx_ok (fun la st h e => by obtain ⟨a0, m_a0, e1⟩ := gR_inv e; obtain ⟨x1, m_x1, e2⟩ := gI_inv e1; obtain ⟨x2, m_x2, e3⟩ := gI_inv e2; obtain ⟨rfl, ez⟩ := sE_inv e3; exact gm_fewer (ih a0 x1 x2 h ez) (mem_cons m_a0 (mem_cons m_x1 (mem_cons m_x2 mem_nil)))) k0_ok)) (FI_X9_asTold_ok E) (FV_X9_asTold_ok E) (fL0_ok E) (rtV_ok rfl)
def I_X9_asTold_0 : List AI := [(.iconst 0, 1, [], 0), (.istore_n 2, 1, [], 0)]
theorem ok_X9_asTold_0 : vBL MT qLen qCh false q_X9_asTold.2.2.2.2.1 q_X9_asTold.2.2.2.2.2.1 q_X9_asTold.2.2.1 q_X9_asTold.1.cls q_X9_asTold.1.name q_X9_asTold.2.1 2 0 I_X9_asTold_0 = true := by decide +kernel
def p_X9_asTold (a0 : Nat) (x1 : Int32) (h : AH) : Option (AH) :=
  p_X9_asTold_2 FU a0 x1 ((0 : Int32)) h
set_option maxRecDepth 100000 in
theorem e_X9_asTold_0 {l : Launch} {D : va_G} {dA : Nat → ClassId} {z : Nat} {sa : Nat → Nat} {Hz : Heap} (E : StrOK qLen qCh l D dA z sa Hz) {h0 fin : AH}  : ∀ (a0 : Nat) (x1 : Int32) (h : AH), p_X9_asTold a0 x1 h = some fin → GM l D dA z sa Hz q_X9_asTold h0 none fin 0 [(0, .ref a0), (1, .int x1)] [] h := by
  intro a0 x1 h hd
  exact step E (is := I_X9_asTold_0) (pc := 0) (K := (kx 2 (fun la st h => gR la 0 fun a0 => gI la 1 fun x1 => gI la 2 fun x2 => sE st (p_X9_asTold_2 FU a0 x1 x2 h)) k0)) (FI := FI_X9_asTold) (FV := FV_X9_asTold) (FL := fL0) (rt := rtV) (ft := 2) (by exact hd) ok_X9_asTold_0 (kx_ok (fun la st h e => by obtain ⟨a0, m_a0, e1⟩ := gR_inv e; obtain ⟨x1, m_x1, e2⟩ := gI_inv e1; obtain ⟨x2, m_x2, e3⟩ := gI_inv e2; obtain ⟨rfl, ez⟩ := sE_inv e3; exact gm_fewer (e_X9_asTold_2 E  FU a0 x1 x2 h ez) (mem_cons m_a0 (mem_cons m_x1 (mem_cons m_x2 mem_nil)))) k0_ok) (FI_X9_asTold_ok E) (FV_X9_asTold_ok E) (fL0_ok E) (rtV_ok rfl)
theorem c_X9_asTold {l : Launch} {D : va_G} {dA : Nat → ClassId} {z : Nat} {sa : Nat → Nat} {Hz : Heap} (E : StrOK qLen qCh l D dA z sa Hz) {a0 : Nat} {x1 : Int32} {h fin : AH} (hd : p_X9_asTold a0 x1 h = some fin) : CalOK l D dA z sa Hz q_X9_asTold [.ref a0, .int x1] h none fin := calOf (by decide +kernel) (Nat.le_of_ble_eq_true rfl) (e_X9_asTold_0 E a0 x1 h hd)
def I_X9_remains_27 : List AI := [(.return_, 1, [], 0)]
theorem ok_X9_remains_27 : vBL MT qLen qCh false q_X9_remains.2.2.2.2.1 q_X9_remains.2.2.2.2.2.1 q_X9_remains.2.2.1 q_X9_remains.1.cls q_X9_remains.1.name q_X9_remains.2.1 0 27 I_X9_remains_27 = true := by decide +kernel
def p_X9_remains_27 (h : AH) : Option (AH) :=
  some h
set_option maxRecDepth 100000 in
theorem e_X9_remains_27 {l : Launch} {D : va_G} {dA : Nat → ClassId} {z : Nat} {sa : Nat → Nat} {Hz : Heap} (E : StrOK qLen qCh l D dA z sa Hz) {h0 fin : AH}  : ∀  (h : AH), p_X9_remains_27 h = some fin → GM l D dA z sa Hz q_X9_remains h0 none fin 27 [] [] h := by
  intro h hd
  exact step E (is := I_X9_remains_27) (pc := 27) (K := k0) (FI := fI0) (FV := fV0) (FL := fL0) (rt := rtV) (ft := 0) (by exact hd) ok_X9_remains_27 k0_ok (fI0_ok E) (fV0_ok E) (fL0_ok E) (rtV_ok rfl)
def I_X9_remains_2 : List AI := [(.iload_n 1, 1, [], 0), (.sipush 244, 3, [], 244), (.if_icmp .ge 21, 3, [27], 0), (.aload_n 0, 1, [], 0), (.getfield 17, 3, [8, 15, 2, 1360], 0), (.iload_n 1, 1, [], 0), (.aload_n 0, 1, [], 0), (.getfield 21, 3, [8, 16, 2, 1361], 0), (.iload_n 1, 1, [], 0), (.iaload, 1, [], 0), (.iastore, 1, [], 0), (.iinc 1 1, 3, [], 1), (.goto (-22), 3, [2], 0)]
theorem ok_X9_remains_2 : vBL MT qLen qCh false q_X9_remains.2.2.2.2.1 q_X9_remains.2.2.2.2.2.1 q_X9_remains.2.2.1 q_X9_remains.1.cls q_X9_remains.1.name q_X9_remains.2.1 0 2 I_X9_remains_2 = true := by decide +kernel
def p_X9_remains_2 : Nat → Nat → Int32 → AH → Option (AH)
  | 0, _, _, _ => none
  | n + 1, a0, x1, h => if x1 < ((244 : Int32)) then (if (tg h a0).1 = 8 then (if (tg h a0).1 = 8 then (if inB h (rR h a0 16) 100 x1 then (if inB h (rR h a0 15) 100 x1 then (let h101 := wI h (rR h a0 15) x1.toNatClampNeg (rI h (rR h a0 16) x1.toNatClampNeg)
    p_X9_remains_2 n a0 (x1 + (1 : Int32)) h101) else none) else none) else none) else none)
    else
    some h
set_option maxRecDepth 100000 in
theorem e_X9_remains_2 {l : Launch} {D : va_G} {dA : Nat → ClassId} {z : Nat} {sa : Nat → Nat} {Hz : Heap} (E : StrOK qLen qCh l D dA z sa Hz) {h0 fin : AH}  : ∀ (n : Nat) (a0 : Nat) (x1 : Int32) (h : AH), p_X9_remains_2 n a0 x1 h = some fin → GM l D dA z sa Hz q_X9_remains h0 none fin 2 [(0, .ref a0), (1, .int x1)] [] h := by
  intro n
  induction n with
  | zero => intro a0 x1 h hd; exact nomatch hd
  | succ n ih =>
    intro a0 x1 h hd
    exact step E (is := I_X9_remains_2) (pc := 2) (K := (kx 27 (fun la st h => sE st (p_X9_remains_27 h)) (kx 2 (fun la st h => gR la 0 fun a0 => gI la 1 fun x1 => sE st (p_X9_remains_2 n a0 x1 h)) k0))) (FI := fI0) (FV := fV0) (FL := fL0) (rt := rtV) (ft := 0) (by exact hd) ok_X9_remains_2 (kx_ok (fun la st h e => by obtain ⟨rfl, ez⟩ := sE_inv e; exact gm_fewer (e_X9_remains_27 E   h ez) mem_nil) (kx_ok (fun la st h e => by obtain ⟨a0, m_a0, e1⟩ := gR_inv e; obtain ⟨x1, m_x1, e2⟩ := gI_inv e1; obtain ⟨rfl, ez⟩ := sE_inv e2; exact gm_fewer (ih a0 x1 h ez) (mem_cons m_a0 (mem_cons m_x1 mem_nil))) k0_ok)) (fI0_ok E) (fV0_ok E) (fL0_ok E) (rtV_ok rfl)
def I_X9_remains_0 : List AI := [(.iconst 0, 1, [], 0), (.istore_n 1, 1, [], 0)]
theorem ok_X9_remains_0 : vBL MT qLen qCh false q_X9_remains.2.2.2.2.1 q_X9_remains.2.2.2.2.2.1 q_X9_remains.2.2.1 q_X9_remains.1.cls q_X9_remains.1.name q_X9_remains.2.1 2 0 I_X9_remains_0 = true := by decide +kernel
def p_X9_remains (a0 : Nat) (h : AH) : Option (AH) :=
  p_X9_remains_2 FU a0 ((0 : Int32)) h
set_option maxRecDepth 100000 in
theorem e_X9_remains_0 {l : Launch} {D : va_G} {dA : Nat → ClassId} {z : Nat} {sa : Nat → Nat} {Hz : Heap} (E : StrOK qLen qCh l D dA z sa Hz) {h0 fin : AH}  : ∀ (a0 : Nat) (h : AH), p_X9_remains a0 h = some fin → GM l D dA z sa Hz q_X9_remains h0 none fin 0 [(0, .ref a0)] [] h := by
  intro a0 h hd
  exact step E (is := I_X9_remains_0) (pc := 0) (K := (kx 2 (fun la st h => gR la 0 fun a0 => gI la 1 fun x1 => sE st (p_X9_remains_2 FU a0 x1 h)) k0)) (FI := fI0) (FV := fV0) (FL := fL0) (rt := rtV) (ft := 2) (by exact hd) ok_X9_remains_0 (kx_ok (fun la st h e => by obtain ⟨a0, m_a0, e1⟩ := gR_inv e; obtain ⟨x1, m_x1, e2⟩ := gI_inv e1; obtain ⟨rfl, ez⟩ := sE_inv e2; exact gm_fewer (e_X9_remains_2 E  FU a0 x1 h ez) (mem_cons m_a0 (mem_cons m_x1 mem_nil))) k0_ok) (fI0_ok E) (fV0_ok E) (fL0_ok E) (rtV_ok rfl)
theorem c_X9_remains {l : Launch} {D : va_G} {dA : Nat → ClassId} {z : Nat} {sa : Nat → Nat} {Hz : Heap} (E : StrOK qLen qCh l D dA z sa Hz) {a0 : Nat} {h fin : AH} (hd : p_X9_remains a0 h = some fin) : CalOK l D dA z sa Hz q_X9_remains [.ref a0] h none fin := calOf (by decide +kernel) (Nat.le_of_ble_eq_true rfl) (e_X9_remains_0 E a0 h hd)
def I_X9_good_0 : List AI := [(.aload_n 0, 1, [], 0), (.iconst 0, 1, [], 0), (.putfield 36, 3, [8, 1, 0, 1346], 0), (.aload_n 0, 1, [], 0), (.iconst (-1), 1, [], (-1)), (.putfield 9, 3, [8, 2, 0, 1347], 0), (.iload_n 1, 1, [], 0), (.ireturn, 1, [], 0)]
theorem ok_X9_good_0 : vBL MT qLen qCh false q_X9_good.2.2.2.2.1 q_X9_good.2.2.2.2.2.1 q_X9_good.2.2.1 q_X9_good.1.cls q_X9_good.1.name q_X9_good.2.1 0 0 I_X9_good_0 = true := by decide +kernel
def p_X9_good (a0 : Nat) (x1 : Int32) (h : AH) : Option (Int32 × AH) :=
  if (tg h a0).1 = 8 then (let h101 := wI h a0 1 ((0 : Int32))
  if (tg h101 a0).1 = 8 then (let h102 := wI h101 a0 2 ((-1 : Int32))
  some (x1, h102)) else none) else none
set_option maxRecDepth 100000 in
theorem e_X9_good_0 {l : Launch} {D : va_G} {dA : Nat → ClassId} {z : Nat} {sa : Nat → Nat} {Hz : Heap} (E : StrOK qLen qCh l D dA z sa Hz) {h0 fin : AH} {x : Int32}  : ∀ (a0 : Nat) (x1 : Int32) (h : AH), p_X9_good a0 x1 h = some (x, fin) → GM l D dA z sa Hz q_X9_good h0 (some (.int x)) fin 0 [(0, .ref a0), (1, .int x1)] [] h := by
  intro a0 x1 h hd
  exact step E (is := I_X9_good_0) (pc := 0) (K := k0) (FI := fI0) (FV := fV0) (FL := fL0) (rt := rtI) (ft := 0) (by exact hd) ok_X9_good_0 k0_ok (fI0_ok E) (fV0_ok E) (fL0_ok E) (rtI_ok rfl)
theorem c_X9_good {l : Launch} {D : va_G} {dA : Nat → ClassId} {z : Nat} {sa : Nat → Nat} {Hz : Heap} (E : StrOK qLen qCh l D dA z sa Hz) {a0 : Nat} {x1 : Int32} {h fin : AH} {x : Int32} (hd : p_X9_good a0 x1 h = some (x, fin)) : CalOK l D dA z sa Hz q_X9_good [.ref a0, .int x1] h (some (.int x)) fin := calOf (by decide +kernel) (Nat.le_of_ble_eq_true rfl) (e_X9_good_0 E a0 x1 h hd)
def FI_X9_machine : Nat → List Value → AH → Option (Int32 × AH) := (cx 201 (fun As h => sR As fun a0 As => sI As fun x1 As => sE As (p_X9_refused a0 x1 h)) (cx 233 (fun As h => sR As fun a0 As => sI As fun x1 As => sE As (p_X9_good a0 x1 h)) fI0))
theorem FI_X9_machine_ok {l : Launch} {D : va_G} {dA : Nat → ClassId} {z : Nat} {sa : Nat → Nat} {Hz : Heap} (E : StrOK qLen qCh l D dA z sa Hz) : ∀ mi As h x h', FI_X9_machine mi As h = some (x, h') → CalOK l D dA z sa Hz (MT mi) As h (some (.int x)) h' := (cxI_ok (fun As h x h2 e => by obtain ⟨_, _, rfl, e0⟩ := sR_inv e; obtain ⟨_, _, rfl, e1⟩ := sI_inv e0; obtain ⟨rfl, ez⟩ := sE_inv e1; exact c_X9_refused E ez) ((cxI_ok (fun As h x h2 e => by obtain ⟨_, _, rfl, e0⟩ := sR_inv e; obtain ⟨_, _, rfl, e1⟩ := sI_inv e0; obtain ⟨rfl, ez⟩ := sE_inv e1; exact c_X9_good E ez) (fI0_ok E))))
def FV_X9_machine : Nat → List Value → AH → Option (AH) := (cx 202 (fun As h => sR As fun a0 As => sE As (p_X8_init a0 h)) (cx 206 (fun As h => sR As fun a0 As => sE As (p_X9_goesOn a0 h)) (cx 227 (fun As h => sR As fun a0 As => sE As (p_X9_readAll a0 h)) (cx 231 (fun As h => sR As fun a0 As => sI As fun x1 As => sE As (p_X9_asTold a0 x1 h)) (cx 232 (fun As h => sR As fun a0 As => sE As (p_X9_remains a0 h)) fV0)))))
theorem FV_X9_machine_ok {l : Launch} {D : va_G} {dA : Nat → ClassId} {z : Nat} {sa : Nat → Nat} {Hz : Heap} (E : StrOK qLen qCh l D dA z sa Hz) : ∀ mi As h h', FV_X9_machine mi As h = some h' → CalOK l D dA z sa Hz (MT mi) As h none h' := (cxV_ok (fun As h h2 e => by obtain ⟨_, _, rfl, e0⟩ := sR_inv e; obtain ⟨rfl, ez⟩ := sE_inv e0; exact c_X8_init E ez) ((cxV_ok (fun As h h2 e => by obtain ⟨_, _, rfl, e0⟩ := sR_inv e; obtain ⟨rfl, ez⟩ := sE_inv e0; exact c_X9_goesOn E ez) ((cxV_ok (fun As h h2 e => by obtain ⟨_, _, rfl, e0⟩ := sR_inv e; obtain ⟨rfl, ez⟩ := sE_inv e0; exact c_X9_readAll E ez) ((cxV_ok (fun As h h2 e => by obtain ⟨_, _, rfl, e0⟩ := sR_inv e; obtain ⟨_, _, rfl, e1⟩ := sI_inv e0; obtain ⟨rfl, ez⟩ := sE_inv e1; exact c_X9_asTold E ez) ((cxV_ok (fun As h h2 e => by obtain ⟨_, _, rfl, e0⟩ := sR_inv e; obtain ⟨rfl, ez⟩ := sE_inv e0; exact c_X9_remains E ez) (fV0_ok E))))))))))
def I_X9_machine_17 : List AI := [(.aload_n 0, 1, [], 0), (.iconst 2, 1, [], 2), (.invokevirtual 39, 3, [1, 201, 2, 8, 1481], 0), (.ireturn, 1, [], 0)]
theorem ok_X9_machine_17 : vBL MT qLen qCh false q_X9_machine.2.2.2.2.1 q_X9_machine.2.2.2.2.2.1 q_X9_machine.2.2.1 q_X9_machine.1.cls q_X9_machine.1.name q_X9_machine.2.1 0 17 I_X9_machine_17 = true := by decide +kernel
def p_X9_machine_17 (a0 : Nat) (h : AH) : Option (Int32 × AH) :=
  if (tg h a0).1 = 8 then ((p_X9_refused a0 ((2 : Int32)) h).bind fun q101 =>
  some (q101.1, q101.2)) else none
set_option maxRecDepth 100000 in
theorem e_X9_machine_17 {l : Launch} {D : va_G} {dA : Nat → ClassId} {z : Nat} {sa : Nat → Nat} {Hz : Heap} (E : StrOK qLen qCh l D dA z sa Hz) {h0 fin : AH} {x : Int32}  : ∀ (a0 : Nat) (h : AH), p_X9_machine_17 a0 h = some (x, fin) → GM l D dA z sa Hz q_X9_machine h0 (some (.int x)) fin 17 [(0, .ref a0)] [] h := by
  intro a0 h hd
  exact step E (is := I_X9_machine_17) (pc := 17) (K := k0) (FI := FI_X9_machine) (FV := FV_X9_machine) (FL := fL0) (rt := rtI) (ft := 0) (by exact hd) ok_X9_machine_17 k0_ok (FI_X9_machine_ok E) (FV_X9_machine_ok E) (fL0_ok E) (rtI_ok rfl)
def I_X9_machine_89 : List AI := [(.aload_n 0, 1, [], 0), (.aload_n 0, 1, [], 0), (.getfield 120, 3, [8, 4, 2, 1349], 0), (.putfield 265, 3, [8, 3, 2, 1348], 0), (.aload_n 0, 1, [], 0), (.iconst 0, 1, [], 0), (.invokevirtual 267, 3, [2, 231, 2, 8, 1675], 0), (.aload_n 0, 1, [], 0), (.invokevirtual 270, 3, [2, 232, 1, 8, 1690], 0), (.aload_n 0, 1, [], 0), (.iconst 0, 1, [], 0), (.putfield 273, 3, [8, 19, 0, 1364], 0), (.aload_n 0, 1, [], 0), (.iconst 0, 1, [], 0), (.putfield 276, 3, [8, 20, 0, 1365], 0), (.aload_n 0, 1, [], 0), (.iconst 0, 1, [], 0), (.putfield 279, 3, [8, 21, 0, 1366], 0), (.aload_n 0, 1, [], 0), (.iconst 0, 1, [], 0), (.putfield 282, 3, [8, 22, 0, 1367], 0), (.aload_n 0, 1, [], 0), (.iconst 0, 1, [], 0), (.putfield 285, 3, [8, 23, 0, 1368], 0), (.aload_n 0, 1, [], 0), (.iconst 0, 1, [], 0), (.putfield 288, 3, [8, 24, 0, 1369], 0), (.aload_n 0, 1, [], 0), (.iconst 0, 1, [], 0), (.putfield 291, 3, [8, 25, 0, 1370], 0), (.aload_n 0, 1, [], 0), (.aload_n 0, 1, [], 0), (.getfield 265, 3, [8, 3, 2, 1348], 0), (.getfield 124, 3, [7, 0, 0, 1491], 0), (.invokevirtual 43, 3, [1, 233, 2, 8, 1694], 0), (.ireturn, 1, [], 0)]
theorem ok_X9_machine_89 : vBL MT qLen qCh false q_X9_machine.2.2.2.2.1 q_X9_machine.2.2.2.2.2.1 q_X9_machine.2.2.1 q_X9_machine.1.cls q_X9_machine.1.name q_X9_machine.2.1 0 89 I_X9_machine_89 = true := by decide +kernel
def p_X9_machine_89 (a0 : Nat) (h : AH) : Option (Int32 × AH) :=
  if (tg h a0).1 = 8 then (if (tg h a0).1 = 8 then (let h102 := wR h a0 3 (rR h a0 4)
  if (tg h102 a0).1 = 8 then ((p_X9_asTold a0 ((0 : Int32)) h102).bind fun h103 =>
  if (tg h103 a0).1 = 8 then ((p_X9_remains a0 h103).bind fun h104 =>
  if (tg h104 a0).1 = 8 then (let h105 := wI h104 a0 19 ((0 : Int32))
  if (tg h105 a0).1 = 8 then (let h106 := wI h105 a0 20 ((0 : Int32))
  if (tg h106 a0).1 = 8 then (let h107 := wI h106 a0 21 ((0 : Int32))
  if (tg h107 a0).1 = 8 then (let h108 := wI h107 a0 22 ((0 : Int32))
  if (tg h108 a0).1 = 8 then (let h109 := wI h108 a0 23 ((0 : Int32))
  if (tg h109 a0).1 = 8 then (let h110 := wI h109 a0 24 ((0 : Int32))
  if (tg h110 a0).1 = 8 then (let h111 := wI h110 a0 25 ((0 : Int32))
  if (tg h111 a0).1 = 8 then (if (tg h111 (rR h111 a0 3)).1 = 7 then (if (tg h111 a0).1 = 8 then ((p_X9_good a0 (rI h111 (rR h111 a0 3) 0) h111).bind fun q112 =>
  some (q112.1, q112.2)) else none) else none) else none) else none) else none) else none) else none) else none) else none) else none) else none) else none) else none) else none
set_option maxRecDepth 100000 in
theorem e_X9_machine_89 {l : Launch} {D : va_G} {dA : Nat → ClassId} {z : Nat} {sa : Nat → Nat} {Hz : Heap} (E : StrOK qLen qCh l D dA z sa Hz) {h0 fin : AH} {x : Int32}  : ∀ (a0 : Nat) (h : AH), p_X9_machine_89 a0 h = some (x, fin) → GM l D dA z sa Hz q_X9_machine h0 (some (.int x)) fin 89 [(0, .ref a0)] [] h := by
  intro a0 h hd
  exact step E (is := I_X9_machine_89) (pc := 89) (K := k0) (FI := FI_X9_machine) (FV := FV_X9_machine) (FL := fL0) (rt := rtI) (ft := 0) (by exact hd) ok_X9_machine_89 k0_ok (FI_X9_machine_ok E) (FV_X9_machine_ok E) (fL0_ok E) (rtI_ok rfl)
def I_X9_machine_23 : List AI := [(.aload_n 0, 1, [], 0), (.iload_n 1, 1, [], 0), (.putfield 50, 3, [8, 7, 0, 1352], 0), (.aload_n 0, 1, [], 0), (.iconst 0, 1, [], 0), (.putfield 258, 3, [8, 6, 0, 1351], 0), (.aload_n 0, 1, [], 0), (.iconst 0, 1, [], 0), (.putfield 68, 3, [8, 8, 0, 1353], 0), (.aload_n 0, 1, [], 0), (.iconst 0, 1, [], 0), (.putfield 91, 3, [8, 12, 0, 1357], 0), (.aload_n 0, 1, [], 0), (.new 125, 3, [7, 18, 1485], 0), (.dup, 1, [], 0), (.invokespecial 261, 3, [2, 202, 1, 1487], 0), (.putfield 120, 3, [8, 4, 2, 1349], 0), (.aload_n 0, 1, [], 0), (.iconst 0, 1, [], 0), (.putfield 65, 3, [8, 9, 0, 1354], 0), (.aload_n 0, 1, [], 0), (.invokevirtual 101, 3, [2, 206, 1, 8, 1558], 0), (.aload_n 0, 1, [], 0), (.invokevirtual 262, 3, [2, 227, 1, 8, 1573], 0), (.aload_n 0, 1, [], 0), (.getfield 91, 3, [8, 12, 0, 1357], 0), (.ifCond .le 18, 3, [89], 0), (.aload_n 0, 1, [], 0), (.iconst 4, 1, [], 4), (.putfield 36, 3, [8, 1, 0, 1346], 0), (.aload_n 0, 1, [], 0), (.aload_n 0, 1, [], 0), (.getfield 94, 3, [8, 13, 0, 1358], 0), (.putfield 9, 3, [8, 2, 0, 1347], 0), (.iconst (-1), 1, [], (-1)), (.ireturn, 1, [], 0)]
theorem ok_X9_machine_23 : vBL MT qLen qCh false q_X9_machine.2.2.2.2.1 q_X9_machine.2.2.2.2.2.1 q_X9_machine.2.2.1 q_X9_machine.1.cls q_X9_machine.1.name q_X9_machine.2.1 0 23 I_X9_machine_23 = true := by decide +kernel
def p_X9_machine_23 (a0 : Nat) (x1 : Int32) (h : AH) : Option (Int32 × AH) :=
  if (tg h a0).1 = 8 then (let h113 := wI h a0 7 x1
  if (tg h113 a0).1 = 8 then (let h114 := wI h113 a0 6 ((0 : Int32))
  if (tg h114 a0).1 = 8 then (let h115 := wI h114 a0 8 ((0 : Int32))
  if (tg h115 a0).1 = 8 then (let h116 := wI h115 a0 12 ((0 : Int32))
  let h117 := al h116 7 18
  if (nx h116) = 0 then none else
  (p_X8_init (nx h116) h117).bind fun h118 =>
  if (tg h118 a0).1 = 8 then (let h119 := wR h118 a0 4 (nx h116)
  if (tg h119 a0).1 = 8 then (let h120 := wI h119 a0 9 ((0 : Int32))
  if (tg h120 a0).1 = 8 then ((p_X9_goesOn a0 h120).bind fun h121 =>
  if (tg h121 a0).1 = 8 then ((p_X9_readAll a0 h121).bind fun h122 =>
  if (tg h122 a0).1 = 8 then (if 0 < (rI h122 a0 12) then (if (tg h122 a0).1 = 8 then (let h134 := wI h122 a0 1 ((4 : Int32))
  if (tg h134 a0).1 = 8 then (if (tg h134 a0).1 = 8 then (let h135 := wI h134 a0 2 (rI h134 a0 13)
  some (((-1 : Int32)), h135)) else none) else none) else none)
  else
  if (tg h122 a0).1 = 8 then (if (tg h122 a0).1 = 8 then (let h123 := wR h122 a0 3 (rR h122 a0 4)
  if (tg h123 a0).1 = 8 then ((p_X9_asTold a0 ((0 : Int32)) h123).bind fun h124 =>
  if (tg h124 a0).1 = 8 then ((p_X9_remains a0 h124).bind fun h125 =>
  if (tg h125 a0).1 = 8 then (let h126 := wI h125 a0 19 ((0 : Int32))
  if (tg h126 a0).1 = 8 then (let h127 := wI h126 a0 20 ((0 : Int32))
  if (tg h127 a0).1 = 8 then (let h128 := wI h127 a0 21 ((0 : Int32))
  if (tg h128 a0).1 = 8 then (let h129 := wI h128 a0 22 ((0 : Int32))
  if (tg h129 a0).1 = 8 then (let h130 := wI h129 a0 23 ((0 : Int32))
  if (tg h130 a0).1 = 8 then (let h131 := wI h130 a0 24 ((0 : Int32))
  if (tg h131 a0).1 = 8 then (let h132 := wI h131 a0 25 ((0 : Int32))
  if (tg h132 a0).1 = 8 then (if (tg h132 (rR h132 a0 3)).1 = 7 then (if (tg h132 a0).1 = 8 then ((p_X9_good a0 (rI h132 (rR h132 a0 3) 0) h132).bind fun q133 =>
  some (q133.1, q133.2)) else none) else none) else none) else none) else none) else none) else none) else none) else none) else none) else none) else none) else none) else none) else none) else none) else none) else none) else none) else none) else none) else none) else none
set_option maxRecDepth 100000 in
theorem e_X9_machine_23 {l : Launch} {D : va_G} {dA : Nat → ClassId} {z : Nat} {sa : Nat → Nat} {Hz : Heap} (E : StrOK qLen qCh l D dA z sa Hz) {h0 fin : AH} {x : Int32}  : ∀ (a0 : Nat) (x1 : Int32) (h : AH), p_X9_machine_23 a0 x1 h = some (x, fin) → GM l D dA z sa Hz q_X9_machine h0 (some (.int x)) fin 23 [(0, .ref a0), (1, .int x1)] [] h := by
  intro a0 x1 h hd
  exact step E (is := I_X9_machine_23) (pc := 23) (K := (kx 89 (fun la st h => gR la 0 fun a0 => sE st (p_X9_machine_89 a0 h)) k0)) (FI := FI_X9_machine) (FV := FV_X9_machine) (FL := fL0) (rt := rtI) (ft := 0) (by exact hd) ok_X9_machine_23 (kx_ok (fun la st h e => by obtain ⟨a0, m_a0, e1⟩ := gR_inv e; obtain ⟨rfl, ez⟩ := sE_inv e1; exact gm_fewer (e_X9_machine_89 E  a0 h ez) (mem_cons m_a0 mem_nil)) k0_ok) (FI_X9_machine_ok E) (FV_X9_machine_ok E) (fL0_ok E) (rtI_ok rfl)
def I_X9_machine_0 : List AI := [(.aload_n 0, 1, [], 0), (.iconst 0, 1, [], 0), (.putfield 33, 3, [8, 0, 0, 1345], 0), (.iload_n 1, 1, [], 0), (.ifCond .lt 11, 3, [17], 0), (.iload_n 1, 1, [], 0), (.aload_n 0, 1, [], 0), (.getfield 258, 3, [8, 6, 0, 1351], 0), (.if_icmp .le 9, 3, [23], 0)]
theorem ok_X9_machine_0 : vBL MT qLen qCh false q_X9_machine.2.2.2.2.1 q_X9_machine.2.2.2.2.2.1 q_X9_machine.2.2.1 q_X9_machine.1.cls q_X9_machine.1.name q_X9_machine.2.1 17 0 I_X9_machine_0 = true := by decide +kernel
def p_X9_machine (a0 : Nat) (x1 : Int32) (h : AH) : Option (Int32 × AH) :=
  if (tg h a0).1 = 8 then (let h136 := wI h a0 0 ((0 : Int32))
  if x1 < 0 then (p_X9_machine_17 a0 h136)
  else
  if (tg h136 a0).1 = 8 then (if (rI h136 a0 6) < x1 then (p_X9_machine_17 a0 h136)
  else
  if (tg h136 a0).1 = 8 then (let h137 := wI h136 a0 7 x1
  if (tg h137 a0).1 = 8 then (let h138 := wI h137 a0 6 ((0 : Int32))
  if (tg h138 a0).1 = 8 then (let h139 := wI h138 a0 8 ((0 : Int32))
  if (tg h139 a0).1 = 8 then (let h140 := wI h139 a0 12 ((0 : Int32))
  let h141 := al h140 7 18
  if (nx h140) = 0 then none else
  (p_X8_init (nx h140) h141).bind fun h142 =>
  if (tg h142 a0).1 = 8 then (let h143 := wR h142 a0 4 (nx h140)
  if (tg h143 a0).1 = 8 then (let h144 := wI h143 a0 9 ((0 : Int32))
  if (tg h144 a0).1 = 8 then ((p_X9_goesOn a0 h144).bind fun h145 =>
  if (tg h145 a0).1 = 8 then ((p_X9_readAll a0 h145).bind fun h146 =>
  if (tg h146 a0).1 = 8 then (if 0 < (rI h146 a0 12) then (if (tg h146 a0).1 = 8 then (let h158 := wI h146 a0 1 ((4 : Int32))
  if (tg h158 a0).1 = 8 then (if (tg h158 a0).1 = 8 then (let h159 := wI h158 a0 2 (rI h158 a0 13)
  some (((-1 : Int32)), h159)) else none) else none) else none)
  else
  if (tg h146 a0).1 = 8 then (if (tg h146 a0).1 = 8 then (let h147 := wR h146 a0 3 (rR h146 a0 4)
  if (tg h147 a0).1 = 8 then ((p_X9_asTold a0 ((0 : Int32)) h147).bind fun h148 =>
  if (tg h148 a0).1 = 8 then ((p_X9_remains a0 h148).bind fun h149 =>
  if (tg h149 a0).1 = 8 then (let h150 := wI h149 a0 19 ((0 : Int32))
  if (tg h150 a0).1 = 8 then (let h151 := wI h150 a0 20 ((0 : Int32))
  if (tg h151 a0).1 = 8 then (let h152 := wI h151 a0 21 ((0 : Int32))
  if (tg h152 a0).1 = 8 then (let h153 := wI h152 a0 22 ((0 : Int32))
  if (tg h153 a0).1 = 8 then (let h154 := wI h153 a0 23 ((0 : Int32))
  if (tg h154 a0).1 = 8 then (let h155 := wI h154 a0 24 ((0 : Int32))
  if (tg h155 a0).1 = 8 then (let h156 := wI h155 a0 25 ((0 : Int32))
  if (tg h156 a0).1 = 8 then (if (tg h156 (rR h156 a0 3)).1 = 7 then (if (tg h156 a0).1 = 8 then ((p_X9_good a0 (rI h156 (rR h156 a0 3) 0) h156).bind fun q157 =>
  some (q157.1, q157.2)) else none) else none) else none) else none) else none) else none) else none) else none) else none) else none) else none) else none) else none) else none) else none) else none) else none) else none) else none) else none) else none) else none) else none) else none) else none
set_option maxRecDepth 100000 in
theorem e_X9_machine_0 {l : Launch} {D : va_G} {dA : Nat → ClassId} {z : Nat} {sa : Nat → Nat} {Hz : Heap} (E : StrOK qLen qCh l D dA z sa Hz) {h0 fin : AH} {x : Int32}  : ∀ (a0 : Nat) (x1 : Int32) (h : AH), p_X9_machine a0 x1 h = some (x, fin) → GM l D dA z sa Hz q_X9_machine h0 (some (.int x)) fin 0 [(0, .ref a0), (1, .int x1)] [] h := by
  intro a0 x1 h hd
  exact step E (is := I_X9_machine_0) (pc := 0) (K := (kx 17 (fun la st h => gR la 0 fun a0 => sE st (p_X9_machine_17 a0 h)) (kx 23 (fun la st h => gR la 0 fun a0 => gI la 1 fun x1 => sE st (p_X9_machine_23 a0 x1 h)) k0))) (FI := FI_X9_machine) (FV := FV_X9_machine) (FL := fL0) (rt := rtI) (ft := 17) (by exact hd) ok_X9_machine_0 (kx_ok (fun la st h e => by obtain ⟨a0, m_a0, e1⟩ := gR_inv e; obtain ⟨rfl, ez⟩ := sE_inv e1; exact gm_fewer (e_X9_machine_17 E  a0 h ez) (mem_cons m_a0 mem_nil)) (kx_ok (fun la st h e => by obtain ⟨a0, m_a0, e1⟩ := gR_inv e; obtain ⟨x1, m_x1, e2⟩ := gI_inv e1; obtain ⟨rfl, ez⟩ := sE_inv e2; exact gm_fewer (e_X9_machine_23 E  a0 x1 h ez) (mem_cons m_a0 (mem_cons m_x1 mem_nil))) k0_ok)) (FI_X9_machine_ok E) (FV_X9_machine_ok E) (fL0_ok E) (rtI_ok rfl)
theorem c_X9_machine {l : Launch} {D : va_G} {dA : Nat → ClassId} {z : Nat} {sa : Nat → Nat} {Hz : Heap} (E : StrOK qLen qCh l D dA z sa Hz) {a0 : Nat} {x1 : Int32} {h fin : AH} {x : Int32} (hd : p_X9_machine a0 x1 h = some (x, fin)) : CalOK l D dA z sa Hz q_X9_machine [.ref a0, .int x1] h (some (.int x)) fin := calOf (by decide +kernel) (Nat.le_of_ble_eq_true rfl) (e_X9_machine_0 E a0 x1 h hd)
def I_X9_fault_0 : List AI := [(.aload_n 0, 1, [], 0), (.iconst 0, 1, [], 0), (.putfield 33, 3, [8, 0, 0, 1345], 0), (.aload_n 0, 1, [], 0), (.getfield 91, 3, [8, 12, 0, 1357], 0), (.ireturn, 1, [], 0)]
theorem ok_X9_fault_0 : vBL MT qLen qCh false q_X9_fault.2.2.2.2.1 q_X9_fault.2.2.2.2.2.1 q_X9_fault.2.2.1 q_X9_fault.1.cls q_X9_fault.1.name q_X9_fault.2.1 0 0 I_X9_fault_0 = true := by decide +kernel
def p_X9_fault (a0 : Nat) (h : AH) : Option (Int32 × AH) :=
  if (tg h a0).1 = 8 then (let h101 := wI h a0 0 ((0 : Int32))
  if (tg h101 a0).1 = 8 then (some ((rI h101 a0 12), h101)) else none) else none
set_option maxRecDepth 100000 in
theorem e_X9_fault_0 {l : Launch} {D : va_G} {dA : Nat → ClassId} {z : Nat} {sa : Nat → Nat} {Hz : Heap} (E : StrOK qLen qCh l D dA z sa Hz) {h0 fin : AH} {x : Int32}  : ∀ (a0 : Nat) (h : AH), p_X9_fault a0 h = some (x, fin) → GM l D dA z sa Hz q_X9_fault h0 (some (.int x)) fin 0 [(0, .ref a0)] [] h := by
  intro a0 h hd
  exact step E (is := I_X9_fault_0) (pc := 0) (K := k0) (FI := fI0) (FV := fV0) (FL := fL0) (rt := rtI) (ft := 0) (by exact hd) ok_X9_fault_0 k0_ok (fI0_ok E) (fV0_ok E) (fL0_ok E) (rtI_ok rfl)
theorem c_X9_fault {l : Launch} {D : va_G} {dA : Nat → ClassId} {z : Nat} {sa : Nat → Nat} {Hz : Heap} (E : StrOK qLen qCh l D dA z sa Hz) {a0 : Nat} {h fin : AH} {x : Int32} (hd : p_X9_fault a0 h = some (x, fin)) : CalOK l D dA z sa Hz q_X9_fault [.ref a0] h (some (.int x)) fin := calOf (by decide +kernel) (Nat.le_of_ble_eq_true rfl) (e_X9_fault_0 E a0 h hd)
def I_X9_where_0 : List AI := [(.aload_n 0, 1, [], 0), (.iconst 0, 1, [], 0), (.putfield 33, 3, [8, 0, 0, 1345], 0), (.aload_n 0, 1, [], 0), (.getfield 9, 3, [8, 2, 0, 1347], 0), (.ireturn, 1, [], 0)]
theorem ok_X9_where_0 : vBL MT qLen qCh false q_X9_where.2.2.2.2.1 q_X9_where.2.2.2.2.2.1 q_X9_where.2.2.1 q_X9_where.1.cls q_X9_where.1.name q_X9_where.2.1 0 0 I_X9_where_0 = true := by decide +kernel
def p_X9_where (a0 : Nat) (h : AH) : Option (Int32 × AH) :=
  if (tg h a0).1 = 8 then (let h101 := wI h a0 0 ((0 : Int32))
  if (tg h101 a0).1 = 8 then (some ((rI h101 a0 2), h101)) else none) else none
set_option maxRecDepth 100000 in
theorem e_X9_where_0 {l : Launch} {D : va_G} {dA : Nat → ClassId} {z : Nat} {sa : Nat → Nat} {Hz : Heap} (E : StrOK qLen qCh l D dA z sa Hz) {h0 fin : AH} {x : Int32}  : ∀ (a0 : Nat) (h : AH), p_X9_where a0 h = some (x, fin) → GM l D dA z sa Hz q_X9_where h0 (some (.int x)) fin 0 [(0, .ref a0)] [] h := by
  intro a0 h hd
  exact step E (is := I_X9_where_0) (pc := 0) (K := k0) (FI := fI0) (FV := fV0) (FL := fL0) (rt := rtI) (ft := 0) (by exact hd) ok_X9_where_0 k0_ok (fI0_ok E) (fV0_ok E) (fL0_ok E) (rtI_ok rfl)
theorem c_X9_where {l : Launch} {D : va_G} {dA : Nat → ClassId} {z : Nat} {sa : Nat → Nat} {Hz : Heap} (E : StrOK qLen qCh l D dA z sa Hz) {a0 : Nat} {h fin : AH} {x : Int32} (hd : p_X9_where a0 h = some (x, fin)) : CalOK l D dA z sa Hz q_X9_where [.ref a0] h (some (.int x)) fin := calOf (by decide +kernel) (Nat.le_of_ble_eq_true rfl) (e_X9_where_0 E a0 h hd)
def I_X9_isFrame_15 : List AI := [(.ireturn, 1, [], 0)]
theorem ok_X9_isFrame_15 : vBL MT qLen qCh false q_X9_isFrame.2.2.2.2.1 q_X9_isFrame.2.2.2.2.2.1 q_X9_isFrame.2.2.1 q_X9_isFrame.1.cls q_X9_isFrame.1.name q_X9_isFrame.2.1 0 15 I_X9_isFrame_15 = true := by decide +kernel
def p_X9_isFrame_15 (y0 : Int32) (h : AH) : Option (Int32 × AH) :=
  if y0 &&& 1 = y0 then some (y0, h) else none
set_option maxRecDepth 100000 in
theorem e_X9_isFrame_15 {l : Launch} {D : va_G} {dA : Nat → ClassId} {z : Nat} {sa : Nat → Nat} {Hz : Heap} (E : StrOK qLen qCh l D dA z sa Hz) {h0 fin : AH} {x : Int32}  : ∀ (y0 : Int32) (h : AH), p_X9_isFrame_15 y0 h = some (x, fin) → GM l D dA z sa Hz q_X9_isFrame h0 (some (.int x)) fin 15 [] [.int y0] h := by
  intro y0 h hd
  exact step E (is := I_X9_isFrame_15) (pc := 15) (K := k0) (FI := fI0) (FV := fV0) (FL := fL0) (rt := rtZ) (ft := 0) (by exact hd) ok_X9_isFrame_15 k0_ok (fI0_ok E) (fV0_ok E) (fL0_ok E) (rtZ_ok rfl)
def I_X9_isFrame_14 : List AI := [(.iconst 0, 1, [], 0)]
theorem ok_X9_isFrame_14 : vBL MT qLen qCh false q_X9_isFrame.2.2.2.2.1 q_X9_isFrame.2.2.2.2.2.1 q_X9_isFrame.2.2.1 q_X9_isFrame.1.cls q_X9_isFrame.1.name q_X9_isFrame.2.1 15 14 I_X9_isFrame_14 = true := by decide +kernel
def p_X9_isFrame_14 (h : AH) : Option (Int32 × AH) :=
  p_X9_isFrame_15 ((0 : Int32)) h
set_option maxRecDepth 100000 in
theorem e_X9_isFrame_14 {l : Launch} {D : va_G} {dA : Nat → ClassId} {z : Nat} {sa : Nat → Nat} {Hz : Heap} (E : StrOK qLen qCh l D dA z sa Hz) {h0 fin : AH} {x : Int32}  : ∀  (h : AH), p_X9_isFrame_14 h = some (x, fin) → GM l D dA z sa Hz q_X9_isFrame h0 (some (.int x)) fin 14 [] [] h := by
  intro h hd
  exact step E (is := I_X9_isFrame_14) (pc := 14) (K := (kx 15 (fun la st h => sI st fun y0 st => sE st (p_X9_isFrame_15 y0 h)) k0)) (FI := fI0) (FV := fV0) (FL := fL0) (rt := rtZ) (ft := 15) (by exact hd) ok_X9_isFrame_14 (kx_ok (fun la st h e => by obtain ⟨y0, _, rfl, e1⟩ := sI_inv e; obtain ⟨rfl, ez⟩ := sE_inv e1; exact gm_fewer (e_X9_isFrame_15 E  y0 h ez) mem_nil) k0_ok) (fI0_ok E) (fV0_ok E) (fL0_ok E) (rtZ_ok rfl)
def I_X9_isFrame_0 : List AI := [(.iload_n 0, 1, [], 0), (.ifCond .lt 13, 3, [14], 0), (.iload_n 0, 1, [], 0), (.bipush 16, 2, [], 16), (.if_icmp .ge 7, 3, [14], 0), (.iconst 1, 1, [], 1), (.goto 4, 3, [15], 0)]
theorem ok_X9_isFrame_0 : vBL MT qLen qCh false q_X9_isFrame.2.2.2.2.1 q_X9_isFrame.2.2.2.2.2.1 q_X9_isFrame.2.2.1 q_X9_isFrame.1.cls q_X9_isFrame.1.name q_X9_isFrame.2.1 0 0 I_X9_isFrame_0 = true := by decide +kernel
def p_X9_isFrame (x0 : Int32) (h : AH) : Option (Int32 × AH) :=
  if x0 < 0 then (p_X9_isFrame_14 h)
  else
  if x0 < ((16 : Int32)) then (p_X9_isFrame_15 ((1 : Int32)) h)
  else
  p_X9_isFrame_14 h
set_option maxRecDepth 100000 in
theorem e_X9_isFrame_0 {l : Launch} {D : va_G} {dA : Nat → ClassId} {z : Nat} {sa : Nat → Nat} {Hz : Heap} (E : StrOK qLen qCh l D dA z sa Hz) {h0 fin : AH} {x : Int32}  : ∀ (x0 : Int32) (h : AH), p_X9_isFrame x0 h = some (x, fin) → GM l D dA z sa Hz q_X9_isFrame h0 (some (.int x)) fin 0 [(0, .int x0)] [] h := by
  intro x0 h hd
  exact step E (is := I_X9_isFrame_0) (pc := 0) (K := (kx 14 (fun la st h => sE st (p_X9_isFrame_14 h)) (kx 15 (fun la st h => sI st fun y0 st => sE st (p_X9_isFrame_15 y0 h)) k0))) (FI := fI0) (FV := fV0) (FL := fL0) (rt := rtZ) (ft := 0) (by exact hd) ok_X9_isFrame_0 (kx_ok (fun la st h e => by obtain ⟨rfl, ez⟩ := sE_inv e; exact gm_fewer (e_X9_isFrame_14 E   h ez) mem_nil) (kx_ok (fun la st h e => by obtain ⟨y0, _, rfl, e1⟩ := sI_inv e; obtain ⟨rfl, ez⟩ := sE_inv e1; exact gm_fewer (e_X9_isFrame_15 E  y0 h ez) mem_nil) k0_ok)) (fI0_ok E) (fV0_ok E) (fL0_ok E) (rtZ_ok rfl)
theorem c_X9_isFrame {l : Launch} {D : va_G} {dA : Nat → ClassId} {z : Nat} {sa : Nat → Nat} {Hz : Heap} (E : StrOK qLen qCh l D dA z sa Hz) {x0 : Int32} {h fin : AH} {x : Int32} (hd : p_X9_isFrame x0 h = some (x, fin)) : CalOK l D dA z sa Hz q_X9_isFrame [.int x0] h (some (.int x)) fin := calOf (by decide +kernel) (Nat.le_of_ble_eq_true rfl) (e_X9_isFrame_0 E x0 h hd)
def FI_X9_word : Nat → List Value → AH → Option (Int32 × AH) := (cx 237 (fun As h => sI As fun x0 As => sE As (p_X9_isFrame x0 h)) (cx 211 (fun As h => sI As fun x0 As => sI As fun x1 As => sI As fun x2 As => sE As (p_X9_in x0 x1 x2 h)) (cx 201 (fun As h => sR As fun a0 As => sI As fun x1 As => sE As (p_X9_refused a0 x1 h)) (cx 233 (fun As h => sR As fun a0 As => sI As fun x1 As => sE As (p_X9_good a0 x1 h)) fI0))))
theorem FI_X9_word_ok {l : Launch} {D : va_G} {dA : Nat → ClassId} {z : Nat} {sa : Nat → Nat} {Hz : Heap} (E : StrOK qLen qCh l D dA z sa Hz) : ∀ mi As h x h', FI_X9_word mi As h = some (x, h') → CalOK l D dA z sa Hz (MT mi) As h (some (.int x)) h' := (cxI_ok (fun As h x h2 e => by obtain ⟨_, _, rfl, e0⟩ := sI_inv e; obtain ⟨rfl, ez⟩ := sE_inv e0; exact c_X9_isFrame E ez) ((cxI_ok (fun As h x h2 e => by obtain ⟨_, _, rfl, e0⟩ := sI_inv e; obtain ⟨_, _, rfl, e1⟩ := sI_inv e0; obtain ⟨_, _, rfl, e2⟩ := sI_inv e1; obtain ⟨rfl, ez⟩ := sE_inv e2; exact c_X9_in E ez) ((cxI_ok (fun As h x h2 e => by obtain ⟨_, _, rfl, e0⟩ := sR_inv e; obtain ⟨_, _, rfl, e1⟩ := sI_inv e0; obtain ⟨rfl, ez⟩ := sE_inv e1; exact c_X9_refused E ez) ((cxI_ok (fun As h x h2 e => by obtain ⟨_, _, rfl, e0⟩ := sR_inv e; obtain ⟨_, _, rfl, e1⟩ := sI_inv e0; obtain ⟨rfl, ez⟩ := sE_inv e1; exact c_X9_good E ez) (fI0_ok E))))))))
def I_X9_word_29 : List AI := [(.aload_n 0, 1, [], 0), (.iconst 1, 1, [], 1), (.invokevirtual 39, 3, [1, 201, 2, 8, 1481], 0), (.ireturn, 1, [], 0)]
theorem ok_X9_word_29 : vBL MT qLen qCh false q_X9_word.2.2.2.2.1 q_X9_word.2.2.2.2.2.1 q_X9_word.2.2.1 q_X9_word.1.cls q_X9_word.1.name q_X9_word.2.1 0 29 I_X9_word_29 = true := by decide +kernel
def p_X9_word_29 (a0 : Nat) (h : AH) : Option (Int32 × AH) :=
  if (tg h a0).1 = 8 then ((p_X9_refused a0 ((1 : Int32)) h).bind fun q101 =>
  some (q101.1, q101.2)) else none
set_option maxRecDepth 100000 in
theorem e_X9_word_29 {l : Launch} {D : va_G} {dA : Nat → ClassId} {z : Nat} {sa : Nat → Nat} {Hz : Heap} (E : StrOK qLen qCh l D dA z sa Hz) {h0 fin : AH} {x : Int32}  : ∀ (a0 : Nat) (h : AH), p_X9_word_29 a0 h = some (x, fin) → GM l D dA z sa Hz q_X9_word h0 (some (.int x)) fin 29 [(0, .ref a0)] [] h := by
  intro a0 h hd
  exact step E (is := I_X9_word_29) (pc := 29) (K := k0) (FI := FI_X9_word) (FV := fV0) (FL := fL0) (rt := rtI) (ft := 0) (by exact hd) ok_X9_word_29 k0_ok (FI_X9_word_ok E) (fV0_ok E) (fL0_ok E) (rtI_ok rfl)
def I_X9_word_35 : List AI := [(.aload_n 0, 1, [], 0), (.aload_n 0, 1, [], 0), (.getfield 17, 3, [8, 15, 2, 1360], 0), (.bipush 8, 2, [], 8), (.iload_n 1, 1, [], 0), (.imul, 1, [], 0), (.iload_n 2, 1, [], 0), (.iadd, 1, [], 0), (.iaload, 1, [], 0), (.invokevirtual 43, 3, [1, 233, 2, 8, 1694], 0), (.ireturn, 1, [], 0)]
theorem ok_X9_word_35 : vBL MT qLen qCh false q_X9_word.2.2.2.2.1 q_X9_word.2.2.2.2.2.1 q_X9_word.2.2.1 q_X9_word.1.cls q_X9_word.1.name q_X9_word.2.1 0 35 I_X9_word_35 = true := by decide +kernel
def p_X9_word_35 (a0 : Nat) (x1 : Int32) (x2 : Int32) (h : AH) : Option (Int32 × AH) :=
  if (tg h a0).1 = 8 then (if inB h (rR h a0 15) 100 ((((8 : Int32)) * x1) + x2) then (if (tg h a0).1 = 8 then ((p_X9_good a0 (rI h (rR h a0 15) ((((8 : Int32)) * x1) + x2).toNatClampNeg) h).bind fun q102 =>
  some (q102.1, q102.2)) else none) else none) else none
set_option maxRecDepth 100000 in
theorem e_X9_word_35 {l : Launch} {D : va_G} {dA : Nat → ClassId} {z : Nat} {sa : Nat → Nat} {Hz : Heap} (E : StrOK qLen qCh l D dA z sa Hz) {h0 fin : AH} {x : Int32}  : ∀ (a0 : Nat) (x1 : Int32) (x2 : Int32) (h : AH), p_X9_word_35 a0 x1 x2 h = some (x, fin) → GM l D dA z sa Hz q_X9_word h0 (some (.int x)) fin 35 [(0, .ref a0), (1, .int x1), (2, .int x2)] [] h := by
  intro a0 x1 x2 h hd
  exact step E (is := I_X9_word_35) (pc := 35) (K := k0) (FI := FI_X9_word) (FV := fV0) (FL := fL0) (rt := rtI) (ft := 0) (by exact hd) ok_X9_word_35 k0_ok (FI_X9_word_ok E) (fV0_ok E) (fL0_ok E) (rtI_ok rfl)
def I_X9_word_0 : List AI := [(.aload_n 0, 1, [], 0), (.iconst 0, 1, [], 0), (.putfield 33, 3, [8, 0, 0, 1345], 0), (.aload_n 0, 1, [], 0), (.getfield 265, 3, [8, 3, 2, 1348], 0), (.ifnull 20, 3, [29], 0), (.iload_n 1, 1, [], 0), (.invokestatic 395, 3, [1, 237, 1, 1710], 0), (.ifCond .eq 13, 3, [29], 0), (.iload_n 2, 1, [], 0), (.iconst 0, 1, [], 0), (.bipush 7, 2, [], 7), (.invokestatic 112, 3, [1, 211, 3, 1612], 0), (.ifCond .ne 9, 3, [35], 0)]
theorem ok_X9_word_0 : vBL MT qLen qCh false q_X9_word.2.2.2.2.1 q_X9_word.2.2.2.2.2.1 q_X9_word.2.2.1 q_X9_word.1.cls q_X9_word.1.name q_X9_word.2.1 29 0 I_X9_word_0 = true := by decide +kernel
def p_X9_word (a0 : Nat) (x1 : Int32) (x2 : Int32) (h : AH) : Option (Int32 × AH) :=
  if (tg h a0).1 = 8 then (let h103 := wI h a0 0 ((0 : Int32))
  if (tg h103 a0).1 = 8 then (if (rR h103 a0 3) = 0 then (p_X9_word_29 a0 h103)
  else
  (p_X9_isFrame x1 h103).bind fun q104 =>
  if q104.1 = 0 then (p_X9_word_29 a0 q104.2)
  else
  (p_X9_in x2 ((0 : Int32)) ((7 : Int32)) q104.2).bind fun q105 =>
  if q105.1 = 0 then (p_X9_word_29 a0 q105.2)
  else
  if (tg q105.2 a0).1 = 8 then (if inB q105.2 (rR q105.2 a0 15) 100 ((((8 : Int32)) * x1) + x2) then (if (tg q105.2 a0).1 = 8 then ((p_X9_good a0 (rI q105.2 (rR q105.2 a0 15) ((((8 : Int32)) * x1) + x2).toNatClampNeg) q105.2).bind fun q106 =>
  some (q106.1, q106.2)) else none) else none) else none) else none) else none
set_option maxRecDepth 100000 in
theorem e_X9_word_0 {l : Launch} {D : va_G} {dA : Nat → ClassId} {z : Nat} {sa : Nat → Nat} {Hz : Heap} (E : StrOK qLen qCh l D dA z sa Hz) {h0 fin : AH} {x : Int32}  : ∀ (a0 : Nat) (x1 : Int32) (x2 : Int32) (h : AH), p_X9_word a0 x1 x2 h = some (x, fin) → GM l D dA z sa Hz q_X9_word h0 (some (.int x)) fin 0 [(0, .ref a0), (1, .int x1), (2, .int x2)] [] h := by
  intro a0 x1 x2 h hd
  exact step E (is := I_X9_word_0) (pc := 0) (K := (kx 29 (fun la st h => gR la 0 fun a0 => sE st (p_X9_word_29 a0 h)) (kx 35 (fun la st h => gR la 0 fun a0 => gI la 1 fun x1 => gI la 2 fun x2 => sE st (p_X9_word_35 a0 x1 x2 h)) k0))) (FI := FI_X9_word) (FV := fV0) (FL := fL0) (rt := rtI) (ft := 29) (by exact hd) ok_X9_word_0 (kx_ok (fun la st h e => by obtain ⟨a0, m_a0, e1⟩ := gR_inv e; obtain ⟨rfl, ez⟩ := sE_inv e1; exact gm_fewer (e_X9_word_29 E  a0 h ez) (mem_cons m_a0 mem_nil)) (kx_ok (fun la st h e => by obtain ⟨a0, m_a0, e1⟩ := gR_inv e; obtain ⟨x1, m_x1, e2⟩ := gI_inv e1; obtain ⟨x2, m_x2, e3⟩ := gI_inv e2; obtain ⟨rfl, ez⟩ := sE_inv e3; exact gm_fewer (e_X9_word_35 E  a0 x1 x2 h ez) (mem_cons m_a0 (mem_cons m_x1 (mem_cons m_x2 mem_nil)))) k0_ok)) (FI_X9_word_ok E) (fV0_ok E) (fL0_ok E) (rtI_ok rfl)
theorem c_X9_word {l : Launch} {D : va_G} {dA : Nat → ClassId} {z : Nat} {sa : Nat → Nat} {Hz : Heap} (E : StrOK qLen qCh l D dA z sa Hz) {a0 : Nat} {x1 : Int32} {x2 : Int32} {h fin : AH} {x : Int32} (hd : p_X9_word a0 x1 x2 h = some (x, fin)) : CalOK l D dA z sa Hz q_X9_word [.ref a0, .int x1, .int x2] h (some (.int x)) fin := calOf (by decide +kernel) (Nat.le_of_ble_eq_true rfl) (e_X9_word_0 E a0 x1 x2 h hd)
def FV_X9_works : Nat → List Value → AH → Option (AH) := (cx 230 (fun As h => sR As fun a0 As => sE As (p_X9_begins a0 h)) fV0)
theorem FV_X9_works_ok {l : Launch} {D : va_G} {dA : Nat → ClassId} {z : Nat} {sa : Nat → Nat} {Hz : Heap} (E : StrOK qLen qCh l D dA z sa Hz) : ∀ mi As h h', FV_X9_works mi As h = some h' → CalOK l D dA z sa Hz (MT mi) As h none h' := (cxV_ok (fun As h h2 e => by obtain ⟨_, _, rfl, e0⟩ := sR_inv e; obtain ⟨rfl, ez⟩ := sE_inv e0; exact c_X9_begins E ez) (fV0_ok E))
def I_X9_works_27 : List AI := [(.aload_n 0, 1, [], 0), (.invokevirtual 294, 3, [2, 230, 1, 8, 1686], 0), (.return_, 1, [], 0)]
theorem ok_X9_works_27 : vBL MT qLen qCh false q_X9_works.2.2.2.2.1 q_X9_works.2.2.2.2.2.1 q_X9_works.2.2.1 q_X9_works.1.cls q_X9_works.1.name q_X9_works.2.1 0 27 I_X9_works_27 = true := by decide +kernel
def p_X9_works_27 (a0 : Nat) (h : AH) : Option (AH) :=
  if (tg h a0).1 = 8 then ((p_X9_begins a0 h).bind fun h101 =>
  some h101) else none
set_option maxRecDepth 100000 in
theorem e_X9_works_27 {l : Launch} {D : va_G} {dA : Nat → ClassId} {z : Nat} {sa : Nat → Nat} {Hz : Heap} (E : StrOK qLen qCh l D dA z sa Hz) {h0 fin : AH}  : ∀ (a0 : Nat) (h : AH), p_X9_works_27 a0 h = some fin → GM l D dA z sa Hz q_X9_works h0 none fin 27 [(0, .ref a0)] [] h := by
  intro a0 h hd
  exact step E (is := I_X9_works_27) (pc := 27) (K := k0) (FI := fI0) (FV := FV_X9_works) (FL := fL0) (rt := rtV) (ft := 0) (by exact hd) ok_X9_works_27 k0_ok (fI0_ok E) (FV_X9_works_ok E) (fL0_ok E) (rtV_ok rfl)
def I_X9_works_2 : List AI := [(.iload_n 1, 1, [], 0), (.sipush 244, 3, [], 244), (.if_icmp .ge 21, 3, [27], 0), (.aload_n 0, 1, [], 0), (.getfield 21, 3, [8, 16, 2, 1361], 0), (.iload_n 1, 1, [], 0), (.aload_n 0, 1, [], 0), (.getfield 17, 3, [8, 15, 2, 1360], 0), (.iload_n 1, 1, [], 0), (.iaload, 1, [], 0), (.iastore, 1, [], 0), (.iinc 1 1, 3, [], 1), (.goto (-22), 3, [2], 0)]
theorem ok_X9_works_2 : vBL MT qLen qCh false q_X9_works.2.2.2.2.1 q_X9_works.2.2.2.2.2.1 q_X9_works.2.2.1 q_X9_works.1.cls q_X9_works.1.name q_X9_works.2.1 0 2 I_X9_works_2 = true := by decide +kernel
def p_X9_works_2 : Nat → Nat → Int32 → AH → Option (AH)
  | 0, _, _, _ => none
  | n + 1, a0, x1, h => if x1 < ((244 : Int32)) then (if (tg h a0).1 = 8 then (if (tg h a0).1 = 8 then (if inB h (rR h a0 15) 100 x1 then (if inB h (rR h a0 16) 100 x1 then (let h103 := wI h (rR h a0 16) x1.toNatClampNeg (rI h (rR h a0 15) x1.toNatClampNeg)
    p_X9_works_2 n a0 (x1 + (1 : Int32)) h103) else none) else none) else none) else none)
    else
    if (tg h a0).1 = 8 then ((p_X9_begins a0 h).bind fun h102 =>
    some h102) else none
set_option maxRecDepth 100000 in
theorem e_X9_works_2 {l : Launch} {D : va_G} {dA : Nat → ClassId} {z : Nat} {sa : Nat → Nat} {Hz : Heap} (E : StrOK qLen qCh l D dA z sa Hz) {h0 fin : AH}  : ∀ (n : Nat) (a0 : Nat) (x1 : Int32) (h : AH), p_X9_works_2 n a0 x1 h = some fin → GM l D dA z sa Hz q_X9_works h0 none fin 2 [(0, .ref a0), (1, .int x1)] [] h := by
  intro n
  induction n with
  | zero => intro a0 x1 h hd; exact nomatch hd
  | succ n ih =>
    intro a0 x1 h hd
    exact step E (is := I_X9_works_2) (pc := 2) (K := (kx 27 (fun la st h => gR la 0 fun a0 => sE st (p_X9_works_27 a0 h)) (kx 2 (fun la st h => gR la 0 fun a0 => gI la 1 fun x1 => sE st (p_X9_works_2 n a0 x1 h)) k0))) (FI := fI0) (FV := FV_X9_works) (FL := fL0) (rt := rtV) (ft := 0) (by exact hd) ok_X9_works_2 (kx_ok (fun la st h e => by obtain ⟨a0, m_a0, e1⟩ := gR_inv e; obtain ⟨rfl, ez⟩ := sE_inv e1; exact gm_fewer (e_X9_works_27 E  a0 h ez) (mem_cons m_a0 mem_nil)) (kx_ok (fun la st h e => by obtain ⟨a0, m_a0, e1⟩ := gR_inv e; obtain ⟨x1, m_x1, e2⟩ := gI_inv e1; obtain ⟨rfl, ez⟩ := sE_inv e2; exact gm_fewer (ih a0 x1 h ez) (mem_cons m_a0 (mem_cons m_x1 mem_nil))) k0_ok)) (fI0_ok E) (FV_X9_works_ok E) (fL0_ok E) (rtV_ok rfl)
def I_X9_works_0 : List AI := [(.iconst 0, 1, [], 0), (.istore_n 1, 1, [], 0)]
theorem ok_X9_works_0 : vBL MT qLen qCh false q_X9_works.2.2.2.2.1 q_X9_works.2.2.2.2.2.1 q_X9_works.2.2.1 q_X9_works.1.cls q_X9_works.1.name q_X9_works.2.1 2 0 I_X9_works_0 = true := by decide +kernel
def p_X9_works (a0 : Nat) (h : AH) : Option (AH) :=
  p_X9_works_2 FU a0 ((0 : Int32)) h
set_option maxRecDepth 100000 in
theorem e_X9_works_0 {l : Launch} {D : va_G} {dA : Nat → ClassId} {z : Nat} {sa : Nat → Nat} {Hz : Heap} (E : StrOK qLen qCh l D dA z sa Hz) {h0 fin : AH}  : ∀ (a0 : Nat) (h : AH), p_X9_works a0 h = some fin → GM l D dA z sa Hz q_X9_works h0 none fin 0 [(0, .ref a0)] [] h := by
  intro a0 h hd
  exact step E (is := I_X9_works_0) (pc := 0) (K := (kx 2 (fun la st h => gR la 0 fun a0 => gI la 1 fun x1 => sE st (p_X9_works_2 FU a0 x1 h)) k0)) (FI := fI0) (FV := FV_X9_works) (FL := fL0) (rt := rtV) (ft := 2) (by exact hd) ok_X9_works_0 (kx_ok (fun la st h e => by obtain ⟨a0, m_a0, e1⟩ := gR_inv e; obtain ⟨x1, m_x1, e2⟩ := gI_inv e1; obtain ⟨rfl, ez⟩ := sE_inv e2; exact gm_fewer (e_X9_works_2 E  FU a0 x1 h ez) (mem_cons m_a0 (mem_cons m_x1 mem_nil))) k0_ok) (fI0_ok E) (FV_X9_works_ok E) (fL0_ok E) (rtV_ok rfl)
theorem c_X9_works {l : Launch} {D : va_G} {dA : Nat → ClassId} {z : Nat} {sa : Nat → Nat} {Hz : Heap} (E : StrOK qLen qCh l D dA z sa Hz) {a0 : Nat} {h fin : AH} (hd : p_X9_works a0 h = some fin) : CalOK l D dA z sa Hz q_X9_works [.ref a0] h none fin := calOf (by decide +kernel) (Nat.le_of_ble_eq_true rfl) (e_X9_works_0 E a0 h hd)
def I_X9_isBacked_18 : List AI := [(.ireturn, 1, [], 0)]
theorem ok_X9_isBacked_18 : vBL MT qLen qCh false q_X9_isBacked.2.2.2.2.1 q_X9_isBacked.2.2.2.2.2.1 q_X9_isBacked.2.2.1 q_X9_isBacked.1.cls q_X9_isBacked.1.name q_X9_isBacked.2.1 0 18 I_X9_isBacked_18 = true := by decide +kernel
def p_X9_isBacked_18 (y0 : Int32) (h : AH) : Option (Int32 × AH) :=
  if y0 &&& 1 = y0 then some (y0, h) else none
set_option maxRecDepth 100000 in
theorem e_X9_isBacked_18 {l : Launch} {D : va_G} {dA : Nat → ClassId} {z : Nat} {sa : Nat → Nat} {Hz : Heap} (E : StrOK qLen qCh l D dA z sa Hz) {h0 fin : AH} {x : Int32}  : ∀ (y0 : Int32) (h : AH), p_X9_isBacked_18 y0 h = some (x, fin) → GM l D dA z sa Hz q_X9_isBacked h0 (some (.int x)) fin 18 [] [.int y0] h := by
  intro y0 h hd
  exact step E (is := I_X9_isBacked_18) (pc := 18) (K := k0) (FI := fI0) (FV := fV0) (FL := fL0) (rt := rtZ) (ft := 0) (by exact hd) ok_X9_isBacked_18 k0_ok (fI0_ok E) (fV0_ok E) (fL0_ok E) (rtZ_ok rfl)
def I_X9_isBacked_17 : List AI := [(.iconst 0, 1, [], 0)]
theorem ok_X9_isBacked_17 : vBL MT qLen qCh false q_X9_isBacked.2.2.2.2.1 q_X9_isBacked.2.2.2.2.2.1 q_X9_isBacked.2.2.1 q_X9_isBacked.1.cls q_X9_isBacked.1.name q_X9_isBacked.2.1 18 17 I_X9_isBacked_17 = true := by decide +kernel
def p_X9_isBacked_17 (h : AH) : Option (Int32 × AH) :=
  p_X9_isBacked_18 ((0 : Int32)) h
set_option maxRecDepth 100000 in
theorem e_X9_isBacked_17 {l : Launch} {D : va_G} {dA : Nat → ClassId} {z : Nat} {sa : Nat → Nat} {Hz : Heap} (E : StrOK qLen qCh l D dA z sa Hz) {h0 fin : AH} {x : Int32}  : ∀  (h : AH), p_X9_isBacked_17 h = some (x, fin) → GM l D dA z sa Hz q_X9_isBacked h0 (some (.int x)) fin 17 [] [] h := by
  intro h hd
  exact step E (is := I_X9_isBacked_17) (pc := 17) (K := (kx 18 (fun la st h => sI st fun y0 st => sE st (p_X9_isBacked_18 y0 h)) k0)) (FI := fI0) (FV := fV0) (FL := fL0) (rt := rtZ) (ft := 18) (by exact hd) ok_X9_isBacked_17 (kx_ok (fun la st h e => by obtain ⟨y0, _, rfl, e1⟩ := sI_inv e; obtain ⟨rfl, ez⟩ := sE_inv e1; exact gm_fewer (e_X9_isBacked_18 E  y0 h ez) mem_nil) k0_ok) (fI0_ok E) (fV0_ok E) (fL0_ok E) (rtZ_ok rfl)
def I_X9_isBacked_0 : List AI := [(.aload_n 0, 1, [], 0), (.getfield 21, 3, [8, 16, 2, 1361], 0), (.sipush 128, 3, [], 128), (.iload_n 1, 1, [], 0), (.iadd, 1, [], 0), (.iaload, 1, [], 0), (.ifCond .le 7, 3, [17], 0), (.iconst 1, 1, [], 1), (.goto 4, 3, [18], 0)]
theorem ok_X9_isBacked_0 : vBL MT qLen qCh false q_X9_isBacked.2.2.2.2.1 q_X9_isBacked.2.2.2.2.2.1 q_X9_isBacked.2.2.1 q_X9_isBacked.1.cls q_X9_isBacked.1.name q_X9_isBacked.2.1 0 0 I_X9_isBacked_0 = true := by decide +kernel
def p_X9_isBacked (a0 : Nat) (x1 : Int32) (h : AH) : Option (Int32 × AH) :=
  if (tg h a0).1 = 8 then (if inB h (rR h a0 16) 100 (((128 : Int32)) + x1) then (if 0 < (rI h (rR h a0 16) (((128 : Int32)) + x1).toNatClampNeg) then (p_X9_isBacked_18 ((1 : Int32)) h)
  else
  p_X9_isBacked_18 ((0 : Int32)) h) else none) else none
set_option maxRecDepth 100000 in
theorem e_X9_isBacked_0 {l : Launch} {D : va_G} {dA : Nat → ClassId} {z : Nat} {sa : Nat → Nat} {Hz : Heap} (E : StrOK qLen qCh l D dA z sa Hz) {h0 fin : AH} {x : Int32}  : ∀ (a0 : Nat) (x1 : Int32) (h : AH), p_X9_isBacked a0 x1 h = some (x, fin) → GM l D dA z sa Hz q_X9_isBacked h0 (some (.int x)) fin 0 [(0, .ref a0), (1, .int x1)] [] h := by
  intro a0 x1 h hd
  exact step E (is := I_X9_isBacked_0) (pc := 0) (K := (kx 17 (fun la st h => sE st (p_X9_isBacked_17 h)) (kx 18 (fun la st h => sI st fun y0 st => sE st (p_X9_isBacked_18 y0 h)) k0))) (FI := fI0) (FV := fV0) (FL := fL0) (rt := rtZ) (ft := 0) (by exact hd) ok_X9_isBacked_0 (kx_ok (fun la st h e => by obtain ⟨rfl, ez⟩ := sE_inv e; exact gm_fewer (e_X9_isBacked_17 E   h ez) mem_nil) (kx_ok (fun la st h e => by obtain ⟨y0, _, rfl, e1⟩ := sI_inv e; obtain ⟨rfl, ez⟩ := sE_inv e1; exact gm_fewer (e_X9_isBacked_18 E  y0 h ez) mem_nil) k0_ok)) (fI0_ok E) (fV0_ok E) (fL0_ok E) (rtZ_ok rfl)
theorem c_X9_isBacked {l : Launch} {D : va_G} {dA : Nat → ClassId} {z : Nat} {sa : Nat → Nat} {Hz : Heap} (E : StrOK qLen qCh l D dA z sa Hz) {a0 : Nat} {x1 : Int32} {h fin : AH} {x : Int32} (hd : p_X9_isBacked a0 x1 h = some (x, fin)) : CalOK l D dA z sa Hz q_X9_isBacked [.ref a0, .int x1] h (some (.int x)) fin := calOf (by decide +kernel) (Nat.le_of_ble_eq_true rfl) (e_X9_isBacked_0 E a0 x1 h hd)
def I_X9_hostOf_0 : List AI := [(.aload_n 0, 1, [], 0), (.getfield 21, 3, [8, 16, 2, 1361], 0), (.sipush 128, 3, [], 128), (.iload_n 1, 1, [], 0), (.iadd, 1, [], 0), (.iaload, 1, [], 0), (.iconst 1, 1, [], 1), (.isub, 1, [], 0), (.ireturn, 1, [], 0)]
theorem ok_X9_hostOf_0 : vBL MT qLen qCh false q_X9_hostOf.2.2.2.2.1 q_X9_hostOf.2.2.2.2.2.1 q_X9_hostOf.2.2.1 q_X9_hostOf.1.cls q_X9_hostOf.1.name q_X9_hostOf.2.1 0 0 I_X9_hostOf_0 = true := by decide +kernel
def p_X9_hostOf (a0 : Nat) (x1 : Int32) (h : AH) : Option (Int32 × AH) :=
  if (tg h a0).1 = 8 then (if inB h (rR h a0 16) 100 (((128 : Int32)) + x1) then (some (((rI h (rR h a0 16) (((128 : Int32)) + x1).toNatClampNeg) - ((1 : Int32))), h)) else none) else none
set_option maxRecDepth 100000 in
theorem e_X9_hostOf_0 {l : Launch} {D : va_G} {dA : Nat → ClassId} {z : Nat} {sa : Nat → Nat} {Hz : Heap} (E : StrOK qLen qCh l D dA z sa Hz) {h0 fin : AH} {x : Int32}  : ∀ (a0 : Nat) (x1 : Int32) (h : AH), p_X9_hostOf a0 x1 h = some (x, fin) → GM l D dA z sa Hz q_X9_hostOf h0 (some (.int x)) fin 0 [(0, .ref a0), (1, .int x1)] [] h := by
  intro a0 x1 h hd
  exact step E (is := I_X9_hostOf_0) (pc := 0) (K := k0) (FI := fI0) (FV := fV0) (FL := fL0) (rt := rtI) (ft := 0) (by exact hd) ok_X9_hostOf_0 k0_ok (fI0_ok E) (fV0_ok E) (fL0_ok E) (rtI_ok rfl)
theorem c_X9_hostOf {l : Launch} {D : va_G} {dA : Nat → ClassId} {z : Nat} {sa : Nat → Nat} {Hz : Heap} (E : StrOK qLen qCh l D dA z sa Hz) {a0 : Nat} {x1 : Int32} {h fin : AH} {x : Int32} (hd : p_X9_hostOf a0 x1 h = some (x, fin)) : CalOK l D dA z sa Hz q_X9_hostOf [.ref a0, .int x1] h (some (.int x)) fin := calOf (by decide +kernel) (Nat.le_of_ble_eq_true rfl) (e_X9_hostOf_0 E a0 x1 h hd)
def FI_X9_backing : Nat → List Value → AH → Option (Int32 × AH) := (cx 237 (fun As h => sI As fun x0 As => sE As (p_X9_isFrame x0 h)) (cx 201 (fun As h => sR As fun a0 As => sI As fun x1 As => sE As (p_X9_refused a0 x1 h)) (cx 240 (fun As h => sR As fun a0 As => sI As fun x1 As => sE As (p_X9_isBacked a0 x1 h)) (cx 241 (fun As h => sR As fun a0 As => sI As fun x1 As => sE As (p_X9_hostOf a0 x1 h)) (cx 233 (fun As h => sR As fun a0 As => sI As fun x1 As => sE As (p_X9_good a0 x1 h)) fI0)))))
theorem FI_X9_backing_ok {l : Launch} {D : va_G} {dA : Nat → ClassId} {z : Nat} {sa : Nat → Nat} {Hz : Heap} (E : StrOK qLen qCh l D dA z sa Hz) : ∀ mi As h x h', FI_X9_backing mi As h = some (x, h') → CalOK l D dA z sa Hz (MT mi) As h (some (.int x)) h' := (cxI_ok (fun As h x h2 e => by obtain ⟨_, _, rfl, e0⟩ := sI_inv e; obtain ⟨rfl, ez⟩ := sE_inv e0; exact c_X9_isFrame E ez) ((cxI_ok (fun As h x h2 e => by obtain ⟨_, _, rfl, e0⟩ := sR_inv e; obtain ⟨_, _, rfl, e1⟩ := sI_inv e0; obtain ⟨rfl, ez⟩ := sE_inv e1; exact c_X9_refused E ez) ((cxI_ok (fun As h x h2 e => by obtain ⟨_, _, rfl, e0⟩ := sR_inv e; obtain ⟨_, _, rfl, e1⟩ := sI_inv e0; obtain ⟨rfl, ez⟩ := sE_inv e1; exact c_X9_isBacked E ez) ((cxI_ok (fun As h x h2 e => by obtain ⟨_, _, rfl, e0⟩ := sR_inv e; obtain ⟨_, _, rfl, e1⟩ := sI_inv e0; obtain ⟨rfl, ez⟩ := sE_inv e1; exact c_X9_hostOf E ez) ((cxI_ok (fun As h x h2 e => by obtain ⟨_, _, rfl, e0⟩ := sR_inv e; obtain ⟨_, _, rfl, e1⟩ := sI_inv e0; obtain ⟨rfl, ez⟩ := sE_inv e1; exact c_X9_good E ez) (fI0_ok E))))))))))
def FV_X9_backing : Nat → List Value → AH → Option (AH) := (cx 239 (fun As h => sR As fun a0 As => sE As (p_X9_works a0 h)) fV0)
theorem FV_X9_backing_ok {l : Launch} {D : va_G} {dA : Nat → ClassId} {z : Nat} {sa : Nat → Nat} {Hz : Heap} (E : StrOK qLen qCh l D dA z sa Hz) : ∀ mi As h h', FV_X9_backing mi As h = some h' → CalOK l D dA z sa Hz (MT mi) As h none h' := (cxV_ok (fun As h h2 e => by obtain ⟨_, _, rfl, e0⟩ := sR_inv e; obtain ⟨rfl, ez⟩ := sE_inv e0; exact c_X9_works E ez) (fV0_ok E))
def I_X9_backing_19 : List AI := [(.aload_n 0, 1, [], 0), (.iconst 1, 1, [], 1), (.invokevirtual 39, 3, [1, 201, 2, 8, 1481], 0), (.ireturn, 1, [], 0)]
theorem ok_X9_backing_19 : vBL MT qLen qCh false q_X9_backing.2.2.2.2.1 q_X9_backing.2.2.2.2.2.1 q_X9_backing.2.2.1 q_X9_backing.1.cls q_X9_backing.1.name q_X9_backing.2.1 0 19 I_X9_backing_19 = true := by decide +kernel
def p_X9_backing_19 (a0 : Nat) (h : AH) : Option (Int32 × AH) :=
  if (tg h a0).1 = 8 then ((p_X9_refused a0 ((1 : Int32)) h).bind fun q101 =>
  some (q101.1, q101.2)) else none
set_option maxRecDepth 100000 in
theorem e_X9_backing_19 {l : Launch} {D : va_G} {dA : Nat → ClassId} {z : Nat} {sa : Nat → Nat} {Hz : Heap} (E : StrOK qLen qCh l D dA z sa Hz) {h0 fin : AH} {x : Int32}  : ∀ (a0 : Nat) (h : AH), p_X9_backing_19 a0 h = some (x, fin) → GM l D dA z sa Hz q_X9_backing h0 (some (.int x)) fin 19 [(0, .ref a0)] [] h := by
  intro a0 h hd
  exact step E (is := I_X9_backing_19) (pc := 19) (K := k0) (FI := FI_X9_backing) (FV := FV_X9_backing) (FL := fL0) (rt := rtI) (ft := 0) (by exact hd) ok_X9_backing_19 k0_ok (FI_X9_backing_ok E) (FV_X9_backing_ok E) (fL0_ok E) (rtI_ok rfl)
def I_X9_backing_48 : List AI := [(.invokevirtual 43, 3, [1, 233, 2, 8, 1694], 0), (.ireturn, 1, [], 0)]
theorem ok_X9_backing_48 : vBL MT qLen qCh false q_X9_backing.2.2.2.2.1 q_X9_backing.2.2.2.2.2.1 q_X9_backing.2.2.1 q_X9_backing.1.cls q_X9_backing.1.name q_X9_backing.2.1 0 48 I_X9_backing_48 = true := by decide +kernel
def p_X9_backing_48 (y0 : Int32) (b1 : Nat) (h : AH) : Option (Int32 × AH) :=
  if (tg h b1).1 = 8 then ((p_X9_good b1 y0 h).bind fun q102 =>
  some (q102.1, q102.2)) else none
set_option maxRecDepth 100000 in
theorem e_X9_backing_48 {l : Launch} {D : va_G} {dA : Nat → ClassId} {z : Nat} {sa : Nat → Nat} {Hz : Heap} (E : StrOK qLen qCh l D dA z sa Hz) {h0 fin : AH} {x : Int32}  : ∀ (y0 : Int32) (b1 : Nat) (h : AH), p_X9_backing_48 y0 b1 h = some (x, fin) → GM l D dA z sa Hz q_X9_backing h0 (some (.int x)) fin 48 [] [.int y0, .ref b1] h := by
  intro y0 b1 h hd
  exact step E (is := I_X9_backing_48) (pc := 48) (K := k0) (FI := FI_X9_backing) (FV := FV_X9_backing) (FL := fL0) (rt := rtI) (ft := 0) (by exact hd) ok_X9_backing_48 k0_ok (FI_X9_backing_ok E) (FV_X9_backing_ok E) (fL0_ok E) (rtI_ok rfl)
def I_X9_backing_46 : List AI := [(.bipush (-2), 2, [], (-2))]
theorem ok_X9_backing_46 : vBL MT qLen qCh false q_X9_backing.2.2.2.2.1 q_X9_backing.2.2.2.2.2.1 q_X9_backing.2.2.1 q_X9_backing.1.cls q_X9_backing.1.name q_X9_backing.2.1 48 46 I_X9_backing_46 = true := by decide +kernel
def p_X9_backing_46 (b0 : Nat) (h : AH) : Option (Int32 × AH) :=
  p_X9_backing_48 ((-2 : Int32)) b0 h
set_option maxRecDepth 100000 in
theorem e_X9_backing_46 {l : Launch} {D : va_G} {dA : Nat → ClassId} {z : Nat} {sa : Nat → Nat} {Hz : Heap} (E : StrOK qLen qCh l D dA z sa Hz) {h0 fin : AH} {x : Int32}  : ∀ (b0 : Nat) (h : AH), p_X9_backing_46 b0 h = some (x, fin) → GM l D dA z sa Hz q_X9_backing h0 (some (.int x)) fin 46 [] [.ref b0] h := by
  intro b0 h hd
  exact step E (is := I_X9_backing_46) (pc := 46) (K := (kx 48 (fun la st h => sI st fun y0 st => sR st fun b1 st => sE st (p_X9_backing_48 y0 b1 h)) k0)) (FI := FI_X9_backing) (FV := FV_X9_backing) (FL := fL0) (rt := rtI) (ft := 48) (by exact hd) ok_X9_backing_46 (kx_ok (fun la st h e => by obtain ⟨y0, _, rfl, e1⟩ := sI_inv e; obtain ⟨b1, _, rfl, e2⟩ := sR_inv e1; obtain ⟨rfl, ez⟩ := sE_inv e2; exact gm_fewer (e_X9_backing_48 E  y0 b1 h ez) mem_nil) k0_ok) (FI_X9_backing_ok E) (FV_X9_backing_ok E) (fL0_ok E) (rtI_ok rfl)
def I_X9_backing_25 : List AI := [(.aload_n 0, 1, [], 0), (.invokevirtual 398, 3, [2, 239, 1, 8, 1717], 0), (.aload_n 0, 1, [], 0), (.aload_n 0, 1, [], 0), (.iload_n 1, 1, [], 0), (.invokevirtual 313, 3, [1, 240, 2, 8, 1721], 0), (.ifCond .eq 11, 3, [46], 0), (.aload_n 0, 1, [], 0), (.iload_n 1, 1, [], 0), (.invokevirtual 344, 3, [1, 241, 2, 8, 1725], 0), (.goto 5, 3, [48], 0)]
theorem ok_X9_backing_25 : vBL MT qLen qCh false q_X9_backing.2.2.2.2.1 q_X9_backing.2.2.2.2.2.1 q_X9_backing.2.2.1 q_X9_backing.1.cls q_X9_backing.1.name q_X9_backing.2.1 0 25 I_X9_backing_25 = true := by decide +kernel
def p_X9_backing_25 (a0 : Nat) (x1 : Int32) (h : AH) : Option (Int32 × AH) :=
  if (tg h a0).1 = 8 then ((p_X9_works a0 h).bind fun h103 =>
  if (tg h103 a0).1 = 8 then ((p_X9_isBacked a0 x1 h103).bind fun q104 =>
  if q104.1 = 0 then (p_X9_backing_48 ((-2 : Int32)) a0 q104.2)
  else
  if (tg q104.2 a0).1 = 8 then ((p_X9_hostOf a0 x1 q104.2).bind fun q105 =>
  p_X9_backing_48 q105.1 a0 q105.2) else none) else none) else none
set_option maxRecDepth 100000 in
theorem e_X9_backing_25 {l : Launch} {D : va_G} {dA : Nat → ClassId} {z : Nat} {sa : Nat → Nat} {Hz : Heap} (E : StrOK qLen qCh l D dA z sa Hz) {h0 fin : AH} {x : Int32}  : ∀ (a0 : Nat) (x1 : Int32) (h : AH), p_X9_backing_25 a0 x1 h = some (x, fin) → GM l D dA z sa Hz q_X9_backing h0 (some (.int x)) fin 25 [(0, .ref a0), (1, .int x1)] [] h := by
  intro a0 x1 h hd
  exact step E (is := I_X9_backing_25) (pc := 25) (K := (kx 46 (fun la st h => sR st fun b0 st => sE st (p_X9_backing_46 b0 h)) (kx 48 (fun la st h => sI st fun y0 st => sR st fun b1 st => sE st (p_X9_backing_48 y0 b1 h)) k0))) (FI := FI_X9_backing) (FV := FV_X9_backing) (FL := fL0) (rt := rtI) (ft := 0) (by exact hd) ok_X9_backing_25 (kx_ok (fun la st h e => by obtain ⟨b0, _, rfl, e1⟩ := sR_inv e; obtain ⟨rfl, ez⟩ := sE_inv e1; exact gm_fewer (e_X9_backing_46 E  b0 h ez) mem_nil) (kx_ok (fun la st h e => by obtain ⟨y0, _, rfl, e1⟩ := sI_inv e; obtain ⟨b1, _, rfl, e2⟩ := sR_inv e1; obtain ⟨rfl, ez⟩ := sE_inv e2; exact gm_fewer (e_X9_backing_48 E  y0 b1 h ez) mem_nil) k0_ok)) (FI_X9_backing_ok E) (FV_X9_backing_ok E) (fL0_ok E) (rtI_ok rfl)
def I_X9_backing_0 : List AI := [(.aload_n 0, 1, [], 0), (.iconst 0, 1, [], 0), (.putfield 33, 3, [8, 0, 0, 1345], 0), (.aload_n 0, 1, [], 0), (.getfield 265, 3, [8, 3, 2, 1348], 0), (.ifnull 10, 3, [19], 0), (.iload_n 1, 1, [], 0), (.invokestatic 395, 3, [1, 237, 1, 1710], 0), (.ifCond .ne 9, 3, [25], 0)]
theorem ok_X9_backing_0 : vBL MT qLen qCh false q_X9_backing.2.2.2.2.1 q_X9_backing.2.2.2.2.2.1 q_X9_backing.2.2.1 q_X9_backing.1.cls q_X9_backing.1.name q_X9_backing.2.1 19 0 I_X9_backing_0 = true := by decide +kernel
def p_X9_backing (a0 : Nat) (x1 : Int32) (h : AH) : Option (Int32 × AH) :=
  if (tg h a0).1 = 8 then (let h106 := wI h a0 0 ((0 : Int32))
  if (tg h106 a0).1 = 8 then (if (rR h106 a0 3) = 0 then (p_X9_backing_19 a0 h106)
  else
  (p_X9_isFrame x1 h106).bind fun q107 =>
  if q107.1 = 0 then (p_X9_backing_19 a0 q107.2)
  else
  if (tg q107.2 a0).1 = 8 then ((p_X9_works a0 q107.2).bind fun h108 =>
  if (tg h108 a0).1 = 8 then ((p_X9_isBacked a0 x1 h108).bind fun q109 =>
  if q109.1 = 0 then (p_X9_backing_48 ((-2 : Int32)) a0 q109.2)
  else
  if (tg q109.2 a0).1 = 8 then ((p_X9_hostOf a0 x1 q109.2).bind fun q110 =>
  p_X9_backing_48 q110.1 a0 q110.2) else none) else none) else none) else none) else none
set_option maxRecDepth 100000 in
theorem e_X9_backing_0 {l : Launch} {D : va_G} {dA : Nat → ClassId} {z : Nat} {sa : Nat → Nat} {Hz : Heap} (E : StrOK qLen qCh l D dA z sa Hz) {h0 fin : AH} {x : Int32}  : ∀ (a0 : Nat) (x1 : Int32) (h : AH), p_X9_backing a0 x1 h = some (x, fin) → GM l D dA z sa Hz q_X9_backing h0 (some (.int x)) fin 0 [(0, .ref a0), (1, .int x1)] [] h := by
  intro a0 x1 h hd
  exact step E (is := I_X9_backing_0) (pc := 0) (K := (kx 19 (fun la st h => gR la 0 fun a0 => sE st (p_X9_backing_19 a0 h)) (kx 25 (fun la st h => gR la 0 fun a0 => gI la 1 fun x1 => sE st (p_X9_backing_25 a0 x1 h)) k0))) (FI := FI_X9_backing) (FV := FV_X9_backing) (FL := fL0) (rt := rtI) (ft := 19) (by exact hd) ok_X9_backing_0 (kx_ok (fun la st h e => by obtain ⟨a0, m_a0, e1⟩ := gR_inv e; obtain ⟨rfl, ez⟩ := sE_inv e1; exact gm_fewer (e_X9_backing_19 E  a0 h ez) (mem_cons m_a0 mem_nil)) (kx_ok (fun la st h e => by obtain ⟨a0, m_a0, e1⟩ := gR_inv e; obtain ⟨x1, m_x1, e2⟩ := gI_inv e1; obtain ⟨rfl, ez⟩ := sE_inv e2; exact gm_fewer (e_X9_backing_25 E  a0 x1 h ez) (mem_cons m_a0 (mem_cons m_x1 mem_nil))) k0_ok)) (FI_X9_backing_ok E) (FV_X9_backing_ok E) (fL0_ok E) (rtI_ok rfl)
theorem c_X9_backing {l : Launch} {D : va_G} {dA : Nat → ClassId} {z : Nat} {sa : Nat → Nat} {Hz : Heap} (E : StrOK qLen qCh l D dA z sa Hz) {a0 : Nat} {x1 : Int32} {h fin : AH} {x : Int32} (hd : p_X9_backing a0 x1 h = some (x, fin)) : CalOK l D dA z sa Hz q_X9_backing [.ref a0, .int x1] h (some (.int x)) fin := calOf (by decide +kernel) (Nat.le_of_ble_eq_true rfl) (e_X9_backing_0 E a0 x1 h hd)
def FI_X9_isRw : Nat → List Value → AH → Option (Int32 × AH) := (cx 240 (fun As h => sR As fun a0 As => sI As fun x1 As => sE As (p_X9_isBacked a0 x1 h)) (cx 228 (fun As h => sI As fun x0 As => sI As fun x1 As => sE As (p_X9_bit x0 x1 h)) fI0))
theorem FI_X9_isRw_ok {l : Launch} {D : va_G} {dA : Nat → ClassId} {z : Nat} {sa : Nat → Nat} {Hz : Heap} (E : StrOK qLen qCh l D dA z sa Hz) : ∀ mi As h x h', FI_X9_isRw mi As h = some (x, h') → CalOK l D dA z sa Hz (MT mi) As h (some (.int x)) h' := (cxI_ok (fun As h x h2 e => by obtain ⟨_, _, rfl, e0⟩ := sR_inv e; obtain ⟨_, _, rfl, e1⟩ := sI_inv e0; obtain ⟨rfl, ez⟩ := sE_inv e1; exact c_X9_isBacked E ez) ((cxI_ok (fun As h x h2 e => by obtain ⟨_, _, rfl, e0⟩ := sI_inv e; obtain ⟨_, _, rfl, e1⟩ := sI_inv e0; obtain ⟨rfl, ez⟩ := sE_inv e1; exact c_X9_bit E ez) (fI0_ok E))))
def I_X9_isRw_28 : List AI := [(.ireturn, 1, [], 0)]
theorem ok_X9_isRw_28 : vBL MT qLen qCh false q_X9_isRw.2.2.2.2.1 q_X9_isRw.2.2.2.2.2.1 q_X9_isRw.2.2.1 q_X9_isRw.1.cls q_X9_isRw.1.name q_X9_isRw.2.1 0 28 I_X9_isRw_28 = true := by decide +kernel
def p_X9_isRw_28 (y0 : Int32) (h : AH) : Option (Int32 × AH) :=
  if y0 &&& 1 = y0 then some (y0, h) else none
set_option maxRecDepth 100000 in
theorem e_X9_isRw_28 {l : Launch} {D : va_G} {dA : Nat → ClassId} {z : Nat} {sa : Nat → Nat} {Hz : Heap} (E : StrOK qLen qCh l D dA z sa Hz) {h0 fin : AH} {x : Int32}  : ∀ (y0 : Int32) (h : AH), p_X9_isRw_28 y0 h = some (x, fin) → GM l D dA z sa Hz q_X9_isRw h0 (some (.int x)) fin 28 [] [.int y0] h := by
  intro y0 h hd
  exact step E (is := I_X9_isRw_28) (pc := 28) (K := k0) (FI := FI_X9_isRw) (FV := fV0) (FL := fL0) (rt := rtZ) (ft := 0) (by exact hd) ok_X9_isRw_28 k0_ok (FI_X9_isRw_ok E) (fV0_ok E) (fL0_ok E) (rtZ_ok rfl)
def I_X9_isRw_27 : List AI := [(.iconst 0, 1, [], 0)]
theorem ok_X9_isRw_27 : vBL MT qLen qCh false q_X9_isRw.2.2.2.2.1 q_X9_isRw.2.2.2.2.2.1 q_X9_isRw.2.2.1 q_X9_isRw.1.cls q_X9_isRw.1.name q_X9_isRw.2.1 28 27 I_X9_isRw_27 = true := by decide +kernel
def p_X9_isRw_27 (h : AH) : Option (Int32 × AH) :=
  p_X9_isRw_28 ((0 : Int32)) h
set_option maxRecDepth 100000 in
theorem e_X9_isRw_27 {l : Launch} {D : va_G} {dA : Nat → ClassId} {z : Nat} {sa : Nat → Nat} {Hz : Heap} (E : StrOK qLen qCh l D dA z sa Hz) {h0 fin : AH} {x : Int32}  : ∀  (h : AH), p_X9_isRw_27 h = some (x, fin) → GM l D dA z sa Hz q_X9_isRw h0 (some (.int x)) fin 27 [] [] h := by
  intro h hd
  exact step E (is := I_X9_isRw_27) (pc := 27) (K := (kx 28 (fun la st h => sI st fun y0 st => sE st (p_X9_isRw_28 y0 h)) k0)) (FI := FI_X9_isRw) (FV := fV0) (FL := fL0) (rt := rtZ) (ft := 28) (by exact hd) ok_X9_isRw_27 (kx_ok (fun la st h e => by obtain ⟨y0, _, rfl, e1⟩ := sI_inv e; obtain ⟨rfl, ez⟩ := sE_inv e1; exact gm_fewer (e_X9_isRw_28 E  y0 h ez) mem_nil) k0_ok) (FI_X9_isRw_ok E) (fV0_ok E) (fL0_ok E) (rtZ_ok rfl)
def I_X9_isRw_0 : List AI := [(.aload_n 0, 1, [], 0), (.iload_n 1, 1, [], 0), (.invokevirtual 313, 3, [1, 240, 2, 8, 1721], 0), (.ifCond .eq 22, 3, [27], 0), (.aload_n 0, 1, [], 0), (.getfield 21, 3, [8, 16, 2, 1361], 0), (.sipush 144, 3, [], 144), (.iaload, 1, [], 0), (.iload_n 1, 1, [], 0), (.invokestatic 307, 3, [1, 228, 2, 1679], 0), (.ifCond .eq 7, 3, [27], 0), (.iconst 1, 1, [], 1), (.goto 4, 3, [28], 0)]
theorem ok_X9_isRw_0 : vBL MT qLen qCh false q_X9_isRw.2.2.2.2.1 q_X9_isRw.2.2.2.2.2.1 q_X9_isRw.2.2.1 q_X9_isRw.1.cls q_X9_isRw.1.name q_X9_isRw.2.1 0 0 I_X9_isRw_0 = true := by decide +kernel
def p_X9_isRw (a0 : Nat) (x1 : Int32) (h : AH) : Option (Int32 × AH) :=
  if (tg h a0).1 = 8 then ((p_X9_isBacked a0 x1 h).bind fun q101 =>
  if q101.1 = 0 then (p_X9_isRw_27 q101.2)
  else
  if (tg q101.2 a0).1 = 8 then (if inB q101.2 (rR q101.2 a0 16) 100 ((144 : Int32)) then ((p_X9_bit (rI q101.2 (rR q101.2 a0 16) ((144 : Int32)).toNatClampNeg) x1 q101.2).bind fun q102 =>
  if q102.1 = 0 then (p_X9_isRw_27 q102.2)
  else
  p_X9_isRw_28 ((1 : Int32)) q102.2) else none) else none) else none
set_option maxRecDepth 100000 in
theorem e_X9_isRw_0 {l : Launch} {D : va_G} {dA : Nat → ClassId} {z : Nat} {sa : Nat → Nat} {Hz : Heap} (E : StrOK qLen qCh l D dA z sa Hz) {h0 fin : AH} {x : Int32}  : ∀ (a0 : Nat) (x1 : Int32) (h : AH), p_X9_isRw a0 x1 h = some (x, fin) → GM l D dA z sa Hz q_X9_isRw h0 (some (.int x)) fin 0 [(0, .ref a0), (1, .int x1)] [] h := by
  intro a0 x1 h hd
  exact step E (is := I_X9_isRw_0) (pc := 0) (K := (kx 27 (fun la st h => sE st (p_X9_isRw_27 h)) (kx 28 (fun la st h => sI st fun y0 st => sE st (p_X9_isRw_28 y0 h)) k0))) (FI := FI_X9_isRw) (FV := fV0) (FL := fL0) (rt := rtZ) (ft := 0) (by exact hd) ok_X9_isRw_0 (kx_ok (fun la st h e => by obtain ⟨rfl, ez⟩ := sE_inv e; exact gm_fewer (e_X9_isRw_27 E   h ez) mem_nil) (kx_ok (fun la st h e => by obtain ⟨y0, _, rfl, e1⟩ := sI_inv e; obtain ⟨rfl, ez⟩ := sE_inv e1; exact gm_fewer (e_X9_isRw_28 E  y0 h ez) mem_nil) k0_ok)) (FI_X9_isRw_ok E) (fV0_ok E) (fL0_ok E) (rtZ_ok rfl)
theorem c_X9_isRw {l : Launch} {D : va_G} {dA : Nat → ClassId} {z : Nat} {sa : Nat → Nat} {Hz : Heap} (E : StrOK qLen qCh l D dA z sa Hz) {a0 : Nat} {x1 : Int32} {h fin : AH} {x : Int32} (hd : p_X9_isRw a0 x1 h = some (x, fin)) : CalOK l D dA z sa Hz q_X9_isRw [.ref a0, .int x1] h (some (.int x)) fin := calOf (by decide +kernel) (Nat.le_of_ble_eq_true rfl) (e_X9_isRw_0 E a0 x1 h hd)
def FI_X9_writes : Nat → List Value → AH → Option (Int32 × AH) := (cx 237 (fun As h => sI As fun x0 As => sE As (p_X9_isFrame x0 h)) (cx 201 (fun As h => sR As fun a0 As => sI As fun x1 As => sE As (p_X9_refused a0 x1 h)) (cx 243 (fun As h => sR As fun a0 As => sI As fun x1 As => sE As (p_X9_isRw a0 x1 h)) (cx 233 (fun As h => sR As fun a0 As => sI As fun x1 As => sE As (p_X9_good a0 x1 h)) fI0))))
theorem FI_X9_writes_ok {l : Launch} {D : va_G} {dA : Nat → ClassId} {z : Nat} {sa : Nat → Nat} {Hz : Heap} (E : StrOK qLen qCh l D dA z sa Hz) : ∀ mi As h x h', FI_X9_writes mi As h = some (x, h') → CalOK l D dA z sa Hz (MT mi) As h (some (.int x)) h' := (cxI_ok (fun As h x h2 e => by obtain ⟨_, _, rfl, e0⟩ := sI_inv e; obtain ⟨rfl, ez⟩ := sE_inv e0; exact c_X9_isFrame E ez) ((cxI_ok (fun As h x h2 e => by obtain ⟨_, _, rfl, e0⟩ := sR_inv e; obtain ⟨_, _, rfl, e1⟩ := sI_inv e0; obtain ⟨rfl, ez⟩ := sE_inv e1; exact c_X9_refused E ez) ((cxI_ok (fun As h x h2 e => by obtain ⟨_, _, rfl, e0⟩ := sR_inv e; obtain ⟨_, _, rfl, e1⟩ := sI_inv e0; obtain ⟨rfl, ez⟩ := sE_inv e1; exact c_X9_isRw E ez) ((cxI_ok (fun As h x h2 e => by obtain ⟨_, _, rfl, e0⟩ := sR_inv e; obtain ⟨_, _, rfl, e1⟩ := sI_inv e0; obtain ⟨rfl, ez⟩ := sE_inv e1; exact c_X9_good E ez) (fI0_ok E))))))))
def FV_X9_writes : Nat → List Value → AH → Option (AH) := (cx 239 (fun As h => sR As fun a0 As => sE As (p_X9_works a0 h)) fV0)
theorem FV_X9_writes_ok {l : Launch} {D : va_G} {dA : Nat → ClassId} {z : Nat} {sa : Nat → Nat} {Hz : Heap} (E : StrOK qLen qCh l D dA z sa Hz) : ∀ mi As h h', FV_X9_writes mi As h = some h' → CalOK l D dA z sa Hz (MT mi) As h none h' := (cxV_ok (fun As h h2 e => by obtain ⟨_, _, rfl, e0⟩ := sR_inv e; obtain ⟨rfl, ez⟩ := sE_inv e0; exact c_X9_works E ez) (fV0_ok E))
def I_X9_writes_19 : List AI := [(.aload_n 0, 1, [], 0), (.iconst 1, 1, [], 1), (.invokevirtual 39, 3, [1, 201, 2, 8, 1481], 0), (.ireturn, 1, [], 0)]
theorem ok_X9_writes_19 : vBL MT qLen qCh false q_X9_writes.2.2.2.2.1 q_X9_writes.2.2.2.2.2.1 q_X9_writes.2.2.1 q_X9_writes.1.cls q_X9_writes.1.name q_X9_writes.2.1 0 19 I_X9_writes_19 = true := by decide +kernel
def p_X9_writes_19 (a0 : Nat) (h : AH) : Option (Int32 × AH) :=
  if (tg h a0).1 = 8 then ((p_X9_refused a0 ((1 : Int32)) h).bind fun q101 =>
  some (q101.1, q101.2)) else none
set_option maxRecDepth 100000 in
theorem e_X9_writes_19 {l : Launch} {D : va_G} {dA : Nat → ClassId} {z : Nat} {sa : Nat → Nat} {Hz : Heap} (E : StrOK qLen qCh l D dA z sa Hz) {h0 fin : AH} {x : Int32}  : ∀ (a0 : Nat) (h : AH), p_X9_writes_19 a0 h = some (x, fin) → GM l D dA z sa Hz q_X9_writes h0 (some (.int x)) fin 19 [(0, .ref a0)] [] h := by
  intro a0 h hd
  exact step E (is := I_X9_writes_19) (pc := 19) (K := k0) (FI := FI_X9_writes) (FV := FV_X9_writes) (FL := fL0) (rt := rtI) (ft := 0) (by exact hd) ok_X9_writes_19 k0_ok (FI_X9_writes_ok E) (FV_X9_writes_ok E) (fL0_ok E) (rtI_ok rfl)
def I_X9_writes_43 : List AI := [(.invokevirtual 43, 3, [1, 233, 2, 8, 1694], 0), (.ireturn, 1, [], 0)]
theorem ok_X9_writes_43 : vBL MT qLen qCh false q_X9_writes.2.2.2.2.1 q_X9_writes.2.2.2.2.2.1 q_X9_writes.2.2.1 q_X9_writes.1.cls q_X9_writes.1.name q_X9_writes.2.1 0 43 I_X9_writes_43 = true := by decide +kernel
def p_X9_writes_43 (y0 : Int32) (b1 : Nat) (h : AH) : Option (Int32 × AH) :=
  if (tg h b1).1 = 8 then ((p_X9_good b1 y0 h).bind fun q102 =>
  some (q102.1, q102.2)) else none
set_option maxRecDepth 100000 in
theorem e_X9_writes_43 {l : Launch} {D : va_G} {dA : Nat → ClassId} {z : Nat} {sa : Nat → Nat} {Hz : Heap} (E : StrOK qLen qCh l D dA z sa Hz) {h0 fin : AH} {x : Int32}  : ∀ (y0 : Int32) (b1 : Nat) (h : AH), p_X9_writes_43 y0 b1 h = some (x, fin) → GM l D dA z sa Hz q_X9_writes h0 (some (.int x)) fin 43 [] [.int y0, .ref b1] h := by
  intro y0 b1 h hd
  exact step E (is := I_X9_writes_43) (pc := 43) (K := k0) (FI := FI_X9_writes) (FV := FV_X9_writes) (FL := fL0) (rt := rtI) (ft := 0) (by exact hd) ok_X9_writes_43 k0_ok (FI_X9_writes_ok E) (FV_X9_writes_ok E) (fL0_ok E) (rtI_ok rfl)
def I_X9_writes_42 : List AI := [(.iconst 0, 1, [], 0)]
theorem ok_X9_writes_42 : vBL MT qLen qCh false q_X9_writes.2.2.2.2.1 q_X9_writes.2.2.2.2.2.1 q_X9_writes.2.2.1 q_X9_writes.1.cls q_X9_writes.1.name q_X9_writes.2.1 43 42 I_X9_writes_42 = true := by decide +kernel
def p_X9_writes_42 (b0 : Nat) (h : AH) : Option (Int32 × AH) :=
  p_X9_writes_43 ((0 : Int32)) b0 h
set_option maxRecDepth 100000 in
theorem e_X9_writes_42 {l : Launch} {D : va_G} {dA : Nat → ClassId} {z : Nat} {sa : Nat → Nat} {Hz : Heap} (E : StrOK qLen qCh l D dA z sa Hz) {h0 fin : AH} {x : Int32}  : ∀ (b0 : Nat) (h : AH), p_X9_writes_42 b0 h = some (x, fin) → GM l D dA z sa Hz q_X9_writes h0 (some (.int x)) fin 42 [] [.ref b0] h := by
  intro b0 h hd
  exact step E (is := I_X9_writes_42) (pc := 42) (K := (kx 43 (fun la st h => sI st fun y0 st => sR st fun b1 st => sE st (p_X9_writes_43 y0 b1 h)) k0)) (FI := FI_X9_writes) (FV := FV_X9_writes) (FL := fL0) (rt := rtI) (ft := 43) (by exact hd) ok_X9_writes_42 (kx_ok (fun la st h e => by obtain ⟨y0, _, rfl, e1⟩ := sI_inv e; obtain ⟨b1, _, rfl, e2⟩ := sR_inv e1; obtain ⟨rfl, ez⟩ := sE_inv e2; exact gm_fewer (e_X9_writes_43 E  y0 b1 h ez) mem_nil) k0_ok) (FI_X9_writes_ok E) (FV_X9_writes_ok E) (fL0_ok E) (rtI_ok rfl)
def I_X9_writes_25 : List AI := [(.aload_n 0, 1, [], 0), (.invokevirtual 398, 3, [2, 239, 1, 8, 1717], 0), (.aload_n 0, 1, [], 0), (.aload_n 0, 1, [], 0), (.iload_n 1, 1, [], 0), (.invokevirtual 341, 3, [1, 243, 2, 8, 1733], 0), (.ifCond .eq 7, 3, [42], 0), (.iconst 1, 1, [], 1), (.goto 4, 3, [43], 0)]
theorem ok_X9_writes_25 : vBL MT qLen qCh false q_X9_writes.2.2.2.2.1 q_X9_writes.2.2.2.2.2.1 q_X9_writes.2.2.1 q_X9_writes.1.cls q_X9_writes.1.name q_X9_writes.2.1 0 25 I_X9_writes_25 = true := by decide +kernel
def p_X9_writes_25 (a0 : Nat) (x1 : Int32) (h : AH) : Option (Int32 × AH) :=
  if (tg h a0).1 = 8 then ((p_X9_works a0 h).bind fun h103 =>
  if (tg h103 a0).1 = 8 then ((p_X9_isRw a0 x1 h103).bind fun q104 =>
  if q104.1 = 0 then (p_X9_writes_43 ((0 : Int32)) a0 q104.2)
  else
  p_X9_writes_43 ((1 : Int32)) a0 q104.2) else none) else none
set_option maxRecDepth 100000 in
theorem e_X9_writes_25 {l : Launch} {D : va_G} {dA : Nat → ClassId} {z : Nat} {sa : Nat → Nat} {Hz : Heap} (E : StrOK qLen qCh l D dA z sa Hz) {h0 fin : AH} {x : Int32}  : ∀ (a0 : Nat) (x1 : Int32) (h : AH), p_X9_writes_25 a0 x1 h = some (x, fin) → GM l D dA z sa Hz q_X9_writes h0 (some (.int x)) fin 25 [(0, .ref a0), (1, .int x1)] [] h := by
  intro a0 x1 h hd
  exact step E (is := I_X9_writes_25) (pc := 25) (K := (kx 42 (fun la st h => sR st fun b0 st => sE st (p_X9_writes_42 b0 h)) (kx 43 (fun la st h => sI st fun y0 st => sR st fun b1 st => sE st (p_X9_writes_43 y0 b1 h)) k0))) (FI := FI_X9_writes) (FV := FV_X9_writes) (FL := fL0) (rt := rtI) (ft := 0) (by exact hd) ok_X9_writes_25 (kx_ok (fun la st h e => by obtain ⟨b0, _, rfl, e1⟩ := sR_inv e; obtain ⟨rfl, ez⟩ := sE_inv e1; exact gm_fewer (e_X9_writes_42 E  b0 h ez) mem_nil) (kx_ok (fun la st h e => by obtain ⟨y0, _, rfl, e1⟩ := sI_inv e; obtain ⟨b1, _, rfl, e2⟩ := sR_inv e1; obtain ⟨rfl, ez⟩ := sE_inv e2; exact gm_fewer (e_X9_writes_43 E  y0 b1 h ez) mem_nil) k0_ok)) (FI_X9_writes_ok E) (FV_X9_writes_ok E) (fL0_ok E) (rtI_ok rfl)
def I_X9_writes_0 : List AI := [(.aload_n 0, 1, [], 0), (.iconst 0, 1, [], 0), (.putfield 33, 3, [8, 0, 0, 1345], 0), (.aload_n 0, 1, [], 0), (.getfield 265, 3, [8, 3, 2, 1348], 0), (.ifnull 10, 3, [19], 0), (.iload_n 1, 1, [], 0), (.invokestatic 395, 3, [1, 237, 1, 1710], 0), (.ifCond .ne 9, 3, [25], 0)]
theorem ok_X9_writes_0 : vBL MT qLen qCh false q_X9_writes.2.2.2.2.1 q_X9_writes.2.2.2.2.2.1 q_X9_writes.2.2.1 q_X9_writes.1.cls q_X9_writes.1.name q_X9_writes.2.1 19 0 I_X9_writes_0 = true := by decide +kernel
def p_X9_writes (a0 : Nat) (x1 : Int32) (h : AH) : Option (Int32 × AH) :=
  if (tg h a0).1 = 8 then (let h105 := wI h a0 0 ((0 : Int32))
  if (tg h105 a0).1 = 8 then (if (rR h105 a0 3) = 0 then (p_X9_writes_19 a0 h105)
  else
  (p_X9_isFrame x1 h105).bind fun q106 =>
  if q106.1 = 0 then (p_X9_writes_19 a0 q106.2)
  else
  if (tg q106.2 a0).1 = 8 then ((p_X9_works a0 q106.2).bind fun h107 =>
  if (tg h107 a0).1 = 8 then ((p_X9_isRw a0 x1 h107).bind fun q108 =>
  if q108.1 = 0 then (p_X9_writes_43 ((0 : Int32)) a0 q108.2)
  else
  p_X9_writes_43 ((1 : Int32)) a0 q108.2) else none) else none) else none) else none
set_option maxRecDepth 100000 in
theorem e_X9_writes_0 {l : Launch} {D : va_G} {dA : Nat → ClassId} {z : Nat} {sa : Nat → Nat} {Hz : Heap} (E : StrOK qLen qCh l D dA z sa Hz) {h0 fin : AH} {x : Int32}  : ∀ (a0 : Nat) (x1 : Int32) (h : AH), p_X9_writes a0 x1 h = some (x, fin) → GM l D dA z sa Hz q_X9_writes h0 (some (.int x)) fin 0 [(0, .ref a0), (1, .int x1)] [] h := by
  intro a0 x1 h hd
  exact step E (is := I_X9_writes_0) (pc := 0) (K := (kx 19 (fun la st h => gR la 0 fun a0 => sE st (p_X9_writes_19 a0 h)) (kx 25 (fun la st h => gR la 0 fun a0 => gI la 1 fun x1 => sE st (p_X9_writes_25 a0 x1 h)) k0))) (FI := FI_X9_writes) (FV := FV_X9_writes) (FL := fL0) (rt := rtI) (ft := 19) (by exact hd) ok_X9_writes_0 (kx_ok (fun la st h e => by obtain ⟨a0, m_a0, e1⟩ := gR_inv e; obtain ⟨rfl, ez⟩ := sE_inv e1; exact gm_fewer (e_X9_writes_19 E  a0 h ez) (mem_cons m_a0 mem_nil)) (kx_ok (fun la st h e => by obtain ⟨a0, m_a0, e1⟩ := gR_inv e; obtain ⟨x1, m_x1, e2⟩ := gI_inv e1; obtain ⟨rfl, ez⟩ := sE_inv e2; exact gm_fewer (e_X9_writes_25 E  a0 x1 h ez) (mem_cons m_a0 (mem_cons m_x1 mem_nil))) k0_ok)) (FI_X9_writes_ok E) (FV_X9_writes_ok E) (fL0_ok E) (rtI_ok rfl)
theorem c_X9_writes {l : Launch} {D : va_G} {dA : Nat → ClassId} {z : Nat} {sa : Nat → Nat} {Hz : Heap} (E : StrOK qLen qCh l D dA z sa Hz) {a0 : Nat} {x1 : Int32} {h fin : AH} {x : Int32} (hd : p_X9_writes a0 x1 h = some (x, fin)) : CalOK l D dA z sa Hz q_X9_writes [.ref a0, .int x1] h (some (.int x)) fin := calOf (by decide +kernel) (Nat.le_of_ble_eq_true rfl) (e_X9_writes_0 E a0 x1 h hd)
def FI_X9_root : Nat → List Value → AH → Option (Int32 × AH) := (cx 201 (fun As h => sR As fun a0 As => sI As fun x1 As => sE As (p_X9_refused a0 x1 h)) (cx 233 (fun As h => sR As fun a0 As => sI As fun x1 As => sE As (p_X9_good a0 x1 h)) fI0))
theorem FI_X9_root_ok {l : Launch} {D : va_G} {dA : Nat → ClassId} {z : Nat} {sa : Nat → Nat} {Hz : Heap} (E : StrOK qLen qCh l D dA z sa Hz) : ∀ mi As h x h', FI_X9_root mi As h = some (x, h') → CalOK l D dA z sa Hz (MT mi) As h (some (.int x)) h' := (cxI_ok (fun As h x h2 e => by obtain ⟨_, _, rfl, e0⟩ := sR_inv e; obtain ⟨_, _, rfl, e1⟩ := sI_inv e0; obtain ⟨rfl, ez⟩ := sE_inv e1; exact c_X9_refused E ez) ((cxI_ok (fun As h x h2 e => by obtain ⟨_, _, rfl, e0⟩ := sR_inv e; obtain ⟨_, _, rfl, e1⟩ := sI_inv e0; obtain ⟨rfl, ez⟩ := sE_inv e1; exact c_X9_good E ez) (fI0_ok E))))
def I_X9_root_32 : List AI := [(.ireturn, 1, [], 0)]
theorem ok_X9_root_32 : vBL MT qLen qCh false q_X9_root.2.2.2.2.1 q_X9_root.2.2.2.2.2.1 q_X9_root.2.2.1 q_X9_root.1.cls q_X9_root.1.name q_X9_root.2.1 0 32 I_X9_root_32 = true := by decide +kernel
def p_X9_root_32 (y0 : Int32) (h : AH) : Option (Int32 × AH) :=
  some (y0, h)
set_option maxRecDepth 100000 in
theorem e_X9_root_32 {l : Launch} {D : va_G} {dA : Nat → ClassId} {z : Nat} {sa : Nat → Nat} {Hz : Heap} (E : StrOK qLen qCh l D dA z sa Hz) {h0 fin : AH} {x : Int32}  : ∀ (y0 : Int32) (h : AH), p_X9_root_32 y0 h = some (x, fin) → GM l D dA z sa Hz q_X9_root h0 (some (.int x)) fin 32 [] [.int y0] h := by
  intro y0 h hd
  exact step E (is := I_X9_root_32) (pc := 32) (K := k0) (FI := FI_X9_root) (FV := fV0) (FL := fL0) (rt := rtI) (ft := 0) (by exact hd) ok_X9_root_32 k0_ok (FI_X9_root_ok E) (fV0_ok E) (fL0_ok E) (rtI_ok rfl)
def I_X9_root_20 : List AI := [(.aload_n 0, 1, [], 0), (.aload_n 0, 1, [], 0), (.getfield 17, 3, [8, 15, 2, 1360], 0), (.sipush 146, 3, [], 146), (.iaload, 1, [], 0), (.invokevirtual 43, 3, [1, 233, 2, 8, 1694], 0)]
theorem ok_X9_root_20 : vBL MT qLen qCh false q_X9_root.2.2.2.2.1 q_X9_root.2.2.2.2.2.1 q_X9_root.2.2.1 q_X9_root.1.cls q_X9_root.1.name q_X9_root.2.1 32 20 I_X9_root_20 = true := by decide +kernel
def p_X9_root_20 (a0 : Nat) (h : AH) : Option (Int32 × AH) :=
  if (tg h a0).1 = 8 then (if inB h (rR h a0 15) 100 ((146 : Int32)) then (if (tg h a0).1 = 8 then ((p_X9_good a0 (rI h (rR h a0 15) ((146 : Int32)).toNatClampNeg) h).bind fun q101 =>
  p_X9_root_32 q101.1 q101.2) else none) else none) else none
set_option maxRecDepth 100000 in
theorem e_X9_root_20 {l : Launch} {D : va_G} {dA : Nat → ClassId} {z : Nat} {sa : Nat → Nat} {Hz : Heap} (E : StrOK qLen qCh l D dA z sa Hz) {h0 fin : AH} {x : Int32}  : ∀ (a0 : Nat) (h : AH), p_X9_root_20 a0 h = some (x, fin) → GM l D dA z sa Hz q_X9_root h0 (some (.int x)) fin 20 [(0, .ref a0)] [] h := by
  intro a0 h hd
  exact step E (is := I_X9_root_20) (pc := 20) (K := (kx 32 (fun la st h => sI st fun y0 st => sE st (p_X9_root_32 y0 h)) k0)) (FI := FI_X9_root) (FV := fV0) (FL := fL0) (rt := rtI) (ft := 32) (by exact hd) ok_X9_root_20 (kx_ok (fun la st h e => by obtain ⟨y0, _, rfl, e1⟩ := sI_inv e; obtain ⟨rfl, ez⟩ := sE_inv e1; exact gm_fewer (e_X9_root_32 E  y0 h ez) mem_nil) k0_ok) (FI_X9_root_ok E) (fV0_ok E) (fL0_ok E) (rtI_ok rfl)
def I_X9_root_0 : List AI := [(.aload_n 0, 1, [], 0), (.iconst 0, 1, [], 0), (.putfield 33, 3, [8, 0, 0, 1345], 0), (.aload_n 0, 1, [], 0), (.getfield 265, 3, [8, 3, 2, 1348], 0), (.ifnonnull 11, 3, [20], 0), (.aload_n 0, 1, [], 0), (.iconst 1, 1, [], 1), (.invokevirtual 39, 3, [1, 201, 2, 8, 1481], 0), (.goto 15, 3, [32], 0)]
theorem ok_X9_root_0 : vBL MT qLen qCh false q_X9_root.2.2.2.2.1 q_X9_root.2.2.2.2.2.1 q_X9_root.2.2.1 q_X9_root.1.cls q_X9_root.1.name q_X9_root.2.1 0 0 I_X9_root_0 = true := by decide +kernel
def p_X9_root (a0 : Nat) (h : AH) : Option (Int32 × AH) :=
  if (tg h a0).1 = 8 then (let h102 := wI h a0 0 ((0 : Int32))
  if (tg h102 a0).1 = 8 then (if (rR h102 a0 3) = 0 then (if (tg h102 a0).1 = 8 then ((p_X9_refused a0 ((1 : Int32)) h102).bind fun q104 =>
  p_X9_root_32 q104.1 q104.2) else none)
  else
  if (tg h102 a0).1 = 8 then (if inB h102 (rR h102 a0 15) 100 ((146 : Int32)) then (if (tg h102 a0).1 = 8 then ((p_X9_good a0 (rI h102 (rR h102 a0 15) ((146 : Int32)).toNatClampNeg) h102).bind fun q103 =>
  p_X9_root_32 q103.1 q103.2) else none) else none) else none) else none) else none
set_option maxRecDepth 100000 in
theorem e_X9_root_0 {l : Launch} {D : va_G} {dA : Nat → ClassId} {z : Nat} {sa : Nat → Nat} {Hz : Heap} (E : StrOK qLen qCh l D dA z sa Hz) {h0 fin : AH} {x : Int32}  : ∀ (a0 : Nat) (h : AH), p_X9_root a0 h = some (x, fin) → GM l D dA z sa Hz q_X9_root h0 (some (.int x)) fin 0 [(0, .ref a0)] [] h := by
  intro a0 h hd
  exact step E (is := I_X9_root_0) (pc := 0) (K := (kx 20 (fun la st h => gR la 0 fun a0 => sE st (p_X9_root_20 a0 h)) (kx 32 (fun la st h => sI st fun y0 st => sE st (p_X9_root_32 y0 h)) k0))) (FI := FI_X9_root) (FV := fV0) (FL := fL0) (rt := rtI) (ft := 0) (by exact hd) ok_X9_root_0 (kx_ok (fun la st h e => by obtain ⟨a0, m_a0, e1⟩ := gR_inv e; obtain ⟨rfl, ez⟩ := sE_inv e1; exact gm_fewer (e_X9_root_20 E  a0 h ez) (mem_cons m_a0 mem_nil)) (kx_ok (fun la st h e => by obtain ⟨y0, _, rfl, e1⟩ := sI_inv e; obtain ⟨rfl, ez⟩ := sE_inv e1; exact gm_fewer (e_X9_root_32 E  y0 h ez) mem_nil) k0_ok)) (FI_X9_root_ok E) (fV0_ok E) (fL0_ok E) (rtI_ok rfl)
theorem c_X9_root {l : Launch} {D : va_G} {dA : Nat → ClassId} {z : Nat} {sa : Nat → Nat} {Hz : Heap} (E : StrOK qLen qCh l D dA z sa Hz) {a0 : Nat} {h fin : AH} {x : Int32} (hd : p_X9_root a0 h = some (x, fin)) : CalOK l D dA z sa Hz q_X9_root [.ref a0] h (some (.int x)) fin := calOf (by decide +kernel) (Nat.le_of_ble_eq_true rfl) (e_X9_root_0 E a0 h hd)
def FI_X9_marks : Nat → List Value → AH → Option (Int32 × AH) := (cx 201 (fun As h => sR As fun a0 As => sI As fun x1 As => sE As (p_X9_refused a0 x1 h)) (cx 233 (fun As h => sR As fun a0 As => sI As fun x1 As => sE As (p_X9_good a0 x1 h)) fI0))
theorem FI_X9_marks_ok {l : Launch} {D : va_G} {dA : Nat → ClassId} {z : Nat} {sa : Nat → Nat} {Hz : Heap} (E : StrOK qLen qCh l D dA z sa Hz) : ∀ mi As h x h', FI_X9_marks mi As h = some (x, h') → CalOK l D dA z sa Hz (MT mi) As h (some (.int x)) h' := (cxI_ok (fun As h x h2 e => by obtain ⟨_, _, rfl, e0⟩ := sR_inv e; obtain ⟨_, _, rfl, e1⟩ := sI_inv e0; obtain ⟨rfl, ez⟩ := sE_inv e1; exact c_X9_refused E ez) ((cxI_ok (fun As h x h2 e => by obtain ⟨_, _, rfl, e0⟩ := sR_inv e; obtain ⟨_, _, rfl, e1⟩ := sI_inv e0; obtain ⟨rfl, ez⟩ := sE_inv e1; exact c_X9_good E ez) (fI0_ok E))))
def I_X9_marks_32 : List AI := [(.ireturn, 1, [], 0)]
theorem ok_X9_marks_32 : vBL MT qLen qCh false q_X9_marks.2.2.2.2.1 q_X9_marks.2.2.2.2.2.1 q_X9_marks.2.2.1 q_X9_marks.1.cls q_X9_marks.1.name q_X9_marks.2.1 0 32 I_X9_marks_32 = true := by decide +kernel
def p_X9_marks_32 (y0 : Int32) (h : AH) : Option (Int32 × AH) :=
  some (y0, h)
set_option maxRecDepth 100000 in
theorem e_X9_marks_32 {l : Launch} {D : va_G} {dA : Nat → ClassId} {z : Nat} {sa : Nat → Nat} {Hz : Heap} (E : StrOK qLen qCh l D dA z sa Hz) {h0 fin : AH} {x : Int32}  : ∀ (y0 : Int32) (h : AH), p_X9_marks_32 y0 h = some (x, fin) → GM l D dA z sa Hz q_X9_marks h0 (some (.int x)) fin 32 [] [.int y0] h := by
  intro y0 h hd
  exact step E (is := I_X9_marks_32) (pc := 32) (K := k0) (FI := FI_X9_marks) (FV := fV0) (FL := fL0) (rt := rtI) (ft := 0) (by exact hd) ok_X9_marks_32 k0_ok (FI_X9_marks_ok E) (fV0_ok E) (fL0_ok E) (rtI_ok rfl)
def I_X9_marks_20 : List AI := [(.aload_n 0, 1, [], 0), (.aload_n 0, 1, [], 0), (.getfield 17, 3, [8, 15, 2, 1360], 0), (.sipush 145, 3, [], 145), (.iaload, 1, [], 0), (.invokevirtual 43, 3, [1, 233, 2, 8, 1694], 0)]
theorem ok_X9_marks_20 : vBL MT qLen qCh false q_X9_marks.2.2.2.2.1 q_X9_marks.2.2.2.2.2.1 q_X9_marks.2.2.1 q_X9_marks.1.cls q_X9_marks.1.name q_X9_marks.2.1 32 20 I_X9_marks_20 = true := by decide +kernel
def p_X9_marks_20 (a0 : Nat) (h : AH) : Option (Int32 × AH) :=
  if (tg h a0).1 = 8 then (if inB h (rR h a0 15) 100 ((145 : Int32)) then (if (tg h a0).1 = 8 then ((p_X9_good a0 (rI h (rR h a0 15) ((145 : Int32)).toNatClampNeg) h).bind fun q101 =>
  p_X9_marks_32 q101.1 q101.2) else none) else none) else none
set_option maxRecDepth 100000 in
theorem e_X9_marks_20 {l : Launch} {D : va_G} {dA : Nat → ClassId} {z : Nat} {sa : Nat → Nat} {Hz : Heap} (E : StrOK qLen qCh l D dA z sa Hz) {h0 fin : AH} {x : Int32}  : ∀ (a0 : Nat) (h : AH), p_X9_marks_20 a0 h = some (x, fin) → GM l D dA z sa Hz q_X9_marks h0 (some (.int x)) fin 20 [(0, .ref a0)] [] h := by
  intro a0 h hd
  exact step E (is := I_X9_marks_20) (pc := 20) (K := (kx 32 (fun la st h => sI st fun y0 st => sE st (p_X9_marks_32 y0 h)) k0)) (FI := FI_X9_marks) (FV := fV0) (FL := fL0) (rt := rtI) (ft := 32) (by exact hd) ok_X9_marks_20 (kx_ok (fun la st h e => by obtain ⟨y0, _, rfl, e1⟩ := sI_inv e; obtain ⟨rfl, ez⟩ := sE_inv e1; exact gm_fewer (e_X9_marks_32 E  y0 h ez) mem_nil) k0_ok) (FI_X9_marks_ok E) (fV0_ok E) (fL0_ok E) (rtI_ok rfl)
def I_X9_marks_0 : List AI := [(.aload_n 0, 1, [], 0), (.iconst 0, 1, [], 0), (.putfield 33, 3, [8, 0, 0, 1345], 0), (.aload_n 0, 1, [], 0), (.getfield 265, 3, [8, 3, 2, 1348], 0), (.ifnonnull 11, 3, [20], 0), (.aload_n 0, 1, [], 0), (.iconst 1, 1, [], 1), (.invokevirtual 39, 3, [1, 201, 2, 8, 1481], 0), (.goto 15, 3, [32], 0)]
theorem ok_X9_marks_0 : vBL MT qLen qCh false q_X9_marks.2.2.2.2.1 q_X9_marks.2.2.2.2.2.1 q_X9_marks.2.2.1 q_X9_marks.1.cls q_X9_marks.1.name q_X9_marks.2.1 0 0 I_X9_marks_0 = true := by decide +kernel
def p_X9_marks (a0 : Nat) (h : AH) : Option (Int32 × AH) :=
  if (tg h a0).1 = 8 then (let h102 := wI h a0 0 ((0 : Int32))
  if (tg h102 a0).1 = 8 then (if (rR h102 a0 3) = 0 then (if (tg h102 a0).1 = 8 then ((p_X9_refused a0 ((1 : Int32)) h102).bind fun q104 =>
  p_X9_marks_32 q104.1 q104.2) else none)
  else
  if (tg h102 a0).1 = 8 then (if inB h102 (rR h102 a0 15) 100 ((145 : Int32)) then (if (tg h102 a0).1 = 8 then ((p_X9_good a0 (rI h102 (rR h102 a0 15) ((145 : Int32)).toNatClampNeg) h102).bind fun q103 =>
  p_X9_marks_32 q103.1 q103.2) else none) else none) else none) else none) else none
set_option maxRecDepth 100000 in
theorem e_X9_marks_0 {l : Launch} {D : va_G} {dA : Nat → ClassId} {z : Nat} {sa : Nat → Nat} {Hz : Heap} (E : StrOK qLen qCh l D dA z sa Hz) {h0 fin : AH} {x : Int32}  : ∀ (a0 : Nat) (h : AH), p_X9_marks a0 h = some (x, fin) → GM l D dA z sa Hz q_X9_marks h0 (some (.int x)) fin 0 [(0, .ref a0)] [] h := by
  intro a0 h hd
  exact step E (is := I_X9_marks_0) (pc := 0) (K := (kx 20 (fun la st h => gR la 0 fun a0 => sE st (p_X9_marks_20 a0 h)) (kx 32 (fun la st h => sI st fun y0 st => sE st (p_X9_marks_32 y0 h)) k0))) (FI := FI_X9_marks) (FV := fV0) (FL := fL0) (rt := rtI) (ft := 0) (by exact hd) ok_X9_marks_0 (kx_ok (fun la st h e => by obtain ⟨a0, m_a0, e1⟩ := gR_inv e; obtain ⟨rfl, ez⟩ := sE_inv e1; exact gm_fewer (e_X9_marks_20 E  a0 h ez) (mem_cons m_a0 mem_nil)) (kx_ok (fun la st h e => by obtain ⟨y0, _, rfl, e1⟩ := sI_inv e; obtain ⟨rfl, ez⟩ := sE_inv e1; exact gm_fewer (e_X9_marks_32 E  y0 h ez) mem_nil) k0_ok)) (FI_X9_marks_ok E) (fV0_ok E) (fL0_ok E) (rtI_ok rfl)
theorem c_X9_marks {l : Launch} {D : va_G} {dA : Nat → ClassId} {z : Nat} {sa : Nat → Nat} {Hz : Heap} (E : StrOK qLen qCh l D dA z sa Hz) {a0 : Nat} {h fin : AH} {x : Int32} (hd : p_X9_marks a0 h = some (x, fin)) : CalOK l D dA z sa Hz q_X9_marks [.ref a0] h (some (.int x)) fin := calOf (by decide +kernel) (Nat.le_of_ble_eq_true rfl) (e_X9_marks_0 E a0 h hd)
def I_X9_has_12 : List AI := [(.ireturn, 1, [], 0)]
theorem ok_X9_has_12 : vBL MT qLen qCh false q_X9_has.2.2.2.2.1 q_X9_has.2.2.2.2.2.1 q_X9_has.2.2.1 q_X9_has.1.cls q_X9_has.1.name q_X9_has.2.1 0 12 I_X9_has_12 = true := by decide +kernel
def p_X9_has_12 (y0 : Int32) (h : AH) : Option (Int32 × AH) :=
  if y0 &&& 1 = y0 then some (y0, h) else none
set_option maxRecDepth 100000 in
theorem e_X9_has_12 {l : Launch} {D : va_G} {dA : Nat → ClassId} {z : Nat} {sa : Nat → Nat} {Hz : Heap} (E : StrOK qLen qCh l D dA z sa Hz) {h0 fin : AH} {x : Int32}  : ∀ (y0 : Int32) (h : AH), p_X9_has_12 y0 h = some (x, fin) → GM l D dA z sa Hz q_X9_has h0 (some (.int x)) fin 12 [] [.int y0] h := by
  intro y0 h hd
  exact step E (is := I_X9_has_12) (pc := 12) (K := k0) (FI := fI0) (FV := fV0) (FL := fL0) (rt := rtZ) (ft := 0) (by exact hd) ok_X9_has_12 k0_ok (fI0_ok E) (fV0_ok E) (fL0_ok E) (rtZ_ok rfl)
def I_X9_has_11 : List AI := [(.iconst 0, 1, [], 0)]
theorem ok_X9_has_11 : vBL MT qLen qCh false q_X9_has.2.2.2.2.1 q_X9_has.2.2.2.2.2.1 q_X9_has.2.2.1 q_X9_has.1.cls q_X9_has.1.name q_X9_has.2.1 12 11 I_X9_has_11 = true := by decide +kernel
def p_X9_has_11 (h : AH) : Option (Int32 × AH) :=
  p_X9_has_12 ((0 : Int32)) h
set_option maxRecDepth 100000 in
theorem e_X9_has_11 {l : Launch} {D : va_G} {dA : Nat → ClassId} {z : Nat} {sa : Nat → Nat} {Hz : Heap} (E : StrOK qLen qCh l D dA z sa Hz) {h0 fin : AH} {x : Int32}  : ∀  (h : AH), p_X9_has_11 h = some (x, fin) → GM l D dA z sa Hz q_X9_has h0 (some (.int x)) fin 11 [] [] h := by
  intro h hd
  exact step E (is := I_X9_has_11) (pc := 11) (K := (kx 12 (fun la st h => sI st fun y0 st => sE st (p_X9_has_12 y0 h)) k0)) (FI := fI0) (FV := fV0) (FL := fL0) (rt := rtZ) (ft := 12) (by exact hd) ok_X9_has_11 (kx_ok (fun la st h e => by obtain ⟨y0, _, rfl, e1⟩ := sI_inv e; obtain ⟨rfl, ez⟩ := sE_inv e1; exact gm_fewer (e_X9_has_12 E  y0 h ez) mem_nil) k0_ok) (fI0_ok E) (fV0_ok E) (fL0_ok E) (rtZ_ok rfl)
def I_X9_has_0 : List AI := [(.iload_n 0, 1, [], 0), (.iload_n 1, 1, [], 0), (.iand, 1, [], 0), (.iload_n 1, 1, [], 0), (.if_icmp .ne 7, 3, [11], 0), (.iconst 1, 1, [], 1), (.goto 4, 3, [12], 0)]
theorem ok_X9_has_0 : vBL MT qLen qCh false q_X9_has.2.2.2.2.1 q_X9_has.2.2.2.2.2.1 q_X9_has.2.2.1 q_X9_has.1.cls q_X9_has.1.name q_X9_has.2.1 0 0 I_X9_has_0 = true := by decide +kernel
def p_X9_has (x0 : Int32) (x1 : Int32) (h : AH) : Option (Int32 × AH) :=
  if (x0 &&& x1) = x1 then (p_X9_has_12 ((1 : Int32)) h)
  else
  p_X9_has_12 ((0 : Int32)) h
set_option maxRecDepth 100000 in
theorem e_X9_has_0 {l : Launch} {D : va_G} {dA : Nat → ClassId} {z : Nat} {sa : Nat → Nat} {Hz : Heap} (E : StrOK qLen qCh l D dA z sa Hz) {h0 fin : AH} {x : Int32}  : ∀ (x0 : Int32) (x1 : Int32) (h : AH), p_X9_has x0 x1 h = some (x, fin) → GM l D dA z sa Hz q_X9_has h0 (some (.int x)) fin 0 [(0, .int x0), (1, .int x1)] [] h := by
  intro x0 x1 h hd
  exact step E (is := I_X9_has_0) (pc := 0) (K := (kx 11 (fun la st h => sE st (p_X9_has_11 h)) (kx 12 (fun la st h => sI st fun y0 st => sE st (p_X9_has_12 y0 h)) k0))) (FI := fI0) (FV := fV0) (FL := fL0) (rt := rtZ) (ft := 0) (by exact hd) ok_X9_has_0 (kx_ok (fun la st h e => by obtain ⟨rfl, ez⟩ := sE_inv e; exact gm_fewer (e_X9_has_11 E   h ez) mem_nil) (kx_ok (fun la st h e => by obtain ⟨y0, _, rfl, e1⟩ := sI_inv e; obtain ⟨rfl, ez⟩ := sE_inv e1; exact gm_fewer (e_X9_has_12 E  y0 h ez) mem_nil) k0_ok)) (fI0_ok E) (fV0_ok E) (fL0_ok E) (rtZ_ok rfl)
theorem c_X9_has {l : Launch} {D : va_G} {dA : Nat → ClassId} {z : Nat} {sa : Nat → Nat} {Hz : Heap} (E : StrOK qLen qCh l D dA z sa Hz) {x0 : Int32} {x1 : Int32} {h fin : AH} {x : Int32} (hd : p_X9_has x0 x1 h = some (x, fin)) : CalOK l D dA z sa Hz q_X9_has [.int x0, .int x1] h (some (.int x)) fin := calOf (by decide +kernel) (Nat.le_of_ble_eq_true rfl) (e_X9_has_0 E x0 x1 h hd)
def FI_X9_wordsWith : Nat → List Value → AH → Option (Int32 × AH) := (cx 237 (fun As h => sI As fun x0 As => sE As (p_X9_isFrame x0 h)) (cx 201 (fun As h => sR As fun a0 As => sI As fun x1 As => sE As (p_X9_refused a0 x1 h)) (cx 211 (fun As h => sI As fun x0 As => sI As fun x1 As => sI As fun x2 As => sE As (p_X9_in x0 x1 x2 h)) (cx 247 (fun As h => sI As fun x0 As => sI As fun x1 As => sE As (p_X9_has x0 x1 h)) (cx 233 (fun As h => sR As fun a0 As => sI As fun x1 As => sE As (p_X9_good a0 x1 h)) fI0)))))
theorem FI_X9_wordsWith_ok {l : Launch} {D : va_G} {dA : Nat → ClassId} {z : Nat} {sa : Nat → Nat} {Hz : Heap} (E : StrOK qLen qCh l D dA z sa Hz) : ∀ mi As h x h', FI_X9_wordsWith mi As h = some (x, h') → CalOK l D dA z sa Hz (MT mi) As h (some (.int x)) h' := (cxI_ok (fun As h x h2 e => by obtain ⟨_, _, rfl, e0⟩ := sI_inv e; obtain ⟨rfl, ez⟩ := sE_inv e0; exact c_X9_isFrame E ez) ((cxI_ok (fun As h x h2 e => by obtain ⟨_, _, rfl, e0⟩ := sR_inv e; obtain ⟨_, _, rfl, e1⟩ := sI_inv e0; obtain ⟨rfl, ez⟩ := sE_inv e1; exact c_X9_refused E ez) ((cxI_ok (fun As h x h2 e => by obtain ⟨_, _, rfl, e0⟩ := sI_inv e; obtain ⟨_, _, rfl, e1⟩ := sI_inv e0; obtain ⟨_, _, rfl, e2⟩ := sI_inv e1; obtain ⟨rfl, ez⟩ := sE_inv e2; exact c_X9_in E ez) ((cxI_ok (fun As h x h2 e => by obtain ⟨_, _, rfl, e0⟩ := sI_inv e; obtain ⟨_, _, rfl, e1⟩ := sI_inv e0; obtain ⟨rfl, ez⟩ := sE_inv e1; exact c_X9_has E ez) ((cxI_ok (fun As h x h2 e => by obtain ⟨_, _, rfl, e0⟩ := sR_inv e; obtain ⟨_, _, rfl, e1⟩ := sI_inv e0; obtain ⟨rfl, ez⟩ := sE_inv e1; exact c_X9_good E ez) (fI0_ok E))))))))))
def I_X9_wordsWith_19 : List AI := [(.aload_n 0, 1, [], 0), (.iconst 1, 1, [], 1), (.invokevirtual 39, 3, [1, 201, 2, 8, 1481], 0), (.ireturn, 1, [], 0)]
theorem ok_X9_wordsWith_19 : vBL MT qLen qCh false q_X9_wordsWith.2.2.2.2.1 q_X9_wordsWith.2.2.2.2.2.1 q_X9_wordsWith.2.2.1 q_X9_wordsWith.1.cls q_X9_wordsWith.1.name q_X9_wordsWith.2.1 0 19 I_X9_wordsWith_19 = true := by decide +kernel
def p_X9_wordsWith_19 (a0 : Nat) (h : AH) : Option (Int32 × AH) :=
  if (tg h a0).1 = 8 then ((p_X9_refused a0 ((1 : Int32)) h).bind fun q101 =>
  some (q101.1, q101.2)) else none
set_option maxRecDepth 100000 in
theorem e_X9_wordsWith_19 {l : Launch} {D : va_G} {dA : Nat → ClassId} {z : Nat} {sa : Nat → Nat} {Hz : Heap} (E : StrOK qLen qCh l D dA z sa Hz) {h0 fin : AH} {x : Int32}  : ∀ (a0 : Nat) (h : AH), p_X9_wordsWith_19 a0 h = some (x, fin) → GM l D dA z sa Hz q_X9_wordsWith h0 (some (.int x)) fin 19 [(0, .ref a0)] [] h := by
  intro a0 h hd
  exact step E (is := I_X9_wordsWith_19) (pc := 19) (K := k0) (FI := FI_X9_wordsWith) (FV := fV0) (FL := fL0) (rt := rtI) (ft := 0) (by exact hd) ok_X9_wordsWith_19 k0_ok (FI_X9_wordsWith_ok E) (fV0_ok E) (fL0_ok E) (rtI_ok rfl)
def I_X9_wordsWith_89 : List AI := [(.aload_n 0, 1, [], 0), (.iload_n 3, 1, [], 0), (.invokevirtual 43, 3, [1, 233, 2, 8, 1694], 0), (.ireturn, 1, [], 0)]
theorem ok_X9_wordsWith_89 : vBL MT qLen qCh false q_X9_wordsWith.2.2.2.2.1 q_X9_wordsWith.2.2.2.2.2.1 q_X9_wordsWith.2.2.1 q_X9_wordsWith.1.cls q_X9_wordsWith.1.name q_X9_wordsWith.2.1 0 89 I_X9_wordsWith_89 = true := by decide +kernel
def p_X9_wordsWith_89 (a0 : Nat) (x3 : Int32) (h : AH) : Option (Int32 × AH) :=
  if (tg h a0).1 = 8 then ((p_X9_good a0 x3 h).bind fun q102 =>
  some (q102.1, q102.2)) else none
set_option maxRecDepth 100000 in
theorem e_X9_wordsWith_89 {l : Launch} {D : va_G} {dA : Nat → ClassId} {z : Nat} {sa : Nat → Nat} {Hz : Heap} (E : StrOK qLen qCh l D dA z sa Hz) {h0 fin : AH} {x : Int32}  : ∀ (a0 : Nat) (x3 : Int32) (h : AH), p_X9_wordsWith_89 a0 x3 h = some (x, fin) → GM l D dA z sa Hz q_X9_wordsWith h0 (some (.int x)) fin 89 [(0, .ref a0), (3, .int x3)] [] h := by
  intro a0 x3 h hd
  exact step E (is := I_X9_wordsWith_89) (pc := 89) (K := k0) (FI := FI_X9_wordsWith) (FV := fV0) (FL := fL0) (rt := rtI) (ft := 0) (by exact hd) ok_X9_wordsWith_89 k0_ok (FI_X9_wordsWith_ok E) (fV0_ok E) (fL0_ok E) (rtI_ok rfl)
def I_X9_wordsWith_81 : List AI := [(.ior, 1, [], 0), (.istore_n 3, 1, [], 0), (.iinc 4 1, 3, [], 1), (.goto (-40), 3, [46], 0)]
theorem ok_X9_wordsWith_81 : vBL MT qLen qCh false q_X9_wordsWith.2.2.2.2.1 q_X9_wordsWith.2.2.2.2.2.1 q_X9_wordsWith.2.2.1 q_X9_wordsWith.1.cls q_X9_wordsWith.1.name q_X9_wordsWith.2.1 0 81 I_X9_wordsWith_81 = true := by decide +kernel
def p_X9_wordsWith_81 (k46 : Nat → Int32 → Int32 → Int32 → Int32 → AH → Option (Int32 × AH)) (a0 : Nat) (x1 : Int32) (x2 : Int32) (x4 : Int32) (y0 : Int32) (y1 : Int32) (h : AH) : Option (Int32 × AH) :=
  let x103 := y1 ||| y0
  k46 a0 x1 x2 x103 (x4 + (1 : Int32)) h
set_option maxRecDepth 100000 in
theorem e_X9_wordsWith_81 {l : Launch} {D : va_G} {dA : Nat → ClassId} {z : Nat} {sa : Nat → Nat} {Hz : Heap} (E : StrOK qLen qCh l D dA z sa Hz) {h0 fin : AH} {x : Int32}  {k46 : Nat → Int32 → Int32 → Int32 → Int32 → AH → Option (Int32 × AH)} (hk46 : ∀ (a0 : Nat) (x1 : Int32) (x2 : Int32) (x3 : Int32) (x4 : Int32) (h : AH), k46 a0 x1 x2 x3 x4 h = some (x, fin) → GM l D dA z sa Hz q_X9_wordsWith h0 (some (.int x)) fin 46 [(0, .ref a0), (1, .int x1), (2, .int x2), (3, .int x3), (4, .int x4)] [] h) : ∀ (a0 : Nat) (x1 : Int32) (x2 : Int32) (x4 : Int32) (y0 : Int32) (y1 : Int32) (h : AH), p_X9_wordsWith_81 k46 a0 x1 x2 x4 y0 y1 h = some (x, fin) → GM l D dA z sa Hz q_X9_wordsWith h0 (some (.int x)) fin 81 [(0, .ref a0), (1, .int x1), (2, .int x2), (4, .int x4)] [.int y0, .int y1] h := by
  intro a0 x1 x2 x4 y0 y1 h hd
  exact step E (is := I_X9_wordsWith_81) (pc := 81) (K := (kx 46 (fun la st h => gR la 0 fun a0 => gI la 1 fun x1 => gI la 2 fun x2 => gI la 3 fun x3 => gI la 4 fun x4 => sE st (k46 a0 x1 x2 x3 x4 h)) k0)) (FI := FI_X9_wordsWith) (FV := fV0) (FL := fL0) (rt := rtI) (ft := 0) (by exact hd) ok_X9_wordsWith_81 (kx_ok (fun la st h e => by obtain ⟨a0, m_a0, e1⟩ := gR_inv e; obtain ⟨x1, m_x1, e2⟩ := gI_inv e1; obtain ⟨x2, m_x2, e3⟩ := gI_inv e2; obtain ⟨x3, m_x3, e4⟩ := gI_inv e3; obtain ⟨x4, m_x4, e5⟩ := gI_inv e4; obtain ⟨rfl, ez⟩ := sE_inv e5; exact gm_fewer (hk46 a0 x1 x2 x3 x4 h ez) (mem_cons m_a0 (mem_cons m_x1 (mem_cons m_x2 (mem_cons m_x3 (mem_cons m_x4 mem_nil)))))) k0_ok) (FI_X9_wordsWith_ok E) (fV0_ok E) (fL0_ok E) (rtI_ok rfl)
def I_X9_wordsWith_80 : List AI := [(.iconst 0, 1, [], 0)]
theorem ok_X9_wordsWith_80 : vBL MT qLen qCh false q_X9_wordsWith.2.2.2.2.1 q_X9_wordsWith.2.2.2.2.2.1 q_X9_wordsWith.2.2.1 q_X9_wordsWith.1.cls q_X9_wordsWith.1.name q_X9_wordsWith.2.1 81 80 I_X9_wordsWith_80 = true := by decide +kernel
def p_X9_wordsWith_80 (k46 : Nat → Int32 → Int32 → Int32 → Int32 → AH → Option (Int32 × AH)) (a0 : Nat) (x1 : Int32) (x2 : Int32) (x4 : Int32) (y0 : Int32) (h : AH) : Option (Int32 × AH) :=
  p_X9_wordsWith_81 k46 a0 x1 x2 x4 ((0 : Int32)) y0 h
set_option maxRecDepth 100000 in
theorem e_X9_wordsWith_80 {l : Launch} {D : va_G} {dA : Nat → ClassId} {z : Nat} {sa : Nat → Nat} {Hz : Heap} (E : StrOK qLen qCh l D dA z sa Hz) {h0 fin : AH} {x : Int32}  {k46 : Nat → Int32 → Int32 → Int32 → Int32 → AH → Option (Int32 × AH)} (hk46 : ∀ (a0 : Nat) (x1 : Int32) (x2 : Int32) (x3 : Int32) (x4 : Int32) (h : AH), k46 a0 x1 x2 x3 x4 h = some (x, fin) → GM l D dA z sa Hz q_X9_wordsWith h0 (some (.int x)) fin 46 [(0, .ref a0), (1, .int x1), (2, .int x2), (3, .int x3), (4, .int x4)] [] h) : ∀ (a0 : Nat) (x1 : Int32) (x2 : Int32) (x4 : Int32) (y0 : Int32) (h : AH), p_X9_wordsWith_80 k46 a0 x1 x2 x4 y0 h = some (x, fin) → GM l D dA z sa Hz q_X9_wordsWith h0 (some (.int x)) fin 80 [(0, .ref a0), (1, .int x1), (2, .int x2), (4, .int x4)] [.int y0] h := by
  intro a0 x1 x2 x4 y0 h hd
  exact step E (is := I_X9_wordsWith_80) (pc := 80) (K := (kx 81 (fun la st h => gR la 0 fun a0 => gI la 1 fun x1 => gI la 2 fun x2 => gI la 4 fun x4 => sI st fun y0 st => sI st fun y1 st => sE st (p_X9_wordsWith_81 k46 a0 x1 x2 x4 y0 y1 h)) k0)) (FI := FI_X9_wordsWith) (FV := fV0) (FL := fL0) (rt := rtI) (ft := 81) (by exact hd) ok_X9_wordsWith_80 (kx_ok (fun la st h e => by obtain ⟨a0, m_a0, e1⟩ := gR_inv e; obtain ⟨x1, m_x1, e2⟩ := gI_inv e1; obtain ⟨x2, m_x2, e3⟩ := gI_inv e2; obtain ⟨x4, m_x4, e4⟩ := gI_inv e3; obtain ⟨y0, _, rfl, e5⟩ := sI_inv e4; obtain ⟨y1, _, rfl, e6⟩ := sI_inv e5; obtain ⟨rfl, ez⟩ := sE_inv e6; exact gm_fewer (e_X9_wordsWith_81 E hk46 a0 x1 x2 x4 y0 y1 h ez) (mem_cons m_a0 (mem_cons m_x1 (mem_cons m_x2 (mem_cons m_x4 mem_nil))))) k0_ok) (FI_X9_wordsWith_ok E) (fV0_ok E) (fL0_ok E) (rtI_ok rfl)
def I_X9_wordsWith_46 : List AI := [(.iload 4, 2, [], 0), (.bipush 8, 2, [], 8), (.if_icmp .ge 39, 3, [89], 0), (.iload_n 3, 1, [], 0), (.aload_n 0, 1, [], 0), (.getfield 17, 3, [8, 15, 2, 1360], 0), (.bipush 8, 2, [], 8), (.iload_n 1, 1, [], 0), (.imul, 1, [], 0), (.iload 4, 2, [], 0), (.iadd, 1, [], 0), (.iaload, 1, [], 0), (.iload_n 2, 1, [], 0), (.invokestatic 316, 3, [1, 247, 2, 1749], 0), (.ifCond .eq 10, 3, [80], 0), (.iconst 1, 1, [], 1), (.iload 4, 2, [], 0), (.ishl, 1, [], 0), (.goto 4, 3, [81], 0)]
theorem ok_X9_wordsWith_46 : vBL MT qLen qCh false q_X9_wordsWith.2.2.2.2.1 q_X9_wordsWith.2.2.2.2.2.1 q_X9_wordsWith.2.2.1 q_X9_wordsWith.1.cls q_X9_wordsWith.1.name q_X9_wordsWith.2.1 0 46 I_X9_wordsWith_46 = true := by decide +kernel
def p_X9_wordsWith_46 : Nat → Nat → Int32 → Int32 → Int32 → Int32 → AH → Option (Int32 × AH)
  | 0, _, _, _, _, _, _ => none
  | n + 1, a0, x1, x2, x3, x4, h => if x4 < ((8 : Int32)) then (if (tg h a0).1 = 8 then (if inB h (rR h a0 15) 100 ((((8 : Int32)) * x1) + x4) then ((p_X9_has (rI h (rR h a0 15) ((((8 : Int32)) * x1) + x4).toNatClampNeg) x2 h).bind fun q105 =>
    if q105.1 = 0 then (p_X9_wordsWith_81 (p_X9_wordsWith_46 n) a0 x1 x2 x4 ((0 : Int32)) x3 q105.2)
    else
    p_X9_wordsWith_81 (p_X9_wordsWith_46 n) a0 x1 x2 x4 (((1 : Int32)) <<< (x4 &&& 31)) x3 q105.2) else none) else none)
    else
    if (tg h a0).1 = 8 then ((p_X9_good a0 x3 h).bind fun q104 =>
    some (q104.1, q104.2)) else none
set_option maxRecDepth 100000 in
theorem e_X9_wordsWith_46 {l : Launch} {D : va_G} {dA : Nat → ClassId} {z : Nat} {sa : Nat → Nat} {Hz : Heap} (E : StrOK qLen qCh l D dA z sa Hz) {h0 fin : AH} {x : Int32}  : ∀ (n : Nat) (a0 : Nat) (x1 : Int32) (x2 : Int32) (x3 : Int32) (x4 : Int32) (h : AH), p_X9_wordsWith_46 n a0 x1 x2 x3 x4 h = some (x, fin) → GM l D dA z sa Hz q_X9_wordsWith h0 (some (.int x)) fin 46 [(0, .ref a0), (1, .int x1), (2, .int x2), (3, .int x3), (4, .int x4)] [] h := by
  intro n
  induction n with
  | zero => intro a0 x1 x2 x3 x4 h hd; exact nomatch hd
  | succ n ih =>
    intro a0 x1 x2 x3 x4 h hd
    exact step E (is := I_X9_wordsWith_46) (pc := 46) (K := (kx 89 (fun la st h => gR la 0 fun a0 => gI la 3 fun x3 => sE st (p_X9_wordsWith_89 a0 x3 h)) (kx 80 (fun la st h => gR la 0 fun a0 => gI la 1 fun x1 => gI la 2 fun x2 => gI la 4 fun x4 => sI st fun y0 st => sE st (p_X9_wordsWith_80 (p_X9_wordsWith_46 n) a0 x1 x2 x4 y0 h)) (kx 81 (fun la st h => gR la 0 fun a0 => gI la 1 fun x1 => gI la 2 fun x2 => gI la 4 fun x4 => sI st fun y0 st => sI st fun y1 st => sE st (p_X9_wordsWith_81 (p_X9_wordsWith_46 n) a0 x1 x2 x4 y0 y1 h)) k0)))) (FI := FI_X9_wordsWith) (FV := fV0) (FL := fL0) (rt := rtI) (ft := 0) (by exact hd) ok_X9_wordsWith_46 (kx_ok (fun la st h e => by obtain ⟨a0, m_a0, e1⟩ := gR_inv e; obtain ⟨x3, m_x3, e2⟩ := gI_inv e1; obtain ⟨rfl, ez⟩ := sE_inv e2; exact gm_fewer (e_X9_wordsWith_89 E  a0 x3 h ez) (mem_cons m_a0 (mem_cons m_x3 mem_nil))) (kx_ok (fun la st h e => by obtain ⟨a0, m_a0, e1⟩ := gR_inv e; obtain ⟨x1, m_x1, e2⟩ := gI_inv e1; obtain ⟨x2, m_x2, e3⟩ := gI_inv e2; obtain ⟨x4, m_x4, e4⟩ := gI_inv e3; obtain ⟨y0, _, rfl, e5⟩ := sI_inv e4; obtain ⟨rfl, ez⟩ := sE_inv e5; exact gm_fewer (e_X9_wordsWith_80 E ih a0 x1 x2 x4 y0 h ez) (mem_cons m_a0 (mem_cons m_x1 (mem_cons m_x2 (mem_cons m_x4 mem_nil))))) (kx_ok (fun la st h e => by obtain ⟨a0, m_a0, e1⟩ := gR_inv e; obtain ⟨x1, m_x1, e2⟩ := gI_inv e1; obtain ⟨x2, m_x2, e3⟩ := gI_inv e2; obtain ⟨x4, m_x4, e4⟩ := gI_inv e3; obtain ⟨y0, _, rfl, e5⟩ := sI_inv e4; obtain ⟨y1, _, rfl, e6⟩ := sI_inv e5; obtain ⟨rfl, ez⟩ := sE_inv e6; exact gm_fewer (e_X9_wordsWith_81 E ih a0 x1 x2 x4 y0 y1 h ez) (mem_cons m_a0 (mem_cons m_x1 (mem_cons m_x2 (mem_cons m_x4 mem_nil))))) k0_ok))) (FI_X9_wordsWith_ok E) (fV0_ok E) (fL0_ok E) (rtI_ok rfl)
def I_X9_wordsWith_41 : List AI := [(.iconst 0, 1, [], 0), (.istore_n 3, 1, [], 0), (.iconst 0, 1, [], 0), (.istore 4, 2, [], 0)]
theorem ok_X9_wordsWith_41 : vBL MT qLen qCh false q_X9_wordsWith.2.2.2.2.1 q_X9_wordsWith.2.2.2.2.2.1 q_X9_wordsWith.2.2.1 q_X9_wordsWith.1.cls q_X9_wordsWith.1.name q_X9_wordsWith.2.1 46 41 I_X9_wordsWith_41 = true := by decide +kernel
def p_X9_wordsWith_41 (a0 : Nat) (x1 : Int32) (x2 : Int32) (h : AH) : Option (Int32 × AH) :=
  p_X9_wordsWith_46 FU a0 x1 x2 ((0 : Int32)) ((0 : Int32)) h
set_option maxRecDepth 100000 in
theorem e_X9_wordsWith_41 {l : Launch} {D : va_G} {dA : Nat → ClassId} {z : Nat} {sa : Nat → Nat} {Hz : Heap} (E : StrOK qLen qCh l D dA z sa Hz) {h0 fin : AH} {x : Int32}  : ∀ (a0 : Nat) (x1 : Int32) (x2 : Int32) (h : AH), p_X9_wordsWith_41 a0 x1 x2 h = some (x, fin) → GM l D dA z sa Hz q_X9_wordsWith h0 (some (.int x)) fin 41 [(0, .ref a0), (1, .int x1), (2, .int x2)] [] h := by
  intro a0 x1 x2 h hd
  exact step E (is := I_X9_wordsWith_41) (pc := 41) (K := (kx 46 (fun la st h => gR la 0 fun a0 => gI la 1 fun x1 => gI la 2 fun x2 => gI la 3 fun x3 => gI la 4 fun x4 => sE st (p_X9_wordsWith_46 FU a0 x1 x2 x3 x4 h)) k0)) (FI := FI_X9_wordsWith) (FV := fV0) (FL := fL0) (rt := rtI) (ft := 46) (by exact hd) ok_X9_wordsWith_41 (kx_ok (fun la st h e => by obtain ⟨a0, m_a0, e1⟩ := gR_inv e; obtain ⟨x1, m_x1, e2⟩ := gI_inv e1; obtain ⟨x2, m_x2, e3⟩ := gI_inv e2; obtain ⟨x3, m_x3, e4⟩ := gI_inv e3; obtain ⟨x4, m_x4, e5⟩ := gI_inv e4; obtain ⟨rfl, ez⟩ := sE_inv e5; exact gm_fewer (e_X9_wordsWith_46 E  FU a0 x1 x2 x3 x4 h ez) (mem_cons m_a0 (mem_cons m_x1 (mem_cons m_x2 (mem_cons m_x3 (mem_cons m_x4 mem_nil)))))) k0_ok) (FI_X9_wordsWith_ok E) (fV0_ok E) (fL0_ok E) (rtI_ok rfl)
def I_X9_wordsWith_25 : List AI := [(.iload_n 2, 1, [], 0), (.iconst 1, 1, [], 1), (.bipush 63, 2, [], 63), (.invokestatic 112, 3, [1, 211, 3, 1612], 0), (.ifCond .ne 9, 3, [41], 0), (.aload_n 0, 1, [], 0), (.iconst 2, 1, [], 2), (.invokevirtual 39, 3, [1, 201, 2, 8, 1481], 0), (.ireturn, 1, [], 0)]
theorem ok_X9_wordsWith_25 : vBL MT qLen qCh false q_X9_wordsWith.2.2.2.2.1 q_X9_wordsWith.2.2.2.2.2.1 q_X9_wordsWith.2.2.1 q_X9_wordsWith.1.cls q_X9_wordsWith.1.name q_X9_wordsWith.2.1 0 25 I_X9_wordsWith_25 = true := by decide +kernel
def p_X9_wordsWith_25 (a0 : Nat) (x1 : Int32) (x2 : Int32) (h : AH) : Option (Int32 × AH) :=
  (p_X9_in x2 ((1 : Int32)) ((63 : Int32)) h).bind fun q106 =>
  if q106.1 = 0 then (if (tg q106.2 a0).1 = 8 then ((p_X9_refused a0 ((2 : Int32)) q106.2).bind fun q107 =>
  some (q107.1, q107.2)) else none)
  else
  p_X9_wordsWith_46 FU a0 x1 x2 ((0 : Int32)) ((0 : Int32)) q106.2
set_option maxRecDepth 100000 in
theorem e_X9_wordsWith_25 {l : Launch} {D : va_G} {dA : Nat → ClassId} {z : Nat} {sa : Nat → Nat} {Hz : Heap} (E : StrOK qLen qCh l D dA z sa Hz) {h0 fin : AH} {x : Int32}  : ∀ (a0 : Nat) (x1 : Int32) (x2 : Int32) (h : AH), p_X9_wordsWith_25 a0 x1 x2 h = some (x, fin) → GM l D dA z sa Hz q_X9_wordsWith h0 (some (.int x)) fin 25 [(0, .ref a0), (1, .int x1), (2, .int x2)] [] h := by
  intro a0 x1 x2 h hd
  exact step E (is := I_X9_wordsWith_25) (pc := 25) (K := (kx 41 (fun la st h => gR la 0 fun a0 => gI la 1 fun x1 => gI la 2 fun x2 => sE st (p_X9_wordsWith_41 a0 x1 x2 h)) k0)) (FI := FI_X9_wordsWith) (FV := fV0) (FL := fL0) (rt := rtI) (ft := 0) (by exact hd) ok_X9_wordsWith_25 (kx_ok (fun la st h e => by obtain ⟨a0, m_a0, e1⟩ := gR_inv e; obtain ⟨x1, m_x1, e2⟩ := gI_inv e1; obtain ⟨x2, m_x2, e3⟩ := gI_inv e2; obtain ⟨rfl, ez⟩ := sE_inv e3; exact gm_fewer (e_X9_wordsWith_41 E  a0 x1 x2 h ez) (mem_cons m_a0 (mem_cons m_x1 (mem_cons m_x2 mem_nil)))) k0_ok) (FI_X9_wordsWith_ok E) (fV0_ok E) (fL0_ok E) (rtI_ok rfl)
def I_X9_wordsWith_0 : List AI := [(.aload_n 0, 1, [], 0), (.iconst 0, 1, [], 0), (.putfield 33, 3, [8, 0, 0, 1345], 0), (.aload_n 0, 1, [], 0), (.getfield 265, 3, [8, 3, 2, 1348], 0), (.ifnull 10, 3, [19], 0), (.iload_n 1, 1, [], 0), (.invokestatic 395, 3, [1, 237, 1, 1710], 0), (.ifCond .ne 9, 3, [25], 0)]
theorem ok_X9_wordsWith_0 : vBL MT qLen qCh false q_X9_wordsWith.2.2.2.2.1 q_X9_wordsWith.2.2.2.2.2.1 q_X9_wordsWith.2.2.1 q_X9_wordsWith.1.cls q_X9_wordsWith.1.name q_X9_wordsWith.2.1 19 0 I_X9_wordsWith_0 = true := by decide +kernel
def p_X9_wordsWith (a0 : Nat) (x1 : Int32) (x2 : Int32) (h : AH) : Option (Int32 × AH) :=
  if (tg h a0).1 = 8 then (let h108 := wI h a0 0 ((0 : Int32))
  if (tg h108 a0).1 = 8 then (if (rR h108 a0 3) = 0 then (p_X9_wordsWith_19 a0 h108)
  else
  (p_X9_isFrame x1 h108).bind fun q109 =>
  if q109.1 = 0 then (p_X9_wordsWith_19 a0 q109.2)
  else
  (p_X9_in x2 ((1 : Int32)) ((63 : Int32)) q109.2).bind fun q110 =>
  if q110.1 = 0 then (if (tg q110.2 a0).1 = 8 then ((p_X9_refused a0 ((2 : Int32)) q110.2).bind fun q111 =>
  some (q111.1, q111.2)) else none)
  else
  p_X9_wordsWith_46 FU a0 x1 x2 ((0 : Int32)) ((0 : Int32)) q110.2) else none) else none
set_option maxRecDepth 100000 in
theorem e_X9_wordsWith_0 {l : Launch} {D : va_G} {dA : Nat → ClassId} {z : Nat} {sa : Nat → Nat} {Hz : Heap} (E : StrOK qLen qCh l D dA z sa Hz) {h0 fin : AH} {x : Int32}  : ∀ (a0 : Nat) (x1 : Int32) (x2 : Int32) (h : AH), p_X9_wordsWith a0 x1 x2 h = some (x, fin) → GM l D dA z sa Hz q_X9_wordsWith h0 (some (.int x)) fin 0 [(0, .ref a0), (1, .int x1), (2, .int x2)] [] h := by
  intro a0 x1 x2 h hd
  exact step E (is := I_X9_wordsWith_0) (pc := 0) (K := (kx 19 (fun la st h => gR la 0 fun a0 => sE st (p_X9_wordsWith_19 a0 h)) (kx 25 (fun la st h => gR la 0 fun a0 => gI la 1 fun x1 => gI la 2 fun x2 => sE st (p_X9_wordsWith_25 a0 x1 x2 h)) k0))) (FI := FI_X9_wordsWith) (FV := fV0) (FL := fL0) (rt := rtI) (ft := 19) (by exact hd) ok_X9_wordsWith_0 (kx_ok (fun la st h e => by obtain ⟨a0, m_a0, e1⟩ := gR_inv e; obtain ⟨rfl, ez⟩ := sE_inv e1; exact gm_fewer (e_X9_wordsWith_19 E  a0 h ez) (mem_cons m_a0 mem_nil)) (kx_ok (fun la st h e => by obtain ⟨a0, m_a0, e1⟩ := gR_inv e; obtain ⟨x1, m_x1, e2⟩ := gI_inv e1; obtain ⟨x2, m_x2, e3⟩ := gI_inv e2; obtain ⟨rfl, ez⟩ := sE_inv e3; exact gm_fewer (e_X9_wordsWith_25 E  a0 x1 x2 h ez) (mem_cons m_a0 (mem_cons m_x1 (mem_cons m_x2 mem_nil)))) k0_ok)) (FI_X9_wordsWith_ok E) (fV0_ok E) (fL0_ok E) (rtI_ok rfl)
theorem c_X9_wordsWith {l : Launch} {D : va_G} {dA : Nat → ClassId} {z : Nat} {sa : Nat → Nat} {Hz : Heap} (E : StrOK qLen qCh l D dA z sa Hz) {a0 : Nat} {x1 : Int32} {x2 : Int32} {h fin : AH} {x : Int32} (hd : p_X9_wordsWith a0 x1 x2 h = some (x, fin)) : CalOK l D dA z sa Hz q_X9_wordsWith [.ref a0, .int x1, .int x2] h (some (.int x)) fin := calOf (by decide +kernel) (Nat.le_of_ble_eq_true rfl) (e_X9_wordsWith_0 E a0 x1 x2 h hd)
def I_X9_isPage_15 : List AI := [(.ireturn, 1, [], 0)]
theorem ok_X9_isPage_15 : vBL MT qLen qCh false q_X9_isPage.2.2.2.2.1 q_X9_isPage.2.2.2.2.2.1 q_X9_isPage.2.2.1 q_X9_isPage.1.cls q_X9_isPage.1.name q_X9_isPage.2.1 0 15 I_X9_isPage_15 = true := by decide +kernel
def p_X9_isPage_15 (y0 : Int32) (h : AH) : Option (Int32 × AH) :=
  if y0 &&& 1 = y0 then some (y0, h) else none
set_option maxRecDepth 100000 in
theorem e_X9_isPage_15 {l : Launch} {D : va_G} {dA : Nat → ClassId} {z : Nat} {sa : Nat → Nat} {Hz : Heap} (E : StrOK qLen qCh l D dA z sa Hz) {h0 fin : AH} {x : Int32}  : ∀ (y0 : Int32) (h : AH), p_X9_isPage_15 y0 h = some (x, fin) → GM l D dA z sa Hz q_X9_isPage h0 (some (.int x)) fin 15 [] [.int y0] h := by
  intro y0 h hd
  exact step E (is := I_X9_isPage_15) (pc := 15) (K := k0) (FI := fI0) (FV := fV0) (FL := fL0) (rt := rtZ) (ft := 0) (by exact hd) ok_X9_isPage_15 k0_ok (fI0_ok E) (fV0_ok E) (fL0_ok E) (rtZ_ok rfl)
def I_X9_isPage_14 : List AI := [(.iconst 0, 1, [], 0)]
theorem ok_X9_isPage_14 : vBL MT qLen qCh false q_X9_isPage.2.2.2.2.1 q_X9_isPage.2.2.2.2.2.1 q_X9_isPage.2.2.1 q_X9_isPage.1.cls q_X9_isPage.1.name q_X9_isPage.2.1 15 14 I_X9_isPage_14 = true := by decide +kernel
def p_X9_isPage_14 (h : AH) : Option (Int32 × AH) :=
  p_X9_isPage_15 ((0 : Int32)) h
set_option maxRecDepth 100000 in
theorem e_X9_isPage_14 {l : Launch} {D : va_G} {dA : Nat → ClassId} {z : Nat} {sa : Nat → Nat} {Hz : Heap} (E : StrOK qLen qCh l D dA z sa Hz) {h0 fin : AH} {x : Int32}  : ∀  (h : AH), p_X9_isPage_14 h = some (x, fin) → GM l D dA z sa Hz q_X9_isPage h0 (some (.int x)) fin 14 [] [] h := by
  intro h hd
  exact step E (is := I_X9_isPage_14) (pc := 14) (K := (kx 15 (fun la st h => sI st fun y0 st => sE st (p_X9_isPage_15 y0 h)) k0)) (FI := fI0) (FV := fV0) (FL := fL0) (rt := rtZ) (ft := 15) (by exact hd) ok_X9_isPage_14 (kx_ok (fun la st h e => by obtain ⟨y0, _, rfl, e1⟩ := sI_inv e; obtain ⟨rfl, ez⟩ := sE_inv e1; exact gm_fewer (e_X9_isPage_15 E  y0 h ez) mem_nil) k0_ok) (fI0_ok E) (fV0_ok E) (fL0_ok E) (rtZ_ok rfl)
def I_X9_isPage_0 : List AI := [(.iload_n 0, 1, [], 0), (.ifCond .lt 13, 3, [14], 0), (.iload_n 0, 1, [], 0), (.bipush 64, 2, [], 64), (.if_icmp .ge 7, 3, [14], 0), (.iconst 1, 1, [], 1), (.goto 4, 3, [15], 0)]
theorem ok_X9_isPage_0 : vBL MT qLen qCh false q_X9_isPage.2.2.2.2.1 q_X9_isPage.2.2.2.2.2.1 q_X9_isPage.2.2.1 q_X9_isPage.1.cls q_X9_isPage.1.name q_X9_isPage.2.1 0 0 I_X9_isPage_0 = true := by decide +kernel
def p_X9_isPage (x0 : Int32) (h : AH) : Option (Int32 × AH) :=
  if x0 < 0 then (p_X9_isPage_14 h)
  else
  if x0 < ((64 : Int32)) then (p_X9_isPage_15 ((1 : Int32)) h)
  else
  p_X9_isPage_14 h
set_option maxRecDepth 100000 in
theorem e_X9_isPage_0 {l : Launch} {D : va_G} {dA : Nat → ClassId} {z : Nat} {sa : Nat → Nat} {Hz : Heap} (E : StrOK qLen qCh l D dA z sa Hz) {h0 fin : AH} {x : Int32}  : ∀ (x0 : Int32) (h : AH), p_X9_isPage x0 h = some (x, fin) → GM l D dA z sa Hz q_X9_isPage h0 (some (.int x)) fin 0 [(0, .int x0)] [] h := by
  intro x0 h hd
  exact step E (is := I_X9_isPage_0) (pc := 0) (K := (kx 14 (fun la st h => sE st (p_X9_isPage_14 h)) (kx 15 (fun la st h => sI st fun y0 st => sE st (p_X9_isPage_15 y0 h)) k0))) (FI := fI0) (FV := fV0) (FL := fL0) (rt := rtZ) (ft := 0) (by exact hd) ok_X9_isPage_0 (kx_ok (fun la st h e => by obtain ⟨rfl, ez⟩ := sE_inv e; exact gm_fewer (e_X9_isPage_14 E   h ez) mem_nil) (kx_ok (fun la st h e => by obtain ⟨y0, _, rfl, e1⟩ := sI_inv e; obtain ⟨rfl, ez⟩ := sE_inv e1; exact gm_fewer (e_X9_isPage_15 E  y0 h ez) mem_nil) k0_ok)) (fI0_ok E) (fV0_ok E) (fL0_ok E) (rtZ_ok rfl)
theorem c_X9_isPage {l : Launch} {D : va_G} {dA : Nat → ClassId} {z : Nat} {sa : Nat → Nat} {Hz : Heap} (E : StrOK qLen qCh l D dA z sa Hz) {x0 : Int32} {h fin : AH} {x : Int32} (hd : p_X9_isPage x0 h = some (x, fin)) : CalOK l D dA z sa Hz q_X9_isPage [.int x0] h (some (.int x)) fin := calOf (by decide +kernel) (Nat.le_of_ble_eq_true rfl) (e_X9_isPage_0 E x0 h hd)
