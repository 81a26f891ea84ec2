/-! ===== methods 75 to 99 ===== -/
def FI_X1_frameTold : Nat → List Value → AH → Option (Int32 × AH) := (cx 56 (fun As h => sR As fun a0 As => sI As fun x1 As => sI As fun x2 As => sE As (p_X1_wordAt a0 x1 x2 h)) (cx 60 (fun As h => sI As fun x0 As => sI As fun x1 As => sE As (p_X7_has x0 x1 h)) (cx 74 (fun As h => sI As fun x0 As => sE As (p_X1_firstOfLarge x0 h)) (cx 72 (fun As h => sI As fun x0 As => sE As (p_X7_frameIn x0 h)) fI0))))
theorem FI_X1_frameTold_ok {l : Launch} {D : va_G} {dA : Nat → ClassId} {z : Nat} {sa : Nat → Nat} {Hz : Heap} (E : StrOK qLen qCh l D dA z sa Hz) : ∀ mi As h x h', FI_X1_frameTold mi As h = some (x, h') → CalOK l D dA z sa Hz (MT mi) As h (some (.int x)) h' := (cxI_ok (fun As h x h2 e => by obtain ⟨_, _, rfl, e0⟩ := sR_inv e; obtain ⟨_, _, rfl, e1⟩ := sI_inv e0; obtain ⟨_, _, rfl, e2⟩ := sI_inv e1; obtain ⟨rfl, ez⟩ := sE_inv e2; exact c_X1_wordAt E ez) ((cxI_ok (fun As h x h2 e => by obtain ⟨_, _, rfl, e0⟩ := sI_inv e; obtain ⟨_, _, rfl, e1⟩ := sI_inv e0; obtain ⟨rfl, ez⟩ := sE_inv e1; exact c_X7_has E ez) ((cxI_ok (fun As h x h2 e => by obtain ⟨_, _, rfl, e0⟩ := sI_inv e; obtain ⟨rfl, ez⟩ := sE_inv e0; exact c_X1_firstOfLarge E ez) ((cxI_ok (fun As h x h2 e => by obtain ⟨_, _, rfl, e0⟩ := sI_inv e; obtain ⟨rfl, ez⟩ := sE_inv e0; exact c_X7_frameIn E ez) (fI0_ok E))))))))
def I_X1_frameTold_32 : List AI := [(.aload_n 0, 1, [], 0), (.iload_n 2, 1, [], 0), (.invokestatic 53, 3, [1, 72, 1, 726], 0), (.iload_n 1, 1, [], 0), (.invokevirtual 50, 3, [1, 56, 3, 0, 699], 0), (.invokestatic 53, 3, [1, 72, 1, 726], 0), (.ireturn, 1, [], 0)]
theorem ok_X1_frameTold_32 : vBL MT qLen qCh false q_X1_frameTold.2.2.2.2.1 q_X1_frameTold.2.2.2.2.2.1 q_X1_frameTold.2.2.1 q_X1_frameTold.1.cls q_X1_frameTold.1.name q_X1_frameTold.2.1 0 32 I_X1_frameTold_32 = true := by decide +kernel
def p_X1_frameTold_32 (a0 : Nat) (x1 : Int32) (x2 : Int32) (h : AH) : Option (Int32 × AH) :=
  (p_X7_frameIn x2 h).bind fun q101 =>
  if (tg q101.2 a0).1 = 0 then ((p_X1_wordAt a0 q101.1 x1 q101.2).bind fun q102 =>
  (p_X7_frameIn q102.1 q102.2).bind fun q103 =>
  some (q103.1, q103.2)) else none
set_option maxRecDepth 100000 in
theorem e_X1_frameTold_32 {l : Launch} {D : va_G} {dA : Nat → ClassId} {z : Nat} {sa : Nat → Nat} {Hz : Heap} (E : StrOK qLen qCh l D dA z sa Hz) {h0 fin : AH} {x : Int32}  : ∀ (a0 : Nat) (x1 : Int32) (x2 : Int32) (h : AH), p_X1_frameTold_32 a0 x1 x2 h = some (x, fin) → GM l D dA z sa Hz q_X1_frameTold h0 (some (.int x)) fin 32 [(0, .ref a0), (1, .int x1), (2, .int x2)] [] h := by
  intro a0 x1 x2 h hd
  exact step E (is := I_X1_frameTold_32) (pc := 32) (K := k0) (FI := FI_X1_frameTold) (FV := fV0) (FL := fL0) (rt := rtI) (ft := 0) (by exact hd) ok_X1_frameTold_32 k0_ok (FI_X1_frameTold_ok E) (fV0_ok E) (fL0_ok E) (rtI_ok rfl)
def I_X1_frameTold_0 : List AI := [(.aload_n 0, 1, [], 0), (.aload_n 0, 1, [], 0), (.getfield 25, 3, [0, 4, 0, 194], 0), (.iload_n 1, 1, [], 0), (.bipush 8, 2, [], 8), (.idiv, 1, [], 0), (.invokevirtual 50, 3, [1, 56, 3, 0, 699], 0), (.istore_n 2, 1, [], 0), (.iload_n 2, 1, [], 0), (.bipush 32, 2, [], 32), (.invokestatic 42, 3, [1, 60, 2, 677], 0), (.ifCond .eq 13, 3, [32], 0), (.iload_n 2, 1, [], 0), (.invokestatic 57, 3, [1, 74, 1, 733], 0), (.iload_n 1, 1, [], 0), (.bipush 8, 2, [], 8), (.irem, 1, [], 0), (.iadd, 1, [], 0), (.ireturn, 1, [], 0)]
theorem ok_X1_frameTold_0 : vBL MT qLen qCh false q_X1_frameTold.2.2.2.2.1 q_X1_frameTold.2.2.2.2.2.1 q_X1_frameTold.2.2.1 q_X1_frameTold.1.cls q_X1_frameTold.1.name q_X1_frameTold.2.1 0 0 I_X1_frameTold_0 = true := by decide +kernel
def p_X1_frameTold (a0 : Nat) (x1 : Int32) (h : AH) : Option (Int32 × AH) :=
  if (tg h a0).1 = 0 then (if ((8 : Int32)) = 0 then none else
  if (tg h a0).1 = 0 then ((p_X1_wordAt a0 (rI h a0 4) (x1 / ((8 : Int32))) h).bind fun q104 =>
  (p_X7_has q104.1 ((32 : Int32)) q104.2).bind fun q105 =>
  if q105.1 = 0 then ((p_X7_frameIn q104.1 q105.2).bind fun q106 =>
  if (tg q106.2 a0).1 = 0 then ((p_X1_wordAt a0 q106.1 x1 q106.2).bind fun q107 =>
  (p_X7_frameIn q107.1 q107.2).bind fun q108 =>
  some (q108.1, q108.2)) else none)
  else
  (p_X1_firstOfLarge q104.1 q105.2).bind fun q109 =>
  if ((8 : Int32)) = 0 then none else
  some ((q109.1 + (irm x1 ((8 : Int32)))), q109.2)) else none) else none
set_option maxRecDepth 100000 in
theorem e_X1_frameTold_0 {l : Launch} {D : va_G} {dA : Nat → ClassId} {z : Nat} {sa : Nat → Nat} {Hz : Heap} (E : StrOK qLen qCh l D dA z sa Hz) {h0 fin : AH} {x : Int32}  : ∀ (a0 : Nat) (x1 : Int32) (h : AH), p_X1_frameTold a0 x1 h = some (x, fin) → GM l D dA z sa Hz q_X1_frameTold h0 (some (.int x)) fin 0 [(0, .ref a0), (1, .int x1)] [] h := by
  intro a0 x1 h hd
  exact step E (is := I_X1_frameTold_0) (pc := 0) (K := (kx 32 (fun la st h => gR la 0 fun a0 => gI la 1 fun x1 => gI la 2 fun x2 => sE st (p_X1_frameTold_32 a0 x1 x2 h)) k0)) (FI := FI_X1_frameTold) (FV := fV0) (FL := fL0) (rt := rtI) (ft := 0) (by exact hd) ok_X1_frameTold_0 (kx_ok (fun la st h e => by obtain ⟨a0, m_a0, e1⟩ := gR_inv e; obtain ⟨x1, m_x1, e2⟩ := gI_inv e1; obtain ⟨x2, m_x2, e3⟩ := gI_inv e2; obtain ⟨rfl, ez⟩ := sE_inv e3; exact gm_fewer (e_X1_frameTold_32 E  a0 x1 x2 h ez) (mem_cons m_a0 (mem_cons m_x1 (mem_cons m_x2 mem_nil)))) k0_ok) (FI_X1_frameTold_ok E) (fV0_ok E) (fL0_ok E) (rtI_ok rfl)
theorem c_X1_frameTold {l : Launch} {D : va_G} {dA : Nat → ClassId} {z : Nat} {sa : Nat → Nat} {Hz : Heap} (E : StrOK qLen qCh l D dA z sa Hz) {a0 : Nat} {x1 : Int32} {h fin : AH} {x : Int32} (hd : p_X1_frameTold a0 x1 h = some (x, fin)) : CalOK l D dA z sa Hz q_X1_frameTold [.ref a0, .int x1] h (some (.int x)) fin := calOf (by decide +kernel) (Nat.le_of_ble_eq_true rfl) (e_X1_frameTold_0 E a0 x1 h hd)
def FI_X1_seek : Nat → List Value → AH → Option (Int32 × AH) := (cx 70 (fun As h => sR As fun a0 As => sI As fun x1 As => sE As (p_X1_upperWord a0 x1 h)) (cx 71 (fun As h => sI As fun x0 As => sI As fun x1 As => sE As (p_X1_barOf x0 x1 h)) (cx 60 (fun As h => sI As fun x0 As => sI As fun x1 As => sE As (p_X7_has x0 x1 h)) (cx 73 (fun As h => sR As fun a0 As => sI As fun x1 As => sE As (p_X1_lastWord a0 x1 h)) (cx 75 (fun As h => sR As fun a0 As => sI As fun x1 As => sE As (p_X1_frameTold a0 x1 h)) (cx 22 (fun As h => sR As fun a0 As => sI As fun x1 As => sE As (p_X1_isBacked a0 x1 h)) (cx 61 (fun As h => sR As fun a0 As => sI As fun x1 As => sE As (p_X1_isWritable a0 x1 h)) (cx 58 (fun As h => sR As fun a0 As => sI As fun x1 As => sE As (p_X1_hostOf a0 x1 h)) fI0))))))))
theorem FI_X1_seek_ok {l : Launch} {D : va_G} {dA : Nat → ClassId} {z : Nat} {sa : Nat → Nat} {Hz : Heap} (E : StrOK qLen qCh l D dA z sa Hz) : ∀ mi As h x h', FI_X1_seek mi As h = some (x, h') → CalOK l D dA z sa Hz (MT mi) As h (some (.int x)) h' := (cxI_ok (fun As h x h2 e => by obtain ⟨_, _, rfl, e0⟩ := sR_inv e; obtain ⟨_, _, rfl, e1⟩ := sI_inv e0; obtain ⟨rfl, ez⟩ := sE_inv e1; exact c_X1_upperWord E ez) ((cxI_ok (fun As h x h2 e => by obtain ⟨_, _, rfl, e0⟩ := sI_inv e; obtain ⟨_, _, rfl, e1⟩ := sI_inv e0; obtain ⟨rfl, ez⟩ := sE_inv e1; exact c_X1_barOf E ez) ((cxI_ok (fun As h x h2 e => by obtain ⟨_, _, rfl, e0⟩ := sI_inv e; obtain ⟨_, _, rfl, e1⟩ := sI_inv e0; obtain ⟨rfl, ez⟩ := sE_inv e1; exact c_X7_has E ez) ((cxI_ok (fun As h x h2 e => by obtain ⟨_, _, rfl, e0⟩ := sR_inv e; obtain ⟨_, _, rfl, e1⟩ := sI_inv e0; obtain ⟨rfl, ez⟩ := sE_inv e1; exact c_X1_lastWord E ez) ((cxI_ok (fun As h x h2 e => by obtain ⟨_, _, rfl, e0⟩ := sR_inv e; obtain ⟨_, _, rfl, e1⟩ := sI_inv e0; obtain ⟨rfl, ez⟩ := sE_inv e1; exact c_X1_frameTold E ez) ((cxI_ok (fun As h x h2 e => by obtain ⟨_, _, rfl, e0⟩ := sR_inv e; obtain ⟨_, _, rfl, e1⟩ := sI_inv e0; obtain ⟨rfl, ez⟩ := sE_inv e1; exact c_X1_isBacked E ez) ((cxI_ok (fun As h x h2 e => by obtain ⟨_, _, rfl, e0⟩ := sR_inv e; obtain ⟨_, _, rfl, e1⟩ := sI_inv e0; obtain ⟨rfl, ez⟩ := sE_inv e1; exact c_X1_isWritable E ez) ((cxI_ok (fun As h x h2 e => by obtain ⟨_, _, rfl, e0⟩ := sR_inv e; obtain ⟨_, _, rfl, e1⟩ := sI_inv e0; obtain ⟨rfl, ez⟩ := sE_inv e1; exact c_X1_hostOf E ez) (fI0_ok E))))))))))))))))
def I_X1_seek_85 : List AI := [(.aload_n 0, 1, [], 0), (.iload 5, 2, [], 0), (.invokevirtual 75, 3, [1, 58, 2, 0, 737], 0), (.ireturn, 1, [], 0)]
theorem ok_X1_seek_85 : vBL MT qLen qCh false q_X1_seek.2.2.2.2.1 q_X1_seek.2.2.2.2.2.1 q_X1_seek.2.2.1 q_X1_seek.1.cls q_X1_seek.1.name q_X1_seek.2.1 0 85 I_X1_seek_85 = true := by decide +kernel
def p_X1_seek_85 (a0 : Nat) (x5 : Int32) (h : AH) : Option (Int32 × AH) :=
  if (tg h a0).1 = 0 then ((p_X1_hostOf a0 x5 h).bind fun q101 =>
  some (q101.1, q101.2)) else none
set_option maxRecDepth 100000 in
theorem e_X1_seek_85 {l : Launch} {D : va_G} {dA : Nat → ClassId} {z : Nat} {sa : Nat → Nat} {Hz : Heap} (E : StrOK qLen qCh l D dA z sa Hz) {h0 fin : AH} {x : Int32}  : ∀ (a0 : Nat) (x5 : Int32) (h : AH), p_X1_seek_85 a0 x5 h = some (x, fin) → GM l D dA z sa Hz q_X1_seek h0 (some (.int x)) fin 85 [(0, .ref a0), (5, .int x5)] [] h := by
  intro a0 x5 h hd
  exact step E (is := I_X1_seek_85) (pc := 85) (K := k0) (FI := FI_X1_seek) (FV := fV0) (FL := fL0) (rt := rtI) (ft := 0) (by exact hd) ok_X1_seek_85 k0_ok (FI_X1_seek_ok E) (fV0_ok E) (fL0_ok E) (rtI_ok rfl)
def I_X1_seek_65 : List AI := [(.iload_n 2, 1, [], 0), (.iconst 1, 1, [], 1), (.invokestatic 42, 3, [1, 60, 2, 677], 0), (.ifCond .eq 15, 3, [85], 0), (.aload_n 0, 1, [], 0), (.iload 5, 2, [], 0), (.invokevirtual 72, 3, [1, 61, 2, 0, 736], 0), (.ifCond .ne 6, 3, [85], 0), (.bipush (-3), 2, [], (-3)), (.ireturn, 1, [], 0)]
theorem ok_X1_seek_65 : vBL MT qLen qCh false q_X1_seek.2.2.2.2.1 q_X1_seek.2.2.2.2.2.1 q_X1_seek.2.2.1 q_X1_seek.1.cls q_X1_seek.1.name q_X1_seek.2.1 0 65 I_X1_seek_65 = true := by decide +kernel
def p_X1_seek_65 (a0 : Nat) (x2 : Int32) (x5 : Int32) (h : AH) : Option (Int32 × AH) :=
  (p_X7_has x2 ((1 : Int32)) h).bind fun q102 =>
  if q102.1 = 0 then (p_X1_seek_85 a0 x5 q102.2)
  else
  if (tg q102.2 a0).1 = 0 then ((p_X1_isWritable a0 x5 q102.2).bind fun q103 =>
  if q103.1 = 0 then (some (((-3 : Int32)), q103.2))
  else
  p_X1_seek_85 a0 x5 q103.2) else none
set_option maxRecDepth 100000 in
theorem e_X1_seek_65 {l : Launch} {D : va_G} {dA : Nat → ClassId} {z : Nat} {sa : Nat → Nat} {Hz : Heap} (E : StrOK qLen qCh l D dA z sa Hz) {h0 fin : AH} {x : Int32}  : ∀ (a0 : Nat) (x2 : Int32) (x5 : Int32) (h : AH), p_X1_seek_65 a0 x2 x5 h = some (x, fin) → GM l D dA z sa Hz q_X1_seek h0 (some (.int x)) fin 65 [(0, .ref a0), (2, .int x2), (5, .int x5)] [] h := by
  intro a0 x2 x5 h hd
  exact step E (is := I_X1_seek_65) (pc := 65) (K := (kx 85 (fun la st h => gR la 0 fun a0 => gI la 5 fun x5 => sE st (p_X1_seek_85 a0 x5 h)) k0)) (FI := FI_X1_seek) (FV := fV0) (FL := fL0) (rt := rtI) (ft := 0) (by exact hd) ok_X1_seek_65 (kx_ok (fun la st h e => by obtain ⟨a0, m_a0, e1⟩ := gR_inv e; obtain ⟨x5, m_x5, e2⟩ := gI_inv e1; obtain ⟨rfl, ez⟩ := sE_inv e2; exact gm_fewer (e_X1_seek_85 E  a0 x5 h ez) (mem_cons m_a0 (mem_cons m_x5 mem_nil))) k0_ok) (FI_X1_seek_ok E) (fV0_ok E) (fL0_ok E) (rtI_ok rfl)
def I_X1_seek_46 : List AI := [(.aload_n 0, 1, [], 0), (.iload_n 1, 1, [], 0), (.invokevirtual 66, 3, [1, 75, 2, 0, 729], 0), (.istore 5, 2, [], 0), (.aload_n 0, 1, [], 0), (.iload 5, 2, [], 0), (.invokevirtual 38, 3, [1, 22, 2, 0, 676], 0), (.ifCond .ne 6, 3, [65], 0), (.bipush (-4), 2, [], (-4)), (.ireturn, 1, [], 0)]
theorem ok_X1_seek_46 : vBL MT qLen qCh false q_X1_seek.2.2.2.2.1 q_X1_seek.2.2.2.2.2.1 q_X1_seek.2.2.1 q_X1_seek.1.cls q_X1_seek.1.name q_X1_seek.2.1 0 46 I_X1_seek_46 = true := by decide +kernel
def p_X1_seek_46 (a0 : Nat) (x1 : Int32) (x2 : Int32) (h : AH) : Option (Int32 × AH) :=
  if (tg h a0).1 = 0 then ((p_X1_frameTold a0 x1 h).bind fun q104 =>
  if (tg q104.2 a0).1 = 0 then ((p_X1_isBacked a0 q104.1 q104.2).bind fun q105 =>
  if q105.1 = 0 then (some (((-4 : Int32)), q105.2))
  else
  (p_X7_has x2 ((1 : Int32)) q105.2).bind fun q106 =>
  if q106.1 = 0 then (p_X1_seek_85 a0 q104.1 q106.2)
  else
  if (tg q106.2 a0).1 = 0 then ((p_X1_isWritable a0 q104.1 q106.2).bind fun q107 =>
  if q107.1 = 0 then (some (((-3 : Int32)), q107.2))
  else
  p_X1_seek_85 a0 q104.1 q107.2) else none) else none) else none
set_option maxRecDepth 100000 in
theorem e_X1_seek_46 {l : Launch} {D : va_G} {dA : Nat → ClassId} {z : Nat} {sa : Nat → Nat} {Hz : Heap} (E : StrOK qLen qCh l D dA z sa Hz) {h0 fin : AH} {x : Int32}  : ∀ (a0 : Nat) (x1 : Int32) (x2 : Int32) (h : AH), p_X1_seek_46 a0 x1 x2 h = some (x, fin) → GM l D dA z sa Hz q_X1_seek h0 (some (.int x)) fin 46 [(0, .ref a0), (1, .int x1), (2, .int x2)] [] h := by
  intro a0 x1 x2 h hd
  exact step E (is := I_X1_seek_46) (pc := 46) (K := (kx 65 (fun la st h => gR la 0 fun a0 => gI la 2 fun x2 => gI la 5 fun x5 => sE st (p_X1_seek_65 a0 x2 x5 h)) k0)) (FI := FI_X1_seek) (FV := fV0) (FL := fL0) (rt := rtI) (ft := 0) (by exact hd) ok_X1_seek_46 (kx_ok (fun la st h e => by obtain ⟨a0, m_a0, e1⟩ := gR_inv e; obtain ⟨x2, m_x2, e2⟩ := gI_inv e1; obtain ⟨x5, m_x5, e3⟩ := gI_inv e2; obtain ⟨rfl, ez⟩ := sE_inv e3; exact gm_fewer (e_X1_seek_65 E  a0 x2 x5 h ez) (mem_cons m_a0 (mem_cons m_x2 (mem_cons m_x5 mem_nil)))) k0_ok) (FI_X1_seek_ok E) (fV0_ok E) (fL0_ok E) (rtI_ok rfl)
def I_X1_seek_38 : List AI := [(.iload 4, 2, [], 0), (.ifCond .eq 6, 3, [46], 0), (.iload 4, 2, [], 0), (.ireturn, 1, [], 0)]
theorem ok_X1_seek_38 : vBL MT qLen qCh false q_X1_seek.2.2.2.2.1 q_X1_seek.2.2.2.2.2.1 q_X1_seek.2.2.1 q_X1_seek.1.cls q_X1_seek.1.name q_X1_seek.2.1 0 38 I_X1_seek_38 = true := by decide +kernel
def p_X1_seek_38 (a0 : Nat) (x1 : Int32) (x2 : Int32) (x4 : Int32) (h : AH) : Option (Int32 × AH) :=
  if x4 = 0 then (if (tg h a0).1 = 0 then ((p_X1_frameTold a0 x1 h).bind fun q108 =>
  if (tg q108.2 a0).1 = 0 then ((p_X1_isBacked a0 q108.1 q108.2).bind fun q109 =>
  if q109.1 = 0 then (some (((-4 : Int32)), q109.2))
  else
  (p_X7_has x2 ((1 : Int32)) q109.2).bind fun q110 =>
  if q110.1 = 0 then (p_X1_seek_85 a0 q108.1 q110.2)
  else
  if (tg q110.2 a0).1 = 0 then ((p_X1_isWritable a0 q108.1 q110.2).bind fun q111 =>
  if q111.1 = 0 then (some (((-3 : Int32)), q111.2))
  else
  p_X1_seek_85 a0 q108.1 q111.2) else none) else none) else none)
  else
  some (x4, h)
set_option maxRecDepth 100000 in
theorem e_X1_seek_38 {l : Launch} {D : va_G} {dA : Nat → ClassId} {z : Nat} {sa : Nat → Nat} {Hz : Heap} (E : StrOK qLen qCh l D dA z sa Hz) {h0 fin : AH} {x : Int32}  : ∀ (a0 : Nat) (x1 : Int32) (x2 : Int32) (x4 : Int32) (h : AH), p_X1_seek_38 a0 x1 x2 x4 h = some (x, fin) → GM l D dA z sa Hz q_X1_seek h0 (some (.int x)) fin 38 [(0, .ref a0), (1, .int x1), (2, .int x2), (4, .int x4)] [] h := by
  intro a0 x1 x2 x4 h hd
  exact step E (is := I_X1_seek_38) (pc := 38) (K := (kx 46 (fun la st h => gR la 0 fun a0 => gI la 1 fun x1 => gI la 2 fun x2 => sE st (p_X1_seek_46 a0 x1 x2 h)) k0)) (FI := FI_X1_seek) (FV := fV0) (FL := fL0) (rt := rtI) (ft := 0) (by exact hd) ok_X1_seek_38 (kx_ok (fun la st h e => by obtain ⟨a0, m_a0, e1⟩ := gR_inv e; obtain ⟨x1, m_x1, e2⟩ := gI_inv e1; obtain ⟨x2, m_x2, e3⟩ := gI_inv e2; obtain ⟨rfl, ez⟩ := sE_inv e3; exact gm_fewer (e_X1_seek_46 E  a0 x1 x2 h ez) (mem_cons m_a0 (mem_cons m_x1 (mem_cons m_x2 mem_nil)))) k0_ok) (FI_X1_seek_ok E) (fV0_ok E) (fL0_ok E) (rtI_ok rfl)
def I_X1_seek_0 : List AI := [(.aload_n 0, 1, [], 0), (.iload_n 1, 1, [], 0), (.invokevirtual 60, 3, [1, 70, 2, 0, 715], 0), (.istore_n 3, 1, [], 0), (.iload_n 3, 1, [], 0), (.iload_n 2, 1, [], 0), (.invokestatic 69, 3, [1, 71, 2, 719], 0), (.istore 4, 2, [], 0), (.iload 4, 2, [], 0), (.ifCond .ne 23, 3, [38], 0), (.iload_n 3, 1, [], 0), (.bipush 32, 2, [], 32), (.invokestatic 42, 3, [1, 60, 2, 677], 0), (.ifCond .ne 14, 3, [38], 0), (.aload_n 0, 1, [], 0), (.iload_n 1, 1, [], 0), (.invokevirtual 63, 3, [1, 73, 2, 0, 722], 0), (.iload_n 2, 1, [], 0), (.invokestatic 69, 3, [1, 71, 2, 719], 0), (.istore 4, 2, [], 0)]
theorem ok_X1_seek_0 : vBL MT qLen qCh false q_X1_seek.2.2.2.2.1 q_X1_seek.2.2.2.2.2.1 q_X1_seek.2.2.1 q_X1_seek.1.cls q_X1_seek.1.name q_X1_seek.2.1 38 0 I_X1_seek_0 = true := by decide +kernel
def p_X1_seek (a0 : Nat) (x1 : Int32) (x2 : Int32) (h : AH) : Option (Int32 × AH) :=
  if (tg h a0).1 = 0 then ((p_X1_upperWord a0 x1 h).bind fun q112 =>
  (p_X1_barOf q112.1 x2 q112.2).bind fun q113 =>
  if q113.1 = 0 then ((p_X7_has q112.1 ((32 : Int32)) q113.2).bind fun q114 =>
  if q114.1 = 0 then (if (tg q114.2 a0).1 = 0 then ((p_X1_lastWord a0 x1 q114.2).bind fun q115 =>
  (p_X1_barOf q115.1 x2 q115.2).bind fun q116 =>
  p_X1_seek_38 a0 x1 x2 q116.1 q116.2) else none)
  else
  p_X1_seek_38 a0 x1 x2 q113.1 q114.2)
  else
  p_X1_seek_38 a0 x1 x2 q113.1 q113.2) else none
set_option maxRecDepth 100000 in
theorem e_X1_seek_0 {l : Launch} {D : va_G} {dA : Nat → ClassId} {z : Nat} {sa : Nat → Nat} {Hz : Heap} (E : StrOK qLen qCh l D dA z sa Hz) {h0 fin : AH} {x : Int32}  : ∀ (a0 : Nat) (x1 : Int32) (x2 : Int32) (h : AH), p_X1_seek a0 x1 x2 h = some (x, fin) → GM l D dA z sa Hz q_X1_seek h0 (some (.int x)) fin 0 [(0, .ref a0), (1, .int x1), (2, .int x2)] [] h := by
  intro a0 x1 x2 h hd
  exact step E (is := I_X1_seek_0) (pc := 0) (K := (kx 38 (fun la st h => gR la 0 fun a0 => gI la 1 fun x1 => gI la 2 fun x2 => gI la 4 fun x4 => sE st (p_X1_seek_38 a0 x1 x2 x4 h)) k0)) (FI := FI_X1_seek) (FV := fV0) (FL := fL0) (rt := rtI) (ft := 38) (by exact hd) ok_X1_seek_0 (kx_ok (fun la st h e => by obtain ⟨a0, m_a0, e1⟩ := gR_inv e; obtain ⟨x1, m_x1, e2⟩ := gI_inv e1; obtain ⟨x2, m_x2, e3⟩ := gI_inv e2; obtain ⟨x4, m_x4, e4⟩ := gI_inv e3; obtain ⟨rfl, ez⟩ := sE_inv e4; exact gm_fewer (e_X1_seek_38 E  a0 x1 x2 x4 h ez) (mem_cons m_a0 (mem_cons m_x1 (mem_cons m_x2 (mem_cons m_x4 mem_nil))))) k0_ok) (FI_X1_seek_ok E) (fV0_ok E) (fL0_ok E) (rtI_ok rfl)
theorem c_X1_seek {l : Launch} {D : va_G} {dA : Nat → ClassId} {z : Nat} {sa : Nat → Nat} {Hz : Heap} (E : StrOK qLen qCh l D dA z sa Hz) {a0 : Nat} {x1 : Int32} {x2 : Int32} {h fin : AH} {x : Int32} (hd : p_X1_seek a0 x1 x2 h = some (x, fin)) : CalOK l D dA z sa Hz q_X1_seek [.ref a0, .int x1, .int x2] h (some (.int x)) fin := calOf (by decide +kernel) (Nat.le_of_ble_eq_true rfl) (e_X1_seek_0 E a0 x1 x2 h hd)
def FI_X7_look : Nat → List Value → AH → Option (Int32 × AH) := (cx 68 (fun As h => sR As fun a0 As => sI As fun x1 As => sE As (p_X7_isPage a0 x1 h)) (cx 9 (fun As h => sR As fun a0 As => sI As fun x1 As => sE As (p_X7_refuse a0 x1 h)) (cx 69 (fun As h => sI As fun x0 As => sI As fun x1 As => sE As (p_X7_mode x0 x1 h)) (cx 76 (fun As h => sR As fun a0 As => sI As fun x1 As => sI As fun x2 As => sE As (p_X1_seek a0 x1 x2 h)) (cx 50 (fun As h => sR As fun a0 As => sI As fun x1 As => sE As (p_X7_answer a0 x1 h)) fI0)))))
theorem FI_X7_look_ok {l : Launch} {D : va_G} {dA : Nat → ClassId} {z : Nat} {sa : Nat → Nat} {Hz : Heap} (E : StrOK qLen qCh l D dA z sa Hz) : ∀ mi As h x h', FI_X7_look mi As h = some (x, h') → CalOK l D dA z sa Hz (MT mi) As h (some (.int x)) h' := (cxI_ok (fun As h x h2 e => by obtain ⟨_, _, rfl, e0⟩ := sR_inv e; obtain ⟨_, _, rfl, e1⟩ := sI_inv e0; obtain ⟨rfl, ez⟩ := sE_inv e1; exact c_X7_isPage E ez) ((cxI_ok (fun As h x h2 e => by obtain ⟨_, _, rfl, e0⟩ := sR_inv e; obtain ⟨_, _, rfl, e1⟩ := sI_inv e0; obtain ⟨rfl, ez⟩ := sE_inv e1; exact c_X7_refuse E ez) ((cxI_ok (fun As h x h2 e => by obtain ⟨_, _, rfl, e0⟩ := sI_inv e; obtain ⟨_, _, rfl, e1⟩ := sI_inv e0; obtain ⟨rfl, ez⟩ := sE_inv e1; exact c_X7_mode E ez) ((cxI_ok (fun As h x h2 e => by obtain ⟨_, _, rfl, e0⟩ := sR_inv e; obtain ⟨_, _, rfl, e1⟩ := sI_inv e0; obtain ⟨_, _, rfl, e2⟩ := sI_inv e1; obtain ⟨rfl, ez⟩ := sE_inv e2; exact c_X1_seek E ez) ((cxI_ok (fun As h x h2 e => by obtain ⟨_, _, rfl, e0⟩ := sR_inv e; obtain ⟨_, _, rfl, e1⟩ := sI_inv e0; obtain ⟨rfl, ez⟩ := sE_inv e1; exact c_X7_answer E ez) (fI0_ok E))))))))))
def I_X7_look_14 : List AI := [(.aload_n 0, 1, [], 0), (.aload_n 0, 1, [], 0), (.getfield 29, 3, [6, 4, 2, 358], 0), (.getfield 87, 3, [1, 1, 2, 321], 0), (.iload_n 1, 1, [], 0), (.iload_n 2, 1, [], 0), (.iload_n 3, 1, [], 0), (.invokestatic 123, 3, [1, 69, 2, 708], 0), (.invokevirtual 127, 3, [1, 76, 3, 0, 711], 0), (.invokevirtual 68, 3, [1, 50, 2, 6, 633], 0), (.ireturn, 1, [], 0)]
theorem ok_X7_look_14 : vBL MT qLen qCh false q_X7_look.2.2.2.2.1 q_X7_look.2.2.2.2.2.1 q_X7_look.2.2.1 q_X7_look.1.cls q_X7_look.1.name q_X7_look.2.1 0 14 I_X7_look_14 = true := by decide +kernel
def p_X7_look_14 (a0 : Nat) (x1 : Int32) (x2 : Int32) (x3 : Int32) (h : AH) : Option (Int32 × AH) :=
  if (tg h a0).1 = 6 then (if (tg h (rR h a0 4)).1 = 1 then ((p_X7_mode x2 x3 h).bind fun q101 =>
  if (tg q101.2 (rR h (rR h a0 4) 1)).1 = 0 then ((p_X1_seek (rR h (rR h a0 4) 1) x1 q101.1 q101.2).bind fun q102 =>
  if (tg q102.2 a0).1 = 6 then ((p_X7_answer a0 q102.1 q102.2).bind fun q103 =>
  some (q103.1, q103.2)) else none) else none) else none) else none
set_option maxRecDepth 100000 in
theorem e_X7_look_14 {l : Launch} {D : va_G} {dA : Nat → ClassId} {z : Nat} {sa : Nat → Nat} {Hz : Heap} (E : StrOK qLen qCh l D dA z sa Hz) {h0 fin : AH} {x : Int32}  : ∀ (a0 : Nat) (x1 : Int32) (x2 : Int32) (x3 : Int32) (h : AH), p_X7_look_14 a0 x1 x2 x3 h = some (x, fin) → GM l D dA z sa Hz q_X7_look h0 (some (.int x)) fin 14 [(0, .ref a0), (1, .int x1), (2, .int x2), (3, .int x3)] [] h := by
  intro a0 x1 x2 x3 h hd
  exact step E (is := I_X7_look_14) (pc := 14) (K := k0) (FI := FI_X7_look) (FV := fV0) (FL := fL0) (rt := rtI) (ft := 0) (by exact hd) ok_X7_look_14 k0_ok (FI_X7_look_ok E) (fV0_ok E) (fL0_ok E) (rtI_ok rfl)
def I_X7_look_0 : List AI := [(.aload_n 0, 1, [], 0), (.iload_n 1, 1, [], 0), (.invokevirtual 120, 3, [1, 68, 2, 6, 704], 0), (.ifCond .ne 9, 3, [14], 0), (.aload_n 0, 1, [], 0), (.iconst 1, 1, [], 1), (.invokevirtual 54, 3, [1, 9, 2, 6, 403], 0), (.ireturn, 1, [], 0)]
theorem ok_X7_look_0 : vBL MT qLen qCh false q_X7_look.2.2.2.2.1 q_X7_look.2.2.2.2.2.1 q_X7_look.2.2.1 q_X7_look.1.cls q_X7_look.1.name q_X7_look.2.1 0 0 I_X7_look_0 = true := by decide +kernel
def p_X7_look (a0 : Nat) (x1 : Int32) (x2 : Int32) (x3 : Int32) (h : AH) : Option (Int32 × AH) :=
  if (tg h a0).1 = 6 then ((p_X7_isPage a0 x1 h).bind fun q104 =>
  if q104.1 = 0 then (if (tg q104.2 a0).1 = 6 then ((p_X7_refuse a0 ((1 : Int32)) q104.2).bind fun q108 =>
  some (q108.1, q108.2)) else none)
  else
  if (tg q104.2 a0).1 = 6 then (if (tg q104.2 (rR q104.2 a0 4)).1 = 1 then ((p_X7_mode x2 x3 q104.2).bind fun q105 =>
  if (tg q105.2 (rR q104.2 (rR q104.2 a0 4) 1)).1 = 0 then ((p_X1_seek (rR q104.2 (rR q104.2 a0 4) 1) x1 q105.1 q105.2).bind fun q106 =>
  if (tg q106.2 a0).1 = 6 then ((p_X7_answer a0 q106.1 q106.2).bind fun q107 =>
  some (q107.1, q107.2)) else none) else none) else none) else none) else none
set_option maxRecDepth 100000 in
theorem e_X7_look_0 {l : Launch} {D : va_G} {dA : Nat → ClassId} {z : Nat} {sa : Nat → Nat} {Hz : Heap} (E : StrOK qLen qCh l D dA z sa Hz) {h0 fin : AH} {x : Int32}  : ∀ (a0 : Nat) (x1 : Int32) (x2 : Int32) (x3 : Int32) (h : AH), p_X7_look a0 x1 x2 x3 h = some (x, fin) → GM l D dA z sa Hz q_X7_look h0 (some (.int x)) fin 0 [(0, .ref a0), (1, .int x1), (2, .int x2), (3, .int x3)] [] h := by
  intro a0 x1 x2 x3 h hd
  exact step E (is := I_X7_look_0) (pc := 0) (K := (kx 14 (fun la st h => gR la 0 fun a0 => gI la 1 fun x1 => gI la 2 fun x2 => gI la 3 fun x3 => sE st (p_X7_look_14 a0 x1 x2 x3 h)) k0)) (FI := FI_X7_look) (FV := fV0) (FL := fL0) (rt := rtI) (ft := 0) (by exact hd) ok_X7_look_0 (kx_ok (fun la st h e => by obtain ⟨a0, m_a0, e1⟩ := gR_inv e; obtain ⟨x1, m_x1, e2⟩ := gI_inv e1; obtain ⟨x2, m_x2, e3⟩ := gI_inv e2; obtain ⟨x3, m_x3, e4⟩ := gI_inv e3; obtain ⟨rfl, ez⟩ := sE_inv e4; exact gm_fewer (e_X7_look_14 E  a0 x1 x2 x3 h ez) (mem_cons m_a0 (mem_cons m_x1 (mem_cons m_x2 (mem_cons m_x3 mem_nil))))) k0_ok) (FI_X7_look_ok E) (fV0_ok E) (fL0_ok E) (rtI_ok rfl)
theorem c_X7_look {l : Launch} {D : va_G} {dA : Nat → ClassId} {z : Nat} {sa : Nat → Nat} {Hz : Heap} (E : StrOK qLen qCh l D dA z sa Hz) {a0 : Nat} {x1 : Int32} {x2 : Int32} {x3 : Int32} {h fin : AH} {x : Int32} (hd : p_X7_look a0 x1 x2 x3 h = some (x, fin)) : CalOK l D dA z sa Hz q_X7_look [.ref a0, .int x1, .int x2, .int x3] h (some (.int x)) fin := calOf (by decide +kernel) (Nat.le_of_ble_eq_true rfl) (e_X7_look_0 E a0 x1 x2 x3 h hd)
def FI_X1_frameBehind : Nat → List Value → AH → Option (Int32 × AH) := (cx 70 (fun As h => sR As fun a0 As => sI As fun x1 As => sE As (p_X1_upperWord a0 x1 h)) (cx 60 (fun As h => sI As fun x0 As => sI As fun x1 As => sE As (p_X7_has x0 x1 h)) (cx 73 (fun As h => sR As fun a0 As => sI As fun x1 As => sE As (p_X1_lastWord a0 x1 h)) (cx 75 (fun As h => sR As fun a0 As => sI As fun x1 As => sE As (p_X1_frameTold a0 x1 h)) fI0))))
theorem FI_X1_frameBehind_ok {l : Launch} {D : va_G} {dA : Nat → ClassId} {z : Nat} {sa : Nat → Nat} {Hz : Heap} (E : StrOK qLen qCh l D dA z sa Hz) : ∀ mi As h x h', FI_X1_frameBehind mi As h = some (x, h') → CalOK l D dA z sa Hz (MT mi) As h (some (.int x)) h' := (cxI_ok (fun As h x h2 e => by obtain ⟨_, _, rfl, e0⟩ := sR_inv e; obtain ⟨_, _, rfl, e1⟩ := sI_inv e0; obtain ⟨rfl, ez⟩ := sE_inv e1; exact c_X1_upperWord E ez) ((cxI_ok (fun As h x h2 e => by obtain ⟨_, _, rfl, e0⟩ := sI_inv e; obtain ⟨_, _, rfl, e1⟩ := sI_inv e0; obtain ⟨rfl, ez⟩ := sE_inv e1; exact c_X7_has E ez) ((cxI_ok (fun As h x h2 e => by obtain ⟨_, _, rfl, e0⟩ := sR_inv e; obtain ⟨_, _, rfl, e1⟩ := sI_inv e0; obtain ⟨rfl, ez⟩ := sE_inv e1; exact c_X1_lastWord E ez) ((cxI_ok (fun As h x h2 e => by obtain ⟨_, _, rfl, e0⟩ := sR_inv e; obtain ⟨_, _, rfl, e1⟩ := sI_inv e0; obtain ⟨rfl, ez⟩ := sE_inv e1; exact c_X1_frameTold E ez) (fI0_ok E))))))))
def I_X1_frameBehind_30 : List AI := [(.bipush (-2), 2, [], (-2)), (.ireturn, 1, [], 0)]
theorem ok_X1_frameBehind_30 : vBL MT qLen qCh false q_X1_frameBehind.2.2.2.2.1 q_X1_frameBehind.2.2.2.2.2.1 q_X1_frameBehind.2.2.1 q_X1_frameBehind.1.cls q_X1_frameBehind.1.name q_X1_frameBehind.2.1 0 30 I_X1_frameBehind_30 = true := by decide +kernel
def p_X1_frameBehind_30 (h : AH) : Option (Int32 × AH) :=
  some (((-2 : Int32)), h)
set_option maxRecDepth 100000 in
theorem e_X1_frameBehind_30 {l : Launch} {D : va_G} {dA : Nat → ClassId} {z : Nat} {sa : Nat → Nat} {Hz : Heap} (E : StrOK qLen qCh l D dA z sa Hz) {h0 fin : AH} {x : Int32}  : ∀  (h : AH), p_X1_frameBehind_30 h = some (x, fin) → GM l D dA z sa Hz q_X1_frameBehind h0 (some (.int x)) fin 30 [] [] h := by
  intro h hd
  exact step E (is := I_X1_frameBehind_30) (pc := 30) (K := k0) (FI := FI_X1_frameBehind) (FV := fV0) (FL := fL0) (rt := rtI) (ft := 0) (by exact hd) ok_X1_frameBehind_30 k0_ok (FI_X1_frameBehind_ok E) (fV0_ok E) (fL0_ok E) (rtI_ok rfl)
def I_X1_frameBehind_0 : List AI := [(.aload_n 0, 1, [], 0), (.iload_n 1, 1, [], 0), (.invokevirtual 60, 3, [1, 70, 2, 0, 715], 0), (.iconst 1, 1, [], 1), (.invokestatic 42, 3, [1, 60, 2, 677], 0), (.ifCond .eq 21, 3, [30], 0), (.aload_n 0, 1, [], 0), (.iload_n 1, 1, [], 0), (.invokevirtual 63, 3, [1, 73, 2, 0, 722], 0), (.iconst 1, 1, [], 1), (.invokestatic 42, 3, [1, 60, 2, 677], 0), (.ifCond .eq 9, 3, [30], 0), (.aload_n 0, 1, [], 0), (.iload_n 1, 1, [], 0), (.invokevirtual 66, 3, [1, 75, 2, 0, 729], 0), (.ireturn, 1, [], 0)]
theorem ok_X1_frameBehind_0 : vBL MT qLen qCh false q_X1_frameBehind.2.2.2.2.1 q_X1_frameBehind.2.2.2.2.2.1 q_X1_frameBehind.2.2.1 q_X1_frameBehind.1.cls q_X1_frameBehind.1.name q_X1_frameBehind.2.1 0 0 I_X1_frameBehind_0 = true := by decide +kernel
def p_X1_frameBehind (a0 : Nat) (x1 : Int32) (h : AH) : Option (Int32 × AH) :=
  if (tg h a0).1 = 0 then ((p_X1_upperWord a0 x1 h).bind fun q101 =>
  (p_X7_has q101.1 ((1 : Int32)) q101.2).bind fun q102 =>
  if q102.1 = 0 then (p_X1_frameBehind_30 q102.2)
  else
  if (tg q102.2 a0).1 = 0 then ((p_X1_lastWord a0 x1 q102.2).bind fun q103 =>
  (p_X7_has q103.1 ((1 : Int32)) q103.2).bind fun q104 =>
  if q104.1 = 0 then (p_X1_frameBehind_30 q104.2)
  else
  if (tg q104.2 a0).1 = 0 then ((p_X1_frameTold a0 x1 q104.2).bind fun q105 =>
  some (q105.1, q105.2)) else none) else none) else none
set_option maxRecDepth 100000 in
theorem e_X1_frameBehind_0 {l : Launch} {D : va_G} {dA : Nat → ClassId} {z : Nat} {sa : Nat → Nat} {Hz : Heap} (E : StrOK qLen qCh l D dA z sa Hz) {h0 fin : AH} {x : Int32}  : ∀ (a0 : Nat) (x1 : Int32) (h : AH), p_X1_frameBehind a0 x1 h = some (x, fin) → GM l D dA z sa Hz q_X1_frameBehind h0 (some (.int x)) fin 0 [(0, .ref a0), (1, .int x1)] [] h := by
  intro a0 x1 h hd
  exact step E (is := I_X1_frameBehind_0) (pc := 0) (K := (kx 30 (fun la st h => sE st (p_X1_frameBehind_30 h)) k0)) (FI := FI_X1_frameBehind) (FV := fV0) (FL := fL0) (rt := rtI) (ft := 0) (by exact hd) ok_X1_frameBehind_0 (kx_ok (fun la st h e => by obtain ⟨rfl, ez⟩ := sE_inv e; exact gm_fewer (e_X1_frameBehind_30 E   h ez) mem_nil) k0_ok) (FI_X1_frameBehind_ok E) (fV0_ok E) (fL0_ok E) (rtI_ok rfl)
theorem c_X1_frameBehind {l : Launch} {D : va_G} {dA : Nat → ClassId} {z : Nat} {sa : Nat → Nat} {Hz : Heap} (E : StrOK qLen qCh l D dA z sa Hz) {a0 : Nat} {x1 : Int32} {h fin : AH} {x : Int32} (hd : p_X1_frameBehind a0 x1 h = some (x, fin)) : CalOK l D dA z sa Hz q_X1_frameBehind [.ref a0, .int x1] h (some (.int x)) fin := calOf (by decide +kernel) (Nat.le_of_ble_eq_true rfl) (e_X1_frameBehind_0 E a0 x1 h hd)
def FI_X7_leads : Nat → List Value → AH → Option (Int32 × AH) := (cx 68 (fun As h => sR As fun a0 As => sI As fun x1 As => sE As (p_X7_isPage a0 x1 h)) (cx 9 (fun As h => sR As fun a0 As => sI As fun x1 As => sE As (p_X7_refuse a0 x1 h)) (cx 78 (fun As h => sR As fun a0 As => sI As fun x1 As => sE As (p_X1_frameBehind a0 x1 h)) (cx 50 (fun As h => sR As fun a0 As => sI As fun x1 As => sE As (p_X7_answer a0 x1 h)) fI0))))
theorem FI_X7_leads_ok {l : Launch} {D : va_G} {dA : Nat → ClassId} {z : Nat} {sa : Nat → Nat} {Hz : Heap} (E : StrOK qLen qCh l D dA z sa Hz) : ∀ mi As h x h', FI_X7_leads mi As h = some (x, h') → CalOK l D dA z sa Hz (MT mi) As h (some (.int x)) h' := (cxI_ok (fun As h x h2 e => by obtain ⟨_, _, rfl, e0⟩ := sR_inv e; obtain ⟨_, _, rfl, e1⟩ := sI_inv e0; obtain ⟨rfl, ez⟩ := sE_inv e1; exact c_X7_isPage E ez) ((cxI_ok (fun As h x h2 e => by obtain ⟨_, _, rfl, e0⟩ := sR_inv e; obtain ⟨_, _, rfl, e1⟩ := sI_inv e0; obtain ⟨rfl, ez⟩ := sE_inv e1; exact c_X7_refuse E ez) ((cxI_ok (fun As h x h2 e => by obtain ⟨_, _, rfl, e0⟩ := sR_inv e; obtain ⟨_, _, rfl, e1⟩ := sI_inv e0; obtain ⟨rfl, ez⟩ := sE_inv e1; exact c_X1_frameBehind E ez) ((cxI_ok (fun As h x h2 e => by obtain ⟨_, _, rfl, e0⟩ := sR_inv e; obtain ⟨_, _, rfl, e1⟩ := sI_inv e0; obtain ⟨rfl, ez⟩ := sE_inv e1; exact c_X7_answer E ez) (fI0_ok E))))))))
def I_X7_leads_14 : List AI := [(.aload_n 0, 1, [], 0), (.aload_n 0, 1, [], 0), (.getfield 29, 3, [6, 4, 2, 358], 0), (.getfield 87, 3, [1, 1, 2, 321], 0), (.iload_n 1, 1, [], 0), (.invokevirtual 130, 3, [1, 78, 2, 0, 742], 0), (.invokevirtual 68, 3, [1, 50, 2, 6, 633], 0), (.ireturn, 1, [], 0)]
theorem ok_X7_leads_14 : vBL MT qLen qCh false q_X7_leads.2.2.2.2.1 q_X7_leads.2.2.2.2.2.1 q_X7_leads.2.2.1 q_X7_leads.1.cls q_X7_leads.1.name q_X7_leads.2.1 0 14 I_X7_leads_14 = true := by decide +kernel
def p_X7_leads_14 (a0 : Nat) (x1 : Int32) (h : AH) : Option (Int32 × AH) :=
  if (tg h a0).1 = 6 then (if (tg h (rR h a0 4)).1 = 1 then (if (tg h (rR h (rR h a0 4) 1)).1 = 0 then ((p_X1_frameBehind (rR h (rR h a0 4) 1) x1 h).bind fun q101 =>
  if (tg q101.2 a0).1 = 6 then ((p_X7_answer a0 q101.1 q101.2).bind fun q102 =>
  some (q102.1, q102.2)) else none) else none) else none) else none
set_option maxRecDepth 100000 in
theorem e_X7_leads_14 {l : Launch} {D : va_G} {dA : Nat → ClassId} {z : Nat} {sa : Nat → Nat} {Hz : Heap} (E : StrOK qLen qCh l D dA z sa Hz) {h0 fin : AH} {x : Int32}  : ∀ (a0 : Nat) (x1 : Int32) (h : AH), p_X7_leads_14 a0 x1 h = some (x, fin) → GM l D dA z sa Hz q_X7_leads h0 (some (.int x)) fin 14 [(0, .ref a0), (1, .int x1)] [] h := by
  intro a0 x1 h hd
  exact step E (is := I_X7_leads_14) (pc := 14) (K := k0) (FI := FI_X7_leads) (FV := fV0) (FL := fL0) (rt := rtI) (ft := 0) (by exact hd) ok_X7_leads_14 k0_ok (FI_X7_leads_ok E) (fV0_ok E) (fL0_ok E) (rtI_ok rfl)
def I_X7_leads_0 : List AI := [(.aload_n 0, 1, [], 0), (.iload_n 1, 1, [], 0), (.invokevirtual 120, 3, [1, 68, 2, 6, 704], 0), (.ifCond .ne 9, 3, [14], 0), (.aload_n 0, 1, [], 0), (.iconst 1, 1, [], 1), (.invokevirtual 54, 3, [1, 9, 2, 6, 403], 0), (.ireturn, 1, [], 0)]
theorem ok_X7_leads_0 : vBL MT qLen qCh false q_X7_leads.2.2.2.2.1 q_X7_leads.2.2.2.2.2.1 q_X7_leads.2.2.1 q_X7_leads.1.cls q_X7_leads.1.name q_X7_leads.2.1 0 0 I_X7_leads_0 = true := by decide +kernel
def p_X7_leads (a0 : Nat) (x1 : Int32) (h : AH) : Option (Int32 × AH) :=
  if (tg h a0).1 = 6 then ((p_X7_isPage a0 x1 h).bind fun q103 =>
  if q103.1 = 0 then (if (tg q103.2 a0).1 = 6 then ((p_X7_refuse a0 ((1 : Int32)) q103.2).bind fun q106 =>
  some (q106.1, q106.2)) else none)
  else
  if (tg q103.2 a0).1 = 6 then (if (tg q103.2 (rR q103.2 a0 4)).1 = 1 then (if (tg q103.2 (rR q103.2 (rR q103.2 a0 4) 1)).1 = 0 then ((p_X1_frameBehind (rR q103.2 (rR q103.2 a0 4) 1) x1 q103.2).bind fun q104 =>
  if (tg q104.2 a0).1 = 6 then ((p_X7_answer a0 q104.1 q104.2).bind fun q105 =>
  some (q105.1, q105.2)) else none) else none) else none) else none) else none
set_option maxRecDepth 100000 in
theorem e_X7_leads_0 {l : Launch} {D : va_G} {dA : Nat → ClassId} {z : Nat} {sa : Nat → Nat} {Hz : Heap} (E : StrOK qLen qCh l D dA z sa Hz) {h0 fin : AH} {x : Int32}  : ∀ (a0 : Nat) (x1 : Int32) (h : AH), p_X7_leads a0 x1 h = some (x, fin) → GM l D dA z sa Hz q_X7_leads h0 (some (.int x)) fin 0 [(0, .ref a0), (1, .int x1)] [] h := by
  intro a0 x1 h hd
  exact step E (is := I_X7_leads_0) (pc := 0) (K := (kx 14 (fun la st h => gR la 0 fun a0 => gI la 1 fun x1 => sE st (p_X7_leads_14 a0 x1 h)) k0)) (FI := FI_X7_leads) (FV := fV0) (FL := fL0) (rt := rtI) (ft := 0) (by exact hd) ok_X7_leads_0 (kx_ok (fun la st h e => by obtain ⟨a0, m_a0, e1⟩ := gR_inv e; obtain ⟨x1, m_x1, e2⟩ := gI_inv e1; obtain ⟨rfl, ez⟩ := sE_inv e2; exact gm_fewer (e_X7_leads_14 E  a0 x1 h ez) (mem_cons m_a0 (mem_cons m_x1 mem_nil))) k0_ok) (FI_X7_leads_ok E) (fV0_ok E) (fL0_ok E) (rtI_ok rfl)
theorem c_X7_leads {l : Launch} {D : va_G} {dA : Nat → ClassId} {z : Nat} {sa : Nat → Nat} {Hz : Heap} (E : StrOK qLen qCh l D dA z sa Hz) {a0 : Nat} {x1 : Int32} {h fin : AH} {x : Int32} (hd : p_X7_leads a0 x1 h = some (x, fin)) : CalOK l D dA z sa Hz q_X7_leads [.ref a0, .int x1] h (some (.int x)) fin := calOf (by decide +kernel) (Nat.le_of_ble_eq_true rfl) (e_X7_leads_0 E a0 x1 h hd)
def FI_X1_modesDone : Nat → List Value → AH → Option (Int32 × AH) := (cx 76 (fun As h => sR As fun a0 As => sI As fun x1 As => sI As fun x2 As => sE As (p_X1_seek a0 x1 x2 h)) fI0)
theorem FI_X1_modesDone_ok {l : Launch} {D : va_G} {dA : Nat → ClassId} {z : Nat} {sa : Nat → Nat} {Hz : Heap} (E : StrOK qLen qCh l D dA z sa Hz) : ∀ mi As h x h', FI_X1_modesDone mi As h = some (x, h') → CalOK l D dA z sa Hz (MT mi) As h (some (.int x)) h' := (cxI_ok (fun As h x h2 e => by obtain ⟨_, _, rfl, e0⟩ := sR_inv e; obtain ⟨_, _, rfl, e1⟩ := sI_inv e0; obtain ⟨_, _, rfl, e2⟩ := sI_inv e1; obtain ⟨rfl, ez⟩ := sE_inv e2; exact c_X1_seek E ez) (fI0_ok E))
def I_X1_modesDone_30 : List AI := [(.iload_n 2, 1, [], 0), (.ireturn, 1, [], 0)]
theorem ok_X1_modesDone_30 : vBL MT qLen qCh false q_X1_modesDone.2.2.2.2.1 q_X1_modesDone.2.2.2.2.2.1 q_X1_modesDone.2.2.1 q_X1_modesDone.1.cls q_X1_modesDone.1.name q_X1_modesDone.2.1 0 30 I_X1_modesDone_30 = true := by decide +kernel
def p_X1_modesDone_30 (x2 : Int32) (h : AH) : Option (Int32 × AH) :=
  some (x2, h)
set_option maxRecDepth 100000 in
theorem e_X1_modesDone_30 {l : Launch} {D : va_G} {dA : Nat → ClassId} {z : Nat} {sa : Nat → Nat} {Hz : Heap} (E : StrOK qLen qCh l D dA z sa Hz) {h0 fin : AH} {x : Int32}  : ∀ (x2 : Int32) (h : AH), p_X1_modesDone_30 x2 h = some (x, fin) → GM l D dA z sa Hz q_X1_modesDone h0 (some (.int x)) fin 30 [(2, .int x2)] [] h := by
  intro x2 h hd
  exact step E (is := I_X1_modesDone_30) (pc := 30) (K := k0) (FI := FI_X1_modesDone) (FV := fV0) (FL := fL0) (rt := rtI) (ft := 0) (by exact hd) ok_X1_modesDone_30 k0_ok (FI_X1_modesDone_ok E) (fV0_ok E) (fL0_ok E) (rtI_ok rfl)
def I_X1_modesDone_24 : List AI := [(.iinc 3 1, 3, [], 1), (.goto (-23), 3, [4], 0)]
theorem ok_X1_modesDone_24 : vBL MT qLen qCh false q_X1_modesDone.2.2.2.2.1 q_X1_modesDone.2.2.2.2.2.1 q_X1_modesDone.2.2.1 q_X1_modesDone.1.cls q_X1_modesDone.1.name q_X1_modesDone.2.1 0 24 I_X1_modesDone_24 = true := by decide +kernel
def p_X1_modesDone_24 (k4 : Nat → Int32 → Int32 → Int32 → AH → Option (Int32 × AH)) (a0 : Nat) (x1 : Int32) (x2 : Int32) (x3 : Int32) (h : AH) : Option (Int32 × AH) :=
  k4 a0 x1 x2 (x3 + (1 : Int32)) h
set_option maxRecDepth 100000 in
theorem e_X1_modesDone_24 {l : Launch} {D : va_G} {dA : Nat → ClassId} {z : Nat} {sa : Nat → Nat} {Hz : Heap} (E : StrOK qLen qCh l D dA z sa Hz) {h0 fin : AH} {x : Int32}  {k4 : Nat → Int32 → Int32 → Int32 → AH → Option (Int32 × AH)} (hk4 : ∀ (a0 : Nat) (x1 : Int32) (x2 : Int32) (x3 : Int32) (h : AH), k4 a0 x1 x2 x3 h = some (x, fin) → GM l D dA z sa Hz q_X1_modesDone h0 (some (.int x)) fin 4 [(0, .ref a0), (1, .int x1), (2, .int x2), (3, .int x3)] [] h) : ∀ (a0 : Nat) (x1 : Int32) (x2 : Int32) (x3 : Int32) (h : AH), p_X1_modesDone_24 k4 a0 x1 x2 x3 h = some (x, fin) → GM l D dA z sa Hz q_X1_modesDone h0 (some (.int x)) fin 24 [(0, .ref a0), (1, .int x1), (2, .int x2), (3, .int x3)] [] h := by
  intro a0 x1 x2 x3 h hd
  exact step E (is := I_X1_modesDone_24) (pc := 24) (K := (kx 4 (fun la st h => gR la 0 fun a0 => gI la 1 fun x1 => gI la 2 fun x2 => gI la 3 fun x3 => sE st (k4 a0 x1 x2 x3 h)) k0)) (FI := FI_X1_modesDone) (FV := fV0) (FL := fL0) (rt := rtI) (ft := 0) (by exact hd) ok_X1_modesDone_24 (kx_ok (fun la st h e => by obtain ⟨a0, m_a0, e1⟩ := gR_inv e; obtain ⟨x1, m_x1, e2⟩ := gI_inv e1; obtain ⟨x2, m_x2, e3⟩ := gI_inv e2; obtain ⟨x3, m_x3, e4⟩ := gI_inv e3; obtain ⟨rfl, ez⟩ := sE_inv e4; exact gm_fewer (hk4 a0 x1 x2 x3 h ez) (mem_cons m_a0 (mem_cons m_x1 (mem_cons m_x2 (mem_cons m_x3 mem_nil))))) k0_ok) (FI_X1_modesDone_ok E) (fV0_ok E) (fL0_ok E) (rtI_ok rfl)
def I_X1_modesDone_4 : List AI := [(.iload_n 3, 1, [], 0), (.iconst 4, 1, [], 4), (.if_icmp .ge 24, 3, [30], 0), (.aload_n 0, 1, [], 0), (.iload_n 1, 1, [], 0), (.iload_n 3, 1, [], 0), (.invokevirtual 78, 3, [1, 76, 3, 0, 754], 0), (.ifCond .lt 9, 3, [24], 0), (.iload_n 2, 1, [], 0), (.iconst 1, 1, [], 1), (.iload_n 3, 1, [], 0), (.ishl, 1, [], 0), (.ior, 1, [], 0), (.istore_n 2, 1, [], 0)]
theorem ok_X1_modesDone_4 : vBL MT qLen qCh false q_X1_modesDone.2.2.2.2.1 q_X1_modesDone.2.2.2.2.2.1 q_X1_modesDone.2.2.1 q_X1_modesDone.1.cls q_X1_modesDone.1.name q_X1_modesDone.2.1 24 4 I_X1_modesDone_4 = true := by decide +kernel
def p_X1_modesDone_4 : Nat → Nat → Int32 → Int32 → Int32 → AH → Option (Int32 × AH)
  | 0, _, _, _, _, _ => none
  | n + 1, a0, x1, x2, x3, h => if x3 < ((4 : Int32)) then (if (tg h a0).1 = 0 then ((p_X1_seek a0 x1 x3 h).bind fun q101 =>
    if q101.1 < 0 then (p_X1_modesDone_24 (p_X1_modesDone_4 n) a0 x1 x2 x3 q101.2)
    else
    let x102 := x2 ||| (((1 : Int32)) <<< (x3 &&& 31))
    p_X1_modesDone_24 (p_X1_modesDone_4 n) a0 x1 x102 x3 q101.2) else none)
    else
    some (x2, h)
set_option maxRecDepth 100000 in
theorem e_X1_modesDone_4 {l : Launch} {D : va_G} {dA : Nat → ClassId} {z : Nat} {sa : Nat → Nat} {Hz : Heap} (E : StrOK qLen qCh l D dA z sa Hz) {h0 fin : AH} {x : Int32}  : ∀ (n : Nat) (a0 : Nat) (x1 : Int32) (x2 : Int32) (x3 : Int32) (h : AH), p_X1_modesDone_4 n a0 x1 x2 x3 h = some (x, fin) → GM l D dA z sa Hz q_X1_modesDone h0 (some (.int x)) fin 4 [(0, .ref a0), (1, .int x1), (2, .int x2), (3, .int x3)] [] h := by
  intro n
  induction n with
  | zero => intro a0 x1 x2 x3 h hd; exact nomatch hd
  | succ n ih =>
    intro a0 x1 x2 x3 h hd
    exact step E (is := I_X1_modesDone_4) (pc := 4) (K := (kx 30 (fun la st h => gI la 2 fun x2 => sE st (p_X1_modesDone_30 x2 h)) (kx 24 (fun la st h => gR la 0 fun a0 => gI la 1 fun x1 => gI la 2 fun x2 => gI la 3 fun x3 => sE st (p_X1_modesDone_24 (p_X1_modesDone_4 n) a0 x1 x2 x3 h)) k0))) (FI := FI_X1_modesDone) (FV := fV0) (FL := fL0) (rt := rtI) (ft := 24) (by exact hd) ok_X1_modesDone_4 (kx_ok (fun la st h e => by obtain ⟨x2, m_x2, e1⟩ := gI_inv e; obtain ⟨rfl, ez⟩ := sE_inv e1; exact gm_fewer (e_X1_modesDone_30 E  x2 h ez) (mem_cons m_x2 mem_nil)) (kx_ok (fun la st h e => by obtain ⟨a0, m_a0, e1⟩ := gR_inv e; obtain ⟨x1, m_x1, e2⟩ := gI_inv e1; obtain ⟨x2, m_x2, e3⟩ := gI_inv e2; obtain ⟨x3, m_x3, e4⟩ := gI_inv e3; obtain ⟨rfl, ez⟩ := sE_inv e4; exact gm_fewer (e_X1_modesDone_24 E ih a0 x1 x2 x3 h ez) (mem_cons m_a0 (mem_cons m_x1 (mem_cons m_x2 (mem_cons m_x3 mem_nil))))) k0_ok)) (FI_X1_modesDone_ok E) (fV0_ok E) (fL0_ok E) (rtI_ok rfl)
def I_X1_modesDone_0 : List AI := [(.iconst 0, 1, [], 0), (.istore_n 2, 1, [], 0), (.iconst 0, 1, [], 0), (.istore_n 3, 1, [], 0)]
theorem ok_X1_modesDone_0 : vBL MT qLen qCh false q_X1_modesDone.2.2.2.2.1 q_X1_modesDone.2.2.2.2.2.1 q_X1_modesDone.2.2.1 q_X1_modesDone.1.cls q_X1_modesDone.1.name q_X1_modesDone.2.1 4 0 I_X1_modesDone_0 = true := by decide +kernel
def p_X1_modesDone (a0 : Nat) (x1 : Int32) (h : AH) : Option (Int32 × AH) :=
  p_X1_modesDone_4 FU a0 x1 ((0 : Int32)) ((0 : Int32)) h
set_option maxRecDepth 100000 in
theorem e_X1_modesDone_0 {l : Launch} {D : va_G} {dA : Nat → ClassId} {z : Nat} {sa : Nat → Nat} {Hz : Heap} (E : StrOK qLen qCh l D dA z sa Hz) {h0 fin : AH} {x : Int32}  : ∀ (a0 : Nat) (x1 : Int32) (h : AH), p_X1_modesDone a0 x1 h = some (x, fin) → GM l D dA z sa Hz q_X1_modesDone h0 (some (.int x)) fin 0 [(0, .ref a0), (1, .int x1)] [] h := by
  intro a0 x1 h hd
  exact step E (is := I_X1_modesDone_0) (pc := 0) (K := (kx 4 (fun la st h => gR la 0 fun a0 => gI la 1 fun x1 => gI la 2 fun x2 => gI la 3 fun x3 => sE st (p_X1_modesDone_4 FU a0 x1 x2 x3 h)) k0)) (FI := FI_X1_modesDone) (FV := fV0) (FL := fL0) (rt := rtI) (ft := 4) (by exact hd) ok_X1_modesDone_0 (kx_ok (fun la st h e => by obtain ⟨a0, m_a0, e1⟩ := gR_inv e; obtain ⟨x1, m_x1, e2⟩ := gI_inv e1; obtain ⟨x2, m_x2, e3⟩ := gI_inv e2; obtain ⟨x3, m_x3, e4⟩ := gI_inv e3; obtain ⟨rfl, ez⟩ := sE_inv e4; exact gm_fewer (e_X1_modesDone_4 E  FU a0 x1 x2 x3 h ez) (mem_cons m_a0 (mem_cons m_x1 (mem_cons m_x2 (mem_cons m_x3 mem_nil))))) k0_ok) (FI_X1_modesDone_ok E) (fV0_ok E) (fL0_ok E) (rtI_ok rfl)
theorem c_X1_modesDone {l : Launch} {D : va_G} {dA : Nat → ClassId} {z : Nat} {sa : Nat → Nat} {Hz : Heap} (E : StrOK qLen qCh l D dA z sa Hz) {a0 : Nat} {x1 : Int32} {h fin : AH} {x : Int32} (hd : p_X1_modesDone a0 x1 h = some (x, fin)) : CalOK l D dA z sa Hz q_X1_modesDone [.ref a0, .int x1] h (some (.int x)) fin := calOf (by decide +kernel) (Nat.le_of_ble_eq_true rfl) (e_X1_modesDone_0 E a0 x1 h hd)
def FI_X7_rights : Nat → List Value → AH → Option (Int32 × AH) := (cx 68 (fun As h => sR As fun a0 As => sI As fun x1 As => sE As (p_X7_isPage a0 x1 h)) (cx 9 (fun As h => sR As fun a0 As => sI As fun x1 As => sE As (p_X7_refuse a0 x1 h)) (cx 80 (fun As h => sR As fun a0 As => sI As fun x1 As => sE As (p_X1_modesDone a0 x1 h)) (cx 50 (fun As h => sR As fun a0 As => sI As fun x1 As => sE As (p_X7_answer a0 x1 h)) fI0))))
theorem FI_X7_rights_ok {l : Launch} {D : va_G} {dA : Nat → ClassId} {z : Nat} {sa : Nat → Nat} {Hz : Heap} (E : StrOK qLen qCh l D dA z sa Hz) : ∀ mi As h x h', FI_X7_rights mi As h = some (x, h') → CalOK l D dA z sa Hz (MT mi) As h (some (.int x)) h' := (cxI_ok (fun As h x h2 e => by obtain ⟨_, _, rfl, e0⟩ := sR_inv e; obtain ⟨_, _, rfl, e1⟩ := sI_inv e0; obtain ⟨rfl, ez⟩ := sE_inv e1; exact c_X7_isPage E ez) ((cxI_ok (fun As h x h2 e => by obtain ⟨_, _, rfl, e0⟩ := sR_inv e; obtain ⟨_, _, rfl, e1⟩ := sI_inv e0; obtain ⟨rfl, ez⟩ := sE_inv e1; exact c_X7_refuse E ez) ((cxI_ok (fun As h x h2 e => by obtain ⟨_, _, rfl, e0⟩ := sR_inv e; obtain ⟨_, _, rfl, e1⟩ := sI_inv e0; obtain ⟨rfl, ez⟩ := sE_inv e1; exact c_X1_modesDone E ez) ((cxI_ok (fun As h x h2 e => by obtain ⟨_, _, rfl, e0⟩ := sR_inv e; obtain ⟨_, _, rfl, e1⟩ := sI_inv e0; obtain ⟨rfl, ez⟩ := sE_inv e1; exact c_X7_answer E ez) (fI0_ok E))))))))
def I_X7_rights_14 : List AI := [(.aload_n 0, 1, [], 0), (.aload_n 0, 1, [], 0), (.getfield 29, 3, [6, 4, 2, 358], 0), (.getfield 87, 3, [1, 1, 2, 321], 0), (.iload_n 1, 1, [], 0), (.invokevirtual 133, 3, [1, 80, 2, 0, 750], 0), (.invokevirtual 68, 3, [1, 50, 2, 6, 633], 0), (.ireturn, 1, [], 0)]
theorem ok_X7_rights_14 : vBL MT qLen qCh false q_X7_rights.2.2.2.2.1 q_X7_rights.2.2.2.2.2.1 q_X7_rights.2.2.1 q_X7_rights.1.cls q_X7_rights.1.name q_X7_rights.2.1 0 14 I_X7_rights_14 = true := by decide +kernel
def p_X7_rights_14 (a0 : Nat) (x1 : Int32) (h : AH) : Option (Int32 × AH) :=
  if (tg h a0).1 = 6 then (if (tg h (rR h a0 4)).1 = 1 then (if (tg h (rR h (rR h a0 4) 1)).1 = 0 then ((p_X1_modesDone (rR h (rR h a0 4) 1) x1 h).bind fun q101 =>
  if (tg q101.2 a0).1 = 6 then ((p_X7_answer a0 q101.1 q101.2).bind fun q102 =>
  some (q102.1, q102.2)) else none) else none) else none) else none
set_option maxRecDepth 100000 in
theorem e_X7_rights_14 {l : Launch} {D : va_G} {dA : Nat → ClassId} {z : Nat} {sa : Nat → Nat} {Hz : Heap} (E : StrOK qLen qCh l D dA z sa Hz) {h0 fin : AH} {x : Int32}  : ∀ (a0 : Nat) (x1 : Int32) (h : AH), p_X7_rights_14 a0 x1 h = some (x, fin) → GM l D dA z sa Hz q_X7_rights h0 (some (.int x)) fin 14 [(0, .ref a0), (1, .int x1)] [] h := by
  intro a0 x1 h hd
  exact step E (is := I_X7_rights_14) (pc := 14) (K := k0) (FI := FI_X7_rights) (FV := fV0) (FL := fL0) (rt := rtI) (ft := 0) (by exact hd) ok_X7_rights_14 k0_ok (FI_X7_rights_ok E) (fV0_ok E) (fL0_ok E) (rtI_ok rfl)
def I_X7_rights_0 : List AI := [(.aload_n 0, 1, [], 0), (.iload_n 1, 1, [], 0), (.invokevirtual 120, 3, [1, 68, 2, 6, 704], 0), (.ifCond .ne 9, 3, [14], 0), (.aload_n 0, 1, [], 0), (.iconst 1, 1, [], 1), (.invokevirtual 54, 3, [1, 9, 2, 6, 403], 0), (.ireturn, 1, [], 0)]
theorem ok_X7_rights_0 : vBL MT qLen qCh false q_X7_rights.2.2.2.2.1 q_X7_rights.2.2.2.2.2.1 q_X7_rights.2.2.1 q_X7_rights.1.cls q_X7_rights.1.name q_X7_rights.2.1 0 0 I_X7_rights_0 = true := by decide +kernel
def p_X7_rights (a0 : Nat) (x1 : Int32) (h : AH) : Option (Int32 × AH) :=
  if (tg h a0).1 = 6 then ((p_X7_isPage a0 x1 h).bind fun q103 =>
  if q103.1 = 0 then (if (tg q103.2 a0).1 = 6 then ((p_X7_refuse a0 ((1 : Int32)) q103.2).bind fun q106 =>
  some (q106.1, q106.2)) else none)
  else
  if (tg q103.2 a0).1 = 6 then (if (tg q103.2 (rR q103.2 a0 4)).1 = 1 then (if (tg q103.2 (rR q103.2 (rR q103.2 a0 4) 1)).1 = 0 then ((p_X1_modesDone (rR q103.2 (rR q103.2 a0 4) 1) x1 q103.2).bind fun q104 =>
  if (tg q104.2 a0).1 = 6 then ((p_X7_answer a0 q104.1 q104.2).bind fun q105 =>
  some (q105.1, q105.2)) else none) else none) else none) else none) else none
set_option maxRecDepth 100000 in
theorem e_X7_rights_0 {l : Launch} {D : va_G} {dA : Nat → ClassId} {z : Nat} {sa : Nat → Nat} {Hz : Heap} (E : StrOK qLen qCh l D dA z sa Hz) {h0 fin : AH} {x : Int32}  : ∀ (a0 : Nat) (x1 : Int32) (h : AH), p_X7_rights a0 x1 h = some (x, fin) → GM l D dA z sa Hz q_X7_rights h0 (some (.int x)) fin 0 [(0, .ref a0), (1, .int x1)] [] h := by
  intro a0 x1 h hd
  exact step E (is := I_X7_rights_0) (pc := 0) (K := (kx 14 (fun la st h => gR la 0 fun a0 => gI la 1 fun x1 => sE st (p_X7_rights_14 a0 x1 h)) k0)) (FI := FI_X7_rights) (FV := fV0) (FL := fL0) (rt := rtI) (ft := 0) (by exact hd) ok_X7_rights_0 (kx_ok (fun la st h e => by obtain ⟨a0, m_a0, e1⟩ := gR_inv e; obtain ⟨x1, m_x1, e2⟩ := gI_inv e1; obtain ⟨rfl, ez⟩ := sE_inv e2; exact gm_fewer (e_X7_rights_14 E  a0 x1 h ez) (mem_cons m_a0 (mem_cons m_x1 mem_nil))) k0_ok) (FI_X7_rights_ok E) (fV0_ok E) (fL0_ok E) (rtI_ok rfl)
theorem c_X7_rights {l : Launch} {D : va_G} {dA : Nat → ClassId} {z : Nat} {sa : Nat → Nat} {Hz : Heap} (E : StrOK qLen qCh l D dA z sa Hz) {a0 : Nat} {x1 : Int32} {h fin : AH} {x : Int32} (hd : p_X7_rights a0 x1 h = some (x, fin)) : CalOK l D dA z sa Hz q_X7_rights [.ref a0, .int x1] h (some (.int x)) fin := calOf (by decide +kernel) (Nat.le_of_ble_eq_true rfl) (e_X7_rights_0 E a0 x1 h hd)
def FI_X7_large : Nat → List Value → AH → Option (Int32 × AH) := (cx 68 (fun As h => sR As fun a0 As => sI As fun x1 As => sE As (p_X7_isPage a0 x1 h)) (cx 9 (fun As h => sR As fun a0 As => sI As fun x1 As => sE As (p_X7_refuse a0 x1 h)) (cx 70 (fun As h => sR As fun a0 As => sI As fun x1 As => sE As (p_X1_upperWord a0 x1 h)) (cx 60 (fun As h => sI As fun x0 As => sI As fun x1 As => sE As (p_X7_has x0 x1 h)) (cx 50 (fun As h => sR As fun a0 As => sI As fun x1 As => sE As (p_X7_answer a0 x1 h)) (cx 62 (fun As h => sI As fun x0 As => sE As (p_X7_bit x0 h)) fI0))))))
theorem FI_X7_large_ok {l : Launch} {D : va_G} {dA : Nat → ClassId} {z : Nat} {sa : Nat → Nat} {Hz : Heap} (E : StrOK qLen qCh l D dA z sa Hz) : ∀ mi As h x h', FI_X7_large mi As h = some (x, h') → CalOK l D dA z sa Hz (MT mi) As h (some (.int x)) h' := (cxI_ok (fun As h x h2 e => by obtain ⟨_, _, rfl, e0⟩ := sR_inv e; obtain ⟨_, _, rfl, e1⟩ := sI_inv e0; obtain ⟨rfl, ez⟩ := sE_inv e1; exact c_X7_isPage E ez) ((cxI_ok (fun As h x h2 e => by obtain ⟨_, _, rfl, e0⟩ := sR_inv e; obtain ⟨_, _, rfl, e1⟩ := sI_inv e0; obtain ⟨rfl, ez⟩ := sE_inv e1; exact c_X7_refuse E ez) ((cxI_ok (fun As h x h2 e => by obtain ⟨_, _, rfl, e0⟩ := sR_inv e; obtain ⟨_, _, rfl, e1⟩ := sI_inv e0; obtain ⟨rfl, ez⟩ := sE_inv e1; exact c_X1_upperWord E ez) ((cxI_ok (fun As h x h2 e => by obtain ⟨_, _, rfl, e0⟩ := sI_inv e; obtain ⟨_, _, rfl, e1⟩ := sI_inv e0; obtain ⟨rfl, ez⟩ := sE_inv e1; exact c_X7_has E ez) ((cxI_ok (fun As h x h2 e => by obtain ⟨_, _, rfl, e0⟩ := sR_inv e; obtain ⟨_, _, rfl, e1⟩ := sI_inv e0; obtain ⟨rfl, ez⟩ := sE_inv e1; exact c_X7_answer E ez) ((cxI_ok (fun As h x h2 e => by obtain ⟨_, _, rfl, e0⟩ := sI_inv e; obtain ⟨rfl, ez⟩ := sE_inv e0; exact c_X7_bit E ez) (fI0_ok E))))))))))))
def I_X7_large_41 : List AI := [(.aload_n 0, 1, [], 0), (.iload_n 2, 1, [], 0), (.bipush 32, 2, [], 32), (.invokestatic 139, 3, [1, 60, 2, 760], 0), (.invokestatic 103, 3, [1, 62, 1, 680], 0), (.invokevirtual 68, 3, [1, 50, 2, 6, 633], 0), (.ireturn, 1, [], 0)]
theorem ok_X7_large_41 : vBL MT qLen qCh false q_X7_large.2.2.2.2.1 q_X7_large.2.2.2.2.2.1 q_X7_large.2.2.1 q_X7_large.1.cls q_X7_large.1.name q_X7_large.2.1 0 41 I_X7_large_41 = true := by decide +kernel
def p_X7_large_41 (a0 : Nat) (x2 : Int32) (h : AH) : Option (Int32 × AH) :=
  (p_X7_has x2 ((32 : Int32)) h).bind fun q101 =>
  (p_X7_bit q101.1 q101.2).bind fun q102 =>
  if (tg q102.2 a0).1 = 6 then ((p_X7_answer a0 q102.1 q102.2).bind fun q103 =>
  some (q103.1, q103.2)) else none
set_option maxRecDepth 100000 in
theorem e_X7_large_41 {l : Launch} {D : va_G} {dA : Nat → ClassId} {z : Nat} {sa : Nat → Nat} {Hz : Heap} (E : StrOK qLen qCh l D dA z sa Hz) {h0 fin : AH} {x : Int32}  : ∀ (a0 : Nat) (x2 : Int32) (h : AH), p_X7_large_41 a0 x2 h = some (x, fin) → GM l D dA z sa Hz q_X7_large h0 (some (.int x)) fin 41 [(0, .ref a0), (2, .int x2)] [] h := by
  intro a0 x2 h hd
  exact step E (is := I_X7_large_41) (pc := 41) (K := k0) (FI := FI_X7_large) (FV := fV0) (FL := fL0) (rt := rtI) (ft := 0) (by exact hd) ok_X7_large_41 k0_ok (FI_X7_large_ok E) (fV0_ok E) (fL0_ok E) (rtI_ok rfl)
def I_X7_large_14 : List AI := [(.aload_n 0, 1, [], 0), (.getfield 29, 3, [6, 4, 2, 358], 0), (.getfield 87, 3, [1, 1, 2, 321], 0), (.iload_n 1, 1, [], 0), (.invokevirtual 136, 3, [1, 70, 2, 0, 759], 0), (.istore_n 2, 1, [], 0), (.iload_n 2, 1, [], 0), (.iconst 1, 1, [], 1), (.invokestatic 139, 3, [1, 60, 2, 760], 0), (.ifCond .ne 10, 3, [41], 0), (.aload_n 0, 1, [], 0), (.bipush (-2), 2, [], (-2)), (.invokevirtual 68, 3, [1, 50, 2, 6, 633], 0), (.ireturn, 1, [], 0)]
theorem ok_X7_large_14 : vBL MT qLen qCh false q_X7_large.2.2.2.2.1 q_X7_large.2.2.2.2.2.1 q_X7_large.2.2.1 q_X7_large.1.cls q_X7_large.1.name q_X7_large.2.1 0 14 I_X7_large_14 = true := by decide +kernel
def p_X7_large_14 (a0 : Nat) (x1 : Int32) (h : AH) : Option (Int32 × AH) :=
  if (tg h a0).1 = 6 then (if (tg h (rR h a0 4)).1 = 1 then (if (tg h (rR h (rR h a0 4) 1)).1 = 0 then ((p_X1_upperWord (rR h (rR h a0 4) 1) x1 h).bind fun q104 =>
  (p_X7_has q104.1 ((1 : Int32)) q104.2).bind fun q105 =>
  if q105.1 = 0 then (if (tg q105.2 a0).1 = 6 then ((p_X7_answer a0 ((-2 : Int32)) q105.2).bind fun q109 =>
  some (q109.1, q109.2)) else none)
  else
  (p_X7_has q104.1 ((32 : Int32)) q105.2).bind fun q106 =>
  (p_X7_bit q106.1 q106.2).bind fun q107 =>
  if (tg q107.2 a0).1 = 6 then ((p_X7_answer a0 q107.1 q107.2).bind fun q108 =>
  some (q108.1, q108.2)) else none) else none) else none) else none
set_option maxRecDepth 100000 in
theorem e_X7_large_14 {l : Launch} {D : va_G} {dA : Nat → ClassId} {z : Nat} {sa : Nat → Nat} {Hz : Heap} (E : StrOK qLen qCh l D dA z sa Hz) {h0 fin : AH} {x : Int32}  : ∀ (a0 : Nat) (x1 : Int32) (h : AH), p_X7_large_14 a0 x1 h = some (x, fin) → GM l D dA z sa Hz q_X7_large h0 (some (.int x)) fin 14 [(0, .ref a0), (1, .int x1)] [] h := by
  intro a0 x1 h hd
  exact step E (is := I_X7_large_14) (pc := 14) (K := (kx 41 (fun la st h => gR la 0 fun a0 => gI la 2 fun x2 => sE st (p_X7_large_41 a0 x2 h)) k0)) (FI := FI_X7_large) (FV := fV0) (FL := fL0) (rt := rtI) (ft := 0) (by exact hd) ok_X7_large_14 (kx_ok (fun la st h e => by obtain ⟨a0, m_a0, e1⟩ := gR_inv e; obtain ⟨x2, m_x2, e2⟩ := gI_inv e1; obtain ⟨rfl, ez⟩ := sE_inv e2; exact gm_fewer (e_X7_large_41 E  a0 x2 h ez) (mem_cons m_a0 (mem_cons m_x2 mem_nil))) k0_ok) (FI_X7_large_ok E) (fV0_ok E) (fL0_ok E) (rtI_ok rfl)
def I_X7_large_0 : List AI := [(.aload_n 0, 1, [], 0), (.iload_n 1, 1, [], 0), (.invokevirtual 120, 3, [1, 68, 2, 6, 704], 0), (.ifCond .ne 9, 3, [14], 0), (.aload_n 0, 1, [], 0), (.iconst 1, 1, [], 1), (.invokevirtual 54, 3, [1, 9, 2, 6, 403], 0), (.ireturn, 1, [], 0)]
theorem ok_X7_large_0 : vBL MT qLen qCh false q_X7_large.2.2.2.2.1 q_X7_large.2.2.2.2.2.1 q_X7_large.2.2.1 q_X7_large.1.cls q_X7_large.1.name q_X7_large.2.1 0 0 I_X7_large_0 = true := by decide +kernel
def p_X7_large (a0 : Nat) (x1 : Int32) (h : AH) : Option (Int32 × AH) :=
  if (tg h a0).1 = 6 then ((p_X7_isPage a0 x1 h).bind fun q110 =>
  if q110.1 = 0 then (if (tg q110.2 a0).1 = 6 then ((p_X7_refuse a0 ((1 : Int32)) q110.2).bind fun q117 =>
  some (q117.1, q117.2)) else none)
  else
  if (tg q110.2 a0).1 = 6 then (if (tg q110.2 (rR q110.2 a0 4)).1 = 1 then (if (tg q110.2 (rR q110.2 (rR q110.2 a0 4) 1)).1 = 0 then ((p_X1_upperWord (rR q110.2 (rR q110.2 a0 4) 1) x1 q110.2).bind fun q111 =>
  (p_X7_has q111.1 ((1 : Int32)) q111.2).bind fun q112 =>
  if q112.1 = 0 then (if (tg q112.2 a0).1 = 6 then ((p_X7_answer a0 ((-2 : Int32)) q112.2).bind fun q116 =>
  some (q116.1, q116.2)) else none)
  else
  (p_X7_has q111.1 ((32 : Int32)) q112.2).bind fun q113 =>
  (p_X7_bit q113.1 q113.2).bind fun q114 =>
  if (tg q114.2 a0).1 = 6 then ((p_X7_answer a0 q114.1 q114.2).bind fun q115 =>
  some (q115.1, q115.2)) else none) else none) else none) else none) else none
set_option maxRecDepth 100000 in
theorem e_X7_large_0 {l : Launch} {D : va_G} {dA : Nat → ClassId} {z : Nat} {sa : Nat → Nat} {Hz : Heap} (E : StrOK qLen qCh l D dA z sa Hz) {h0 fin : AH} {x : Int32}  : ∀ (a0 : Nat) (x1 : Int32) (h : AH), p_X7_large a0 x1 h = some (x, fin) → GM l D dA z sa Hz q_X7_large h0 (some (.int x)) fin 0 [(0, .ref a0), (1, .int x1)] [] h := by
  intro a0 x1 h hd
  exact step E (is := I_X7_large_0) (pc := 0) (K := (kx 14 (fun la st h => gR la 0 fun a0 => gI la 1 fun x1 => sE st (p_X7_large_14 a0 x1 h)) k0)) (FI := FI_X7_large) (FV := fV0) (FL := fL0) (rt := rtI) (ft := 0) (by exact hd) ok_X7_large_0 (kx_ok (fun la st h e => by obtain ⟨a0, m_a0, e1⟩ := gR_inv e; obtain ⟨x1, m_x1, e2⟩ := gI_inv e1; obtain ⟨rfl, ez⟩ := sE_inv e2; exact gm_fewer (e_X7_large_14 E  a0 x1 h ez) (mem_cons m_a0 (mem_cons m_x1 mem_nil))) k0_ok) (FI_X7_large_ok E) (fV0_ok E) (fL0_ok E) (rtI_ok rfl)
theorem c_X7_large {l : Launch} {D : va_G} {dA : Nat → ClassId} {z : Nat} {sa : Nat → Nat} {Hz : Heap} (E : StrOK qLen qCh l D dA z sa Hz) {a0 : Nat} {x1 : Int32} {h fin : AH} {x : Int32} (hd : p_X7_large a0 x1 h = some (x, fin)) : CalOK l D dA z sa Hz q_X7_large [.ref a0, .int x1] h (some (.int x)) fin := calOf (by decide +kernel) (Nat.le_of_ble_eq_true rfl) (e_X7_large_0 E a0 x1 h hd)
def FI_X1_pagesTo : Nat → List Value → AH → Option (Int32 × AH) := (cx 78 (fun As h => sR As fun a0 As => sI As fun x1 As => sE As (p_X1_frameBehind a0 x1 h)) (cx 62 (fun As h => sI As fun x0 As => sE As (p_X7_bit x0 h)) fI0))
theorem FI_X1_pagesTo_ok {l : Launch} {D : va_G} {dA : Nat → ClassId} {z : Nat} {sa : Nat → Nat} {Hz : Heap} (E : StrOK qLen qCh l D dA z sa Hz) : ∀ mi As h x h', FI_X1_pagesTo mi As h = some (x, h') → CalOK l D dA z sa Hz (MT mi) As h (some (.int x)) h' := (cxI_ok (fun As h x h2 e => by obtain ⟨_, _, rfl, e0⟩ := sR_inv e; obtain ⟨_, _, rfl, e1⟩ := sI_inv e0; obtain ⟨rfl, ez⟩ := sE_inv e1; exact c_X1_frameBehind E ez) ((cxI_ok (fun As h x h2 e => by obtain ⟨_, _, rfl, e0⟩ := sI_inv e; obtain ⟨rfl, ez⟩ := sE_inv e0; exact c_X7_bit E ez) (fI0_ok E))))
def I_X1_pagesTo_36 : List AI := [(.iload_n 2, 1, [], 0), (.ireturn, 1, [], 0)]
theorem ok_X1_pagesTo_36 : vBL MT qLen qCh false q_X1_pagesTo.2.2.2.2.1 q_X1_pagesTo.2.2.2.2.2.1 q_X1_pagesTo.2.2.1 q_X1_pagesTo.1.cls q_X1_pagesTo.1.name q_X1_pagesTo.2.1 0 36 I_X1_pagesTo_36 = true := by decide +kernel
def p_X1_pagesTo_36 (x2 : Int32) (h : AH) : Option (Int32 × AH) :=
  some (x2, h)
set_option maxRecDepth 100000 in
theorem e_X1_pagesTo_36 {l : Launch} {D : va_G} {dA : Nat → ClassId} {z : Nat} {sa : Nat → Nat} {Hz : Heap} (E : StrOK qLen qCh l D dA z sa Hz) {h0 fin : AH} {x : Int32}  : ∀ (x2 : Int32) (h : AH), p_X1_pagesTo_36 x2 h = some (x, fin) → GM l D dA z sa Hz q_X1_pagesTo h0 (some (.int x)) fin 36 [(2, .int x2)] [] h := by
  intro x2 h hd
  exact step E (is := I_X1_pagesTo_36) (pc := 36) (K := k0) (FI := FI_X1_pagesTo) (FV := fV0) (FL := fL0) (rt := rtI) (ft := 0) (by exact hd) ok_X1_pagesTo_36 k0_ok (FI_X1_pagesTo_ok E) (fV0_ok E) (fL0_ok E) (rtI_ok rfl)
def I_X1_pagesTo_25 : List AI := [(.invokestatic 46, 3, [1, 62, 1, 770], 0), (.iadd, 1, [], 0), (.istore_n 2, 1, [], 0), (.iinc 3 1, 3, [], 1), (.goto (-29), 3, [4], 0)]
theorem ok_X1_pagesTo_25 : vBL MT qLen qCh false q_X1_pagesTo.2.2.2.2.1 q_X1_pagesTo.2.2.2.2.2.1 q_X1_pagesTo.2.2.1 q_X1_pagesTo.1.cls q_X1_pagesTo.1.name q_X1_pagesTo.2.1 0 25 I_X1_pagesTo_25 = true := by decide +kernel
def p_X1_pagesTo_25 (k4 : Nat → Int32 → Int32 → Int32 → AH → Option (Int32 × AH)) (a0 : Nat) (x1 : Int32) (x3 : Int32) (y0 : Int32) (y1 : Int32) (h : AH) : Option (Int32 × AH) :=
  (p_X7_bit y0 h).bind fun q101 =>
  let x102 := y1 + q101.1
  k4 a0 x1 x102 (x3 + (1 : Int32)) q101.2
set_option maxRecDepth 100000 in
theorem e_X1_pagesTo_25 {l : Launch} {D : va_G} {dA : Nat → ClassId} {z : Nat} {sa : Nat → Nat} {Hz : Heap} (E : StrOK qLen qCh l D dA z sa Hz) {h0 fin : AH} {x : Int32}  {k4 : Nat → Int32 → Int32 → Int32 → AH → Option (Int32 × AH)} (hk4 : ∀ (a0 : Nat) (x1 : Int32) (x2 : Int32) (x3 : Int32) (h : AH), k4 a0 x1 x2 x3 h = some (x, fin) → GM l D dA z sa Hz q_X1_pagesTo h0 (some (.int x)) fin 4 [(0, .ref a0), (1, .int x1), (2, .int x2), (3, .int x3)] [] h) : ∀ (a0 : Nat) (x1 : Int32) (x3 : Int32) (y0 : Int32) (y1 : Int32) (h : AH), p_X1_pagesTo_25 k4 a0 x1 x3 y0 y1 h = some (x, fin) → GM l D dA z sa Hz q_X1_pagesTo h0 (some (.int x)) fin 25 [(0, .ref a0), (1, .int x1), (3, .int x3)] [.int y0, .int y1] h := by
  intro a0 x1 x3 y0 y1 h hd
  exact step E (is := I_X1_pagesTo_25) (pc := 25) (K := (kx 4 (fun la st h => gR la 0 fun a0 => gI la 1 fun x1 => gI la 2 fun x2 => gI la 3 fun x3 => sE st (k4 a0 x1 x2 x3 h)) k0)) (FI := FI_X1_pagesTo) (FV := fV0) (FL := fL0) (rt := rtI) (ft := 0) (by exact hd) ok_X1_pagesTo_25 (kx_ok (fun la st h e => by obtain ⟨a0, m_a0, e1⟩ := gR_inv e; obtain ⟨x1, m_x1, e2⟩ := gI_inv e1; obtain ⟨x2, m_x2, e3⟩ := gI_inv e2; obtain ⟨x3, m_x3, e4⟩ := gI_inv e3; obtain ⟨rfl, ez⟩ := sE_inv e4; exact gm_fewer (hk4 a0 x1 x2 x3 h ez) (mem_cons m_a0 (mem_cons m_x1 (mem_cons m_x2 (mem_cons m_x3 mem_nil))))) k0_ok) (FI_X1_pagesTo_ok E) (fV0_ok E) (fL0_ok E) (rtI_ok rfl)
def I_X1_pagesTo_24 : List AI := [(.iconst 0, 1, [], 0)]
theorem ok_X1_pagesTo_24 : vBL MT qLen qCh false q_X1_pagesTo.2.2.2.2.1 q_X1_pagesTo.2.2.2.2.2.1 q_X1_pagesTo.2.2.1 q_X1_pagesTo.1.cls q_X1_pagesTo.1.name q_X1_pagesTo.2.1 25 24 I_X1_pagesTo_24 = true := by decide +kernel
def p_X1_pagesTo_24 (k4 : Nat → Int32 → Int32 → Int32 → AH → Option (Int32 × AH)) (a0 : Nat) (x1 : Int32) (x3 : Int32) (y0 : Int32) (h : AH) : Option (Int32 × AH) :=
  p_X1_pagesTo_25 k4 a0 x1 x3 ((0 : Int32)) y0 h
set_option maxRecDepth 100000 in
theorem e_X1_pagesTo_24 {l : Launch} {D : va_G} {dA : Nat → ClassId} {z : Nat} {sa : Nat → Nat} {Hz : Heap} (E : StrOK qLen qCh l D dA z sa Hz) {h0 fin : AH} {x : Int32}  {k4 : Nat → Int32 → Int32 → Int32 → AH → Option (Int32 × AH)} (hk4 : ∀ (a0 : Nat) (x1 : Int32) (x2 : Int32) (x3 : Int32) (h : AH), k4 a0 x1 x2 x3 h = some (x, fin) → GM l D dA z sa Hz q_X1_pagesTo h0 (some (.int x)) fin 4 [(0, .ref a0), (1, .int x1), (2, .int x2), (3, .int x3)] [] h) : ∀ (a0 : Nat) (x1 : Int32) (x3 : Int32) (y0 : Int32) (h : AH), p_X1_pagesTo_24 k4 a0 x1 x3 y0 h = some (x, fin) → GM l D dA z sa Hz q_X1_pagesTo h0 (some (.int x)) fin 24 [(0, .ref a0), (1, .int x1), (3, .int x3)] [.int y0] h := by
  intro a0 x1 x3 y0 h hd
  exact step E (is := I_X1_pagesTo_24) (pc := 24) (K := (kx 25 (fun la st h => gR la 0 fun a0 => gI la 1 fun x1 => gI la 3 fun x3 => sI st fun y0 st => sI st fun y1 st => sE st (p_X1_pagesTo_25 k4 a0 x1 x3 y0 y1 h)) k0)) (FI := FI_X1_pagesTo) (FV := fV0) (FL := fL0) (rt := rtI) (ft := 25) (by exact hd) ok_X1_pagesTo_24 (kx_ok (fun la st h e => by obtain ⟨a0, m_a0, e1⟩ := gR_inv e; obtain ⟨x1, m_x1, e2⟩ := gI_inv e1; obtain ⟨x3, m_x3, e3⟩ := gI_inv e2; obtain ⟨y0, _, rfl, e4⟩ := sI_inv e3; obtain ⟨y1, _, rfl, e5⟩ := sI_inv e4; obtain ⟨rfl, ez⟩ := sE_inv e5; exact gm_fewer (e_X1_pagesTo_25 E hk4 a0 x1 x3 y0 y1 h ez) (mem_cons m_a0 (mem_cons m_x1 (mem_cons m_x3 mem_nil)))) k0_ok) (FI_X1_pagesTo_ok E) (fV0_ok E) (fL0_ok E) (rtI_ok rfl)
def I_X1_pagesTo_4 : List AI := [(.iload_n 3, 1, [], 0), (.bipush 64, 2, [], 64), (.if_icmp .ge 29, 3, [36], 0), (.iload_n 2, 1, [], 0), (.aload_n 0, 1, [], 0), (.iload_n 3, 1, [], 0), (.invokevirtual 81, 3, [1, 78, 2, 0, 769], 0), (.iload_n 1, 1, [], 0), (.if_icmp .ne 7, 3, [24], 0), (.iconst 1, 1, [], 1), (.goto 4, 3, [25], 0)]
theorem ok_X1_pagesTo_4 : vBL MT qLen qCh false q_X1_pagesTo.2.2.2.2.1 q_X1_pagesTo.2.2.2.2.2.1 q_X1_pagesTo.2.2.1 q_X1_pagesTo.1.cls q_X1_pagesTo.1.name q_X1_pagesTo.2.1 0 4 I_X1_pagesTo_4 = true := by decide +kernel
def p_X1_pagesTo_4 : Nat → Nat → Int32 → Int32 → Int32 → AH → Option (Int32 × AH)
  | 0, _, _, _, _, _ => none
  | n + 1, a0, x1, x2, x3, h => if x3 < ((64 : Int32)) then (if (tg h a0).1 = 0 then ((p_X1_frameBehind a0 x3 h).bind fun q103 =>
    if q103.1 = x1 then (p_X1_pagesTo_25 (p_X1_pagesTo_4 n) a0 x1 x3 ((1 : Int32)) x2 q103.2)
    else
    p_X1_pagesTo_25 (p_X1_pagesTo_4 n) a0 x1 x3 ((0 : Int32)) x2 q103.2) else none)
    else
    some (x2, h)
set_option maxRecDepth 100000 in
theorem e_X1_pagesTo_4 {l : Launch} {D : va_G} {dA : Nat → ClassId} {z : Nat} {sa : Nat → Nat} {Hz : Heap} (E : StrOK qLen qCh l D dA z sa Hz) {h0 fin : AH} {x : Int32}  : ∀ (n : Nat) (a0 : Nat) (x1 : Int32) (x2 : Int32) (x3 : Int32) (h : AH), p_X1_pagesTo_4 n a0 x1 x2 x3 h = some (x, fin) → GM l D dA z sa Hz q_X1_pagesTo h0 (some (.int x)) fin 4 [(0, .ref a0), (1, .int x1), (2, .int x2), (3, .int x3)] [] h := by
  intro n
  induction n with
  | zero => intro a0 x1 x2 x3 h hd; exact nomatch hd
  | succ n ih =>
    intro a0 x1 x2 x3 h hd
    exact step E (is := I_X1_pagesTo_4) (pc := 4) (K := (kx 36 (fun la st h => gI la 2 fun x2 => sE st (p_X1_pagesTo_36 x2 h)) (kx 24 (fun la st h => gR la 0 fun a0 => gI la 1 fun x1 => gI la 3 fun x3 => sI st fun y0 st => sE st (p_X1_pagesTo_24 (p_X1_pagesTo_4 n) a0 x1 x3 y0 h)) (kx 25 (fun la st h => gR la 0 fun a0 => gI la 1 fun x1 => gI la 3 fun x3 => sI st fun y0 st => sI st fun y1 st => sE st (p_X1_pagesTo_25 (p_X1_pagesTo_4 n) a0 x1 x3 y0 y1 h)) k0)))) (FI := FI_X1_pagesTo) (FV := fV0) (FL := fL0) (rt := rtI) (ft := 0) (by exact hd) ok_X1_pagesTo_4 (kx_ok (fun la st h e => by obtain ⟨x2, m_x2, e1⟩ := gI_inv e; obtain ⟨rfl, ez⟩ := sE_inv e1; exact gm_fewer (e_X1_pagesTo_36 E  x2 h ez) (mem_cons m_x2 mem_nil)) (kx_ok (fun la st h e => by obtain ⟨a0, m_a0, e1⟩ := gR_inv e; obtain ⟨x1, m_x1, e2⟩ := gI_inv e1; obtain ⟨x3, m_x3, e3⟩ := gI_inv e2; obtain ⟨y0, _, rfl, e4⟩ := sI_inv e3; obtain ⟨rfl, ez⟩ := sE_inv e4; exact gm_fewer (e_X1_pagesTo_24 E ih a0 x1 x3 y0 h ez) (mem_cons m_a0 (mem_cons m_x1 (mem_cons m_x3 mem_nil)))) (kx_ok (fun la st h e => by obtain ⟨a0, m_a0, e1⟩ := gR_inv e; obtain ⟨x1, m_x1, e2⟩ := gI_inv e1; obtain ⟨x3, m_x3, e3⟩ := gI_inv e2; obtain ⟨y0, _, rfl, e4⟩ := sI_inv e3; obtain ⟨y1, _, rfl, e5⟩ := sI_inv e4; obtain ⟨rfl, ez⟩ := sE_inv e5; exact gm_fewer (e_X1_pagesTo_25 E ih a0 x1 x3 y0 y1 h ez) (mem_cons m_a0 (mem_cons m_x1 (mem_cons m_x3 mem_nil)))) k0_ok))) (FI_X1_pagesTo_ok E) (fV0_ok E) (fL0_ok E) (rtI_ok rfl)
def I_X1_pagesTo_0 : List AI := [(.iconst 0, 1, [], 0), (.istore_n 2, 1, [], 0), (.iconst 0, 1, [], 0), (.istore_n 3, 1, [], 0)]
theorem ok_X1_pagesTo_0 : vBL MT qLen qCh false q_X1_pagesTo.2.2.2.2.1 q_X1_pagesTo.2.2.2.2.2.1 q_X1_pagesTo.2.2.1 q_X1_pagesTo.1.cls q_X1_pagesTo.1.name q_X1_pagesTo.2.1 4 0 I_X1_pagesTo_0 = true := by decide +kernel
def p_X1_pagesTo (a0 : Nat) (x1 : Int32) (h : AH) : Option (Int32 × AH) :=
  p_X1_pagesTo_4 FU a0 x1 ((0 : Int32)) ((0 : Int32)) h
set_option maxRecDepth 100000 in
theorem e_X1_pagesTo_0 {l : Launch} {D : va_G} {dA : Nat → ClassId} {z : Nat} {sa : Nat → Nat} {Hz : Heap} (E : StrOK qLen qCh l D dA z sa Hz) {h0 fin : AH} {x : Int32}  : ∀ (a0 : Nat) (x1 : Int32) (h : AH), p_X1_pagesTo a0 x1 h = some (x, fin) → GM l D dA z sa Hz q_X1_pagesTo h0 (some (.int x)) fin 0 [(0, .ref a0), (1, .int x1)] [] h := by
  intro a0 x1 h hd
  exact step E (is := I_X1_pagesTo_0) (pc := 0) (K := (kx 4 (fun la st h => gR la 0 fun a0 => gI la 1 fun x1 => gI la 2 fun x2 => gI la 3 fun x3 => sE st (p_X1_pagesTo_4 FU a0 x1 x2 x3 h)) k0)) (FI := FI_X1_pagesTo) (FV := fV0) (FL := fL0) (rt := rtI) (ft := 4) (by exact hd) ok_X1_pagesTo_0 (kx_ok (fun la st h e => by obtain ⟨a0, m_a0, e1⟩ := gR_inv e; obtain ⟨x1, m_x1, e2⟩ := gI_inv e1; obtain ⟨x2, m_x2, e3⟩ := gI_inv e2; obtain ⟨x3, m_x3, e4⟩ := gI_inv e3; obtain ⟨rfl, ez⟩ := sE_inv e4; exact gm_fewer (e_X1_pagesTo_4 E  FU a0 x1 x2 x3 h ez) (mem_cons m_a0 (mem_cons m_x1 (mem_cons m_x2 (mem_cons m_x3 mem_nil))))) k0_ok) (FI_X1_pagesTo_ok E) (fV0_ok E) (fL0_ok E) (rtI_ok rfl)
theorem c_X1_pagesTo {l : Launch} {D : va_G} {dA : Nat → ClassId} {z : Nat} {sa : Nat → Nat} {Hz : Heap} (E : StrOK qLen qCh l D dA z sa Hz) {a0 : Nat} {x1 : Int32} {h fin : AH} {x : Int32} (hd : p_X1_pagesTo a0 x1 h = some (x, fin)) : CalOK l D dA z sa Hz q_X1_pagesTo [.ref a0, .int x1] h (some (.int x)) fin := calOf (by decide +kernel) (Nat.le_of_ble_eq_true rfl) (e_X1_pagesTo_0 E a0 x1 h hd)
def FI_X7_aliases : Nat → List Value → AH → Option (Int32 × AH) := (cx 54 (fun As h => sR As fun a0 As => sI As fun x1 As => sE As (p_X7_isFrame a0 x1 h)) (cx 9 (fun As h => sR As fun a0 As => sI As fun x1 As => sE As (p_X7_refuse a0 x1 h)) (cx 83 (fun As h => sR As fun a0 As => sI As fun x1 As => sE As (p_X1_pagesTo a0 x1 h)) (cx 50 (fun As h => sR As fun a0 As => sI As fun x1 As => sE As (p_X7_answer a0 x1 h)) fI0))))
theorem FI_X7_aliases_ok {l : Launch} {D : va_G} {dA : Nat → ClassId} {z : Nat} {sa : Nat → Nat} {Hz : Heap} (E : StrOK qLen qCh l D dA z sa Hz) : ∀ mi As h x h', FI_X7_aliases mi As h = some (x, h') → CalOK l D dA z sa Hz (MT mi) As h (some (.int x)) h' := (cxI_ok (fun As h x h2 e => by obtain ⟨_, _, rfl, e0⟩ := sR_inv e; obtain ⟨_, _, rfl, e1⟩ := sI_inv e0; obtain ⟨rfl, ez⟩ := sE_inv e1; exact c_X7_isFrame E ez) ((cxI_ok (fun As h x h2 e => by obtain ⟨_, _, rfl, e0⟩ := sR_inv e; obtain ⟨_, _, rfl, e1⟩ := sI_inv e0; obtain ⟨rfl, ez⟩ := sE_inv e1; exact c_X7_refuse E ez) ((cxI_ok (fun As h x h2 e => by obtain ⟨_, _, rfl, e0⟩ := sR_inv e; obtain ⟨_, _, rfl, e1⟩ := sI_inv e0; obtain ⟨rfl, ez⟩ := sE_inv e1; exact c_X1_pagesTo E ez) ((cxI_ok (fun As h x h2 e => by obtain ⟨_, _, rfl, e0⟩ := sR_inv e; obtain ⟨_, _, rfl, e1⟩ := sI_inv e0; obtain ⟨rfl, ez⟩ := sE_inv e1; exact c_X7_answer E ez) (fI0_ok E))))))))
def I_X7_aliases_14 : List AI := [(.aload_n 0, 1, [], 0), (.aload_n 0, 1, [], 0), (.getfield 29, 3, [6, 4, 2, 358], 0), (.getfield 87, 3, [1, 1, 2, 321], 0), (.iload_n 1, 1, [], 0), (.invokevirtual 143, 3, [1, 83, 2, 0, 765], 0), (.invokevirtual 68, 3, [1, 50, 2, 6, 633], 0), (.ireturn, 1, [], 0)]
theorem ok_X7_aliases_14 : vBL MT qLen qCh false q_X7_aliases.2.2.2.2.1 q_X7_aliases.2.2.2.2.2.1 q_X7_aliases.2.2.1 q_X7_aliases.1.cls q_X7_aliases.1.name q_X7_aliases.2.1 0 14 I_X7_aliases_14 = true := by decide +kernel
def p_X7_aliases_14 (a0 : Nat) (x1 : Int32) (h : AH) : Option (Int32 × AH) :=
  if (tg h a0).1 = 6 then (if (tg h (rR h a0 4)).1 = 1 then (if (tg h (rR h (rR h a0 4) 1)).1 = 0 then ((p_X1_pagesTo (rR h (rR h a0 4) 1) x1 h).bind fun q101 =>
  if (tg q101.2 a0).1 = 6 then ((p_X7_answer a0 q101.1 q101.2).bind fun q102 =>
  some (q102.1, q102.2)) else none) else none) else none) else none
set_option maxRecDepth 100000 in
theorem e_X7_aliases_14 {l : Launch} {D : va_G} {dA : Nat → ClassId} {z : Nat} {sa : Nat → Nat} {Hz : Heap} (E : StrOK qLen qCh l D dA z sa Hz) {h0 fin : AH} {x : Int32}  : ∀ (a0 : Nat) (x1 : Int32) (h : AH), p_X7_aliases_14 a0 x1 h = some (x, fin) → GM l D dA z sa Hz q_X7_aliases h0 (some (.int x)) fin 14 [(0, .ref a0), (1, .int x1)] [] h := by
  intro a0 x1 h hd
  exact step E (is := I_X7_aliases_14) (pc := 14) (K := k0) (FI := FI_X7_aliases) (FV := fV0) (FL := fL0) (rt := rtI) (ft := 0) (by exact hd) ok_X7_aliases_14 k0_ok (FI_X7_aliases_ok E) (fV0_ok E) (fL0_ok E) (rtI_ok rfl)
def I_X7_aliases_0 : List AI := [(.aload_n 0, 1, [], 0), (.iload_n 1, 1, [], 0), (.invokevirtual 80, 3, [1, 54, 2, 6, 649], 0), (.ifCond .ne 9, 3, [14], 0), (.aload_n 0, 1, [], 0), (.iconst 1, 1, [], 1), (.invokevirtual 54, 3, [1, 9, 2, 6, 403], 0), (.ireturn, 1, [], 0)]
theorem ok_X7_aliases_0 : vBL MT qLen qCh false q_X7_aliases.2.2.2.2.1 q_X7_aliases.2.2.2.2.2.1 q_X7_aliases.2.2.1 q_X7_aliases.1.cls q_X7_aliases.1.name q_X7_aliases.2.1 0 0 I_X7_aliases_0 = true := by decide +kernel
def p_X7_aliases (a0 : Nat) (x1 : Int32) (h : AH) : Option (Int32 × AH) :=
  if (tg h a0).1 = 6 then ((p_X7_isFrame a0 x1 h).bind fun q103 =>
  if q103.1 = 0 then (if (tg q103.2 a0).1 = 6 then ((p_X7_refuse a0 ((1 : Int32)) q103.2).bind fun q106 =>
  some (q106.1, q106.2)) else none)
  else
  if (tg q103.2 a0).1 = 6 then (if (tg q103.2 (rR q103.2 a0 4)).1 = 1 then (if (tg q103.2 (rR q103.2 (rR q103.2 a0 4) 1)).1 = 0 then ((p_X1_pagesTo (rR q103.2 (rR q103.2 a0 4) 1) x1 q103.2).bind fun q104 =>
  if (tg q104.2 a0).1 = 6 then ((p_X7_answer a0 q104.1 q104.2).bind fun q105 =>
  some (q105.1, q105.2)) else none) else none) else none) else none) else none
set_option maxRecDepth 100000 in
theorem e_X7_aliases_0 {l : Launch} {D : va_G} {dA : Nat → ClassId} {z : Nat} {sa : Nat → Nat} {Hz : Heap} (E : StrOK qLen qCh l D dA z sa Hz) {h0 fin : AH} {x : Int32}  : ∀ (a0 : Nat) (x1 : Int32) (h : AH), p_X7_aliases a0 x1 h = some (x, fin) → GM l D dA z sa Hz q_X7_aliases h0 (some (.int x)) fin 0 [(0, .ref a0), (1, .int x1)] [] h := by
  intro a0 x1 h hd
  exact step E (is := I_X7_aliases_0) (pc := 0) (K := (kx 14 (fun la st h => gR la 0 fun a0 => gI la 1 fun x1 => sE st (p_X7_aliases_14 a0 x1 h)) k0)) (FI := FI_X7_aliases) (FV := fV0) (FL := fL0) (rt := rtI) (ft := 0) (by exact hd) ok_X7_aliases_0 (kx_ok (fun la st h e => by obtain ⟨a0, m_a0, e1⟩ := gR_inv e; obtain ⟨x1, m_x1, e2⟩ := gI_inv e1; obtain ⟨rfl, ez⟩ := sE_inv e2; exact gm_fewer (e_X7_aliases_14 E  a0 x1 h ez) (mem_cons m_a0 (mem_cons m_x1 mem_nil))) k0_ok) (FI_X7_aliases_ok E) (fV0_ok E) (fL0_ok E) (rtI_ok rfl)
theorem c_X7_aliases {l : Launch} {D : va_G} {dA : Nat → ClassId} {z : Nat} {sa : Nat → Nat} {Hz : Heap} (E : StrOK qLen qCh l D dA z sa Hz) {a0 : Nat} {x1 : Int32} {h fin : AH} {x : Int32} (hd : p_X7_aliases a0 x1 h = some (x, fin)) : CalOK l D dA z sa Hz q_X7_aliases [.ref a0, .int x1] h (some (.int x)) fin := calOf (by decide +kernel) (Nat.le_of_ble_eq_true rfl) (e_X7_aliases_0 E a0 x1 h hd)
def FI_X1_tableFrames : Nat → List Value → AH → Option (Int32 × AH) := (cx 56 (fun As h => sR As fun a0 As => sI As fun x1 As => sI As fun x2 As => sE As (p_X1_wordAt a0 x1 x2 h)) (cx 60 (fun As h => sI As fun x0 As => sI As fun x1 As => sE As (p_X7_has x0 x1 h)) (cx 72 (fun As h => sI As fun x0 As => sE As (p_X7_frameIn x0 h)) fI0)))
theorem FI_X1_tableFrames_ok {l : Launch} {D : va_G} {dA : Nat → ClassId} {z : Nat} {sa : Nat → Nat} {Hz : Heap} (E : StrOK qLen qCh l D dA z sa Hz) : ∀ mi As h x h', FI_X1_tableFrames mi As h = some (x, h') → CalOK l D dA z sa Hz (MT mi) As h (some (.int x)) h' := (cxI_ok (fun As h x h2 e => by obtain ⟨_, _, rfl, e0⟩ := sR_inv e; obtain ⟨_, _, rfl, e1⟩ := sI_inv e0; obtain ⟨_, _, rfl, e2⟩ := sI_inv e1; obtain ⟨rfl, ez⟩ := sE_inv e2; exact c_X1_wordAt E ez) ((cxI_ok (fun As h x h2 e => by obtain ⟨_, _, rfl, e0⟩ := sI_inv e; obtain ⟨_, _, rfl, e1⟩ := sI_inv e0; obtain ⟨rfl, ez⟩ := sE_inv e1; exact c_X7_has E ez) ((cxI_ok (fun As h x h2 e => by obtain ⟨_, _, rfl, e0⟩ := sI_inv e; obtain ⟨rfl, ez⟩ := sE_inv e0; exact c_X7_frameIn E ez) (fI0_ok E))))))
def I_X1_tableFrames_52 : List AI := [(.iload_n 1, 1, [], 0), (.ireturn, 1, [], 0)]
theorem ok_X1_tableFrames_52 : vBL MT qLen qCh false q_X1_tableFrames.2.2.2.2.1 q_X1_tableFrames.2.2.2.2.2.1 q_X1_tableFrames.2.2.1 q_X1_tableFrames.1.cls q_X1_tableFrames.1.name q_X1_tableFrames.2.1 0 52 I_X1_tableFrames_52 = true := by decide +kernel
def p_X1_tableFrames_52 (x1 : Int32) (h : AH) : Option (Int32 × AH) :=
  some (x1, h)
set_option maxRecDepth 100000 in
theorem e_X1_tableFrames_52 {l : Launch} {D : va_G} {dA : Nat → ClassId} {z : Nat} {sa : Nat → Nat} {Hz : Heap} (E : StrOK qLen qCh l D dA z sa Hz) {h0 fin : AH} {x : Int32}  : ∀ (x1 : Int32) (h : AH), p_X1_tableFrames_52 x1 h = some (x, fin) → GM l D dA z sa Hz q_X1_tableFrames h0 (some (.int x)) fin 52 [(1, .int x1)] [] h := by
  intro x1 h hd
  exact step E (is := I_X1_tableFrames_52) (pc := 52) (K := k0) (FI := FI_X1_tableFrames) (FV := fV0) (FL := fL0) (rt := rtI) (ft := 0) (by exact hd) ok_X1_tableFrames_52 k0_ok (FI_X1_tableFrames_ok E) (fV0_ok E) (fL0_ok E) (rtI_ok rfl)
def I_X1_tableFrames_46 : List AI := [(.iinc 2 1, 3, [], 1), (.goto (-45), 3, [4], 0)]
theorem ok_X1_tableFrames_46 : vBL MT qLen qCh false q_X1_tableFrames.2.2.2.2.1 q_X1_tableFrames.2.2.2.2.2.1 q_X1_tableFrames.2.2.1 q_X1_tableFrames.1.cls q_X1_tableFrames.1.name q_X1_tableFrames.2.1 0 46 I_X1_tableFrames_46 = true := by decide +kernel
def p_X1_tableFrames_46 (k4 : Nat → Int32 → Int32 → AH → Option (Int32 × AH)) (a0 : Nat) (x1 : Int32) (x2 : Int32) (h : AH) : Option (Int32 × AH) :=
  k4 a0 x1 (x2 + (1 : Int32)) h
set_option maxRecDepth 100000 in
theorem e_X1_tableFrames_46 {l : Launch} {D : va_G} {dA : Nat → ClassId} {z : Nat} {sa : Nat → Nat} {Hz : Heap} (E : StrOK qLen qCh l D dA z sa Hz) {h0 fin : AH} {x : Int32}  {k4 : Nat → Int32 → Int32 → AH → Option (Int32 × AH)} (hk4 : ∀ (a0 : Nat) (x1 : Int32) (x2 : Int32) (h : AH), k4 a0 x1 x2 h = some (x, fin) → GM l D dA z sa Hz q_X1_tableFrames h0 (some (.int x)) fin 4 [(0, .ref a0), (1, .int x1), (2, .int x2)] [] h) : ∀ (a0 : Nat) (x1 : Int32) (x2 : Int32) (h : AH), p_X1_tableFrames_46 k4 a0 x1 x2 h = some (x, fin) → GM l D dA z sa Hz q_X1_tableFrames h0 (some (.int x)) fin 46 [(0, .ref a0), (1, .int x1), (2, .int x2)] [] h := by
  intro a0 x1 x2 h hd
  exact step E (is := I_X1_tableFrames_46) (pc := 46) (K := (kx 4 (fun la st h => gR la 0 fun a0 => gI la 1 fun x1 => gI la 2 fun x2 => sE st (k4 a0 x1 x2 h)) k0)) (FI := FI_X1_tableFrames) (FV := fV0) (FL := fL0) (rt := rtI) (ft := 0) (by exact hd) ok_X1_tableFrames_46 (kx_ok (fun la st h e => by obtain ⟨a0, m_a0, e1⟩ := gR_inv e; obtain ⟨x1, m_x1, e2⟩ := gI_inv e1; obtain ⟨x2, m_x2, e3⟩ := gI_inv e2; obtain ⟨rfl, ez⟩ := sE_inv e3; exact gm_fewer (hk4 a0 x1 x2 h ez) (mem_cons m_a0 (mem_cons m_x1 (mem_cons m_x2 mem_nil)))) k0_ok) (FI_X1_tableFrames_ok E) (fV0_ok E) (fL0_ok E) (rtI_ok rfl)
def I_X1_tableFrames_4 : List AI := [(.iload_n 2, 1, [], 0), (.bipush 8, 2, [], 8), (.if_icmp .ge 45, 3, [52], 0), (.aload_n 0, 1, [], 0), (.aload_n 0, 1, [], 0), (.getfield 25, 3, [0, 4, 0, 194], 0), (.iload_n 2, 1, [], 0), (.invokevirtual 50, 3, [1, 56, 3, 0, 699], 0), (.istore_n 3, 1, [], 0), (.iload_n 3, 1, [], 0), (.iconst 1, 1, [], 1), (.invokestatic 42, 3, [1, 60, 2, 677], 0), (.ifCond .eq 21, 3, [46], 0), (.iload_n 3, 1, [], 0), (.bipush 32, 2, [], 32), (.invokestatic 42, 3, [1, 60, 2, 677], 0), (.ifCond .ne 12, 3, [46], 0), (.iload_n 1, 1, [], 0), (.iconst 1, 1, [], 1), (.iload_n 3, 1, [], 0), (.invokestatic 53, 3, [1, 72, 1, 726], 0), (.ishl, 1, [], 0), (.ior, 1, [], 0), (.istore_n 1, 1, [], 0)]
theorem ok_X1_tableFrames_4 : vBL MT qLen qCh false q_X1_tableFrames.2.2.2.2.1 q_X1_tableFrames.2.2.2.2.2.1 q_X1_tableFrames.2.2.1 q_X1_tableFrames.1.cls q_X1_tableFrames.1.name q_X1_tableFrames.2.1 46 4 I_X1_tableFrames_4 = true := by decide +kernel
def p_X1_tableFrames_4 : Nat → Nat → Int32 → Int32 → AH → Option (Int32 × AH)
  | 0, _, _, _, _ => none
  | n + 1, a0, x1, x2, h => if x2 < ((8 : Int32)) then (if (tg h a0).1 = 0 then (if (tg h a0).1 = 0 then ((p_X1_wordAt a0 (rI h a0 4) x2 h).bind fun q101 =>
    (p_X7_has q101.1 ((1 : Int32)) q101.2).bind fun q102 =>
    if q102.1 = 0 then (p_X1_tableFrames_46 (p_X1_tableFrames_4 n) a0 x1 x2 q102.2)
    else
    (p_X7_has q101.1 ((32 : Int32)) q102.2).bind fun q103 =>
    if q103.1 = 0 then ((p_X7_frameIn q101.1 q103.2).bind fun q104 =>
    let x105 := x1 ||| (((1 : Int32)) <<< (q104.1 &&& 31))
    p_X1_tableFrames_46 (p_X1_tableFrames_4 n) a0 x105 x2 q104.2)
    else
    p_X1_tableFrames_46 (p_X1_tableFrames_4 n) a0 x1 x2 q103.2) else none) else none)
    else
    some (x1, h)
set_option maxRecDepth 100000 in
theorem e_X1_tableFrames_4 {l : Launch} {D : va_G} {dA : Nat → ClassId} {z : Nat} {sa : Nat → Nat} {Hz : Heap} (E : StrOK qLen qCh l D dA z sa Hz) {h0 fin : AH} {x : Int32}  : ∀ (n : Nat) (a0 : Nat) (x1 : Int32) (x2 : Int32) (h : AH), p_X1_tableFrames_4 n a0 x1 x2 h = some (x, fin) → GM l D dA z sa Hz q_X1_tableFrames h0 (some (.int x)) fin 4 [(0, .ref a0), (1, .int x1), (2, .int x2)] [] h := by
  intro n
  induction n with
  | zero => intro a0 x1 x2 h hd; exact nomatch hd
  | succ n ih =>
    intro a0 x1 x2 h hd
    exact step E (is := I_X1_tableFrames_4) (pc := 4) (K := (kx 52 (fun la st h => gI la 1 fun x1 => sE st (p_X1_tableFrames_52 x1 h)) (kx 46 (fun la st h => gR la 0 fun a0 => gI la 1 fun x1 => gI la 2 fun x2 => sE st (p_X1_tableFrames_46 (p_X1_tableFrames_4 n) a0 x1 x2 h)) k0))) (FI := FI_X1_tableFrames) (FV := fV0) (FL := fL0) (rt := rtI) (ft := 46) (by exact hd) ok_X1_tableFrames_4 (kx_ok (fun la st h e => by obtain ⟨x1, m_x1, e1⟩ := gI_inv e; obtain ⟨rfl, ez⟩ := sE_inv e1; exact gm_fewer (e_X1_tableFrames_52 E  x1 h ez) (mem_cons m_x1 mem_nil)) (kx_ok (fun la st h e => by obtain ⟨a0, m_a0, e1⟩ := gR_inv e; obtain ⟨x1, m_x1, e2⟩ := gI_inv e1; obtain ⟨x2, m_x2, e3⟩ := gI_inv e2; obtain ⟨rfl, ez⟩ := sE_inv e3; exact gm_fewer (e_X1_tableFrames_46 E ih a0 x1 x2 h ez) (mem_cons m_a0 (mem_cons m_x1 (mem_cons m_x2 mem_nil)))) k0_ok)) (FI_X1_tableFrames_ok E) (fV0_ok E) (fL0_ok E) (rtI_ok rfl)
def I_X1_tableFrames_0 : List AI := [(.iconst 0, 1, [], 0), (.istore_n 1, 1, [], 0), (.iconst 0, 1, [], 0), (.istore_n 2, 1, [], 0)]
theorem ok_X1_tableFrames_0 : vBL MT qLen qCh false q_X1_tableFrames.2.2.2.2.1 q_X1_tableFrames.2.2.2.2.2.1 q_X1_tableFrames.2.2.1 q_X1_tableFrames.1.cls q_X1_tableFrames.1.name q_X1_tableFrames.2.1 4 0 I_X1_tableFrames_0 = true := by decide +kernel
def p_X1_tableFrames (a0 : Nat) (h : AH) : Option (Int32 × AH) :=
  p_X1_tableFrames_4 FU a0 ((0 : Int32)) ((0 : Int32)) h
set_option maxRecDepth 100000 in
theorem e_X1_tableFrames_0 {l : Launch} {D : va_G} {dA : Nat → ClassId} {z : Nat} {sa : Nat → Nat} {Hz : Heap} (E : StrOK qLen qCh l D dA z sa Hz) {h0 fin : AH} {x : Int32}  : ∀ (a0 : Nat) (h : AH), p_X1_tableFrames a0 h = some (x, fin) → GM l D dA z sa Hz q_X1_tableFrames h0 (some (.int x)) fin 0 [(0, .ref a0)] [] h := by
  intro a0 h hd
  exact step E (is := I_X1_tableFrames_0) (pc := 0) (K := (kx 4 (fun la st h => gR la 0 fun a0 => gI la 1 fun x1 => gI la 2 fun x2 => sE st (p_X1_tableFrames_4 FU a0 x1 x2 h)) k0)) (FI := FI_X1_tableFrames) (FV := fV0) (FL := fL0) (rt := rtI) (ft := 4) (by exact hd) ok_X1_tableFrames_0 (kx_ok (fun la st h e => by obtain ⟨a0, m_a0, e1⟩ := gR_inv e; obtain ⟨x1, m_x1, e2⟩ := gI_inv e1; obtain ⟨x2, m_x2, e3⟩ := gI_inv e2; obtain ⟨rfl, ez⟩ := sE_inv e3; exact gm_fewer (e_X1_tableFrames_4 E  FU a0 x1 x2 h ez) (mem_cons m_a0 (mem_cons m_x1 (mem_cons m_x2 mem_nil)))) k0_ok) (FI_X1_tableFrames_ok E) (fV0_ok E) (fL0_ok E) (rtI_ok rfl)
theorem c_X1_tableFrames {l : Launch} {D : va_G} {dA : Nat → ClassId} {z : Nat} {sa : Nat → Nat} {Hz : Heap} (E : StrOK qLen qCh l D dA z sa Hz) {a0 : Nat} {h fin : AH} {x : Int32} (hd : p_X1_tableFrames a0 h = some (x, fin)) : CalOK l D dA z sa Hz q_X1_tableFrames [.ref a0] h (some (.int x)) fin := calOf (by decide +kernel) (Nat.le_of_ble_eq_true rfl) (e_X1_tableFrames_0 E a0 h hd)
def FI_X7_tables : Nat → List Value → AH → Option (Int32 × AH) := (cx 85 (fun As h => sR As fun a0 As => sE As (p_X1_tableFrames a0 h)) (cx 50 (fun As h => sR As fun a0 As => sI As fun x1 As => sE As (p_X7_answer a0 x1 h)) (cx 9 (fun As h => sR As fun a0 As => sI As fun x1 As => sE As (p_X7_refuse a0 x1 h)) fI0)))
theorem FI_X7_tables_ok {l : Launch} {D : va_G} {dA : Nat → ClassId} {z : Nat} {sa : Nat → Nat} {Hz : Heap} (E : StrOK qLen qCh l D dA z sa Hz) : ∀ mi As h x h', FI_X7_tables mi As h = some (x, h') → CalOK l D dA z sa Hz (MT mi) As h (some (.int x)) h' := (cxI_ok (fun As h x h2 e => by obtain ⟨_, _, rfl, e0⟩ := sR_inv e; obtain ⟨rfl, ez⟩ := sE_inv e0; exact c_X1_tableFrames E ez) ((cxI_ok (fun As h x h2 e => by obtain ⟨_, _, rfl, e0⟩ := sR_inv e; obtain ⟨_, _, rfl, e1⟩ := sI_inv e0; obtain ⟨rfl, ez⟩ := sE_inv e1; exact c_X7_answer E ez) ((cxI_ok (fun As h x h2 e => by obtain ⟨_, _, rfl, e0⟩ := sR_inv e; obtain ⟨_, _, rfl, e1⟩ := sI_inv e0; obtain ⟨rfl, ez⟩ := sE_inv e1; exact c_X7_refuse E ez) (fI0_ok E))))))
def I_X7_tables_29 : List AI := [(.ireturn, 1, [], 0)]
theorem ok_X7_tables_29 : vBL MT qLen qCh false q_X7_tables.2.2.2.2.1 q_X7_tables.2.2.2.2.2.1 q_X7_tables.2.2.1 q_X7_tables.1.cls q_X7_tables.1.name q_X7_tables.2.1 0 29 I_X7_tables_29 = true := by decide +kernel
def p_X7_tables_29 (y0 : Int32) (h : AH) : Option (Int32 × AH) :=
  some (y0, h)
set_option maxRecDepth 100000 in
theorem e_X7_tables_29 {l : Launch} {D : va_G} {dA : Nat → ClassId} {z : Nat} {sa : Nat → Nat} {Hz : Heap} (E : StrOK qLen qCh l D dA z sa Hz) {h0 fin : AH} {x : Int32}  : ∀ (y0 : Int32) (h : AH), p_X7_tables_29 y0 h = some (x, fin) → GM l D dA z sa Hz q_X7_tables h0 (some (.int x)) fin 29 [] [.int y0] h := by
  intro y0 h hd
  exact step E (is := I_X7_tables_29) (pc := 29) (K := k0) (FI := FI_X7_tables) (FV := fV0) (FL := fL0) (rt := rtI) (ft := 0) (by exact hd) ok_X7_tables_29 k0_ok (FI_X7_tables_ok E) (fV0_ok E) (fL0_ok E) (rtI_ok rfl)
def I_X7_tables_24 : List AI := [(.aload_n 0, 1, [], 0), (.iconst 1, 1, [], 1), (.invokevirtual 54, 3, [1, 9, 2, 6, 403], 0)]
theorem ok_X7_tables_24 : vBL MT qLen qCh false q_X7_tables.2.2.2.2.1 q_X7_tables.2.2.2.2.2.1 q_X7_tables.2.2.1 q_X7_tables.1.cls q_X7_tables.1.name q_X7_tables.2.1 29 24 I_X7_tables_24 = true := by decide +kernel
def p_X7_tables_24 (a0 : Nat) (h : AH) : Option (Int32 × AH) :=
  if (tg h a0).1 = 6 then ((p_X7_refuse a0 ((1 : Int32)) h).bind fun q101 =>
  p_X7_tables_29 q101.1 q101.2) else none
set_option maxRecDepth 100000 in
theorem e_X7_tables_24 {l : Launch} {D : va_G} {dA : Nat → ClassId} {z : Nat} {sa : Nat → Nat} {Hz : Heap} (E : StrOK qLen qCh l D dA z sa Hz) {h0 fin : AH} {x : Int32}  : ∀ (a0 : Nat) (h : AH), p_X7_tables_24 a0 h = some (x, fin) → GM l D dA z sa Hz q_X7_tables h0 (some (.int x)) fin 24 [(0, .ref a0)] [] h := by
  intro a0 h hd
  exact step E (is := I_X7_tables_24) (pc := 24) (K := (kx 29 (fun la st h => sI st fun y0 st => sE st (p_X7_tables_29 y0 h)) k0)) (FI := FI_X7_tables) (FV := fV0) (FL := fL0) (rt := rtI) (ft := 29) (by exact hd) ok_X7_tables_24 (kx_ok (fun la st h e => by obtain ⟨y0, _, rfl, e1⟩ := sI_inv e; obtain ⟨rfl, ez⟩ := sE_inv e1; exact gm_fewer (e_X7_tables_29 E  y0 h ez) mem_nil) k0_ok) (FI_X7_tables_ok E) (fV0_ok E) (fL0_ok E) (rtI_ok rfl)
def I_X7_tables_0 : List AI := [(.aload_n 0, 1, [], 0), (.getfield 107, 3, [6, 3, 3, 357], 0), (.ifCond .eq 20, 3, [24], 0), (.aload_n 0, 1, [], 0), (.aload_n 0, 1, [], 0), (.getfield 29, 3, [6, 4, 2, 358], 0), (.getfield 87, 3, [1, 1, 2, 321], 0), (.invokevirtual 146, 3, [1, 85, 1, 0, 775], 0), (.invokevirtual 68, 3, [1, 50, 2, 6, 633], 0), (.goto 8, 3, [29], 0)]
theorem ok_X7_tables_0 : vBL MT qLen qCh false q_X7_tables.2.2.2.2.1 q_X7_tables.2.2.2.2.2.1 q_X7_tables.2.2.1 q_X7_tables.1.cls q_X7_tables.1.name q_X7_tables.2.1 0 0 I_X7_tables_0 = true := by decide +kernel
def p_X7_tables (a0 : Nat) (h : AH) : Option (Int32 × AH) :=
  if (tg h a0).1 = 6 then (if (rI h a0 3) = 0 then (if (tg h a0).1 = 6 then ((p_X7_refuse a0 ((1 : Int32)) h).bind fun q102 =>
  p_X7_tables_29 q102.1 q102.2) else none)
  else
  if (tg h a0).1 = 6 then (if (tg h (rR h a0 4)).1 = 1 then (if (tg h (rR h (rR h a0 4) 1)).1 = 0 then ((p_X1_tableFrames (rR h (rR h a0 4) 1) h).bind fun q103 =>
  if (tg q103.2 a0).1 = 6 then ((p_X7_answer a0 q103.1 q103.2).bind fun q104 =>
  p_X7_tables_29 q104.1 q104.2) else none) else none) else none) else none) else none
set_option maxRecDepth 100000 in
theorem e_X7_tables_0 {l : Launch} {D : va_G} {dA : Nat → ClassId} {z : Nat} {sa : Nat → Nat} {Hz : Heap} (E : StrOK qLen qCh l D dA z sa Hz) {h0 fin : AH} {x : Int32}  : ∀ (a0 : Nat) (h : AH), p_X7_tables a0 h = some (x, fin) → GM l D dA z sa Hz q_X7_tables h0 (some (.int x)) fin 0 [(0, .ref a0)] [] h := by
  intro a0 h hd
  exact step E (is := I_X7_tables_0) (pc := 0) (K := (kx 24 (fun la st h => gR la 0 fun a0 => sE st (p_X7_tables_24 a0 h)) (kx 29 (fun la st h => sI st fun y0 st => sE st (p_X7_tables_29 y0 h)) k0))) (FI := FI_X7_tables) (FV := fV0) (FL := fL0) (rt := rtI) (ft := 0) (by exact hd) ok_X7_tables_0 (kx_ok (fun la st h e => by obtain ⟨a0, m_a0, e1⟩ := gR_inv e; obtain ⟨rfl, ez⟩ := sE_inv e1; exact gm_fewer (e_X7_tables_24 E  a0 h ez) (mem_cons m_a0 mem_nil)) (kx_ok (fun la st h e => by obtain ⟨y0, _, rfl, e1⟩ := sI_inv e; obtain ⟨rfl, ez⟩ := sE_inv e1; exact gm_fewer (e_X7_tables_29 E  y0 h ez) mem_nil) k0_ok)) (FI_X7_tables_ok E) (fV0_ok E) (fL0_ok E) (rtI_ok rfl)
theorem c_X7_tables {l : Launch} {D : va_G} {dA : Nat → ClassId} {z : Nat} {sa : Nat → Nat} {Hz : Heap} (E : StrOK qLen qCh l D dA z sa Hz) {a0 : Nat} {h fin : AH} {x : Int32} (hd : p_X7_tables a0 h = some (x, fin)) : CalOK l D dA z sa Hz q_X7_tables [.ref a0] h (some (.int x)) fin := calOf (by decide +kernel) (Nat.le_of_ble_eq_true rfl) (e_X7_tables_0 E a0 h hd)
def I_X3_find_36 : List AI := [(.bipush (-2), 2, [], (-2)), (.ireturn, 1, [], 0)]
theorem ok_X3_find_36 : vBL MT qLen qCh false q_X3_find.2.2.2.2.1 q_X3_find.2.2.2.2.2.1 q_X3_find.2.2.1 q_X3_find.1.cls q_X3_find.1.name q_X3_find.2.1 0 36 I_X3_find_36 = true := by decide +kernel
def p_X3_find_36 (h : AH) : Option (Int32 × AH) :=
  some (((-2 : Int32)), h)
set_option maxRecDepth 100000 in
theorem e_X3_find_36 {l : Launch} {D : va_G} {dA : Nat → ClassId} {z : Nat} {sa : Nat → Nat} {Hz : Heap} (E : StrOK qLen qCh l D dA z sa Hz) {h0 fin : AH} {x : Int32}  : ∀  (h : AH), p_X3_find_36 h = some (x, fin) → GM l D dA z sa Hz q_X3_find h0 (some (.int x)) fin 36 [] [] h := by
  intro h hd
  exact step E (is := I_X3_find_36) (pc := 36) (K := k0) (FI := fI0) (FV := fV0) (FL := fL0) (rt := rtI) (ft := 0) (by exact hd) ok_X3_find_36 k0_ok (fI0_ok E) (fV0_ok E) (fL0_ok E) (rtI_ok rfl)
def I_X3_find_30 : List AI := [(.iinc 3 1, 3, [], 1), (.goto (-31), 3, [2], 0)]
theorem ok_X3_find_30 : vBL MT qLen qCh false q_X3_find.2.2.2.2.1 q_X3_find.2.2.2.2.2.1 q_X3_find.2.2.1 q_X3_find.1.cls q_X3_find.1.name q_X3_find.2.1 0 30 I_X3_find_30 = true := by decide +kernel
def p_X3_find_30 (k2 : Nat → Int32 → Int32 → Int32 → AH → Option (Int32 × AH)) (a0 : Nat) (x1 : Int32) (x2 : Int32) (x3 : Int32) (h : AH) : Option (Int32 × AH) :=
  k2 a0 x1 x2 (x3 + (1 : Int32)) h
set_option maxRecDepth 100000 in
theorem e_X3_find_30 {l : Launch} {D : va_G} {dA : Nat → ClassId} {z : Nat} {sa : Nat → Nat} {Hz : Heap} (E : StrOK qLen qCh l D dA z sa Hz) {h0 fin : AH} {x : Int32}  {k2 : Nat → Int32 → Int32 → Int32 → AH → Option (Int32 × AH)} (hk2 : ∀ (a0 : Nat) (x1 : Int32) (x2 : Int32) (x3 : Int32) (h : AH), k2 a0 x1 x2 x3 h = some (x, fin) → GM l D dA z sa Hz q_X3_find h0 (some (.int x)) fin 2 [(0, .ref a0), (1, .int x1), (2, .int x2), (3, .int x3)] [] h) : ∀ (a0 : Nat) (x1 : Int32) (x2 : Int32) (x3 : Int32) (h : AH), p_X3_find_30 k2 a0 x1 x2 x3 h = some (x, fin) → GM l D dA z sa Hz q_X3_find h0 (some (.int x)) fin 30 [(0, .ref a0), (1, .int x1), (2, .int x2), (3, .int x3)] [] h := by
  intro a0 x1 x2 x3 h hd
  exact step E (is := I_X3_find_30) (pc := 30) (K := (kx 2 (fun la st h => gR la 0 fun a0 => gI la 1 fun x1 => gI la 2 fun x2 => gI la 3 fun x3 => sE st (k2 a0 x1 x2 x3 h)) k0)) (FI := fI0) (FV := fV0) (FL := fL0) (rt := rtI) (ft := 0) (by exact hd) ok_X3_find_30 (kx_ok (fun la st h e => by obtain ⟨a0, m_a0, e1⟩ := gR_inv e; obtain ⟨x1, m_x1, e2⟩ := gI_inv e1; obtain ⟨x2, m_x2, e3⟩ := gI_inv e2; obtain ⟨x3, m_x3, e4⟩ := gI_inv e3; obtain ⟨rfl, ez⟩ := sE_inv e4; exact gm_fewer (hk2 a0 x1 x2 x3 h ez) (mem_cons m_a0 (mem_cons m_x1 (mem_cons m_x2 (mem_cons m_x3 mem_nil))))) k0_ok) (fI0_ok E) (fV0_ok E) (fL0_ok E) (rtI_ok rfl)
def I_X3_find_2 : List AI := [(.iload_n 3, 1, [], 0), (.bipush 8, 2, [], 8), (.if_icmp .ge 31, 3, [36], 0), (.aload_n 0, 1, [], 0), (.getfield 9, 3, [2, 0, 2, 285], 0), (.iload_n 3, 1, [], 0), (.iaload, 1, [], 0), (.iload_n 1, 1, [], 0), (.if_icmp .ne 15, 3, [30], 0), (.aload_n 0, 1, [], 0), (.getfield 15, 3, [2, 1, 2, 286], 0), (.iload_n 3, 1, [], 0), (.iaload, 1, [], 0), (.iload_n 2, 1, [], 0), (.if_icmp .ne 5, 3, [30], 0), (.iload_n 3, 1, [], 0), (.ireturn, 1, [], 0)]
theorem ok_X3_find_2 : vBL MT qLen qCh false q_X3_find.2.2.2.2.1 q_X3_find.2.2.2.2.2.1 q_X3_find.2.2.1 q_X3_find.1.cls q_X3_find.1.name q_X3_find.2.1 0 2 I_X3_find_2 = true := by decide +kernel
def p_X3_find_2 : Nat → Nat → Int32 → Int32 → Int32 → AH → Option (Int32 × AH)
  | 0, _, _, _, _, _ => none
  | n + 1, a0, x1, x2, x3, h => if x3 < ((8 : Int32)) then (if (tg h a0).1 = 2 then (if inB h (rR h a0 0) 100 x3 then (if (rI h (rR h a0 0) x3.toNatClampNeg) = x1 then (if (tg h a0).1 = 2 then (if inB h (rR h a0 1) 100 x3 then (if (rI h (rR h a0 1) x3.toNatClampNeg) = x2 then (some (x3, h))
    else
    p_X3_find_30 (p_X3_find_2 n) a0 x1 x2 x3 h) else none) else none)
    else
    p_X3_find_30 (p_X3_find_2 n) a0 x1 x2 x3 h) else none) else none)
    else
    some (((-2 : Int32)), h)
set_option maxRecDepth 100000 in
theorem e_X3_find_2 {l : Launch} {D : va_G} {dA : Nat → ClassId} {z : Nat} {sa : Nat → Nat} {Hz : Heap} (E : StrOK qLen qCh l D dA z sa Hz) {h0 fin : AH} {x : Int32}  : ∀ (n : Nat) (a0 : Nat) (x1 : Int32) (x2 : Int32) (x3 : Int32) (h : AH), p_X3_find_2 n a0 x1 x2 x3 h = some (x, fin) → GM l D dA z sa Hz q_X3_find h0 (some (.int x)) fin 2 [(0, .ref a0), (1, .int x1), (2, .int x2), (3, .int x3)] [] h := by
  intro n
  induction n with
  | zero => intro a0 x1 x2 x3 h hd; exact nomatch hd
  | succ n ih =>
    intro a0 x1 x2 x3 h hd
    exact step E (is := I_X3_find_2) (pc := 2) (K := (kx 36 (fun la st h => sE st (p_X3_find_36 h)) (kx 30 (fun la st h => gR la 0 fun a0 => gI la 1 fun x1 => gI la 2 fun x2 => gI la 3 fun x3 => sE st (p_X3_find_30 (p_X3_find_2 n) a0 x1 x2 x3 h)) k0))) (FI := fI0) (FV := fV0) (FL := fL0) (rt := rtI) (ft := 0) (by exact hd) ok_X3_find_2 (kx_ok (fun la st h e => by obtain ⟨rfl, ez⟩ := sE_inv e; exact gm_fewer (e_X3_find_36 E   h ez) mem_nil) (kx_ok (fun la st h e => by obtain ⟨a0, m_a0, e1⟩ := gR_inv e; obtain ⟨x1, m_x1, e2⟩ := gI_inv e1; obtain ⟨x2, m_x2, e3⟩ := gI_inv e2; obtain ⟨x3, m_x3, e4⟩ := gI_inv e3; obtain ⟨rfl, ez⟩ := sE_inv e4; exact gm_fewer (e_X3_find_30 E ih a0 x1 x2 x3 h ez) (mem_cons m_a0 (mem_cons m_x1 (mem_cons m_x2 (mem_cons m_x3 mem_nil))))) k0_ok)) (fI0_ok E) (fV0_ok E) (fL0_ok E) (rtI_ok rfl)
def I_X3_find_0 : List AI := [(.iconst 0, 1, [], 0), (.istore_n 3, 1, [], 0)]
theorem ok_X3_find_0 : vBL MT qLen qCh false q_X3_find.2.2.2.2.1 q_X3_find.2.2.2.2.2.1 q_X3_find.2.2.1 q_X3_find.1.cls q_X3_find.1.name q_X3_find.2.1 2 0 I_X3_find_0 = true := by decide +kernel
def p_X3_find (a0 : Nat) (x1 : Int32) (x2 : Int32) (h : AH) : Option (Int32 × AH) :=
  p_X3_find_2 FU a0 x1 x2 ((0 : Int32)) h
set_option maxRecDepth 100000 in
theorem e_X3_find_0 {l : Launch} {D : va_G} {dA : Nat → ClassId} {z : Nat} {sa : Nat → Nat} {Hz : Heap} (E : StrOK qLen qCh l D dA z sa Hz) {h0 fin : AH} {x : Int32}  : ∀ (a0 : Nat) (x1 : Int32) (x2 : Int32) (h : AH), p_X3_find a0 x1 x2 h = some (x, fin) → GM l D dA z sa Hz q_X3_find h0 (some (.int x)) fin 0 [(0, .ref a0), (1, .int x1), (2, .int x2)] [] h := by
  intro a0 x1 x2 h hd
  exact step E (is := I_X3_find_0) (pc := 0) (K := (kx 2 (fun la st h => gR la 0 fun a0 => gI la 1 fun x1 => gI la 2 fun x2 => gI la 3 fun x3 => sE st (p_X3_find_2 FU a0 x1 x2 x3 h)) k0)) (FI := fI0) (FV := fV0) (FL := fL0) (rt := rtI) (ft := 2) (by exact hd) ok_X3_find_0 (kx_ok (fun la st h e => by obtain ⟨a0, m_a0, e1⟩ := gR_inv e; obtain ⟨x1, m_x1, e2⟩ := gI_inv e1; obtain ⟨x2, m_x2, e3⟩ := gI_inv e2; obtain ⟨x3, m_x3, e4⟩ := gI_inv e3; obtain ⟨rfl, ez⟩ := sE_inv e4; exact gm_fewer (e_X3_find_2 E  FU a0 x1 x2 x3 h ez) (mem_cons m_a0 (mem_cons m_x1 (mem_cons m_x2 (mem_cons m_x3 mem_nil))))) k0_ok) (fI0_ok E) (fV0_ok E) (fL0_ok E) (rtI_ok rfl)
theorem c_X3_find {l : Launch} {D : va_G} {dA : Nat → ClassId} {z : Nat} {sa : Nat → Nat} {Hz : Heap} (E : StrOK qLen qCh l D dA z sa Hz) {a0 : Nat} {x1 : Int32} {x2 : Int32} {h fin : AH} {x : Int32} (hd : p_X3_find a0 x1 x2 h = some (x, fin)) : CalOK l D dA z sa Hz q_X3_find [.ref a0, .int x1, .int x2] h (some (.int x)) fin := calOf (by decide +kernel) (Nat.le_of_ble_eq_true rfl) (e_X3_find_0 E a0 x1 x2 h hd)
def I_X3_entryAt_0 : List AI := [(.aload_n 0, 1, [], 0), (.getfield 21, 3, [2, 3, 2, 288], 0), (.iload_n 1, 1, [], 0), (.bipush 7, 2, [], 7), (.iand, 1, [], 0), (.bipush 8, 2, [], 8), (.imul, 1, [], 0), (.iload_n 2, 1, [], 0), (.bipush 7, 2, [], 7), (.iand, 1, [], 0), (.iadd, 1, [], 0), (.iaload, 1, [], 0), (.ireturn, 1, [], 0)]
theorem ok_X3_entryAt_0 : vBL MT qLen qCh false q_X3_entryAt.2.2.2.2.1 q_X3_entryAt.2.2.2.2.2.1 q_X3_entryAt.2.2.1 q_X3_entryAt.1.cls q_X3_entryAt.1.name q_X3_entryAt.2.1 0 0 I_X3_entryAt_0 = true := by decide +kernel
def p_X3_entryAt (a0 : Nat) (x1 : Int32) (x2 : Int32) (h : AH) : Option (Int32 × AH) :=
  if (tg h a0).1 = 2 then (if inB h (rR h a0 3) 100 (((x1 &&& ((7 : Int32))) * ((8 : Int32))) + (x2 &&& ((7 : Int32)))) then (some ((rI h (rR h a0 3) (((x1 &&& ((7 : Int32))) * ((8 : Int32))) + (x2 &&& ((7 : Int32)))).toNatClampNeg), h)) else none) else none
set_option maxRecDepth 100000 in
theorem e_X3_entryAt_0 {l : Launch} {D : va_G} {dA : Nat → ClassId} {z : Nat} {sa : Nat → Nat} {Hz : Heap} (E : StrOK qLen qCh l D dA z sa Hz) {h0 fin : AH} {x : Int32}  : ∀ (a0 : Nat) (x1 : Int32) (x2 : Int32) (h : AH), p_X3_entryAt a0 x1 x2 h = some (x, fin) → GM l D dA z sa Hz q_X3_entryAt h0 (some (.int x)) fin 0 [(0, .ref a0), (1, .int x1), (2, .int x2)] [] h := by
  intro a0 x1 x2 h hd
  exact step E (is := I_X3_entryAt_0) (pc := 0) (K := k0) (FI := fI0) (FV := fV0) (FL := fL0) (rt := rtI) (ft := 0) (by exact hd) ok_X3_entryAt_0 k0_ok (fI0_ok E) (fV0_ok E) (fL0_ok E) (rtI_ok rfl)
theorem c_X3_entryAt {l : Launch} {D : va_G} {dA : Nat → ClassId} {z : Nat} {sa : Nat → Nat} {Hz : Heap} (E : StrOK qLen qCh l D dA z sa Hz) {a0 : Nat} {x1 : Int32} {x2 : Int32} {h fin : AH} {x : Int32} (hd : p_X3_entryAt a0 x1 x2 h = some (x, fin)) : CalOK l D dA z sa Hz q_X3_entryAt [.ref a0, .int x1, .int x2] h (some (.int x)) fin := calOf (by decide +kernel) (Nat.le_of_ble_eq_true rfl) (e_X3_entryAt_0 E a0 x1 x2 h hd)
def FI_X3_upperEntry : Nat → List Value → AH → Option (Int32 × AH) := (cx 87 (fun As h => sR As fun a0 As => sI As fun x1 As => sI As fun x2 As => sE As (p_X3_find a0 x1 x2 h)) (cx 88 (fun As h => sR As fun a0 As => sI As fun x1 As => sI As fun x2 As => sE As (p_X3_entryAt a0 x1 x2 h)) fI0))
theorem FI_X3_upperEntry_ok {l : Launch} {D : va_G} {dA : Nat → ClassId} {z : Nat} {sa : Nat → Nat} {Hz : Heap} (E : StrOK qLen qCh l D dA z sa Hz) : ∀ mi As h x h', FI_X3_upperEntry mi As h = some (x, h') → CalOK l D dA z sa Hz (MT mi) As h (some (.int x)) h' := (cxI_ok (fun As h x h2 e => by obtain ⟨_, _, rfl, e0⟩ := sR_inv e; obtain ⟨_, _, rfl, e1⟩ := sI_inv e0; obtain ⟨_, _, rfl, e2⟩ := sI_inv e1; obtain ⟨rfl, ez⟩ := sE_inv e2; exact c_X3_find E ez) ((cxI_ok (fun As h x h2 e => by obtain ⟨_, _, rfl, e0⟩ := sR_inv e; obtain ⟨_, _, rfl, e1⟩ := sI_inv e0; obtain ⟨_, _, rfl, e2⟩ := sI_inv e1; obtain ⟨rfl, ez⟩ := sE_inv e2; exact c_X3_entryAt E ez) (fI0_ok E))))
def I_X3_upperEntry_25 : List AI := [(.ireturn, 1, [], 0)]
theorem ok_X3_upperEntry_25 : vBL MT qLen qCh false q_X3_upperEntry.2.2.2.2.1 q_X3_upperEntry.2.2.2.2.2.1 q_X3_upperEntry.2.2.1 q_X3_upperEntry.1.cls q_X3_upperEntry.1.name q_X3_upperEntry.2.1 0 25 I_X3_upperEntry_25 = true := by decide +kernel
def p_X3_upperEntry_25 (y0 : Int32) (h : AH) : Option (Int32 × AH) :=
  some (y0, h)
set_option maxRecDepth 100000 in
theorem e_X3_upperEntry_25 {l : Launch} {D : va_G} {dA : Nat → ClassId} {z : Nat} {sa : Nat → Nat} {Hz : Heap} (E : StrOK qLen qCh l D dA z sa Hz) {h0 fin : AH} {x : Int32}  : ∀ (y0 : Int32) (h : AH), p_X3_upperEntry_25 y0 h = some (x, fin) → GM l D dA z sa Hz q_X3_upperEntry h0 (some (.int x)) fin 25 [] [.int y0] h := by
  intro y0 h hd
  exact step E (is := I_X3_upperEntry_25) (pc := 25) (K := k0) (FI := FI_X3_upperEntry) (FV := fV0) (FL := fL0) (rt := rtI) (ft := 0) (by exact hd) ok_X3_upperEntry_25 k0_ok (FI_X3_upperEntry_ok E) (fV0_ok E) (fL0_ok E) (rtI_ok rfl)
def I_X3_upperEntry_23 : List AI := [(.bipush (-2), 2, [], (-2))]
theorem ok_X3_upperEntry_23 : vBL MT qLen qCh false q_X3_upperEntry.2.2.2.2.1 q_X3_upperEntry.2.2.2.2.2.1 q_X3_upperEntry.2.2.1 q_X3_upperEntry.1.cls q_X3_upperEntry.1.name q_X3_upperEntry.2.1 25 23 I_X3_upperEntry_23 = true := by decide +kernel
def p_X3_upperEntry_23 (h : AH) : Option (Int32 × AH) :=
  p_X3_upperEntry_25 ((-2 : Int32)) h
set_option maxRecDepth 100000 in
theorem e_X3_upperEntry_23 {l : Launch} {D : va_G} {dA : Nat → ClassId} {z : Nat} {sa : Nat → Nat} {Hz : Heap} (E : StrOK qLen qCh l D dA z sa Hz) {h0 fin : AH} {x : Int32}  : ∀  (h : AH), p_X3_upperEntry_23 h = some (x, fin) → GM l D dA z sa Hz q_X3_upperEntry h0 (some (.int x)) fin 23 [] [] h := by
  intro h hd
  exact step E (is := I_X3_upperEntry_23) (pc := 23) (K := (kx 25 (fun la st h => sI st fun y0 st => sE st (p_X3_upperEntry_25 y0 h)) k0)) (FI := FI_X3_upperEntry) (FV := fV0) (FL := fL0) (rt := rtI) (ft := 25) (by exact hd) ok_X3_upperEntry_23 (kx_ok (fun la st h e => by obtain ⟨y0, _, rfl, e1⟩ := sI_inv e; obtain ⟨rfl, ez⟩ := sE_inv e1; exact gm_fewer (e_X3_upperEntry_25 E  y0 h ez) mem_nil) k0_ok) (FI_X3_upperEntry_ok E) (fV0_ok E) (fL0_ok E) (rtI_ok rfl)
def I_X3_upperEntry_0 : List AI := [(.aload_n 0, 1, [], 0), (.iconst 0, 1, [], 0), (.iload_n 1, 1, [], 0), (.invokevirtual 56, 3, [1, 87, 3, 2, 795], 0), (.istore_n 3, 1, [], 0), (.iload_n 3, 1, [], 0), (.ifCond .lt 15, 3, [23], 0), (.aload_n 0, 1, [], 0), (.iload_n 3, 1, [], 0), (.iload_n 2, 1, [], 0), (.bipush 8, 2, [], 8), (.idiv, 1, [], 0), (.invokevirtual 69, 3, [1, 88, 3, 2, 799], 0), (.goto 5, 3, [25], 0)]
theorem ok_X3_upperEntry_0 : vBL MT qLen qCh false q_X3_upperEntry.2.2.2.2.1 q_X3_upperEntry.2.2.2.2.2.1 q_X3_upperEntry.2.2.1 q_X3_upperEntry.1.cls q_X3_upperEntry.1.name q_X3_upperEntry.2.1 0 0 I_X3_upperEntry_0 = true := by decide +kernel
def p_X3_upperEntry (a0 : Nat) (x1 : Int32) (x2 : Int32) (h : AH) : Option (Int32 × AH) :=
  if (tg h a0).1 = 2 then ((p_X3_find a0 ((0 : Int32)) x1 h).bind fun q101 =>
  if q101.1 < 0 then (p_X3_upperEntry_25 ((-2 : Int32)) q101.2)
  else
  if ((8 : Int32)) = 0 then none else
  if (tg q101.2 a0).1 = 2 then ((p_X3_entryAt a0 q101.1 (x2 / ((8 : Int32))) q101.2).bind fun q102 =>
  p_X3_upperEntry_25 q102.1 q102.2) else none) else none
set_option maxRecDepth 100000 in
theorem e_X3_upperEntry_0 {l : Launch} {D : va_G} {dA : Nat → ClassId} {z : Nat} {sa : Nat → Nat} {Hz : Heap} (E : StrOK qLen qCh l D dA z sa Hz) {h0 fin : AH} {x : Int32}  : ∀ (a0 : Nat) (x1 : Int32) (x2 : Int32) (h : AH), p_X3_upperEntry a0 x1 x2 h = some (x, fin) → GM l D dA z sa Hz q_X3_upperEntry h0 (some (.int x)) fin 0 [(0, .ref a0), (1, .int x1), (2, .int x2)] [] h := by
  intro a0 x1 x2 h hd
  exact step E (is := I_X3_upperEntry_0) (pc := 0) (K := (kx 23 (fun la st h => sE st (p_X3_upperEntry_23 h)) (kx 25 (fun la st h => sI st fun y0 st => sE st (p_X3_upperEntry_25 y0 h)) k0))) (FI := FI_X3_upperEntry) (FV := fV0) (FL := fL0) (rt := rtI) (ft := 0) (by exact hd) ok_X3_upperEntry_0 (kx_ok (fun la st h e => by obtain ⟨rfl, ez⟩ := sE_inv e; exact gm_fewer (e_X3_upperEntry_23 E   h ez) mem_nil) (kx_ok (fun la st h e => by obtain ⟨y0, _, rfl, e1⟩ := sI_inv e; obtain ⟨rfl, ez⟩ := sE_inv e1; exact gm_fewer (e_X3_upperEntry_25 E  y0 h ez) mem_nil) k0_ok)) (FI_X3_upperEntry_ok E) (fV0_ok E) (fL0_ok E) (rtI_ok rfl)
theorem c_X3_upperEntry {l : Launch} {D : va_G} {dA : Nat → ClassId} {z : Nat} {sa : Nat → Nat} {Hz : Heap} (E : StrOK qLen qCh l D dA z sa Hz) {a0 : Nat} {x1 : Int32} {x2 : Int32} {h fin : AH} {x : Int32} (hd : p_X3_upperEntry a0 x1 x2 h = some (x, fin)) : CalOK l D dA z sa Hz q_X3_upperEntry [.ref a0, .int x1, .int x2] h (some (.int x)) fin := calOf (by decide +kernel) (Nat.le_of_ble_eq_true rfl) (e_X3_upperEntry_0 E a0 x1 x2 h hd)
def FI_X3_hitEntry : Nat → List Value → AH → Option (Int32 × AH) := (cx 89 (fun As h => sR As fun a0 As => sI As fun x1 As => sI As fun x2 As => sE As (p_X3_upperEntry a0 x1 x2 h)) (cx 88 (fun As h => sR As fun a0 As => sI As fun x1 As => sI As fun x2 As => sE As (p_X3_entryAt a0 x1 x2 h)) (cx 60 (fun As h => sI As fun x0 As => sI As fun x1 As => sE As (p_X7_has x0 x1 h)) fI0)))
theorem FI_X3_hitEntry_ok {l : Launch} {D : va_G} {dA : Nat → ClassId} {z : Nat} {sa : Nat → Nat} {Hz : Heap} (E : StrOK qLen qCh l D dA z sa Hz) : ∀ mi As h x h', FI_X3_hitEntry mi As h = some (x, h') → CalOK l D dA z sa Hz (MT mi) As h (some (.int x)) h' := (cxI_ok (fun As h x h2 e => by obtain ⟨_, _, rfl, e0⟩ := sR_inv e; obtain ⟨_, _, rfl, e1⟩ := sI_inv e0; obtain ⟨_, _, rfl, e2⟩ := sI_inv e1; obtain ⟨rfl, ez⟩ := sE_inv e2; exact c_X3_upperEntry E ez) ((cxI_ok (fun As h x h2 e => by obtain ⟨_, _, rfl, e0⟩ := sR_inv e; obtain ⟨_, _, rfl, e1⟩ := sI_inv e0; obtain ⟨_, _, rfl, e2⟩ := sI_inv e1; obtain ⟨rfl, ez⟩ := sE_inv e2; exact c_X3_entryAt E ez) ((cxI_ok (fun As h x h2 e => by obtain ⟨_, _, rfl, e0⟩ := sI_inv e; obtain ⟨_, _, rfl, e1⟩ := sI_inv e0; obtain ⟨rfl, ez⟩ := sE_inv e1; exact c_X7_has E ez) (fI0_ok E))))))
def I_X3_hitEntry_86 : List AI := [(.ireturn, 1, [], 0)]
theorem ok_X3_hitEntry_86 : vBL MT qLen qCh false q_X3_hitEntry.2.2.2.2.1 q_X3_hitEntry.2.2.2.2.2.1 q_X3_hitEntry.2.2.1 q_X3_hitEntry.1.cls q_X3_hitEntry.1.name q_X3_hitEntry.2.1 0 86 I_X3_hitEntry_86 = true := by decide +kernel
def p_X3_hitEntry_86 (y0 : Int32) (h : AH) : Option (Int32 × AH) :=
  some (y0, h)
set_option maxRecDepth 100000 in
theorem e_X3_hitEntry_86 {l : Launch} {D : va_G} {dA : Nat → ClassId} {z : Nat} {sa : Nat → Nat} {Hz : Heap} (E : StrOK qLen qCh l D dA z sa Hz) {h0 fin : AH} {x : Int32}  : ∀ (y0 : Int32) (h : AH), p_X3_hitEntry_86 y0 h = some (x, fin) → GM l D dA z sa Hz q_X3_hitEntry h0 (some (.int x)) fin 86 [] [.int y0] h := by
  intro y0 h hd
  exact step E (is := I_X3_hitEntry_86) (pc := 86) (K := k0) (FI := FI_X3_hitEntry) (FV := fV0) (FL := fL0) (rt := rtI) (ft := 0) (by exact hd) ok_X3_hitEntry_86 k0_ok (FI_X3_hitEntry_ok E) (fV0_ok E) (fL0_ok E) (rtI_ok rfl)
def I_X3_hitEntry_84 : List AI := [(.bipush (-2), 2, [], (-2))]
theorem ok_X3_hitEntry_84 : vBL MT qLen qCh false q_X3_hitEntry.2.2.2.2.1 q_X3_hitEntry.2.2.2.2.2.1 q_X3_hitEntry.2.2.1 q_X3_hitEntry.1.cls q_X3_hitEntry.1.name q_X3_hitEntry.2.1 86 84 I_X3_hitEntry_84 = true := by decide +kernel
def p_X3_hitEntry_84 (h : AH) : Option (Int32 × AH) :=
  p_X3_hitEntry_86 ((-2 : Int32)) h
set_option maxRecDepth 100000 in
theorem e_X3_hitEntry_84 {l : Launch} {D : va_G} {dA : Nat → ClassId} {z : Nat} {sa : Nat → Nat} {Hz : Heap} (E : StrOK qLen qCh l D dA z sa Hz) {h0 fin : AH} {x : Int32}  : ∀  (h : AH), p_X3_hitEntry_84 h = some (x, fin) → GM l D dA z sa Hz q_X3_hitEntry h0 (some (.int x)) fin 84 [] [] h := by
  intro h hd
  exact step E (is := I_X3_hitEntry_84) (pc := 84) (K := (kx 86 (fun la st h => sI st fun y0 st => sE st (p_X3_hitEntry_86 y0 h)) k0)) (FI := FI_X3_hitEntry) (FV := fV0) (FL := fL0) (rt := rtI) (ft := 86) (by exact hd) ok_X3_hitEntry_84 (kx_ok (fun la st h e => by obtain ⟨y0, _, rfl, e1⟩ := sI_inv e; obtain ⟨rfl, ez⟩ := sE_inv e1; exact gm_fewer (e_X3_hitEntry_86 E  y0 h ez) mem_nil) k0_ok) (FI_X3_hitEntry_ok E) (fV0_ok E) (fL0_ok E) (rtI_ok rfl)
def I_X3_hitEntry_63 : List AI := [(.iadd, 1, [], 0), (.istore 6, 2, [], 0), (.iload 4, 2, [], 0), (.iload 5, 2, [], 0), (.iand, 1, [], 0), (.iload 6, 2, [], 0), (.invokestatic 44, 3, [1, 60, 2, 803], 0), (.ifCond .eq 8, 3, [84], 0), (.iload 5, 2, [], 0), (.goto 5, 3, [86], 0)]
theorem ok_X3_hitEntry_63 : vBL MT qLen qCh false q_X3_hitEntry.2.2.2.2.1 q_X3_hitEntry.2.2.2.2.2.1 q_X3_hitEntry.2.2.1 q_X3_hitEntry.1.cls q_X3_hitEntry.1.name q_X3_hitEntry.2.1 0 63 I_X3_hitEntry_63 = true := by decide +kernel
def p_X3_hitEntry_63 (x4 : Int32) (x5 : Int32) (y0 : Int32) (y1 : Int32) (h : AH) : Option (Int32 × AH) :=
  let x101 := y1 + y0
  (p_X7_has (x4 &&& x5) x101 h).bind fun q102 =>
  if q102.1 = 0 then (p_X3_hitEntry_86 ((-2 : Int32)) q102.2)
  else
  p_X3_hitEntry_86 x5 q102.2
set_option maxRecDepth 100000 in
theorem e_X3_hitEntry_63 {l : Launch} {D : va_G} {dA : Nat → ClassId} {z : Nat} {sa : Nat → Nat} {Hz : Heap} (E : StrOK qLen qCh l D dA z sa Hz) {h0 fin : AH} {x : Int32}  : ∀ (x4 : Int32) (x5 : Int32) (y0 : Int32) (y1 : Int32) (h : AH), p_X3_hitEntry_63 x4 x5 y0 y1 h = some (x, fin) → GM l D dA z sa Hz q_X3_hitEntry h0 (some (.int x)) fin 63 [(4, .int x4), (5, .int x5)] [.int y0, .int y1] h := by
  intro x4 x5 y0 y1 h hd
  exact step E (is := I_X3_hitEntry_63) (pc := 63) (K := (kx 84 (fun la st h => sE st (p_X3_hitEntry_84 h)) (kx 86 (fun la st h => sI st fun y0 st => sE st (p_X3_hitEntry_86 y0 h)) k0))) (FI := FI_X3_hitEntry) (FV := fV0) (FL := fL0) (rt := rtI) (ft := 0) (by exact hd) ok_X3_hitEntry_63 (kx_ok (fun la st h e => by obtain ⟨rfl, ez⟩ := sE_inv e; exact gm_fewer (e_X3_hitEntry_84 E   h ez) mem_nil) (kx_ok (fun la st h e => by obtain ⟨y0, _, rfl, e1⟩ := sI_inv e; obtain ⟨rfl, ez⟩ := sE_inv e1; exact gm_fewer (e_X3_hitEntry_86 E  y0 h ez) mem_nil) k0_ok)) (FI_X3_hitEntry_ok E) (fV0_ok E) (fL0_ok E) (rtI_ok rfl)
def I_X3_hitEntry_62 : List AI := [(.iconst 0, 1, [], 0)]
theorem ok_X3_hitEntry_62 : vBL MT qLen qCh false q_X3_hitEntry.2.2.2.2.1 q_X3_hitEntry.2.2.2.2.2.1 q_X3_hitEntry.2.2.1 q_X3_hitEntry.1.cls q_X3_hitEntry.1.name q_X3_hitEntry.2.1 63 62 I_X3_hitEntry_62 = true := by decide +kernel
def p_X3_hitEntry_62 (x4 : Int32) (x5 : Int32) (y0 : Int32) (h : AH) : Option (Int32 × AH) :=
  p_X3_hitEntry_63 x4 x5 ((0 : Int32)) y0 h
set_option maxRecDepth 100000 in
theorem e_X3_hitEntry_62 {l : Launch} {D : va_G} {dA : Nat → ClassId} {z : Nat} {sa : Nat → Nat} {Hz : Heap} (E : StrOK qLen qCh l D dA z sa Hz) {h0 fin : AH} {x : Int32}  : ∀ (x4 : Int32) (x5 : Int32) (y0 : Int32) (h : AH), p_X3_hitEntry_62 x4 x5 y0 h = some (x, fin) → GM l D dA z sa Hz q_X3_hitEntry h0 (some (.int x)) fin 62 [(4, .int x4), (5, .int x5)] [.int y0] h := by
  intro x4 x5 y0 h hd
  exact step E (is := I_X3_hitEntry_62) (pc := 62) (K := (kx 63 (fun la st h => gI la 4 fun x4 => gI la 5 fun x5 => sI st fun y0 st => sI st fun y1 st => sE st (p_X3_hitEntry_63 x4 x5 y0 y1 h)) k0)) (FI := FI_X3_hitEntry) (FV := fV0) (FL := fL0) (rt := rtI) (ft := 63) (by exact hd) ok_X3_hitEntry_62 (kx_ok (fun la st h e => by obtain ⟨x4, m_x4, e1⟩ := gI_inv e; obtain ⟨x5, m_x5, e2⟩ := gI_inv e1; obtain ⟨y0, _, rfl, e3⟩ := sI_inv e2; obtain ⟨y1, _, rfl, e4⟩ := sI_inv e3; obtain ⟨rfl, ez⟩ := sE_inv e4; exact gm_fewer (e_X3_hitEntry_63 E  x4 x5 y0 y1 h ez) (mem_cons m_x4 (mem_cons m_x5 mem_nil))) k0_ok) (FI_X3_hitEntry_ok E) (fV0_ok E) (fL0_ok E) (rtI_ok rfl)
def I_X3_hitEntry_50 : List AI := [(.iload_n 3, 1, [], 0), (.iconst 2, 1, [], 2), (.invokestatic 44, 3, [1, 60, 2, 803], 0), (.ifCond .eq 7, 3, [62], 0), (.iconst 1, 1, [], 1), (.goto 4, 3, [63], 0)]
theorem ok_X3_hitEntry_50 : vBL MT qLen qCh false q_X3_hitEntry.2.2.2.2.1 q_X3_hitEntry.2.2.2.2.2.1 q_X3_hitEntry.2.2.1 q_X3_hitEntry.1.cls q_X3_hitEntry.1.name q_X3_hitEntry.2.1 0 50 I_X3_hitEntry_50 = true := by decide +kernel
def p_X3_hitEntry_50 (x3 : Int32) (x4 : Int32) (x5 : Int32) (y0 : Int32) (h : AH) : Option (Int32 × AH) :=
  (p_X7_has x3 ((2 : Int32)) h).bind fun q103 =>
  if q103.1 = 0 then (p_X3_hitEntry_63 x4 x5 ((0 : Int32)) y0 q103.2)
  else
  p_X3_hitEntry_63 x4 x5 ((1 : Int32)) y0 q103.2
set_option maxRecDepth 100000 in
theorem e_X3_hitEntry_50 {l : Launch} {D : va_G} {dA : Nat → ClassId} {z : Nat} {sa : Nat → Nat} {Hz : Heap} (E : StrOK qLen qCh l D dA z sa Hz) {h0 fin : AH} {x : Int32}  : ∀ (x3 : Int32) (x4 : Int32) (x5 : Int32) (y0 : Int32) (h : AH), p_X3_hitEntry_50 x3 x4 x5 y0 h = some (x, fin) → GM l D dA z sa Hz q_X3_hitEntry h0 (some (.int x)) fin 50 [(3, .int x3), (4, .int x4), (5, .int x5)] [.int y0] h := by
  intro x3 x4 x5 y0 h hd
  exact step E (is := I_X3_hitEntry_50) (pc := 50) (K := (kx 62 (fun la st h => gI la 4 fun x4 => gI la 5 fun x5 => sI st fun y0 st => sE st (p_X3_hitEntry_62 x4 x5 y0 h)) (kx 63 (fun la st h => gI la 4 fun x4 => gI la 5 fun x5 => sI st fun y0 st => sI st fun y1 st => sE st (p_X3_hitEntry_63 x4 x5 y0 y1 h)) k0))) (FI := FI_X3_hitEntry) (FV := fV0) (FL := fL0) (rt := rtI) (ft := 0) (by exact hd) ok_X3_hitEntry_50 (kx_ok (fun la st h e => by obtain ⟨x4, m_x4, e1⟩ := gI_inv e; obtain ⟨x5, m_x5, e2⟩ := gI_inv e1; obtain ⟨y0, _, rfl, e3⟩ := sI_inv e2; obtain ⟨rfl, ez⟩ := sE_inv e3; exact gm_fewer (e_X3_hitEntry_62 E  x4 x5 y0 h ez) (mem_cons m_x4 (mem_cons m_x5 mem_nil))) (kx_ok (fun la st h e => by obtain ⟨x4, m_x4, e1⟩ := gI_inv e; obtain ⟨x5, m_x5, e2⟩ := gI_inv e1; obtain ⟨y0, _, rfl, e3⟩ := sI_inv e2; obtain ⟨y1, _, rfl, e4⟩ := sI_inv e3; obtain ⟨rfl, ez⟩ := sE_inv e4; exact gm_fewer (e_X3_hitEntry_63 E  x4 x5 y0 y1 h ez) (mem_cons m_x4 (mem_cons m_x5 mem_nil))) k0_ok)) (FI_X3_hitEntry_ok E) (fV0_ok E) (fL0_ok E) (rtI_ok rfl)
def I_X3_hitEntry_49 : List AI := [(.iconst 0, 1, [], 0)]
theorem ok_X3_hitEntry_49 : vBL MT qLen qCh false q_X3_hitEntry.2.2.2.2.1 q_X3_hitEntry.2.2.2.2.2.1 q_X3_hitEntry.2.2.1 q_X3_hitEntry.1.cls q_X3_hitEntry.1.name q_X3_hitEntry.2.1 50 49 I_X3_hitEntry_49 = true := by decide +kernel
def p_X3_hitEntry_49 (x3 : Int32) (x4 : Int32) (x5 : Int32) (h : AH) : Option (Int32 × AH) :=
  p_X3_hitEntry_50 x3 x4 x5 ((0 : Int32)) h
set_option maxRecDepth 100000 in
theorem e_X3_hitEntry_49 {l : Launch} {D : va_G} {dA : Nat → ClassId} {z : Nat} {sa : Nat → Nat} {Hz : Heap} (E : StrOK qLen qCh l D dA z sa Hz) {h0 fin : AH} {x : Int32}  : ∀ (x3 : Int32) (x4 : Int32) (x5 : Int32) (h : AH), p_X3_hitEntry_49 x3 x4 x5 h = some (x, fin) → GM l D dA z sa Hz q_X3_hitEntry h0 (some (.int x)) fin 49 [(3, .int x3), (4, .int x4), (5, .int x5)] [] h := by
  intro x3 x4 x5 h hd
  exact step E (is := I_X3_hitEntry_49) (pc := 49) (K := (kx 50 (fun la st h => gI la 3 fun x3 => gI la 4 fun x4 => gI la 5 fun x5 => sI st fun y0 st => sE st (p_X3_hitEntry_50 x3 x4 x5 y0 h)) k0)) (FI := FI_X3_hitEntry) (FV := fV0) (FL := fL0) (rt := rtI) (ft := 50) (by exact hd) ok_X3_hitEntry_49 (kx_ok (fun la st h e => by obtain ⟨x3, m_x3, e1⟩ := gI_inv e; obtain ⟨x4, m_x4, e2⟩ := gI_inv e1; obtain ⟨x5, m_x5, e3⟩ := gI_inv e2; obtain ⟨y0, _, rfl, e4⟩ := sI_inv e3; obtain ⟨rfl, ez⟩ := sE_inv e4; exact gm_fewer (e_X3_hitEntry_50 E  x3 x4 x5 y0 h ez) (mem_cons m_x3 (mem_cons m_x4 (mem_cons m_x5 mem_nil)))) k0_ok) (FI_X3_hitEntry_ok E) (fV0_ok E) (fL0_ok E) (rtI_ok rfl)
def I_X3_hitEntry_37 : List AI := [(.iload_n 3, 1, [], 0), (.iconst 1, 1, [], 1), (.invokestatic 44, 3, [1, 60, 2, 803], 0), (.ifCond .eq 7, 3, [49], 0), (.iconst 2, 1, [], 2), (.goto 4, 3, [50], 0)]
theorem ok_X3_hitEntry_37 : vBL MT qLen qCh false q_X3_hitEntry.2.2.2.2.1 q_X3_hitEntry.2.2.2.2.2.1 q_X3_hitEntry.2.2.1 q_X3_hitEntry.1.cls q_X3_hitEntry.1.name q_X3_hitEntry.2.1 0 37 I_X3_hitEntry_37 = true := by decide +kernel
def p_X3_hitEntry_37 (x3 : Int32) (x4 : Int32) (x5 : Int32) (h : AH) : Option (Int32 × AH) :=
  (p_X7_has x3 ((1 : Int32)) h).bind fun q104 =>
  if q104.1 = 0 then (p_X3_hitEntry_50 x3 x4 x5 ((0 : Int32)) q104.2)
  else
  p_X3_hitEntry_50 x3 x4 x5 ((2 : Int32)) q104.2
set_option maxRecDepth 100000 in
theorem e_X3_hitEntry_37 {l : Launch} {D : va_G} {dA : Nat → ClassId} {z : Nat} {sa : Nat → Nat} {Hz : Heap} (E : StrOK qLen qCh l D dA z sa Hz) {h0 fin : AH} {x : Int32}  : ∀ (x3 : Int32) (x4 : Int32) (x5 : Int32) (h : AH), p_X3_hitEntry_37 x3 x4 x5 h = some (x, fin) → GM l D dA z sa Hz q_X3_hitEntry h0 (some (.int x)) fin 37 [(3, .int x3), (4, .int x4), (5, .int x5)] [] h := by
  intro x3 x4 x5 h hd
  exact step E (is := I_X3_hitEntry_37) (pc := 37) (K := (kx 49 (fun la st h => gI la 3 fun x3 => gI la 4 fun x4 => gI la 5 fun x5 => sE st (p_X3_hitEntry_49 x3 x4 x5 h)) (kx 50 (fun la st h => gI la 3 fun x3 => gI la 4 fun x4 => gI la 5 fun x5 => sI st fun y0 st => sE st (p_X3_hitEntry_50 x3 x4 x5 y0 h)) k0))) (FI := FI_X3_hitEntry) (FV := fV0) (FL := fL0) (rt := rtI) (ft := 0) (by exact hd) ok_X3_hitEntry_37 (kx_ok (fun la st h e => by obtain ⟨x3, m_x3, e1⟩ := gI_inv e; obtain ⟨x4, m_x4, e2⟩ := gI_inv e1; obtain ⟨x5, m_x5, e3⟩ := gI_inv e2; obtain ⟨rfl, ez⟩ := sE_inv e3; exact gm_fewer (e_X3_hitEntry_49 E  x3 x4 x5 h ez) (mem_cons m_x3 (mem_cons m_x4 (mem_cons m_x5 mem_nil)))) (kx_ok (fun la st h e => by obtain ⟨x3, m_x3, e1⟩ := gI_inv e; obtain ⟨x4, m_x4, e2⟩ := gI_inv e1; obtain ⟨x5, m_x5, e3⟩ := gI_inv e2; obtain ⟨y0, _, rfl, e4⟩ := sI_inv e3; obtain ⟨rfl, ez⟩ := sE_inv e4; exact gm_fewer (e_X3_hitEntry_50 E  x3 x4 x5 y0 h ez) (mem_cons m_x3 (mem_cons m_x4 (mem_cons m_x5 mem_nil)))) k0_ok)) (FI_X3_hitEntry_ok E) (fV0_ok E) (fL0_ok E) (rtI_ok rfl)
def I_X3_hitEntry_27 : List AI := [(.istore 5, 2, [], 0), (.iload 5, 2, [], 0), (.ifCond .ge 6, 3, [37], 0), (.bipush (-2), 2, [], (-2)), (.ireturn, 1, [], 0)]
theorem ok_X3_hitEntry_27 : vBL MT qLen qCh false q_X3_hitEntry.2.2.2.2.1 q_X3_hitEntry.2.2.2.2.2.1 q_X3_hitEntry.2.2.1 q_X3_hitEntry.1.cls q_X3_hitEntry.1.name q_X3_hitEntry.2.1 0 27 I_X3_hitEntry_27 = true := by decide +kernel
def p_X3_hitEntry_27 (x3 : Int32) (x4 : Int32) (y0 : Int32) (h : AH) : Option (Int32 × AH) :=
  if y0 < 0 then (some (((-2 : Int32)), h))
  else
  (p_X7_has x3 ((1 : Int32)) h).bind fun q105 =>
  if q105.1 = 0 then (p_X3_hitEntry_50 x3 x4 y0 ((0 : Int32)) q105.2)
  else
  p_X3_hitEntry_50 x3 x4 y0 ((2 : Int32)) q105.2
set_option maxRecDepth 100000 in
theorem e_X3_hitEntry_27 {l : Launch} {D : va_G} {dA : Nat → ClassId} {z : Nat} {sa : Nat → Nat} {Hz : Heap} (E : StrOK qLen qCh l D dA z sa Hz) {h0 fin : AH} {x : Int32}  : ∀ (x3 : Int32) (x4 : Int32) (y0 : Int32) (h : AH), p_X3_hitEntry_27 x3 x4 y0 h = some (x, fin) → GM l D dA z sa Hz q_X3_hitEntry h0 (some (.int x)) fin 27 [(3, .int x3), (4, .int x4)] [.int y0] h := by
  intro x3 x4 y0 h hd
  exact step E (is := I_X3_hitEntry_27) (pc := 27) (K := (kx 37 (fun la st h => gI la 3 fun x3 => gI la 4 fun x4 => gI la 5 fun x5 => sE st (p_X3_hitEntry_37 x3 x4 x5 h)) k0)) (FI := FI_X3_hitEntry) (FV := fV0) (FL := fL0) (rt := rtI) (ft := 0) (by exact hd) ok_X3_hitEntry_27 (kx_ok (fun la st h e => by obtain ⟨x3, m_x3, e1⟩ := gI_inv e; obtain ⟨x4, m_x4, e2⟩ := gI_inv e1; obtain ⟨x5, m_x5, e3⟩ := gI_inv e2; obtain ⟨rfl, ez⟩ := sE_inv e3; exact gm_fewer (e_X3_hitEntry_37 E  x3 x4 x5 h ez) (mem_cons m_x3 (mem_cons m_x4 (mem_cons m_x5 mem_nil)))) k0_ok) (FI_X3_hitEntry_ok E) (fV0_ok E) (fL0_ok E) (rtI_ok rfl)
def I_X3_hitEntry_25 : List AI := [(.bipush (-2), 2, [], (-2))]
theorem ok_X3_hitEntry_25 : vBL MT qLen qCh false q_X3_hitEntry.2.2.2.2.1 q_X3_hitEntry.2.2.2.2.2.1 q_X3_hitEntry.2.2.1 q_X3_hitEntry.1.cls q_X3_hitEntry.1.name q_X3_hitEntry.2.1 27 25 I_X3_hitEntry_25 = true := by decide +kernel
def p_X3_hitEntry_25 (x3 : Int32) (x4 : Int32) (h : AH) : Option (Int32 × AH) :=
  p_X3_hitEntry_27 x3 x4 ((-2 : Int32)) h
set_option maxRecDepth 100000 in
theorem e_X3_hitEntry_25 {l : Launch} {D : va_G} {dA : Nat → ClassId} {z : Nat} {sa : Nat → Nat} {Hz : Heap} (E : StrOK qLen qCh l D dA z sa Hz) {h0 fin : AH} {x : Int32}  : ∀ (x3 : Int32) (x4 : Int32) (h : AH), p_X3_hitEntry_25 x3 x4 h = some (x, fin) → GM l D dA z sa Hz q_X3_hitEntry h0 (some (.int x)) fin 25 [(3, .int x3), (4, .int x4)] [] h := by
  intro x3 x4 h hd
  exact step E (is := I_X3_hitEntry_25) (pc := 25) (K := (kx 27 (fun la st h => gI la 3 fun x3 => gI la 4 fun x4 => sI st fun y0 st => sE st (p_X3_hitEntry_27 x3 x4 y0 h)) k0)) (FI := FI_X3_hitEntry) (FV := fV0) (FL := fL0) (rt := rtI) (ft := 27) (by exact hd) ok_X3_hitEntry_25 (kx_ok (fun la st h e => by obtain ⟨x3, m_x3, e1⟩ := gI_inv e; obtain ⟨x4, m_x4, e2⟩ := gI_inv e1; obtain ⟨y0, _, rfl, e3⟩ := sI_inv e2; obtain ⟨rfl, ez⟩ := sE_inv e3; exact gm_fewer (e_X3_hitEntry_27 E  x3 x4 y0 h ez) (mem_cons m_x3 (mem_cons m_x4 mem_nil))) k0_ok) (FI_X3_hitEntry_ok E) (fV0_ok E) (fL0_ok E) (rtI_ok rfl)
def I_X3_hitEntry_0 : List AI := [(.aload_n 0, 1, [], 0), (.iload_n 1, 1, [], 0), (.iload_n 2, 1, [], 0), (.invokevirtual 72, 3, [1, 89, 3, 2, 791], 0), (.istore 4, 2, [], 0), (.iload 4, 2, [], 0), (.ifCond .lt 15, 3, [25], 0), (.aload_n 0, 1, [], 0), (.iload 4, 2, [], 0), (.iconst 4, 1, [], 4), (.idiv, 1, [], 0), (.iload_n 2, 1, [], 0), (.invokevirtual 69, 3, [1, 88, 3, 2, 799], 0), (.goto 5, 3, [27], 0)]
theorem ok_X3_hitEntry_0 : vBL MT qLen qCh false q_X3_hitEntry.2.2.2.2.1 q_X3_hitEntry.2.2.2.2.2.1 q_X3_hitEntry.2.2.1 q_X3_hitEntry.1.cls q_X3_hitEntry.1.name q_X3_hitEntry.2.1 0 0 I_X3_hitEntry_0 = true := by decide +kernel
def p_X3_hitEntry (a0 : Nat) (x1 : Int32) (x2 : Int32) (x3 : Int32) (h : AH) : Option (Int32 × AH) :=
  if (tg h a0).1 = 2 then ((p_X3_upperEntry a0 x1 x2 h).bind fun q106 =>
  if q106.1 < 0 then (p_X3_hitEntry_27 x3 q106.1 ((-2 : Int32)) q106.2)
  else
  if ((4 : Int32)) = 0 then none else
  if (tg q106.2 a0).1 = 2 then ((p_X3_entryAt a0 (q106.1 / ((4 : Int32))) x2 q106.2).bind fun q107 =>
  p_X3_hitEntry_27 x3 q106.1 q107.1 q107.2) else none) else none
set_option maxRecDepth 100000 in
theorem e_X3_hitEntry_0 {l : Launch} {D : va_G} {dA : Nat → ClassId} {z : Nat} {sa : Nat → Nat} {Hz : Heap} (E : StrOK qLen qCh l D dA z sa Hz) {h0 fin : AH} {x : Int32}  : ∀ (a0 : Nat) (x1 : Int32) (x2 : Int32) (x3 : Int32) (h : AH), p_X3_hitEntry a0 x1 x2 x3 h = some (x, fin) → GM l D dA z sa Hz q_X3_hitEntry h0 (some (.int x)) fin 0 [(0, .ref a0), (1, .int x1), (2, .int x2), (3, .int x3)] [] h := by
  intro a0 x1 x2 x3 h hd
  exact step E (is := I_X3_hitEntry_0) (pc := 0) (K := (kx 25 (fun la st h => gI la 3 fun x3 => gI la 4 fun x4 => sE st (p_X3_hitEntry_25 x3 x4 h)) (kx 27 (fun la st h => gI la 3 fun x3 => gI la 4 fun x4 => sI st fun y0 st => sE st (p_X3_hitEntry_27 x3 x4 y0 h)) k0))) (FI := FI_X3_hitEntry) (FV := fV0) (FL := fL0) (rt := rtI) (ft := 0) (by exact hd) ok_X3_hitEntry_0 (kx_ok (fun la st h e => by obtain ⟨x3, m_x3, e1⟩ := gI_inv e; obtain ⟨x4, m_x4, e2⟩ := gI_inv e1; obtain ⟨rfl, ez⟩ := sE_inv e2; exact gm_fewer (e_X3_hitEntry_25 E  x3 x4 h ez) (mem_cons m_x3 (mem_cons m_x4 mem_nil))) (kx_ok (fun la st h e => by obtain ⟨x3, m_x3, e1⟩ := gI_inv e; obtain ⟨x4, m_x4, e2⟩ := gI_inv e1; obtain ⟨y0, _, rfl, e3⟩ := sI_inv e2; obtain ⟨rfl, ez⟩ := sE_inv e3; exact gm_fewer (e_X3_hitEntry_27 E  x3 x4 y0 h ez) (mem_cons m_x3 (mem_cons m_x4 mem_nil))) k0_ok)) (FI_X3_hitEntry_ok E) (fV0_ok E) (fL0_ok E) (rtI_ok rfl)
theorem c_X3_hitEntry {l : Launch} {D : va_G} {dA : Nat → ClassId} {z : Nat} {sa : Nat → Nat} {Hz : Heap} (E : StrOK qLen qCh l D dA z sa Hz) {a0 : Nat} {x1 : Int32} {x2 : Int32} {x3 : Int32} {h fin : AH} {x : Int32} (hd : p_X3_hitEntry a0 x1 x2 x3 h = some (x, fin)) : CalOK l D dA z sa Hz q_X3_hitEntry [.ref a0, .int x1, .int x2, .int x3] h (some (.int x)) fin := calOf (by decide +kernel) (Nat.le_of_ble_eq_true rfl) (e_X3_hitEntry_0 E a0 x1 x2 x3 h hd)
def FI_X2_hostByHardware : Nat → List Value → AH → Option (Int32 × AH) := (cx 90 (fun As h => sR As fun a0 As => sI As fun x1 As => sI As fun x2 As => sI As fun x3 As => sE As (p_X3_hitEntry a0 x1 x2 x3 h)) (cx 58 (fun As h => sR As fun a0 As => sI As fun x1 As => sE As (p_X1_hostOf a0 x1 h)) fI0))
theorem FI_X2_hostByHardware_ok {l : Launch} {D : va_G} {dA : Nat → ClassId} {z : Nat} {sa : Nat → Nat} {Hz : Heap} (E : StrOK qLen qCh l D dA z sa Hz) : ∀ mi As h x h', FI_X2_hostByHardware mi As h = some (x, h') → CalOK l D dA z sa Hz (MT mi) As h (some (.int x)) h' := (cxI_ok (fun As h x h2 e => by obtain ⟨_, _, rfl, e0⟩ := sR_inv e; obtain ⟨_, _, rfl, e1⟩ := sI_inv e0; obtain ⟨_, _, rfl, e2⟩ := sI_inv e1; obtain ⟨_, _, rfl, e3⟩ := sI_inv e2; obtain ⟨rfl, ez⟩ := sE_inv e3; exact c_X3_hitEntry E ez) ((cxI_ok (fun As h x h2 e => by obtain ⟨_, _, rfl, e0⟩ := sR_inv e; obtain ⟨_, _, rfl, e1⟩ := sI_inv e0; obtain ⟨rfl, ez⟩ := sE_inv e1; exact c_X1_hostOf E ez) (fI0_ok E))))
def I_X2_hostByHardware_36 : List AI := [(.ireturn, 1, [], 0)]
theorem ok_X2_hostByHardware_36 : vBL MT qLen qCh false q_X2_hostByHardware.2.2.2.2.1 q_X2_hostByHardware.2.2.2.2.2.1 q_X2_hostByHardware.2.2.1 q_X2_hostByHardware.1.cls q_X2_hostByHardware.1.name q_X2_hostByHardware.2.1 0 36 I_X2_hostByHardware_36 = true := by decide +kernel
def p_X2_hostByHardware_36 (y0 : Int32) (h : AH) : Option (Int32 × AH) :=
  some (y0, h)
set_option maxRecDepth 100000 in
theorem e_X2_hostByHardware_36 {l : Launch} {D : va_G} {dA : Nat → ClassId} {z : Nat} {sa : Nat → Nat} {Hz : Heap} (E : StrOK qLen qCh l D dA z sa Hz) {h0 fin : AH} {x : Int32}  : ∀ (y0 : Int32) (h : AH), p_X2_hostByHardware_36 y0 h = some (x, fin) → GM l D dA z sa Hz q_X2_hostByHardware h0 (some (.int x)) fin 36 [] [.int y0] h := by
  intro y0 h hd
  exact step E (is := I_X2_hostByHardware_36) (pc := 36) (K := k0) (FI := FI_X2_hostByHardware) (FV := fV0) (FL := fL0) (rt := rtI) (ft := 0) (by exact hd) ok_X2_hostByHardware_36 k0_ok (FI_X2_hostByHardware_ok E) (fV0_ok E) (fL0_ok E) (rtI_ok rfl)
def I_X2_hostByHardware_34 : List AI := [(.bipush (-2), 2, [], (-2))]
theorem ok_X2_hostByHardware_34 : vBL MT qLen qCh false q_X2_hostByHardware.2.2.2.2.1 q_X2_hostByHardware.2.2.2.2.2.1 q_X2_hostByHardware.2.2.1 q_X2_hostByHardware.1.cls q_X2_hostByHardware.1.name q_X2_hostByHardware.2.1 36 34 I_X2_hostByHardware_34 = true := by decide +kernel
def p_X2_hostByHardware_34 (h : AH) : Option (Int32 × AH) :=
  p_X2_hostByHardware_36 ((-2 : Int32)) h
set_option maxRecDepth 100000 in
theorem e_X2_hostByHardware_34 {l : Launch} {D : va_G} {dA : Nat → ClassId} {z : Nat} {sa : Nat → Nat} {Hz : Heap} (E : StrOK qLen qCh l D dA z sa Hz) {h0 fin : AH} {x : Int32}  : ∀  (h : AH), p_X2_hostByHardware_34 h = some (x, fin) → GM l D dA z sa Hz q_X2_hostByHardware h0 (some (.int x)) fin 34 [] [] h := by
  intro h hd
  exact step E (is := I_X2_hostByHardware_34) (pc := 34) (K := (kx 36 (fun la st h => sI st fun y0 st => sE st (p_X2_hostByHardware_36 y0 h)) k0)) (FI := FI_X2_hostByHardware) (FV := fV0) (FL := fL0) (rt := rtI) (ft := 36) (by exact hd) ok_X2_hostByHardware_34 (kx_ok (fun la st h e => by obtain ⟨y0, _, rfl, e1⟩ := sI_inv e; obtain ⟨rfl, ez⟩ := sE_inv e1; exact gm_fewer (e_X2_hostByHardware_36 E  y0 h ez) mem_nil) k0_ok) (FI_X2_hostByHardware_ok E) (fV0_ok E) (fL0_ok E) (rtI_ok rfl)
def I_X2_hostByHardware_0 : List AI := [(.aload_n 0, 1, [], 0), (.getfield 27, 3, [1, 2, 2, 322], 0), (.aload_n 0, 1, [], 0), (.getfield 22, 3, [1, 1, 2, 320], 0), (.getfield 62, 3, [0, 4, 0, 195], 0), (.iload_n 1, 1, [], 0), (.iload_n 2, 1, [], 0), (.invokevirtual 65, 3, [1, 90, 4, 2, 787], 0), (.istore_n 3, 1, [], 0), (.iload_n 3, 1, [], 0), (.ifCond .lt 16, 3, [34], 0), (.aload_n 0, 1, [], 0), (.getfield 22, 3, [1, 1, 2, 320], 0), (.iload_n 3, 1, [], 0), (.iconst 4, 1, [], 4), (.idiv, 1, [], 0), (.invokevirtual 69, 3, [1, 58, 2, 0, 804], 0), (.goto 5, 3, [36], 0)]
theorem ok_X2_hostByHardware_0 : vBL MT qLen qCh false q_X2_hostByHardware.2.2.2.2.1 q_X2_hostByHardware.2.2.2.2.2.1 q_X2_hostByHardware.2.2.1 q_X2_hostByHardware.1.cls q_X2_hostByHardware.1.name q_X2_hostByHardware.2.1 0 0 I_X2_hostByHardware_0 = true := by decide +kernel
def p_X2_hostByHardware (a0 : Nat) (x1 : Int32) (x2 : Int32) (h : AH) : Option (Int32 × AH) :=
  if (tg h a0).1 = 1 then (if (tg h a0).1 = 1 then (if (tg h (rR h a0 1)).1 = 0 then (if (tg h (rR h a0 2)).1 = 2 then ((p_X3_hitEntry (rR h a0 2) (rI h (rR h a0 1) 4) x1 x2 h).bind fun q101 =>
  if q101.1 < 0 then (p_X2_hostByHardware_36 ((-2 : Int32)) q101.2)
  else
  if (tg q101.2 a0).1 = 1 then (if ((4 : Int32)) = 0 then none else
  if (tg q101.2 (rR q101.2 a0 1)).1 = 0 then ((p_X1_hostOf (rR q101.2 a0 1) (q101.1 / ((4 : Int32))) q101.2).bind fun q102 =>
  p_X2_hostByHardware_36 q102.1 q102.2) else none) else none) else none) else none) else none) else none
set_option maxRecDepth 100000 in
theorem e_X2_hostByHardware_0 {l : Launch} {D : va_G} {dA : Nat → ClassId} {z : Nat} {sa : Nat → Nat} {Hz : Heap} (E : StrOK qLen qCh l D dA z sa Hz) {h0 fin : AH} {x : Int32}  : ∀ (a0 : Nat) (x1 : Int32) (x2 : Int32) (h : AH), p_X2_hostByHardware a0 x1 x2 h = some (x, fin) → GM l D dA z sa Hz q_X2_hostByHardware h0 (some (.int x)) fin 0 [(0, .ref a0), (1, .int x1), (2, .int x2)] [] h := by
  intro a0 x1 x2 h hd
  exact step E (is := I_X2_hostByHardware_0) (pc := 0) (K := (kx 34 (fun la st h => sE st (p_X2_hostByHardware_34 h)) (kx 36 (fun la st h => sI st fun y0 st => sE st (p_X2_hostByHardware_36 y0 h)) k0))) (FI := FI_X2_hostByHardware) (FV := fV0) (FL := fL0) (rt := rtI) (ft := 0) (by exact hd) ok_X2_hostByHardware_0 (kx_ok (fun la st h e => by obtain ⟨rfl, ez⟩ := sE_inv e; exact gm_fewer (e_X2_hostByHardware_34 E   h ez) mem_nil) (kx_ok (fun la st h e => by obtain ⟨y0, _, rfl, e1⟩ := sI_inv e; obtain ⟨rfl, ez⟩ := sE_inv e1; exact gm_fewer (e_X2_hostByHardware_36 E  y0 h ez) mem_nil) k0_ok)) (FI_X2_hostByHardware_ok E) (fV0_ok E) (fL0_ok E) (rtI_ok rfl)
theorem c_X2_hostByHardware {l : Launch} {D : va_G} {dA : Nat → ClassId} {z : Nat} {sa : Nat → Nat} {Hz : Heap} (E : StrOK qLen qCh l D dA z sa Hz) {a0 : Nat} {x1 : Int32} {x2 : Int32} {h fin : AH} {x : Int32} (hd : p_X2_hostByHardware a0 x1 x2 h = some (x, fin)) : CalOK l D dA z sa Hz q_X2_hostByHardware [.ref a0, .int x1, .int x2] h (some (.int x)) fin := calOf (by decide +kernel) (Nat.le_of_ble_eq_true rfl) (e_X2_hostByHardware_0 E a0 x1 x2 h hd)
def FI_X7_hits : Nat → List Value → AH → Option (Int32 × AH) := (cx 68 (fun As h => sR As fun a0 As => sI As fun x1 As => sE As (p_X7_isPage a0 x1 h)) (cx 9 (fun As h => sR As fun a0 As => sI As fun x1 As => sE As (p_X7_refuse a0 x1 h)) (cx 69 (fun As h => sI As fun x0 As => sI As fun x1 As => sE As (p_X7_mode x0 x1 h)) (cx 91 (fun As h => sR As fun a0 As => sI As fun x1 As => sI As fun x2 As => sE As (p_X2_hostByHardware a0 x1 x2 h)) (cx 50 (fun As h => sR As fun a0 As => sI As fun x1 As => sE As (p_X7_answer a0 x1 h)) fI0)))))
theorem FI_X7_hits_ok {l : Launch} {D : va_G} {dA : Nat → ClassId} {z : Nat} {sa : Nat → Nat} {Hz : Heap} (E : StrOK qLen qCh l D dA z sa Hz) : ∀ mi As h x h', FI_X7_hits mi As h = some (x, h') → CalOK l D dA z sa Hz (MT mi) As h (some (.int x)) h' := (cxI_ok (fun As h x h2 e => by obtain ⟨_, _, rfl, e0⟩ := sR_inv e; obtain ⟨_, _, rfl, e1⟩ := sI_inv e0; obtain ⟨rfl, ez⟩ := sE_inv e1; exact c_X7_isPage E ez) ((cxI_ok (fun As h x h2 e => by obtain ⟨_, _, rfl, e0⟩ := sR_inv e; obtain ⟨_, _, rfl, e1⟩ := sI_inv e0; obtain ⟨rfl, ez⟩ := sE_inv e1; exact c_X7_refuse E ez) ((cxI_ok (fun As h x h2 e => by obtain ⟨_, _, rfl, e0⟩ := sI_inv e; obtain ⟨_, _, rfl, e1⟩ := sI_inv e0; obtain ⟨rfl, ez⟩ := sE_inv e1; exact c_X7_mode E ez) ((cxI_ok (fun As h x h2 e => by obtain ⟨_, _, rfl, e0⟩ := sR_inv e; obtain ⟨_, _, rfl, e1⟩ := sI_inv e0; obtain ⟨_, _, rfl, e2⟩ := sI_inv e1; obtain ⟨rfl, ez⟩ := sE_inv e2; exact c_X2_hostByHardware E ez) ((cxI_ok (fun As h x h2 e => by obtain ⟨_, _, rfl, e0⟩ := sR_inv e; obtain ⟨_, _, rfl, e1⟩ := sI_inv e0; obtain ⟨rfl, ez⟩ := sE_inv e1; exact c_X7_answer E ez) (fI0_ok E))))))))))
def I_X7_hits_14 : List AI := [(.aload_n 0, 1, [], 0), (.aload_n 0, 1, [], 0), (.getfield 29, 3, [6, 4, 2, 358], 0), (.iload_n 1, 1, [], 0), (.iload_n 2, 1, [], 0), (.iload_n 3, 1, [], 0), (.invokestatic 123, 3, [1, 69, 2, 708], 0), (.invokevirtual 150, 3, [1, 91, 3, 1, 783], 0), (.invokevirtual 68, 3, [1, 50, 2, 6, 633], 0), (.ireturn, 1, [], 0)]
theorem ok_X7_hits_14 : vBL MT qLen qCh false q_X7_hits.2.2.2.2.1 q_X7_hits.2.2.2.2.2.1 q_X7_hits.2.2.1 q_X7_hits.1.cls q_X7_hits.1.name q_X7_hits.2.1 0 14 I_X7_hits_14 = true := by decide +kernel
def p_X7_hits_14 (a0 : Nat) (x1 : Int32) (x2 : Int32) (x3 : Int32) (h : AH) : Option (Int32 × AH) :=
  if (tg h a0).1 = 6 then ((p_X7_mode x2 x3 h).bind fun q101 =>
  if (tg q101.2 (rR h a0 4)).1 = 1 then ((p_X2_hostByHardware (rR h a0 4) x1 q101.1 q101.2).bind fun q102 =>
  if (tg q102.2 a0).1 = 6 then ((p_X7_answer a0 q102.1 q102.2).bind fun q103 =>
  some (q103.1, q103.2)) else none) else none) else none
set_option maxRecDepth 100000 in
theorem e_X7_hits_14 {l : Launch} {D : va_G} {dA : Nat → ClassId} {z : Nat} {sa : Nat → Nat} {Hz : Heap} (E : StrOK qLen qCh l D dA z sa Hz) {h0 fin : AH} {x : Int32}  : ∀ (a0 : Nat) (x1 : Int32) (x2 : Int32) (x3 : Int32) (h : AH), p_X7_hits_14 a0 x1 x2 x3 h = some (x, fin) → GM l D dA z sa Hz q_X7_hits h0 (some (.int x)) fin 14 [(0, .ref a0), (1, .int x1), (2, .int x2), (3, .int x3)] [] h := by
  intro a0 x1 x2 x3 h hd
  exact step E (is := I_X7_hits_14) (pc := 14) (K := k0) (FI := FI_X7_hits) (FV := fV0) (FL := fL0) (rt := rtI) (ft := 0) (by exact hd) ok_X7_hits_14 k0_ok (FI_X7_hits_ok E) (fV0_ok E) (fL0_ok E) (rtI_ok rfl)
def I_X7_hits_0 : List AI := [(.aload_n 0, 1, [], 0), (.iload_n 1, 1, [], 0), (.invokevirtual 120, 3, [1, 68, 2, 6, 704], 0), (.ifCond .ne 9, 3, [14], 0), (.aload_n 0, 1, [], 0), (.iconst 1, 1, [], 1), (.invokevirtual 54, 3, [1, 9, 2, 6, 403], 0), (.ireturn, 1, [], 0)]
theorem ok_X7_hits_0 : vBL MT qLen qCh false q_X7_hits.2.2.2.2.1 q_X7_hits.2.2.2.2.2.1 q_X7_hits.2.2.1 q_X7_hits.1.cls q_X7_hits.1.name q_X7_hits.2.1 0 0 I_X7_hits_0 = true := by decide +kernel
def p_X7_hits (a0 : Nat) (x1 : Int32) (x2 : Int32) (x3 : Int32) (h : AH) : Option (Int32 × AH) :=
  if (tg h a0).1 = 6 then ((p_X7_isPage a0 x1 h).bind fun q104 =>
  if q104.1 = 0 then (if (tg q104.2 a0).1 = 6 then ((p_X7_refuse a0 ((1 : Int32)) q104.2).bind fun q108 =>
  some (q108.1, q108.2)) else none)
  else
  if (tg q104.2 a0).1 = 6 then ((p_X7_mode x2 x3 q104.2).bind fun q105 =>
  if (tg q105.2 (rR q104.2 a0 4)).1 = 1 then ((p_X2_hostByHardware (rR q104.2 a0 4) x1 q105.1 q105.2).bind fun q106 =>
  if (tg q106.2 a0).1 = 6 then ((p_X7_answer a0 q106.1 q106.2).bind fun q107 =>
  some (q107.1, q107.2)) else none) else none) else none) else none
set_option maxRecDepth 100000 in
theorem e_X7_hits_0 {l : Launch} {D : va_G} {dA : Nat → ClassId} {z : Nat} {sa : Nat → Nat} {Hz : Heap} (E : StrOK qLen qCh l D dA z sa Hz) {h0 fin : AH} {x : Int32}  : ∀ (a0 : Nat) (x1 : Int32) (x2 : Int32) (x3 : Int32) (h : AH), p_X7_hits a0 x1 x2 x3 h = some (x, fin) → GM l D dA z sa Hz q_X7_hits h0 (some (.int x)) fin 0 [(0, .ref a0), (1, .int x1), (2, .int x2), (3, .int x3)] [] h := by
  intro a0 x1 x2 x3 h hd
  exact step E (is := I_X7_hits_0) (pc := 0) (K := (kx 14 (fun la st h => gR la 0 fun a0 => gI la 1 fun x1 => gI la 2 fun x2 => gI la 3 fun x3 => sE st (p_X7_hits_14 a0 x1 x2 x3 h)) k0)) (FI := FI_X7_hits) (FV := fV0) (FL := fL0) (rt := rtI) (ft := 0) (by exact hd) ok_X7_hits_0 (kx_ok (fun la st h e => by obtain ⟨a0, m_a0, e1⟩ := gR_inv e; obtain ⟨x1, m_x1, e2⟩ := gI_inv e1; obtain ⟨x2, m_x2, e3⟩ := gI_inv e2; obtain ⟨x3, m_x3, e4⟩ := gI_inv e3; obtain ⟨rfl, ez⟩ := sE_inv e4; exact gm_fewer (e_X7_hits_14 E  a0 x1 x2 x3 h ez) (mem_cons m_a0 (mem_cons m_x1 (mem_cons m_x2 (mem_cons m_x3 mem_nil))))) k0_ok) (FI_X7_hits_ok E) (fV0_ok E) (fL0_ok E) (rtI_ok rfl)
theorem c_X7_hits {l : Launch} {D : va_G} {dA : Nat → ClassId} {z : Nat} {sa : Nat → Nat} {Hz : Heap} (E : StrOK qLen qCh l D dA z sa Hz) {a0 : Nat} {x1 : Int32} {x2 : Int32} {x3 : Int32} {h fin : AH} {x : Int32} (hd : p_X7_hits a0 x1 x2 x3 h = some (x, fin)) : CalOK l D dA z sa Hz q_X7_hits [.ref a0, .int x1, .int x2, .int x3] h (some (.int x)) fin := calOf (by decide +kernel) (Nat.le_of_ble_eq_true rfl) (e_X7_hits_0 E a0 x1 x2 x3 h hd)
def FI_X2_isStale : Nat → List Value → AH → Option (Int32 × AH) := (cx 91 (fun As h => sR As fun a0 As => sI As fun x1 As => sI As fun x2 As => sE As (p_X2_hostByHardware a0 x1 x2 h)) (cx 76 (fun As h => sR As fun a0 As => sI As fun x1 As => sI As fun x2 As => sE As (p_X1_seek a0 x1 x2 h)) fI0))
theorem FI_X2_isStale_ok {l : Launch} {D : va_G} {dA : Nat → ClassId} {z : Nat} {sa : Nat → Nat} {Hz : Heap} (E : StrOK qLen qCh l D dA z sa Hz) : ∀ mi As h x h', FI_X2_isStale mi As h = some (x, h') → CalOK l D dA z sa Hz (MT mi) As h (some (.int x)) h' := (cxI_ok (fun As h x h2 e => by obtain ⟨_, _, rfl, e0⟩ := sR_inv e; obtain ⟨_, _, rfl, e1⟩ := sI_inv e0; obtain ⟨_, _, rfl, e2⟩ := sI_inv e1; obtain ⟨rfl, ez⟩ := sE_inv e2; exact c_X2_hostByHardware E ez) ((cxI_ok (fun As h x h2 e => by obtain ⟨_, _, rfl, e0⟩ := sR_inv e; obtain ⟨_, _, rfl, e1⟩ := sI_inv e0; obtain ⟨_, _, rfl, e2⟩ := sI_inv e1; obtain ⟨rfl, ez⟩ := sE_inv e2; exact c_X1_seek E ez) (fI0_ok E))))
def I_X2_isStale_29 : List AI := [(.ireturn, 1, [], 0)]
theorem ok_X2_isStale_29 : vBL MT qLen qCh false q_X2_isStale.2.2.2.2.1 q_X2_isStale.2.2.2.2.2.1 q_X2_isStale.2.2.1 q_X2_isStale.1.cls q_X2_isStale.1.name q_X2_isStale.2.1 0 29 I_X2_isStale_29 = true := by decide +kernel
def p_X2_isStale_29 (y0 : Int32) (h : AH) : Option (Int32 × AH) :=
  if y0 &&& 1 = y0 then some (y0, h) else none
set_option maxRecDepth 100000 in
theorem e_X2_isStale_29 {l : Launch} {D : va_G} {dA : Nat → ClassId} {z : Nat} {sa : Nat → Nat} {Hz : Heap} (E : StrOK qLen qCh l D dA z sa Hz) {h0 fin : AH} {x : Int32}  : ∀ (y0 : Int32) (h : AH), p_X2_isStale_29 y0 h = some (x, fin) → GM l D dA z sa Hz q_X2_isStale h0 (some (.int x)) fin 29 [] [.int y0] h := by
  intro y0 h hd
  exact step E (is := I_X2_isStale_29) (pc := 29) (K := k0) (FI := FI_X2_isStale) (FV := fV0) (FL := fL0) (rt := rtZ) (ft := 0) (by exact hd) ok_X2_isStale_29 k0_ok (FI_X2_isStale_ok E) (fV0_ok E) (fL0_ok E) (rtZ_ok rfl)
def I_X2_isStale_28 : List AI := [(.iconst 0, 1, [], 0)]
theorem ok_X2_isStale_28 : vBL MT qLen qCh false q_X2_isStale.2.2.2.2.1 q_X2_isStale.2.2.2.2.2.1 q_X2_isStale.2.2.1 q_X2_isStale.1.cls q_X2_isStale.1.name q_X2_isStale.2.1 29 28 I_X2_isStale_28 = true := by decide +kernel
def p_X2_isStale_28 (h : AH) : Option (Int32 × AH) :=
  p_X2_isStale_29 ((0 : Int32)) h
set_option maxRecDepth 100000 in
theorem e_X2_isStale_28 {l : Launch} {D : va_G} {dA : Nat → ClassId} {z : Nat} {sa : Nat → Nat} {Hz : Heap} (E : StrOK qLen qCh l D dA z sa Hz) {h0 fin : AH} {x : Int32}  : ∀  (h : AH), p_X2_isStale_28 h = some (x, fin) → GM l D dA z sa Hz q_X2_isStale h0 (some (.int x)) fin 28 [] [] h := by
  intro h hd
  exact step E (is := I_X2_isStale_28) (pc := 28) (K := (kx 29 (fun la st h => sI st fun y0 st => sE st (p_X2_isStale_29 y0 h)) k0)) (FI := FI_X2_isStale) (FV := fV0) (FL := fL0) (rt := rtZ) (ft := 29) (by exact hd) ok_X2_isStale_28 (kx_ok (fun la st h e => by obtain ⟨y0, _, rfl, e1⟩ := sI_inv e; obtain ⟨rfl, ez⟩ := sE_inv e1; exact gm_fewer (e_X2_isStale_29 E  y0 h ez) mem_nil) k0_ok) (FI_X2_isStale_ok E) (fV0_ok E) (fL0_ok E) (rtZ_ok rfl)
def I_X2_isStale_0 : List AI := [(.aload_n 0, 1, [], 0), (.iload_n 1, 1, [], 0), (.iload_n 2, 1, [], 0), (.invokevirtual 73, 3, [1, 91, 3, 1, 817], 0), (.istore_n 3, 1, [], 0), (.iload_n 3, 1, [], 0), (.ifCond .lt 20, 3, [28], 0), (.aload_n 0, 1, [], 0), (.getfield 22, 3, [1, 1, 2, 320], 0), (.iload_n 1, 1, [], 0), (.iload_n 2, 1, [], 0), (.invokevirtual 77, 3, [1, 76, 3, 0, 818], 0), (.iload_n 3, 1, [], 0), (.if_icmp .eq 7, 3, [28], 0), (.iconst 1, 1, [], 1), (.goto 4, 3, [29], 0)]
theorem ok_X2_isStale_0 : vBL MT qLen qCh false q_X2_isStale.2.2.2.2.1 q_X2_isStale.2.2.2.2.2.1 q_X2_isStale.2.2.1 q_X2_isStale.1.cls q_X2_isStale.1.name q_X2_isStale.2.1 0 0 I_X2_isStale_0 = true := by decide +kernel
def p_X2_isStale (a0 : Nat) (x1 : Int32) (x2 : Int32) (h : AH) : Option (Int32 × AH) :=
  if (tg h a0).1 = 1 then ((p_X2_hostByHardware a0 x1 x2 h).bind fun q101 =>
  if q101.1 < 0 then (p_X2_isStale_28 q101.2)
  else
  if (tg q101.2 a0).1 = 1 then (if (tg q101.2 (rR q101.2 a0 1)).1 = 0 then ((p_X1_seek (rR q101.2 a0 1) x1 x2 q101.2).bind fun q102 =>
  if q102.1 = q101.1 then (p_X2_isStale_28 q102.2)
  else
  p_X2_isStale_29 ((1 : Int32)) q102.2) else none) else none) else none
set_option maxRecDepth 100000 in
theorem e_X2_isStale_0 {l : Launch} {D : va_G} {dA : Nat → ClassId} {z : Nat} {sa : Nat → Nat} {Hz : Heap} (E : StrOK qLen qCh l D dA z sa Hz) {h0 fin : AH} {x : Int32}  : ∀ (a0 : Nat) (x1 : Int32) (x2 : Int32) (h : AH), p_X2_isStale a0 x1 x2 h = some (x, fin) → GM l D dA z sa Hz q_X2_isStale h0 (some (.int x)) fin 0 [(0, .ref a0), (1, .int x1), (2, .int x2)] [] h := by
  intro a0 x1 x2 h hd
  exact step E (is := I_X2_isStale_0) (pc := 0) (K := (kx 28 (fun la st h => sE st (p_X2_isStale_28 h)) (kx 29 (fun la st h => sI st fun y0 st => sE st (p_X2_isStale_29 y0 h)) k0))) (FI := FI_X2_isStale) (FV := fV0) (FL := fL0) (rt := rtZ) (ft := 0) (by exact hd) ok_X2_isStale_0 (kx_ok (fun la st h e => by obtain ⟨rfl, ez⟩ := sE_inv e; exact gm_fewer (e_X2_isStale_28 E   h ez) mem_nil) (kx_ok (fun la st h e => by obtain ⟨y0, _, rfl, e1⟩ := sI_inv e; obtain ⟨rfl, ez⟩ := sE_inv e1; exact gm_fewer (e_X2_isStale_29 E  y0 h ez) mem_nil) k0_ok)) (FI_X2_isStale_ok E) (fV0_ok E) (fL0_ok E) (rtZ_ok rfl)
theorem c_X2_isStale {l : Launch} {D : va_G} {dA : Nat → ClassId} {z : Nat} {sa : Nat → Nat} {Hz : Heap} (E : StrOK qLen qCh l D dA z sa Hz) {a0 : Nat} {x1 : Int32} {x2 : Int32} {h fin : AH} {x : Int32} (hd : p_X2_isStale a0 x1 x2 h = some (x, fin)) : CalOK l D dA z sa Hz q_X2_isStale [.ref a0, .int x1, .int x2] h (some (.int x)) fin := calOf (by decide +kernel) (Nat.le_of_ble_eq_true rfl) (e_X2_isStale_0 E a0 x1 x2 h hd)
def FI_X2_staleWays : Nat → List Value → AH → Option (Int32 × AH) := (cx 93 (fun As h => sR As fun a0 As => sI As fun x1 As => sI As fun x2 As => sE As (p_X2_isStale a0 x1 x2 h)) (cx 62 (fun As h => sI As fun x0 As => sE As (p_X7_bit x0 h)) fI0))
theorem FI_X2_staleWays_ok {l : Launch} {D : va_G} {dA : Nat → ClassId} {z : Nat} {sa : Nat → Nat} {Hz : Heap} (E : StrOK qLen qCh l D dA z sa Hz) : ∀ mi As h x h', FI_X2_staleWays mi As h = some (x, h') → CalOK l D dA z sa Hz (MT mi) As h (some (.int x)) h' := (cxI_ok (fun As h x h2 e => by obtain ⟨_, _, rfl, e0⟩ := sR_inv e; obtain ⟨_, _, rfl, e1⟩ := sI_inv e0; obtain ⟨_, _, rfl, e2⟩ := sI_inv e1; obtain ⟨rfl, ez⟩ := sE_inv e2; exact c_X2_isStale E ez) ((cxI_ok (fun As h x h2 e => by obtain ⟨_, _, rfl, e0⟩ := sI_inv e; obtain ⟨rfl, ez⟩ := sE_inv e0; exact c_X7_bit E ez) (fI0_ok E))))
def I_X2_staleWays_33 : List AI := [(.iload_n 1, 1, [], 0), (.ireturn, 1, [], 0)]
theorem ok_X2_staleWays_33 : vBL MT qLen qCh false q_X2_staleWays.2.2.2.2.1 q_X2_staleWays.2.2.2.2.2.1 q_X2_staleWays.2.2.1 q_X2_staleWays.1.cls q_X2_staleWays.1.name q_X2_staleWays.2.1 0 33 I_X2_staleWays_33 = true := by decide +kernel
def p_X2_staleWays_33 (x1 : Int32) (h : AH) : Option (Int32 × AH) :=
  some (x1, h)
set_option maxRecDepth 100000 in
theorem e_X2_staleWays_33 {l : Launch} {D : va_G} {dA : Nat → ClassId} {z : Nat} {sa : Nat → Nat} {Hz : Heap} (E : StrOK qLen qCh l D dA z sa Hz) {h0 fin : AH} {x : Int32}  : ∀ (x1 : Int32) (h : AH), p_X2_staleWays_33 x1 h = some (x, fin) → GM l D dA z sa Hz q_X2_staleWays h0 (some (.int x)) fin 33 [(1, .int x1)] [] h := by
  intro x1 h hd
  exact step E (is := I_X2_staleWays_33) (pc := 33) (K := k0) (FI := FI_X2_staleWays) (FV := fV0) (FL := fL0) (rt := rtI) (ft := 0) (by exact hd) ok_X2_staleWays_33 k0_ok (FI_X2_staleWays_ok E) (fV0_ok E) (fL0_ok E) (rtI_ok rfl)
def I_X2_staleWays_4 : List AI := [(.iload_n 2, 1, [], 0), (.sipush 256, 3, [], 256), (.if_icmp .ge 25, 3, [33], 0), (.iload_n 1, 1, [], 0), (.aload_n 0, 1, [], 0), (.iload_n 2, 1, [], 0), (.iconst 4, 1, [], 4), (.idiv, 1, [], 0), (.iload_n 2, 1, [], 0), (.iconst 4, 1, [], 4), (.irem, 1, [], 0), (.invokevirtual 192, 3, [1, 93, 3, 1, 813], 0), (.invokestatic 195, 3, [1, 62, 1, 819], 0), (.iadd, 1, [], 0), (.istore_n 1, 1, [], 0), (.iinc 2 1, 3, [], 1), (.goto (-26), 3, [4], 0)]
theorem ok_X2_staleWays_4 : vBL MT qLen qCh false q_X2_staleWays.2.2.2.2.1 q_X2_staleWays.2.2.2.2.2.1 q_X2_staleWays.2.2.1 q_X2_staleWays.1.cls q_X2_staleWays.1.name q_X2_staleWays.2.1 0 4 I_X2_staleWays_4 = true := by decide +kernel
def p_X2_staleWays_4 : Nat → Nat → Int32 → Int32 → AH → Option (Int32 × AH)
  | 0, _, _, _, _ => none
  | n + 1, a0, x1, x2, h => if x2 < ((256 : Int32)) then (if ((4 : Int32)) = 0 then none else
    if ((4 : Int32)) = 0 then none else
    if (tg h a0).1 = 1 then ((p_X2_isStale a0 (x2 / ((4 : Int32))) (irm x2 ((4 : Int32))) h).bind fun q101 =>
    (p_X7_bit q101.1 q101.2).bind fun q102 =>
    let x103 := x1 + q102.1
    p_X2_staleWays_4 n a0 x103 (x2 + (1 : Int32)) q102.2) else none)
    else
    some (x1, h)
set_option maxRecDepth 100000 in
theorem e_X2_staleWays_4 {l : Launch} {D : va_G} {dA : Nat → ClassId} {z : Nat} {sa : Nat → Nat} {Hz : Heap} (E : StrOK qLen qCh l D dA z sa Hz) {h0 fin : AH} {x : Int32}  : ∀ (n : Nat) (a0 : Nat) (x1 : Int32) (x2 : Int32) (h : AH), p_X2_staleWays_4 n a0 x1 x2 h = some (x, fin) → GM l D dA z sa Hz q_X2_staleWays h0 (some (.int x)) fin 4 [(0, .ref a0), (1, .int x1), (2, .int x2)] [] h := by
  intro n
  induction n with
  | zero => intro a0 x1 x2 h hd; exact nomatch hd
  | succ n ih =>
    intro a0 x1 x2 h hd
    exact step E (is := I_X2_staleWays_4) (pc := 4) (K := (kx 33 (fun la st h => gI la 1 fun x1 => sE st (p_X2_staleWays_33 x1 h)) (kx 4 (fun la st h => gR la 0 fun a0 => gI la 1 fun x1 => gI la 2 fun x2 => sE st (p_X2_staleWays_4 n a0 x1 x2 h)) k0))) (FI := FI_X2_staleWays) (FV := fV0) (FL := fL0) (rt := rtI) (ft := 0) (by exact hd) ok_X2_staleWays_4 (kx_ok (fun la st h e => by obtain ⟨x1, m_x1, e1⟩ := gI_inv e; obtain ⟨rfl, ez⟩ := sE_inv e1; exact gm_fewer (e_X2_staleWays_33 E  x1 h ez) (mem_cons m_x1 mem_nil)) (kx_ok (fun la st h e => by obtain ⟨a0, m_a0, e1⟩ := gR_inv e; obtain ⟨x1, m_x1, e2⟩ := gI_inv e1; obtain ⟨x2, m_x2, e3⟩ := gI_inv e2; obtain ⟨rfl, ez⟩ := sE_inv e3; exact gm_fewer (ih a0 x1 x2 h ez) (mem_cons m_a0 (mem_cons m_x1 (mem_cons m_x2 mem_nil)))) k0_ok)) (FI_X2_staleWays_ok E) (fV0_ok E) (fL0_ok E) (rtI_ok rfl)
def I_X2_staleWays_0 : List AI := [(.iconst 0, 1, [], 0), (.istore_n 1, 1, [], 0), (.iconst 0, 1, [], 0), (.istore_n 2, 1, [], 0)]
theorem ok_X2_staleWays_0 : vBL MT qLen qCh false q_X2_staleWays.2.2.2.2.1 q_X2_staleWays.2.2.2.2.2.1 q_X2_staleWays.2.2.1 q_X2_staleWays.1.cls q_X2_staleWays.1.name q_X2_staleWays.2.1 4 0 I_X2_staleWays_0 = true := by decide +kernel
def p_X2_staleWays (a0 : Nat) (h : AH) : Option (Int32 × AH) :=
  p_X2_staleWays_4 FU a0 ((0 : Int32)) ((0 : Int32)) h
set_option maxRecDepth 100000 in
theorem e_X2_staleWays_0 {l : Launch} {D : va_G} {dA : Nat → ClassId} {z : Nat} {sa : Nat → Nat} {Hz : Heap} (E : StrOK qLen qCh l D dA z sa Hz) {h0 fin : AH} {x : Int32}  : ∀ (a0 : Nat) (h : AH), p_X2_staleWays a0 h = some (x, fin) → GM l D dA z sa Hz q_X2_staleWays h0 (some (.int x)) fin 0 [(0, .ref a0)] [] h := by
  intro a0 h hd
  exact step E (is := I_X2_staleWays_0) (pc := 0) (K := (kx 4 (fun la st h => gR la 0 fun a0 => gI la 1 fun x1 => gI la 2 fun x2 => sE st (p_X2_staleWays_4 FU a0 x1 x2 h)) k0)) (FI := FI_X2_staleWays) (FV := fV0) (FL := fL0) (rt := rtI) (ft := 4) (by exact hd) ok_X2_staleWays_0 (kx_ok (fun la st h e => by obtain ⟨a0, m_a0, e1⟩ := gR_inv e; obtain ⟨x1, m_x1, e2⟩ := gI_inv e1; obtain ⟨x2, m_x2, e3⟩ := gI_inv e2; obtain ⟨rfl, ez⟩ := sE_inv e3; exact gm_fewer (e_X2_staleWays_4 E  FU a0 x1 x2 h ez) (mem_cons m_a0 (mem_cons m_x1 (mem_cons m_x2 mem_nil)))) k0_ok) (FI_X2_staleWays_ok E) (fV0_ok E) (fL0_ok E) (rtI_ok rfl)
theorem c_X2_staleWays {l : Launch} {D : va_G} {dA : Nat → ClassId} {z : Nat} {sa : Nat → Nat} {Hz : Heap} (E : StrOK qLen qCh l D dA z sa Hz) {a0 : Nat} {h fin : AH} {x : Int32} (hd : p_X2_staleWays a0 h = some (x, fin)) : CalOK l D dA z sa Hz q_X2_staleWays [.ref a0] h (some (.int x)) fin := calOf (by decide +kernel) (Nat.le_of_ble_eq_true rfl) (e_X2_staleWays_0 E a0 h hd)
def FI_X7_stale : Nat → List Value → AH → Option (Int32 × AH) := (cx 94 (fun As h => sR As fun a0 As => sE As (p_X2_staleWays a0 h)) (cx 50 (fun As h => sR As fun a0 As => sI As fun x1 As => sE As (p_X7_answer a0 x1 h)) (cx 9 (fun As h => sR As fun a0 As => sI As fun x1 As => sE As (p_X7_refuse a0 x1 h)) fI0)))
theorem FI_X7_stale_ok {l : Launch} {D : va_G} {dA : Nat → ClassId} {z : Nat} {sa : Nat → Nat} {Hz : Heap} (E : StrOK qLen qCh l D dA z sa Hz) : ∀ mi As h x h', FI_X7_stale mi As h = some (x, h') → CalOK l D dA z sa Hz (MT mi) As h (some (.int x)) h' := (cxI_ok (fun As h x h2 e => by obtain ⟨_, _, rfl, e0⟩ := sR_inv e; obtain ⟨rfl, ez⟩ := sE_inv e0; exact c_X2_staleWays E ez) ((cxI_ok (fun As h x h2 e => by obtain ⟨_, _, rfl, e0⟩ := sR_inv e; obtain ⟨_, _, rfl, e1⟩ := sI_inv e0; obtain ⟨rfl, ez⟩ := sE_inv e1; exact c_X7_answer E ez) ((cxI_ok (fun As h x h2 e => by obtain ⟨_, _, rfl, e0⟩ := sR_inv e; obtain ⟨_, _, rfl, e1⟩ := sI_inv e0; obtain ⟨rfl, ez⟩ := sE_inv e1; exact c_X7_refuse E ez) (fI0_ok E))))))
def I_X7_stale_26 : List AI := [(.ireturn, 1, [], 0)]
theorem ok_X7_stale_26 : vBL MT qLen qCh false q_X7_stale.2.2.2.2.1 q_X7_stale.2.2.2.2.2.1 q_X7_stale.2.2.1 q_X7_stale.1.cls q_X7_stale.1.name q_X7_stale.2.1 0 26 I_X7_stale_26 = true := by decide +kernel
def p_X7_stale_26 (y0 : Int32) (h : AH) : Option (Int32 × AH) :=
  some (y0, h)
set_option maxRecDepth 100000 in
theorem e_X7_stale_26 {l : Launch} {D : va_G} {dA : Nat → ClassId} {z : Nat} {sa : Nat → Nat} {Hz : Heap} (E : StrOK qLen qCh l D dA z sa Hz) {h0 fin : AH} {x : Int32}  : ∀ (y0 : Int32) (h : AH), p_X7_stale_26 y0 h = some (x, fin) → GM l D dA z sa Hz q_X7_stale h0 (some (.int x)) fin 26 [] [.int y0] h := by
  intro y0 h hd
  exact step E (is := I_X7_stale_26) (pc := 26) (K := k0) (FI := FI_X7_stale) (FV := fV0) (FL := fL0) (rt := rtI) (ft := 0) (by exact hd) ok_X7_stale_26 k0_ok (FI_X7_stale_ok E) (fV0_ok E) (fL0_ok E) (rtI_ok rfl)
def I_X7_stale_21 : List AI := [(.aload_n 0, 1, [], 0), (.iconst 1, 1, [], 1), (.invokevirtual 54, 3, [1, 9, 2, 6, 403], 0)]
theorem ok_X7_stale_21 : vBL MT qLen qCh false q_X7_stale.2.2.2.2.1 q_X7_stale.2.2.2.2.2.1 q_X7_stale.2.2.1 q_X7_stale.1.cls q_X7_stale.1.name q_X7_stale.2.1 26 21 I_X7_stale_21 = true := by decide +kernel
def p_X7_stale_21 (a0 : Nat) (h : AH) : Option (Int32 × AH) :=
  if (tg h a0).1 = 6 then ((p_X7_refuse a0 ((1 : Int32)) h).bind fun q101 =>
  p_X7_stale_26 q101.1 q101.2) else none
set_option maxRecDepth 100000 in
theorem e_X7_stale_21 {l : Launch} {D : va_G} {dA : Nat → ClassId} {z : Nat} {sa : Nat → Nat} {Hz : Heap} (E : StrOK qLen qCh l D dA z sa Hz) {h0 fin : AH} {x : Int32}  : ∀ (a0 : Nat) (h : AH), p_X7_stale_21 a0 h = some (x, fin) → GM l D dA z sa Hz q_X7_stale h0 (some (.int x)) fin 21 [(0, .ref a0)] [] h := by
  intro a0 h hd
  exact step E (is := I_X7_stale_21) (pc := 21) (K := (kx 26 (fun la st h => sI st fun y0 st => sE st (p_X7_stale_26 y0 h)) k0)) (FI := FI_X7_stale) (FV := fV0) (FL := fL0) (rt := rtI) (ft := 26) (by exact hd) ok_X7_stale_21 (kx_ok (fun la st h e => by obtain ⟨y0, _, rfl, e1⟩ := sI_inv e; obtain ⟨rfl, ez⟩ := sE_inv e1; exact gm_fewer (e_X7_stale_26 E  y0 h ez) mem_nil) k0_ok) (FI_X7_stale_ok E) (fV0_ok E) (fL0_ok E) (rtI_ok rfl)
def I_X7_stale_0 : List AI := [(.aload_n 0, 1, [], 0), (.getfield 107, 3, [6, 3, 3, 357], 0), (.ifCond .eq 17, 3, [21], 0), (.aload_n 0, 1, [], 0), (.aload_n 0, 1, [], 0), (.getfield 29, 3, [6, 4, 2, 358], 0), (.invokevirtual 153, 3, [1, 94, 1, 1, 809], 0), (.invokevirtual 68, 3, [1, 50, 2, 6, 633], 0), (.goto 8, 3, [26], 0)]
theorem ok_X7_stale_0 : vBL MT qLen qCh false q_X7_stale.2.2.2.2.1 q_X7_stale.2.2.2.2.2.1 q_X7_stale.2.2.1 q_X7_stale.1.cls q_X7_stale.1.name q_X7_stale.2.1 0 0 I_X7_stale_0 = true := by decide +kernel
def p_X7_stale (a0 : Nat) (h : AH) : Option (Int32 × AH) :=
  if (tg h a0).1 = 6 then (if (rI h a0 3) = 0 then (if (tg h a0).1 = 6 then ((p_X7_refuse a0 ((1 : Int32)) h).bind fun q102 =>
  p_X7_stale_26 q102.1 q102.2) else none)
  else
  if (tg h a0).1 = 6 then (if (tg h (rR h a0 4)).1 = 1 then ((p_X2_staleWays (rR h a0 4) h).bind fun q103 =>
  if (tg q103.2 a0).1 = 6 then ((p_X7_answer a0 q103.1 q103.2).bind fun q104 =>
  p_X7_stale_26 q104.1 q104.2) else none) else none) else none) else none
set_option maxRecDepth 100000 in
theorem e_X7_stale_0 {l : Launch} {D : va_G} {dA : Nat → ClassId} {z : Nat} {sa : Nat → Nat} {Hz : Heap} (E : StrOK qLen qCh l D dA z sa Hz) {h0 fin : AH} {x : Int32}  : ∀ (a0 : Nat) (h : AH), p_X7_stale a0 h = some (x, fin) → GM l D dA z sa Hz q_X7_stale h0 (some (.int x)) fin 0 [(0, .ref a0)] [] h := by
  intro a0 h hd
  exact step E (is := I_X7_stale_0) (pc := 0) (K := (kx 21 (fun la st h => gR la 0 fun a0 => sE st (p_X7_stale_21 a0 h)) (kx 26 (fun la st h => sI st fun y0 st => sE st (p_X7_stale_26 y0 h)) k0))) (FI := FI_X7_stale) (FV := fV0) (FL := fL0) (rt := rtI) (ft := 0) (by exact hd) ok_X7_stale_0 (kx_ok (fun la st h e => by obtain ⟨a0, m_a0, e1⟩ := gR_inv e; obtain ⟨rfl, ez⟩ := sE_inv e1; exact gm_fewer (e_X7_stale_21 E  a0 h ez) (mem_cons m_a0 mem_nil)) (kx_ok (fun la st h e => by obtain ⟨y0, _, rfl, e1⟩ := sI_inv e; obtain ⟨rfl, ez⟩ := sE_inv e1; exact gm_fewer (e_X7_stale_26 E  y0 h ez) mem_nil) k0_ok)) (FI_X7_stale_ok E) (fV0_ok E) (fL0_ok E) (rtI_ok rfl)
theorem c_X7_stale {l : Launch} {D : va_G} {dA : Nat → ClassId} {z : Nat} {sa : Nat → Nat} {Hz : Heap} (E : StrOK qLen qCh l D dA z sa Hz) {a0 : Nat} {h fin : AH} {x : Int32} (hd : p_X7_stale a0 h = some (x, fin)) : CalOK l D dA z sa Hz q_X7_stale [.ref a0] h (some (.int x)) fin := calOf (by decide +kernel) (Nat.le_of_ble_eq_true rfl) (e_X7_stale_0 E a0 h hd)
def FI_X2_firstStalePage : Nat → List Value → AH → Option (Int32 × AH) := (cx 93 (fun As h => sR As fun a0 As => sI As fun x1 As => sI As fun x2 As => sE As (p_X2_isStale a0 x1 x2 h)) fI0)
theorem FI_X2_firstStalePage_ok {l : Launch} {D : va_G} {dA : Nat → ClassId} {z : Nat} {sa : Nat → Nat} {Hz : Heap} (E : StrOK qLen qCh l D dA z sa Hz) : ∀ mi As h x h', FI_X2_firstStalePage mi As h = some (x, h') → CalOK l D dA z sa Hz (MT mi) As h (some (.int x)) h' := (cxI_ok (fun As h x h2 e => by obtain ⟨_, _, rfl, e0⟩ := sR_inv e; obtain ⟨_, _, rfl, e1⟩ := sI_inv e0; obtain ⟨_, _, rfl, e2⟩ := sI_inv e1; obtain ⟨rfl, ez⟩ := sE_inv e2; exact c_X2_isStale E ez) (fI0_ok E))
def I_X2_firstStalePage_32 : List AI := [(.bipush (-2), 2, [], (-2)), (.ireturn, 1, [], 0)]
theorem ok_X2_firstStalePage_32 : vBL MT qLen qCh false q_X2_firstStalePage.2.2.2.2.1 q_X2_firstStalePage.2.2.2.2.2.1 q_X2_firstStalePage.2.2.1 q_X2_firstStalePage.1.cls q_X2_firstStalePage.1.name q_X2_firstStalePage.2.1 0 32 I_X2_firstStalePage_32 = true := by decide +kernel
def p_X2_firstStalePage_32 (h : AH) : Option (Int32 × AH) :=
  some (((-2 : Int32)), h)
set_option maxRecDepth 100000 in
theorem e_X2_firstStalePage_32 {l : Launch} {D : va_G} {dA : Nat → ClassId} {z : Nat} {sa : Nat → Nat} {Hz : Heap} (E : StrOK qLen qCh l D dA z sa Hz) {h0 fin : AH} {x : Int32}  : ∀  (h : AH), p_X2_firstStalePage_32 h = some (x, fin) → GM l D dA z sa Hz q_X2_firstStalePage h0 (some (.int x)) fin 32 [] [] h := by
  intro h hd
  exact step E (is := I_X2_firstStalePage_32) (pc := 32) (K := k0) (FI := FI_X2_firstStalePage) (FV := fV0) (FL := fL0) (rt := rtI) (ft := 0) (by exact hd) ok_X2_firstStalePage_32 k0_ok (FI_X2_firstStalePage_ok E) (fV0_ok E) (fL0_ok E) (rtI_ok rfl)
def I_X2_firstStalePage_26 : List AI := [(.iinc 1 1, 3, [], 1), (.goto (-27), 3, [2], 0)]
theorem ok_X2_firstStalePage_26 : vBL MT qLen qCh false q_X2_firstStalePage.2.2.2.2.1 q_X2_firstStalePage.2.2.2.2.2.1 q_X2_firstStalePage.2.2.1 q_X2_firstStalePage.1.cls q_X2_firstStalePage.1.name q_X2_firstStalePage.2.1 0 26 I_X2_firstStalePage_26 = true := by decide +kernel
def p_X2_firstStalePage_26 (k2 : Nat → Int32 → AH → Option (Int32 × AH)) (a0 : Nat) (x1 : Int32) (h : AH) : Option (Int32 × AH) :=
  k2 a0 (x1 + (1 : Int32)) h
set_option maxRecDepth 100000 in
theorem e_X2_firstStalePage_26 {l : Launch} {D : va_G} {dA : Nat → ClassId} {z : Nat} {sa : Nat → Nat} {Hz : Heap} (E : StrOK qLen qCh l D dA z sa Hz) {h0 fin : AH} {x : Int32}  {k2 : Nat → Int32 → AH → Option (Int32 × AH)} (hk2 : ∀ (a0 : Nat) (x1 : Int32) (h : AH), k2 a0 x1 h = some (x, fin) → GM l D dA z sa Hz q_X2_firstStalePage h0 (some (.int x)) fin 2 [(0, .ref a0), (1, .int x1)] [] h) : ∀ (a0 : Nat) (x1 : Int32) (h : AH), p_X2_firstStalePage_26 k2 a0 x1 h = some (x, fin) → GM l D dA z sa Hz q_X2_firstStalePage h0 (some (.int x)) fin 26 [(0, .ref a0), (1, .int x1)] [] h := by
  intro a0 x1 h hd
  exact step E (is := I_X2_firstStalePage_26) (pc := 26) (K := (kx 2 (fun la st h => gR la 0 fun a0 => gI la 1 fun x1 => sE st (k2 a0 x1 h)) k0)) (FI := FI_X2_firstStalePage) (FV := fV0) (FL := fL0) (rt := rtI) (ft := 0) (by exact hd) ok_X2_firstStalePage_26 (kx_ok (fun la st h e => by obtain ⟨a0, m_a0, e1⟩ := gR_inv e; obtain ⟨x1, m_x1, e2⟩ := gI_inv e1; obtain ⟨rfl, ez⟩ := sE_inv e2; exact gm_fewer (hk2 a0 x1 h ez) (mem_cons m_a0 (mem_cons m_x1 mem_nil))) k0_ok) (FI_X2_firstStalePage_ok E) (fV0_ok E) (fL0_ok E) (rtI_ok rfl)
def I_X2_firstStalePage_2 : List AI := [(.iload_n 1, 1, [], 0), (.sipush 256, 3, [], 256), (.if_icmp .ge 26, 3, [32], 0), (.aload_n 0, 1, [], 0), (.iload_n 1, 1, [], 0), (.iconst 4, 1, [], 4), (.idiv, 1, [], 0), (.iload_n 1, 1, [], 0), (.iconst 4, 1, [], 4), (.irem, 1, [], 0), (.invokevirtual 192, 3, [1, 93, 3, 1, 813], 0), (.ifCond .eq 7, 3, [26], 0), (.iload_n 1, 1, [], 0), (.iconst 4, 1, [], 4), (.idiv, 1, [], 0), (.ireturn, 1, [], 0)]
theorem ok_X2_firstStalePage_2 : vBL MT qLen qCh false q_X2_firstStalePage.2.2.2.2.1 q_X2_firstStalePage.2.2.2.2.2.1 q_X2_firstStalePage.2.2.1 q_X2_firstStalePage.1.cls q_X2_firstStalePage.1.name q_X2_firstStalePage.2.1 0 2 I_X2_firstStalePage_2 = true := by decide +kernel
def p_X2_firstStalePage_2 : Nat → Nat → Int32 → AH → Option (Int32 × AH)
  | 0, _, _, _ => none
  | n + 1, a0, x1, h => if x1 < ((256 : Int32)) then (if ((4 : Int32)) = 0 then none else
    if ((4 : Int32)) = 0 then none else
    if (tg h a0).1 = 1 then ((p_X2_isStale a0 (x1 / ((4 : Int32))) (irm x1 ((4 : Int32))) h).bind fun q101 =>
    if q101.1 = 0 then (p_X2_firstStalePage_2 n a0 (x1 + (1 : Int32)) q101.2)
    else
    if ((4 : Int32)) = 0 then none else
    some ((x1 / ((4 : Int32))), q101.2)) else none)
    else
    some (((-2 : Int32)), h)
set_option maxRecDepth 100000 in
theorem e_X2_firstStalePage_2 {l : Launch} {D : va_G} {dA : Nat → ClassId} {z : Nat} {sa : Nat → Nat} {Hz : Heap} (E : StrOK qLen qCh l D dA z sa Hz) {h0 fin : AH} {x : Int32}  : ∀ (n : Nat) (a0 : Nat) (x1 : Int32) (h : AH), p_X2_firstStalePage_2 n a0 x1 h = some (x, fin) → GM l D dA z sa Hz q_X2_firstStalePage h0 (some (.int x)) fin 2 [(0, .ref a0), (1, .int x1)] [] h := by
  intro n
  induction n with
  | zero => intro a0 x1 h hd; exact nomatch hd
  | succ n ih =>
    intro a0 x1 h hd
    exact step E (is := I_X2_firstStalePage_2) (pc := 2) (K := (kx 32 (fun la st h => sE st (p_X2_firstStalePage_32 h)) (kx 26 (fun la st h => gR la 0 fun a0 => gI la 1 fun x1 => sE st (p_X2_firstStalePage_26 (p_X2_firstStalePage_2 n) a0 x1 h)) k0))) (FI := FI_X2_firstStalePage) (FV := fV0) (FL := fL0) (rt := rtI) (ft := 0) (by exact hd) ok_X2_firstStalePage_2 (kx_ok (fun la st h e => by obtain ⟨rfl, ez⟩ := sE_inv e; exact gm_fewer (e_X2_firstStalePage_32 E   h ez) mem_nil) (kx_ok (fun la st h e => by obtain ⟨a0, m_a0, e1⟩ := gR_inv e; obtain ⟨x1, m_x1, e2⟩ := gI_inv e1; obtain ⟨rfl, ez⟩ := sE_inv e2; exact gm_fewer (e_X2_firstStalePage_26 E ih a0 x1 h ez) (mem_cons m_a0 (mem_cons m_x1 mem_nil))) k0_ok)) (FI_X2_firstStalePage_ok E) (fV0_ok E) (fL0_ok E) (rtI_ok rfl)
def I_X2_firstStalePage_0 : List AI := [(.iconst 0, 1, [], 0), (.istore_n 1, 1, [], 0)]
theorem ok_X2_firstStalePage_0 : vBL MT qLen qCh false q_X2_firstStalePage.2.2.2.2.1 q_X2_firstStalePage.2.2.2.2.2.1 q_X2_firstStalePage.2.2.1 q_X2_firstStalePage.1.cls q_X2_firstStalePage.1.name q_X2_firstStalePage.2.1 2 0 I_X2_firstStalePage_0 = true := by decide +kernel
def p_X2_firstStalePage (a0 : Nat) (h : AH) : Option (Int32 × AH) :=
  p_X2_firstStalePage_2 FU a0 ((0 : Int32)) h
set_option maxRecDepth 100000 in
theorem e_X2_firstStalePage_0 {l : Launch} {D : va_G} {dA : Nat → ClassId} {z : Nat} {sa : Nat → Nat} {Hz : Heap} (E : StrOK qLen qCh l D dA z sa Hz) {h0 fin : AH} {x : Int32}  : ∀ (a0 : Nat) (h : AH), p_X2_firstStalePage a0 h = some (x, fin) → GM l D dA z sa Hz q_X2_firstStalePage h0 (some (.int x)) fin 0 [(0, .ref a0)] [] h := by
  intro a0 h hd
  exact step E (is := I_X2_firstStalePage_0) (pc := 0) (K := (kx 2 (fun la st h => gR la 0 fun a0 => gI la 1 fun x1 => sE st (p_X2_firstStalePage_2 FU a0 x1 h)) k0)) (FI := FI_X2_firstStalePage) (FV := fV0) (FL := fL0) (rt := rtI) (ft := 2) (by exact hd) ok_X2_firstStalePage_0 (kx_ok (fun la st h e => by obtain ⟨a0, m_a0, e1⟩ := gR_inv e; obtain ⟨x1, m_x1, e2⟩ := gI_inv e1; obtain ⟨rfl, ez⟩ := sE_inv e2; exact gm_fewer (e_X2_firstStalePage_2 E  FU a0 x1 h ez) (mem_cons m_a0 (mem_cons m_x1 mem_nil))) k0_ok) (FI_X2_firstStalePage_ok E) (fV0_ok E) (fL0_ok E) (rtI_ok rfl)
theorem c_X2_firstStalePage {l : Launch} {D : va_G} {dA : Nat → ClassId} {z : Nat} {sa : Nat → Nat} {Hz : Heap} (E : StrOK qLen qCh l D dA z sa Hz) {a0 : Nat} {h fin : AH} {x : Int32} (hd : p_X2_firstStalePage a0 h = some (x, fin)) : CalOK l D dA z sa Hz q_X2_firstStalePage [.ref a0] h (some (.int x)) fin := calOf (by decide +kernel) (Nat.le_of_ble_eq_true rfl) (e_X2_firstStalePage_0 E a0 h hd)
def FI_X7_staleAt : Nat → List Value → AH → Option (Int32 × AH) := (cx 96 (fun As h => sR As fun a0 As => sE As (p_X2_firstStalePage a0 h)) (cx 50 (fun As h => sR As fun a0 As => sI As fun x1 As => sE As (p_X7_answer a0 x1 h)) (cx 9 (fun As h => sR As fun a0 As => sI As fun x1 As => sE As (p_X7_refuse a0 x1 h)) fI0)))
theorem FI_X7_staleAt_ok {l : Launch} {D : va_G} {dA : Nat → ClassId} {z : Nat} {sa : Nat → Nat} {Hz : Heap} (E : StrOK qLen qCh l D dA z sa Hz) : ∀ mi As h x h', FI_X7_staleAt mi As h = some (x, h') → CalOK l D dA z sa Hz (MT mi) As h (some (.int x)) h' := (cxI_ok (fun As h x h2 e => by obtain ⟨_, _, rfl, e0⟩ := sR_inv e; obtain ⟨rfl, ez⟩ := sE_inv e0; exact c_X2_firstStalePage E ez) ((cxI_ok (fun As h x h2 e => by obtain ⟨_, _, rfl, e0⟩ := sR_inv e; obtain ⟨_, _, rfl, e1⟩ := sI_inv e0; obtain ⟨rfl, ez⟩ := sE_inv e1; exact c_X7_answer E ez) ((cxI_ok (fun As h x h2 e => by obtain ⟨_, _, rfl, e0⟩ := sR_inv e; obtain ⟨_, _, rfl, e1⟩ := sI_inv e0; obtain ⟨rfl, ez⟩ := sE_inv e1; exact c_X7_refuse E ez) (fI0_ok E))))))
def I_X7_staleAt_26 : List AI := [(.ireturn, 1, [], 0)]
theorem ok_X7_staleAt_26 : vBL MT qLen qCh false q_X7_staleAt.2.2.2.2.1 q_X7_staleAt.2.2.2.2.2.1 q_X7_staleAt.2.2.1 q_X7_staleAt.1.cls q_X7_staleAt.1.name q_X7_staleAt.2.1 0 26 I_X7_staleAt_26 = true := by decide +kernel
def p_X7_staleAt_26 (y0 : Int32) (h : AH) : Option (Int32 × AH) :=
  some (y0, h)
set_option maxRecDepth 100000 in
theorem e_X7_staleAt_26 {l : Launch} {D : va_G} {dA : Nat → ClassId} {z : Nat} {sa : Nat → Nat} {Hz : Heap} (E : StrOK qLen qCh l D dA z sa Hz) {h0 fin : AH} {x : Int32}  : ∀ (y0 : Int32) (h : AH), p_X7_staleAt_26 y0 h = some (x, fin) → GM l D dA z sa Hz q_X7_staleAt h0 (some (.int x)) fin 26 [] [.int y0] h := by
  intro y0 h hd
  exact step E (is := I_X7_staleAt_26) (pc := 26) (K := k0) (FI := FI_X7_staleAt) (FV := fV0) (FL := fL0) (rt := rtI) (ft := 0) (by exact hd) ok_X7_staleAt_26 k0_ok (FI_X7_staleAt_ok E) (fV0_ok E) (fL0_ok E) (rtI_ok rfl)
def I_X7_staleAt_21 : List AI := [(.aload_n 0, 1, [], 0), (.iconst 1, 1, [], 1), (.invokevirtual 54, 3, [1, 9, 2, 6, 403], 0)]
theorem ok_X7_staleAt_21 : vBL MT qLen qCh false q_X7_staleAt.2.2.2.2.1 q_X7_staleAt.2.2.2.2.2.1 q_X7_staleAt.2.2.1 q_X7_staleAt.1.cls q_X7_staleAt.1.name q_X7_staleAt.2.1 26 21 I_X7_staleAt_21 = true := by decide +kernel
def p_X7_staleAt_21 (a0 : Nat) (h : AH) : Option (Int32 × AH) :=
  if (tg h a0).1 = 6 then ((p_X7_refuse a0 ((1 : Int32)) h).bind fun q101 =>
  p_X7_staleAt_26 q101.1 q101.2) else none
set_option maxRecDepth 100000 in
theorem e_X7_staleAt_21 {l : Launch} {D : va_G} {dA : Nat → ClassId} {z : Nat} {sa : Nat → Nat} {Hz : Heap} (E : StrOK qLen qCh l D dA z sa Hz) {h0 fin : AH} {x : Int32}  : ∀ (a0 : Nat) (h : AH), p_X7_staleAt_21 a0 h = some (x, fin) → GM l D dA z sa Hz q_X7_staleAt h0 (some (.int x)) fin 21 [(0, .ref a0)] [] h := by
  intro a0 h hd
  exact step E (is := I_X7_staleAt_21) (pc := 21) (K := (kx 26 (fun la st h => sI st fun y0 st => sE st (p_X7_staleAt_26 y0 h)) k0)) (FI := FI_X7_staleAt) (FV := fV0) (FL := fL0) (rt := rtI) (ft := 26) (by exact hd) ok_X7_staleAt_21 (kx_ok (fun la st h e => by obtain ⟨y0, _, rfl, e1⟩ := sI_inv e; obtain ⟨rfl, ez⟩ := sE_inv e1; exact gm_fewer (e_X7_staleAt_26 E  y0 h ez) mem_nil) k0_ok) (FI_X7_staleAt_ok E) (fV0_ok E) (fL0_ok E) (rtI_ok rfl)
def I_X7_staleAt_0 : List AI := [(.aload_n 0, 1, [], 0), (.getfield 107, 3, [6, 3, 3, 357], 0), (.ifCond .eq 17, 3, [21], 0), (.aload_n 0, 1, [], 0), (.aload_n 0, 1, [], 0), (.getfield 29, 3, [6, 4, 2, 358], 0), (.invokevirtual 156, 3, [1, 96, 1, 1, 824], 0), (.invokevirtual 68, 3, [1, 50, 2, 6, 633], 0), (.goto 8, 3, [26], 0)]
theorem ok_X7_staleAt_0 : vBL MT qLen qCh false q_X7_staleAt.2.2.2.2.1 q_X7_staleAt.2.2.2.2.2.1 q_X7_staleAt.2.2.1 q_X7_staleAt.1.cls q_X7_staleAt.1.name q_X7_staleAt.2.1 0 0 I_X7_staleAt_0 = true := by decide +kernel
def p_X7_staleAt (a0 : Nat) (h : AH) : Option (Int32 × AH) :=
  if (tg h a0).1 = 6 then (if (rI h a0 3) = 0 then (if (tg h a0).1 = 6 then ((p_X7_refuse a0 ((1 : Int32)) h).bind fun q102 =>
  p_X7_staleAt_26 q102.1 q102.2) else none)
  else
  if (tg h a0).1 = 6 then (if (tg h (rR h a0 4)).1 = 1 then ((p_X2_firstStalePage (rR h a0 4) h).bind fun q103 =>
  if (tg q103.2 a0).1 = 6 then ((p_X7_answer a0 q103.1 q103.2).bind fun q104 =>
  p_X7_staleAt_26 q104.1 q104.2) else none) else none) else none) else none
set_option maxRecDepth 100000 in
theorem e_X7_staleAt_0 {l : Launch} {D : va_G} {dA : Nat → ClassId} {z : Nat} {sa : Nat → Nat} {Hz : Heap} (E : StrOK qLen qCh l D dA z sa Hz) {h0 fin : AH} {x : Int32}  : ∀ (a0 : Nat) (h : AH), p_X7_staleAt a0 h = some (x, fin) → GM l D dA z sa Hz q_X7_staleAt h0 (some (.int x)) fin 0 [(0, .ref a0)] [] h := by
  intro a0 h hd
  exact step E (is := I_X7_staleAt_0) (pc := 0) (K := (kx 21 (fun la st h => gR la 0 fun a0 => sE st (p_X7_staleAt_21 a0 h)) (kx 26 (fun la st h => sI st fun y0 st => sE st (p_X7_staleAt_26 y0 h)) k0))) (FI := FI_X7_staleAt) (FV := fV0) (FL := fL0) (rt := rtI) (ft := 0) (by exact hd) ok_X7_staleAt_0 (kx_ok (fun la st h e => by obtain ⟨a0, m_a0, e1⟩ := gR_inv e; obtain ⟨rfl, ez⟩ := sE_inv e1; exact gm_fewer (e_X7_staleAt_21 E  a0 h ez) (mem_cons m_a0 mem_nil)) (kx_ok (fun la st h e => by obtain ⟨y0, _, rfl, e1⟩ := sI_inv e; obtain ⟨rfl, ez⟩ := sE_inv e1; exact gm_fewer (e_X7_staleAt_26 E  y0 h ez) mem_nil) k0_ok)) (FI_X7_staleAt_ok E) (fV0_ok E) (fL0_ok E) (rtI_ok rfl)
theorem c_X7_staleAt {l : Launch} {D : va_G} {dA : Nat → ClassId} {z : Nat} {sa : Nat → Nat} {Hz : Heap} (E : StrOK qLen qCh l D dA z sa Hz) {a0 : Nat} {h fin : AH} {x : Int32} (hd : p_X7_staleAt a0 h = some (x, fin)) : CalOK l D dA z sa Hz q_X7_staleAt [.ref a0] h (some (.int x)) fin := calOf (by decide +kernel) (Nat.le_of_ble_eq_true rfl) (e_X7_staleAt_0 E a0 h hd)
def FI_X2_missingWays : Nat → List Value → AH → Option (Int32 × AH) := (cx 76 (fun As h => sR As fun a0 As => sI As fun x1 As => sI As fun x2 As => sE As (p_X1_seek a0 x1 x2 h)) (cx 91 (fun As h => sR As fun a0 As => sI As fun x1 As => sI As fun x2 As => sE As (p_X2_hostByHardware a0 x1 x2 h)) (cx 62 (fun As h => sI As fun x0 As => sE As (p_X7_bit x0 h)) fI0)))
theorem FI_X2_missingWays_ok {l : Launch} {D : va_G} {dA : Nat → ClassId} {z : Nat} {sa : Nat → Nat} {Hz : Heap} (E : StrOK qLen qCh l D dA z sa Hz) : ∀ mi As h x h', FI_X2_missingWays mi As h = some (x, h') → CalOK l D dA z sa Hz (MT mi) As h (some (.int x)) h' := (cxI_ok (fun As h x h2 e => by obtain ⟨_, _, rfl, e0⟩ := sR_inv e; obtain ⟨_, _, rfl, e1⟩ := sI_inv e0; obtain ⟨_, _, rfl, e2⟩ := sI_inv e1; obtain ⟨rfl, ez⟩ := sE_inv e2; exact c_X1_seek E ez) ((cxI_ok (fun As h x h2 e => by obtain ⟨_, _, rfl, e0⟩ := sR_inv e; obtain ⟨_, _, rfl, e1⟩ := sI_inv e0; obtain ⟨_, _, rfl, e2⟩ := sI_inv e1; obtain ⟨rfl, ez⟩ := sE_inv e2; exact c_X2_hostByHardware E ez) ((cxI_ok (fun As h x h2 e => by obtain ⟨_, _, rfl, e0⟩ := sI_inv e; obtain ⟨rfl, ez⟩ := sE_inv e0; exact c_X7_bit E ez) (fI0_ok E))))))
def I_X2_missingWays_60 : List AI := [(.iload_n 1, 1, [], 0), (.ireturn, 1, [], 0)]
theorem ok_X2_missingWays_60 : vBL MT qLen qCh false q_X2_missingWays.2.2.2.2.1 q_X2_missingWays.2.2.2.2.2.1 q_X2_missingWays.2.2.1 q_X2_missingWays.1.cls q_X2_missingWays.1.name q_X2_missingWays.2.1 0 60 I_X2_missingWays_60 = true := by decide +kernel
def p_X2_missingWays_60 (x1 : Int32) (h : AH) : Option (Int32 × AH) :=
  some (x1, h)
set_option maxRecDepth 100000 in
theorem e_X2_missingWays_60 {l : Launch} {D : va_G} {dA : Nat → ClassId} {z : Nat} {sa : Nat → Nat} {Hz : Heap} (E : StrOK qLen qCh l D dA z sa Hz) {h0 fin : AH} {x : Int32}  : ∀ (x1 : Int32) (h : AH), p_X2_missingWays_60 x1 h = some (x, fin) → GM l D dA z sa Hz q_X2_missingWays h0 (some (.int x)) fin 60 [(1, .int x1)] [] h := by
  intro x1 h hd
  exact step E (is := I_X2_missingWays_60) (pc := 60) (K := k0) (FI := FI_X2_missingWays) (FV := fV0) (FL := fL0) (rt := rtI) (ft := 0) (by exact hd) ok_X2_missingWays_60 k0_ok (FI_X2_missingWays_ok E) (fV0_ok E) (fL0_ok E) (rtI_ok rfl)
def I_X2_missingWays_49 : List AI := [(.invokestatic 195, 3, [1, 62, 1, 819], 0), (.iadd, 1, [], 0), (.istore_n 1, 1, [], 0), (.iinc 2 1, 3, [], 1), (.goto (-53), 3, [4], 0)]
theorem ok_X2_missingWays_49 : vBL MT qLen qCh false q_X2_missingWays.2.2.2.2.1 q_X2_missingWays.2.2.2.2.2.1 q_X2_missingWays.2.2.1 q_X2_missingWays.1.cls q_X2_missingWays.1.name q_X2_missingWays.2.1 0 49 I_X2_missingWays_49 = true := by decide +kernel
def p_X2_missingWays_49 (k4 : Nat → Int32 → Int32 → AH → Option (Int32 × AH)) (a0 : Nat) (x2 : Int32) (y0 : Int32) (y1 : Int32) (h : AH) : Option (Int32 × AH) :=
  (p_X7_bit y0 h).bind fun q101 =>
  let x102 := y1 + q101.1
  k4 a0 x102 (x2 + (1 : Int32)) q101.2
set_option maxRecDepth 100000 in
theorem e_X2_missingWays_49 {l : Launch} {D : va_G} {dA : Nat → ClassId} {z : Nat} {sa : Nat → Nat} {Hz : Heap} (E : StrOK qLen qCh l D dA z sa Hz) {h0 fin : AH} {x : Int32}  {k4 : Nat → Int32 → Int32 → AH → Option (Int32 × AH)} (hk4 : ∀ (a0 : Nat) (x1 : Int32) (x2 : Int32) (h : AH), k4 a0 x1 x2 h = some (x, fin) → GM l D dA z sa Hz q_X2_missingWays h0 (some (.int x)) fin 4 [(0, .ref a0), (1, .int x1), (2, .int x2)] [] h) : ∀ (a0 : Nat) (x2 : Int32) (y0 : Int32) (y1 : Int32) (h : AH), p_X2_missingWays_49 k4 a0 x2 y0 y1 h = some (x, fin) → GM l D dA z sa Hz q_X2_missingWays h0 (some (.int x)) fin 49 [(0, .ref a0), (2, .int x2)] [.int y0, .int y1] h := by
  intro a0 x2 y0 y1 h hd
  exact step E (is := I_X2_missingWays_49) (pc := 49) (K := (kx 4 (fun la st h => gR la 0 fun a0 => gI la 1 fun x1 => gI la 2 fun x2 => sE st (k4 a0 x1 x2 h)) k0)) (FI := FI_X2_missingWays) (FV := fV0) (FL := fL0) (rt := rtI) (ft := 0) (by exact hd) ok_X2_missingWays_49 (kx_ok (fun la st h e => by obtain ⟨a0, m_a0, e1⟩ := gR_inv e; obtain ⟨x1, m_x1, e2⟩ := gI_inv e1; obtain ⟨x2, m_x2, e3⟩ := gI_inv e2; obtain ⟨rfl, ez⟩ := sE_inv e3; exact gm_fewer (hk4 a0 x1 x2 h ez) (mem_cons m_a0 (mem_cons m_x1 (mem_cons m_x2 mem_nil)))) k0_ok) (FI_X2_missingWays_ok E) (fV0_ok E) (fL0_ok E) (rtI_ok rfl)
def I_X2_missingWays_48 : List AI := [(.iconst 0, 1, [], 0)]
theorem ok_X2_missingWays_48 : vBL MT qLen qCh false q_X2_missingWays.2.2.2.2.1 q_X2_missingWays.2.2.2.2.2.1 q_X2_missingWays.2.2.1 q_X2_missingWays.1.cls q_X2_missingWays.1.name q_X2_missingWays.2.1 49 48 I_X2_missingWays_48 = true := by decide +kernel
def p_X2_missingWays_48 (k4 : Nat → Int32 → Int32 → AH → Option (Int32 × AH)) (a0 : Nat) (x2 : Int32) (y0 : Int32) (h : AH) : Option (Int32 × AH) :=
  p_X2_missingWays_49 k4 a0 x2 ((0 : Int32)) y0 h
set_option maxRecDepth 100000 in
theorem e_X2_missingWays_48 {l : Launch} {D : va_G} {dA : Nat → ClassId} {z : Nat} {sa : Nat → Nat} {Hz : Heap} (E : StrOK qLen qCh l D dA z sa Hz) {h0 fin : AH} {x : Int32}  {k4 : Nat → Int32 → Int32 → AH → Option (Int32 × AH)} (hk4 : ∀ (a0 : Nat) (x1 : Int32) (x2 : Int32) (h : AH), k4 a0 x1 x2 h = some (x, fin) → GM l D dA z sa Hz q_X2_missingWays h0 (some (.int x)) fin 4 [(0, .ref a0), (1, .int x1), (2, .int x2)] [] h) : ∀ (a0 : Nat) (x2 : Int32) (y0 : Int32) (h : AH), p_X2_missingWays_48 k4 a0 x2 y0 h = some (x, fin) → GM l D dA z sa Hz q_X2_missingWays h0 (some (.int x)) fin 48 [(0, .ref a0), (2, .int x2)] [.int y0] h := by
  intro a0 x2 y0 h hd
  exact step E (is := I_X2_missingWays_48) (pc := 48) (K := (kx 49 (fun la st h => gR la 0 fun a0 => gI la 2 fun x2 => sI st fun y0 st => sI st fun y1 st => sE st (p_X2_missingWays_49 k4 a0 x2 y0 y1 h)) k0)) (FI := FI_X2_missingWays) (FV := fV0) (FL := fL0) (rt := rtI) (ft := 49) (by exact hd) ok_X2_missingWays_48 (kx_ok (fun la st h e => by obtain ⟨a0, m_a0, e1⟩ := gR_inv e; obtain ⟨x2, m_x2, e2⟩ := gI_inv e1; obtain ⟨y0, _, rfl, e3⟩ := sI_inv e2; obtain ⟨y1, _, rfl, e4⟩ := sI_inv e3; obtain ⟨rfl, ez⟩ := sE_inv e4; exact gm_fewer (e_X2_missingWays_49 E hk4 a0 x2 y0 y1 h ez) (mem_cons m_a0 (mem_cons m_x2 mem_nil))) k0_ok) (FI_X2_missingWays_ok E) (fV0_ok E) (fL0_ok E) (rtI_ok rfl)
def I_X2_missingWays_4 : List AI := [(.iload_n 2, 1, [], 0), (.sipush 256, 3, [], 256), (.if_icmp .ge 52, 3, [60], 0), (.iload_n 2, 1, [], 0), (.iconst 4, 1, [], 4), (.idiv, 1, [], 0), (.istore_n 3, 1, [], 0), (.iload_n 2, 1, [], 0), (.iconst 4, 1, [], 4), (.irem, 1, [], 0), (.istore 4, 2, [], 0), (.iload_n 1, 1, [], 0), (.aload_n 0, 1, [], 0), (.getfield 22, 3, [1, 1, 2, 320], 0), (.iload_n 3, 1, [], 0), (.iload 4, 2, [], 0), (.invokevirtual 77, 3, [1, 76, 3, 0, 818], 0), (.ifCond .lt 17, 3, [48], 0), (.aload_n 0, 1, [], 0), (.iload_n 3, 1, [], 0), (.iload 4, 2, [], 0), (.invokevirtual 73, 3, [1, 91, 3, 1, 817], 0), (.ifCond .ge 7, 3, [48], 0), (.iconst 1, 1, [], 1), (.goto 4, 3, [49], 0)]
theorem ok_X2_missingWays_4 : vBL MT qLen qCh false q_X2_missingWays.2.2.2.2.1 q_X2_missingWays.2.2.2.2.2.1 q_X2_missingWays.2.2.1 q_X2_missingWays.1.cls q_X2_missingWays.1.name q_X2_missingWays.2.1 0 4 I_X2_missingWays_4 = true := by decide +kernel
def p_X2_missingWays_4 : Nat → Nat → Int32 → Int32 → AH → Option (Int32 × AH)
  | 0, _, _, _, _ => none
  | n + 1, a0, x1, x2, h => if x2 < ((256 : Int32)) then (if ((4 : Int32)) = 0 then none else
    let x103 := x2 / ((4 : Int32))
    if ((4 : Int32)) = 0 then none else
    let x104 := irm x2 ((4 : Int32))
    if (tg h a0).1 = 1 then (if (tg h (rR h a0 1)).1 = 0 then ((p_X1_seek (rR h a0 1) x103 x104 h).bind fun q105 =>
    if q105.1 < 0 then (p_X2_missingWays_48 (p_X2_missingWays_4 n) a0 x2 x1 q105.2)
    else
    if (tg q105.2 a0).1 = 1 then ((p_X2_hostByHardware a0 x103 x104 q105.2).bind fun q106 =>
    if q106.1 < 0 then (p_X2_missingWays_49 (p_X2_missingWays_4 n) a0 x2 ((1 : Int32)) x1 q106.2)
    else
    p_X2_missingWays_48 (p_X2_missingWays_4 n) a0 x2 x1 q106.2) else none) else none) else none)
    else
    some (x1, h)
set_option maxRecDepth 100000 in
theorem e_X2_missingWays_4 {l : Launch} {D : va_G} {dA : Nat → ClassId} {z : Nat} {sa : Nat → Nat} {Hz : Heap} (E : StrOK qLen qCh l D dA z sa Hz) {h0 fin : AH} {x : Int32}  : ∀ (n : Nat) (a0 : Nat) (x1 : Int32) (x2 : Int32) (h : AH), p_X2_missingWays_4 n a0 x1 x2 h = some (x, fin) → GM l D dA z sa Hz q_X2_missingWays h0 (some (.int x)) fin 4 [(0, .ref a0), (1, .int x1), (2, .int x2)] [] h := by
  intro n
  induction n with
  | zero => intro a0 x1 x2 h hd; exact nomatch hd
  | succ n ih =>
    intro a0 x1 x2 h hd
    exact step E (is := I_X2_missingWays_4) (pc := 4) (K := (kx 60 (fun la st h => gI la 1 fun x1 => sE st (p_X2_missingWays_60 x1 h)) (kx 48 (fun la st h => gR la 0 fun a0 => gI la 2 fun x2 => sI st fun y0 st => sE st (p_X2_missingWays_48 (p_X2_missingWays_4 n) a0 x2 y0 h)) (kx 49 (fun la st h => gR la 0 fun a0 => gI la 2 fun x2 => sI st fun y0 st => sI st fun y1 st => sE st (p_X2_missingWays_49 (p_X2_missingWays_4 n) a0 x2 y0 y1 h)) k0)))) (FI := FI_X2_missingWays) (FV := fV0) (FL := fL0) (rt := rtI) (ft := 0) (by exact hd) ok_X2_missingWays_4 (kx_ok (fun la st h e => by obtain ⟨x1, m_x1, e1⟩ := gI_inv e; obtain ⟨rfl, ez⟩ := sE_inv e1; exact gm_fewer (e_X2_missingWays_60 E  x1 h ez) (mem_cons m_x1 mem_nil)) (kx_ok (fun la st h e => by obtain ⟨a0, m_a0, e1⟩ := gR_inv e; obtain ⟨x2, m_x2, e2⟩ := gI_inv e1; obtain ⟨y0, _, rfl, e3⟩ := sI_inv e2; obtain ⟨rfl, ez⟩ := sE_inv e3; exact gm_fewer (e_X2_missingWays_48 E ih a0 x2 y0 h ez) (mem_cons m_a0 (mem_cons m_x2 mem_nil))) (kx_ok (fun la st h e => by obtain ⟨a0, m_a0, e1⟩ := gR_inv e; obtain ⟨x2, m_x2, e2⟩ := gI_inv e1; obtain ⟨y0, _, rfl, e3⟩ := sI_inv e2; obtain ⟨y1, _, rfl, e4⟩ := sI_inv e3; obtain ⟨rfl, ez⟩ := sE_inv e4; exact gm_fewer (e_X2_missingWays_49 E ih a0 x2 y0 y1 h ez) (mem_cons m_a0 (mem_cons m_x2 mem_nil))) k0_ok))) (FI_X2_missingWays_ok E) (fV0_ok E) (fL0_ok E) (rtI_ok rfl)
def I_X2_missingWays_0 : List AI := [(.iconst 0, 1, [], 0), (.istore_n 1, 1, [], 0), (.iconst 0, 1, [], 0), (.istore_n 2, 1, [], 0)]
theorem ok_X2_missingWays_0 : vBL MT qLen qCh false q_X2_missingWays.2.2.2.2.1 q_X2_missingWays.2.2.2.2.2.1 q_X2_missingWays.2.2.1 q_X2_missingWays.1.cls q_X2_missingWays.1.name q_X2_missingWays.2.1 4 0 I_X2_missingWays_0 = true := by decide +kernel
def p_X2_missingWays (a0 : Nat) (h : AH) : Option (Int32 × AH) :=
  p_X2_missingWays_4 FU a0 ((0 : Int32)) ((0 : Int32)) h
set_option maxRecDepth 100000 in
theorem e_X2_missingWays_0 {l : Launch} {D : va_G} {dA : Nat → ClassId} {z : Nat} {sa : Nat → Nat} {Hz : Heap} (E : StrOK qLen qCh l D dA z sa Hz) {h0 fin : AH} {x : Int32}  : ∀ (a0 : Nat) (h : AH), p_X2_missingWays a0 h = some (x, fin) → GM l D dA z sa Hz q_X2_missingWays h0 (some (.int x)) fin 0 [(0, .ref a0)] [] h := by
  intro a0 h hd
  exact step E (is := I_X2_missingWays_0) (pc := 0) (K := (kx 4 (fun la st h => gR la 0 fun a0 => gI la 1 fun x1 => gI la 2 fun x2 => sE st (p_X2_missingWays_4 FU a0 x1 x2 h)) k0)) (FI := FI_X2_missingWays) (FV := fV0) (FL := fL0) (rt := rtI) (ft := 4) (by exact hd) ok_X2_missingWays_0 (kx_ok (fun la st h e => by obtain ⟨a0, m_a0, e1⟩ := gR_inv e; obtain ⟨x1, m_x1, e2⟩ := gI_inv e1; obtain ⟨x2, m_x2, e3⟩ := gI_inv e2; obtain ⟨rfl, ez⟩ := sE_inv e3; exact gm_fewer (e_X2_missingWays_4 E  FU a0 x1 x2 h ez) (mem_cons m_a0 (mem_cons m_x1 (mem_cons m_x2 mem_nil)))) k0_ok) (FI_X2_missingWays_ok E) (fV0_ok E) (fL0_ok E) (rtI_ok rfl)
theorem c_X2_missingWays {l : Launch} {D : va_G} {dA : Nat → ClassId} {z : Nat} {sa : Nat → Nat} {Hz : Heap} (E : StrOK qLen qCh l D dA z sa Hz) {a0 : Nat} {h fin : AH} {x : Int32} (hd : p_X2_missingWays a0 h = some (x, fin)) : CalOK l D dA z sa Hz q_X2_missingWays [.ref a0] h (some (.int x)) fin := calOf (by decide +kernel) (Nat.le_of_ble_eq_true rfl) (e_X2_missingWays_0 E a0 h hd)
def FI_X7_missing : Nat → List Value → AH → Option (Int32 × AH) := (cx 98 (fun As h => sR As fun a0 As => sE As (p_X2_missingWays a0 h)) (cx 50 (fun As h => sR As fun a0 As => sI As fun x1 As => sE As (p_X7_answer a0 x1 h)) (cx 9 (fun As h => sR As fun a0 As => sI As fun x1 As => sE As (p_X7_refuse a0 x1 h)) fI0)))
theorem FI_X7_missing_ok {l : Launch} {D : va_G} {dA : Nat → ClassId} {z : Nat} {sa : Nat → Nat} {Hz : Heap} (E : StrOK qLen qCh l D dA z sa Hz) : ∀ mi As h x h', FI_X7_missing mi As h = some (x, h') → CalOK l D dA z sa Hz (MT mi) As h (some (.int x)) h' := (cxI_ok (fun As h x h2 e => by obtain ⟨_, _, rfl, e0⟩ := sR_inv e; obtain ⟨rfl, ez⟩ := sE_inv e0; exact c_X2_missingWays E ez) ((cxI_ok (fun As h x h2 e => by obtain ⟨_, _, rfl, e0⟩ := sR_inv e; obtain ⟨_, _, rfl, e1⟩ := sI_inv e0; obtain ⟨rfl, ez⟩ := sE_inv e1; exact c_X7_answer E ez) ((cxI_ok (fun As h x h2 e => by obtain ⟨_, _, rfl, e0⟩ := sR_inv e; obtain ⟨_, _, rfl, e1⟩ := sI_inv e0; obtain ⟨rfl, ez⟩ := sE_inv e1; exact c_X7_refuse E ez) (fI0_ok E))))))
def I_X7_missing_26 : List AI := [(.ireturn, 1, [], 0)]
theorem ok_X7_missing_26 : vBL MT qLen qCh false q_X7_missing.2.2.2.2.1 q_X7_missing.2.2.2.2.2.1 q_X7_missing.2.2.1 q_X7_missing.1.cls q_X7_missing.1.name q_X7_missing.2.1 0 26 I_X7_missing_26 = true := by decide +kernel
def p_X7_missing_26 (y0 : Int32) (h : AH) : Option (Int32 × AH) :=
  some (y0, h)
set_option maxRecDepth 100000 in
theorem e_X7_missing_26 {l : Launch} {D : va_G} {dA : Nat → ClassId} {z : Nat} {sa : Nat → Nat} {Hz : Heap} (E : StrOK qLen qCh l D dA z sa Hz) {h0 fin : AH} {x : Int32}  : ∀ (y0 : Int32) (h : AH), p_X7_missing_26 y0 h = some (x, fin) → GM l D dA z sa Hz q_X7_missing h0 (some (.int x)) fin 26 [] [.int y0] h := by
  intro y0 h hd
  exact step E (is := I_X7_missing_26) (pc := 26) (K := k0) (FI := FI_X7_missing) (FV := fV0) (FL := fL0) (rt := rtI) (ft := 0) (by exact hd) ok_X7_missing_26 k0_ok (FI_X7_missing_ok E) (fV0_ok E) (fL0_ok E) (rtI_ok rfl)
def I_X7_missing_21 : List AI := [(.aload_n 0, 1, [], 0), (.iconst 1, 1, [], 1), (.invokevirtual 54, 3, [1, 9, 2, 6, 403], 0)]
theorem ok_X7_missing_21 : vBL MT qLen qCh false q_X7_missing.2.2.2.2.1 q_X7_missing.2.2.2.2.2.1 q_X7_missing.2.2.1 q_X7_missing.1.cls q_X7_missing.1.name q_X7_missing.2.1 26 21 I_X7_missing_21 = true := by decide +kernel
def p_X7_missing_21 (a0 : Nat) (h : AH) : Option (Int32 × AH) :=
  if (tg h a0).1 = 6 then ((p_X7_refuse a0 ((1 : Int32)) h).bind fun q101 =>
  p_X7_missing_26 q101.1 q101.2) else none
set_option maxRecDepth 100000 in
theorem e_X7_missing_21 {l : Launch} {D : va_G} {dA : Nat → ClassId} {z : Nat} {sa : Nat → Nat} {Hz : Heap} (E : StrOK qLen qCh l D dA z sa Hz) {h0 fin : AH} {x : Int32}  : ∀ (a0 : Nat) (h : AH), p_X7_missing_21 a0 h = some (x, fin) → GM l D dA z sa Hz q_X7_missing h0 (some (.int x)) fin 21 [(0, .ref a0)] [] h := by
  intro a0 h hd
  exact step E (is := I_X7_missing_21) (pc := 21) (K := (kx 26 (fun la st h => sI st fun y0 st => sE st (p_X7_missing_26 y0 h)) k0)) (FI := FI_X7_missing) (FV := fV0) (FL := fL0) (rt := rtI) (ft := 26) (by exact hd) ok_X7_missing_21 (kx_ok (fun la st h e => by obtain ⟨y0, _, rfl, e1⟩ := sI_inv e; obtain ⟨rfl, ez⟩ := sE_inv e1; exact gm_fewer (e_X7_missing_26 E  y0 h ez) mem_nil) k0_ok) (FI_X7_missing_ok E) (fV0_ok E) (fL0_ok E) (rtI_ok rfl)
def I_X7_missing_0 : List AI := [(.aload_n 0, 1, [], 0), (.getfield 107, 3, [6, 3, 3, 357], 0), (.ifCond .eq 17, 3, [21], 0), (.aload_n 0, 1, [], 0), (.aload_n 0, 1, [], 0), (.getfield 29, 3, [6, 4, 2, 358], 0), (.invokevirtual 159, 3, [1, 98, 1, 1, 832], 0), (.invokevirtual 68, 3, [1, 50, 2, 6, 633], 0), (.goto 8, 3, [26], 0)]
theorem ok_X7_missing_0 : vBL MT qLen qCh false q_X7_missing.2.2.2.2.1 q_X7_missing.2.2.2.2.2.1 q_X7_missing.2.2.1 q_X7_missing.1.cls q_X7_missing.1.name q_X7_missing.2.1 0 0 I_X7_missing_0 = true := by decide +kernel
def p_X7_missing (a0 : Nat) (h : AH) : Option (Int32 × AH) :=
  if (tg h a0).1 = 6 then (if (rI h a0 3) = 0 then (if (tg h a0).1 = 6 then ((p_X7_refuse a0 ((1 : Int32)) h).bind fun q102 =>
  p_X7_missing_26 q102.1 q102.2) else none)
  else
  if (tg h a0).1 = 6 then (if (tg h (rR h a0 4)).1 = 1 then ((p_X2_missingWays (rR h a0 4) h).bind fun q103 =>
  if (tg q103.2 a0).1 = 6 then ((p_X7_answer a0 q103.1 q103.2).bind fun q104 =>
  p_X7_missing_26 q104.1 q104.2) else none) else none) else none) else none
set_option maxRecDepth 100000 in
theorem e_X7_missing_0 {l : Launch} {D : va_G} {dA : Nat → ClassId} {z : Nat} {sa : Nat → Nat} {Hz : Heap} (E : StrOK qLen qCh l D dA z sa Hz) {h0 fin : AH} {x : Int32}  : ∀ (a0 : Nat) (h : AH), p_X7_missing a0 h = some (x, fin) → GM l D dA z sa Hz q_X7_missing h0 (some (.int x)) fin 0 [(0, .ref a0)] [] h := by
  intro a0 h hd
  exact step E (is := I_X7_missing_0) (pc := 0) (K := (kx 21 (fun la st h => gR la 0 fun a0 => sE st (p_X7_missing_21 a0 h)) (kx 26 (fun la st h => sI st fun y0 st => sE st (p_X7_missing_26 y0 h)) k0))) (FI := FI_X7_missing) (FV := fV0) (FL := fL0) (rt := rtI) (ft := 0) (by exact hd) ok_X7_missing_0 (kx_ok (fun la st h e => by obtain ⟨a0, m_a0, e1⟩ := gR_inv e; obtain ⟨rfl, ez⟩ := sE_inv e1; exact gm_fewer (e_X7_missing_21 E  a0 h ez) (mem_cons m_a0 mem_nil)) (kx_ok (fun la st h e => by obtain ⟨y0, _, rfl, e1⟩ := sI_inv e; obtain ⟨rfl, ez⟩ := sE_inv e1; exact gm_fewer (e_X7_missing_26 E  y0 h ez) mem_nil) k0_ok)) (FI_X7_missing_ok E) (fV0_ok E) (fL0_ok E) (rtI_ok rfl)
theorem c_X7_missing {l : Launch} {D : va_G} {dA : Nat → ClassId} {z : Nat} {sa : Nat → Nat} {Hz : Heap} (E : StrOK qLen qCh l D dA z sa Hz) {a0 : Nat} {h fin : AH} {x : Int32} (hd : p_X7_missing a0 h = some (x, fin)) : CalOK l D dA z sa Hz q_X7_missing [.ref a0] h (some (.int x)) fin := calOf (by decide +kernel) (Nat.le_of_ble_eq_true rfl) (e_X7_missing_0 E a0 h hd)
