/-! ===== methods 175 to 199 ===== -/
def FI_X7_store : Nat → List Value → AH → Option (Int32 × AH) := (cx 68 (fun As h => sR As fun a0 As => sI As fun x1 As => sE As (p_X7_isPage a0 x1 h)) (cx 55 (fun As h => sI As fun x0 As => sE As (p_X7_isPlace x0 h)) (cx 9 (fun As h => sR As fun a0 As => sI As fun x1 As => sE As (p_X7_refuse a0 x1 h)) (cx 169 (fun As h => sI As fun x0 As => sE As (p_X7_isWord x0 h)) (cx 69 (fun As h => sI As fun x0 As => sI As fun x1 As => sE As (p_X7_mode x0 x1 h)) (cx 174 (fun As h => sR As fun a0 As => sI As fun x1 As => sI As fun x2 As => sI As fun x3 As => sI As fun x4 As => sE As (p_X2_put a0 x1 x2 x3 x4 h)) (cx 50 (fun As h => sR As fun a0 As => sI As fun x1 As => sE As (p_X7_answer a0 x1 h)) fI0)))))))
theorem FI_X7_store_ok {l : Launch} {D : va_G} {dA : Nat → ClassId} {z : Nat} {sa : Nat → Nat} {Hz : Heap} (E : StrOK qLen qCh l D dA z sa Hz) : ∀ mi As h x h', FI_X7_store mi As h = some (x, h') → CalOK l D dA z sa Hz (MT mi) As h (some (.int x)) h' := (cxI_ok (fun As h x h2 e => by obtain ⟨_, _, rfl, e0⟩ := sR_inv e; obtain ⟨_, _, rfl, e1⟩ := sI_inv e0; obtain ⟨rfl, ez⟩ := sE_inv e1; exact c_X7_isPage E ez) ((cxI_ok (fun As h x h2 e => by obtain ⟨_, _, rfl, e0⟩ := sI_inv e; obtain ⟨rfl, ez⟩ := sE_inv e0; exact c_X7_isPlace E ez) ((cxI_ok (fun As h x h2 e => by obtain ⟨_, _, rfl, e0⟩ := sR_inv e; obtain ⟨_, _, rfl, e1⟩ := sI_inv e0; obtain ⟨rfl, ez⟩ := sE_inv e1; exact c_X7_refuse E ez) ((cxI_ok (fun As h x h2 e => by obtain ⟨_, _, rfl, e0⟩ := sI_inv e; obtain ⟨rfl, ez⟩ := sE_inv e0; exact c_X7_isWord E ez) ((cxI_ok (fun As h x h2 e => by obtain ⟨_, _, rfl, e0⟩ := sI_inv e; obtain ⟨_, _, rfl, e1⟩ := sI_inv e0; obtain ⟨rfl, ez⟩ := sE_inv e1; exact c_X7_mode E ez) ((cxI_ok (fun As h x h2 e => by obtain ⟨_, _, rfl, e0⟩ := sR_inv e; obtain ⟨_, _, rfl, e1⟩ := sI_inv e0; obtain ⟨_, _, rfl, e2⟩ := sI_inv e1; obtain ⟨_, _, rfl, e3⟩ := sI_inv e2; obtain ⟨_, _, rfl, e4⟩ := sI_inv e3; obtain ⟨rfl, ez⟩ := sE_inv e4; exact c_X2_put E ez) ((cxI_ok (fun As h x h2 e => by obtain ⟨_, _, rfl, e0⟩ := sR_inv e; obtain ⟨_, _, rfl, e1⟩ := sI_inv e0; obtain ⟨rfl, ez⟩ := sE_inv e1; exact c_X7_answer E ez) (fI0_ok E))))))))))))))
def FV_X7_store : Nat → List Value → AH → Option (AH) := (cx 167 (fun As h => sR As fun a0 As => sE As (p_X7_keep a0 h)) fV0)
theorem FV_X7_store_ok {l : Launch} {D : va_G} {dA : Nat → ClassId} {z : Nat} {sa : Nat → Nat} {Hz : Heap} (E : StrOK qLen qCh l D dA z sa Hz) : ∀ mi As h h', FV_X7_store mi As h = some h' → CalOK l D dA z sa Hz (MT mi) As h none h' := (cxV_ok (fun As h h2 e => by obtain ⟨_, _, rfl, e0⟩ := sR_inv e; obtain ⟨rfl, ez⟩ := sE_inv e0; exact c_X7_keep E ez) (fV0_ok E))
def I_X7_store_15 : List AI := [(.aload_n 0, 1, [], 0), (.iconst 1, 1, [], 1), (.invokevirtual 54, 3, [1, 9, 2, 6, 403], 0), (.ireturn, 1, [], 0)]
theorem ok_X7_store_15 : vBL MT qLen qCh false q_X7_store.2.2.2.2.1 q_X7_store.2.2.2.2.2.1 q_X7_store.2.2.1 q_X7_store.1.cls q_X7_store.1.name q_X7_store.2.1 0 15 I_X7_store_15 = true := by decide +kernel
def p_X7_store_15 (a0 : Nat) (h : AH) : Option (Int32 × AH) :=
  if (tg h a0).1 = 6 then ((p_X7_refuse a0 ((1 : Int32)) h).bind fun q101 =>
  some (q101.1, q101.2)) else none
set_option maxRecDepth 100000 in
theorem e_X7_store_15 {l : Launch} {D : va_G} {dA : Nat → ClassId} {z : Nat} {sa : Nat → Nat} {Hz : Heap} (E : StrOK qLen qCh l D dA z sa Hz) {h0 fin : AH} {x : Int32}  : ∀ (a0 : Nat) (h : AH), p_X7_store_15 a0 h = some (x, fin) → GM l D dA z sa Hz q_X7_store h0 (some (.int x)) fin 15 [(0, .ref a0)] [] h := by
  intro a0 h hd
  exact step E (is := I_X7_store_15) (pc := 15) (K := k0) (FI := FI_X7_store) (FV := FV_X7_store) (FL := fL0) (rt := rtI) (ft := 0) (by exact hd) ok_X7_store_15 k0_ok (FI_X7_store_ok E) (FV_X7_store_ok E) (fL0_ok E) (rtI_ok rfl)
def I_X7_store_34 : List AI := [(.aload_n 0, 1, [], 0), (.invokevirtual 265, 3, [2, 167, 1, 6, 1131], 0), (.aload_n 0, 1, [], 0), (.aload_n 0, 1, [], 0), (.getfield 29, 3, [6, 4, 2, 358], 0), (.iload_n 1, 1, [], 0), (.iload_n 2, 1, [], 0), (.iload_n 3, 1, [], 0), (.iconst 1, 1, [], 1), (.iload 4, 2, [], 0), (.invokestatic 123, 3, [1, 69, 2, 708], 0), (.invokevirtual 271, 3, [1, 174, 5, 1, 1143], 0), (.invokevirtual 68, 3, [1, 50, 2, 6, 633], 0), (.ireturn, 1, [], 0)]
theorem ok_X7_store_34 : vBL MT qLen qCh false q_X7_store.2.2.2.2.1 q_X7_store.2.2.2.2.2.1 q_X7_store.2.2.1 q_X7_store.1.cls q_X7_store.1.name q_X7_store.2.1 0 34 I_X7_store_34 = true := by decide +kernel
def p_X7_store_34 (a0 : Nat) (x1 : Int32) (x2 : Int32) (x3 : Int32) (x4 : Int32) (h : AH) : Option (Int32 × AH) :=
  if (tg h a0).1 = 6 then ((p_X7_keep a0 h).bind fun h102 =>
  if (tg h102 a0).1 = 6 then ((p_X7_mode ((1 : Int32)) x4 h102).bind fun q103 =>
  if (tg q103.2 (rR h102 a0 4)).1 = 1 then ((p_X2_put (rR h102 a0 4) x1 x2 x3 q103.1 q103.2).bind fun q104 =>
  if (tg q104.2 a0).1 = 6 then ((p_X7_answer a0 q104.1 q104.2).bind fun q105 =>
  some (q105.1, q105.2)) else none) else none) else none) else none
set_option maxRecDepth 100000 in
theorem e_X7_store_34 {l : Launch} {D : va_G} {dA : Nat → ClassId} {z : Nat} {sa : Nat → Nat} {Hz : Heap} (E : StrOK qLen qCh l D dA z sa Hz) {h0 fin : AH} {x : Int32}  : ∀ (a0 : Nat) (x1 : Int32) (x2 : Int32) (x3 : Int32) (x4 : Int32) (h : AH), p_X7_store_34 a0 x1 x2 x3 x4 h = some (x, fin) → GM l D dA z sa Hz q_X7_store h0 (some (.int x)) fin 34 [(0, .ref a0), (1, .int x1), (2, .int x2), (3, .int x3), (4, .int x4)] [] h := by
  intro a0 x1 x2 x3 x4 h hd
  exact step E (is := I_X7_store_34) (pc := 34) (K := k0) (FI := FI_X7_store) (FV := FV_X7_store) (FL := fL0) (rt := rtI) (ft := 0) (by exact hd) ok_X7_store_34 k0_ok (FI_X7_store_ok E) (FV_X7_store_ok E) (fL0_ok E) (rtI_ok rfl)
def I_X7_store_21 : List AI := [(.iload_n 3, 1, [], 0), (.invokestatic 268, 3, [1, 169, 1, 1140], 0), (.ifCond .ne 9, 3, [34], 0), (.aload_n 0, 1, [], 0), (.iconst 2, 1, [], 2), (.invokevirtual 54, 3, [1, 9, 2, 6, 403], 0), (.ireturn, 1, [], 0)]
theorem ok_X7_store_21 : vBL MT qLen qCh false q_X7_store.2.2.2.2.1 q_X7_store.2.2.2.2.2.1 q_X7_store.2.2.1 q_X7_store.1.cls q_X7_store.1.name q_X7_store.2.1 0 21 I_X7_store_21 = true := by decide +kernel
def p_X7_store_21 (a0 : Nat) (x1 : Int32) (x2 : Int32) (x3 : Int32) (x4 : Int32) (h : AH) : Option (Int32 × AH) :=
  (p_X7_isWord x3 h).bind fun q106 =>
  if q106.1 = 0 then (if (tg q106.2 a0).1 = 6 then ((p_X7_refuse a0 ((2 : Int32)) q106.2).bind fun q111 =>
  some (q111.1, q111.2)) else none)
  else
  if (tg q106.2 a0).1 = 6 then ((p_X7_keep a0 q106.2).bind fun h107 =>
  if (tg h107 a0).1 = 6 then ((p_X7_mode ((1 : Int32)) x4 h107).bind fun q108 =>
  if (tg q108.2 (rR h107 a0 4)).1 = 1 then ((p_X2_put (rR h107 a0 4) x1 x2 x3 q108.1 q108.2).bind fun q109 =>
  if (tg q109.2 a0).1 = 6 then ((p_X7_answer a0 q109.1 q109.2).bind fun q110 =>
  some (q110.1, q110.2)) else none) else none) else none) else none
set_option maxRecDepth 100000 in
theorem e_X7_store_21 {l : Launch} {D : va_G} {dA : Nat → ClassId} {z : Nat} {sa : Nat → Nat} {Hz : Heap} (E : StrOK qLen qCh l D dA z sa Hz) {h0 fin : AH} {x : Int32}  : ∀ (a0 : Nat) (x1 : Int32) (x2 : Int32) (x3 : Int32) (x4 : Int32) (h : AH), p_X7_store_21 a0 x1 x2 x3 x4 h = some (x, fin) → GM l D dA z sa Hz q_X7_store h0 (some (.int x)) fin 21 [(0, .ref a0), (1, .int x1), (2, .int x2), (3, .int x3), (4, .int x4)] [] h := by
  intro a0 x1 x2 x3 x4 h hd
  exact step E (is := I_X7_store_21) (pc := 21) (K := (kx 34 (fun la st h => gR la 0 fun a0 => gI la 1 fun x1 => gI la 2 fun x2 => gI la 3 fun x3 => gI la 4 fun x4 => sE st (p_X7_store_34 a0 x1 x2 x3 x4 h)) k0)) (FI := FI_X7_store) (FV := FV_X7_store) (FL := fL0) (rt := rtI) (ft := 0) (by exact hd) ok_X7_store_21 (kx_ok (fun la st h e => by obtain ⟨a0, m_a0, e1⟩ := gR_inv e; obtain ⟨x1, m_x1, e2⟩ := gI_inv e1; obtain ⟨x2, m_x2, e3⟩ := gI_inv e2; obtain ⟨x3, m_x3, e4⟩ := gI_inv e3; obtain ⟨x4, m_x4, e5⟩ := gI_inv e4; obtain ⟨rfl, ez⟩ := sE_inv e5; exact gm_fewer (e_X7_store_34 E  a0 x1 x2 x3 x4 h ez) (mem_cons m_a0 (mem_cons m_x1 (mem_cons m_x2 (mem_cons m_x3 (mem_cons m_x4 mem_nil)))))) k0_ok) (FI_X7_store_ok E) (FV_X7_store_ok E) (fL0_ok E) (rtI_ok rfl)
def I_X7_store_0 : List AI := [(.aload_n 0, 1, [], 0), (.iload_n 1, 1, [], 0), (.invokevirtual 120, 3, [1, 68, 2, 6, 704], 0), (.ifCond .eq 10, 3, [15], 0), (.iload_n 2, 1, [], 0), (.invokestatic 84, 3, [1, 55, 1, 653], 0), (.ifCond .ne 9, 3, [21], 0)]
theorem ok_X7_store_0 : vBL MT qLen qCh false q_X7_store.2.2.2.2.1 q_X7_store.2.2.2.2.2.1 q_X7_store.2.2.1 q_X7_store.1.cls q_X7_store.1.name q_X7_store.2.1 15 0 I_X7_store_0 = true := by decide +kernel
def p_X7_store (a0 : Nat) (x1 : Int32) (x2 : Int32) (x3 : Int32) (x4 : Int32) (h : AH) : Option (Int32 × AH) :=
  if (tg h a0).1 = 6 then ((p_X7_isPage a0 x1 h).bind fun q112 =>
  if q112.1 = 0 then (p_X7_store_15 a0 q112.2)
  else
  (p_X7_isPlace x2 q112.2).bind fun q113 =>
  if q113.1 = 0 then (p_X7_store_15 a0 q113.2)
  else
  (p_X7_isWord x3 q113.2).bind fun q114 =>
  if q114.1 = 0 then (if (tg q114.2 a0).1 = 6 then ((p_X7_refuse a0 ((2 : Int32)) q114.2).bind fun q119 =>
  some (q119.1, q119.2)) else none)
  else
  if (tg q114.2 a0).1 = 6 then ((p_X7_keep a0 q114.2).bind fun h115 =>
  if (tg h115 a0).1 = 6 then ((p_X7_mode ((1 : Int32)) x4 h115).bind fun q116 =>
  if (tg q116.2 (rR h115 a0 4)).1 = 1 then ((p_X2_put (rR h115 a0 4) x1 x2 x3 q116.1 q116.2).bind fun q117 =>
  if (tg q117.2 a0).1 = 6 then ((p_X7_answer a0 q117.1 q117.2).bind fun q118 =>
  some (q118.1, q118.2)) else none) else none) else none) else none) else none
set_option maxRecDepth 100000 in
theorem e_X7_store_0 {l : Launch} {D : va_G} {dA : Nat → ClassId} {z : Nat} {sa : Nat → Nat} {Hz : Heap} (E : StrOK qLen qCh l D dA z sa Hz) {h0 fin : AH} {x : Int32}  : ∀ (a0 : Nat) (x1 : Int32) (x2 : Int32) (x3 : Int32) (x4 : Int32) (h : AH), p_X7_store a0 x1 x2 x3 x4 h = some (x, fin) → GM l D dA z sa Hz q_X7_store h0 (some (.int x)) fin 0 [(0, .ref a0), (1, .int x1), (2, .int x2), (3, .int x3), (4, .int x4)] [] h := by
  intro a0 x1 x2 x3 x4 h hd
  exact step E (is := I_X7_store_0) (pc := 0) (K := (kx 15 (fun la st h => gR la 0 fun a0 => sE st (p_X7_store_15 a0 h)) (kx 21 (fun la st h => gR la 0 fun a0 => gI la 1 fun x1 => gI la 2 fun x2 => gI la 3 fun x3 => gI la 4 fun x4 => sE st (p_X7_store_21 a0 x1 x2 x3 x4 h)) k0))) (FI := FI_X7_store) (FV := FV_X7_store) (FL := fL0) (rt := rtI) (ft := 15) (by exact hd) ok_X7_store_0 (kx_ok (fun la st h e => by obtain ⟨a0, m_a0, e1⟩ := gR_inv e; obtain ⟨rfl, ez⟩ := sE_inv e1; exact gm_fewer (e_X7_store_15 E  a0 h ez) (mem_cons m_a0 mem_nil)) (kx_ok (fun la st h e => by obtain ⟨a0, m_a0, e1⟩ := gR_inv e; obtain ⟨x1, m_x1, e2⟩ := gI_inv e1; obtain ⟨x2, m_x2, e3⟩ := gI_inv e2; obtain ⟨x3, m_x3, e4⟩ := gI_inv e3; obtain ⟨x4, m_x4, e5⟩ := gI_inv e4; obtain ⟨rfl, ez⟩ := sE_inv e5; exact gm_fewer (e_X7_store_21 E  a0 x1 x2 x3 x4 h ez) (mem_cons m_a0 (mem_cons m_x1 (mem_cons m_x2 (mem_cons m_x3 (mem_cons m_x4 mem_nil)))))) k0_ok)) (FI_X7_store_ok E) (FV_X7_store_ok E) (fL0_ok E) (rtI_ok rfl)
theorem c_X7_store {l : Launch} {D : va_G} {dA : Nat → ClassId} {z : Nat} {sa : Nat → Nat} {Hz : Heap} (E : StrOK qLen qCh l D dA z sa Hz) {a0 : Nat} {x1 : Int32} {x2 : Int32} {x3 : Int32} {x4 : Int32} {h fin : AH} {x : Int32} (hd : p_X7_store a0 x1 x2 x3 x4 h = some (x, fin)) : CalOK l D dA z sa Hz q_X7_store [.ref a0, .int x1, .int x2, .int x3, .int x4] h (some (.int x)) fin := calOf (by decide +kernel) (Nat.le_of_ble_eq_true rfl) (e_X7_store_0 E a0 x1 x2 x3 x4 h hd)
def FI_X2_bringBack : Nat → List Value → AH → Option (Int32 × AH) := (cx 88 (fun As h => sR As fun a0 As => sI As fun x1 As => sI As fun x2 As => sE As (p_X3_entryAt a0 x1 x2 h)) (cx 102 (fun As h => sR As fun a0 As => sI As fun x1 As => sE As (p_X3_ownerOf a0 x1 h)) (cx 56 (fun As h => sR As fun a0 As => sI As fun x1 As => sI As fun x2 As => sE As (p_X1_wordAt a0 x1 x2 h)) (cx 60 (fun As h => sI As fun x0 As => sI As fun x1 As => sE As (p_X7_has x0 x1 h)) (cx 72 (fun As h => sI As fun x0 As => sE As (p_X7_frameIn x0 h)) (cx 170 (fun As h => sR As fun a0 As => sI As fun x1 As => sI As fun x2 As => sE As (p_X3_remove a0 x1 x2 h)) fI0))))))
theorem FI_X2_bringBack_ok {l : Launch} {D : va_G} {dA : Nat → ClassId} {z : Nat} {sa : Nat → Nat} {Hz : Heap} (E : StrOK qLen qCh l D dA z sa Hz) : ∀ mi As h x h', FI_X2_bringBack mi As h = some (x, h') → CalOK l D dA z sa Hz (MT mi) As h (some (.int x)) h' := (cxI_ok (fun As h x h2 e => by obtain ⟨_, _, rfl, e0⟩ := sR_inv e; obtain ⟨_, _, rfl, e1⟩ := sI_inv e0; obtain ⟨_, _, rfl, e2⟩ := sI_inv e1; obtain ⟨rfl, ez⟩ := sE_inv e2; exact c_X3_entryAt E ez) ((cxI_ok (fun As h x h2 e => by obtain ⟨_, _, rfl, e0⟩ := sR_inv e; obtain ⟨_, _, rfl, e1⟩ := sI_inv e0; obtain ⟨rfl, ez⟩ := sE_inv e1; exact c_X3_ownerOf E ez) ((cxI_ok (fun As h x h2 e => by obtain ⟨_, _, rfl, e0⟩ := sR_inv e; obtain ⟨_, _, rfl, e1⟩ := sI_inv e0; obtain ⟨_, _, rfl, e2⟩ := sI_inv e1; obtain ⟨rfl, ez⟩ := sE_inv e2; exact c_X1_wordAt E ez) ((cxI_ok (fun As h x h2 e => by obtain ⟨_, _, rfl, e0⟩ := sI_inv e; obtain ⟨_, _, rfl, e1⟩ := sI_inv e0; obtain ⟨rfl, ez⟩ := sE_inv e1; exact c_X7_has E ez) ((cxI_ok (fun As h x h2 e => by obtain ⟨_, _, rfl, e0⟩ := sI_inv e; obtain ⟨rfl, ez⟩ := sE_inv e0; exact c_X7_frameIn E ez) ((cxI_ok (fun As h x h2 e => by obtain ⟨_, _, rfl, e0⟩ := sR_inv e; obtain ⟨_, _, rfl, e1⟩ := sI_inv e0; obtain ⟨_, _, rfl, e2⟩ := sI_inv e1; obtain ⟨rfl, ez⟩ := sE_inv e2; exact c_X3_remove E ez) (fI0_ok E))))))))))))
def FV_X2_bringBack : Nat → List Value → AH → Option (AH) := (cx 131 (fun As h => sR As fun a0 As => sI As fun x1 As => sI As fun x2 As => sI As fun x3 As => sI As fun x4 As => sI As fun x5 As => sE As (p_X3_tell a0 x1 x2 x3 x4 x5 h)) fV0)
theorem FV_X2_bringBack_ok {l : Launch} {D : va_G} {dA : Nat → ClassId} {z : Nat} {sa : Nat → Nat} {Hz : Heap} (E : StrOK qLen qCh l D dA z sa Hz) : ∀ mi As h h', FV_X2_bringBack mi As h = some h' → CalOK l D dA z sa Hz (MT mi) As h none h' := (cxV_ok (fun As h h2 e => by obtain ⟨_, _, rfl, e0⟩ := sR_inv e; obtain ⟨_, _, rfl, e1⟩ := sI_inv e0; obtain ⟨_, _, rfl, e2⟩ := sI_inv e1; obtain ⟨_, _, rfl, e3⟩ := sI_inv e2; obtain ⟨_, _, rfl, e4⟩ := sI_inv e3; obtain ⟨_, _, rfl, e5⟩ := sI_inv e4; obtain ⟨rfl, ez⟩ := sE_inv e5; exact c_X3_tell E ez) (fV0_ok E))
def I_X2_bringBack_147 : List AI := [(.return_, 1, [], 0)]
theorem ok_X2_bringBack_147 : vBL MT qLen qCh false q_X2_bringBack.2.2.2.2.1 q_X2_bringBack.2.2.2.2.2.1 q_X2_bringBack.2.2.1 q_X2_bringBack.1.cls q_X2_bringBack.1.name q_X2_bringBack.2.1 0 147 I_X2_bringBack_147 = true := by decide +kernel
def p_X2_bringBack_147 (h : AH) : Option (AH) :=
  some h
set_option maxRecDepth 100000 in
theorem e_X2_bringBack_147 {l : Launch} {D : va_G} {dA : Nat → ClassId} {z : Nat} {sa : Nat → Nat} {Hz : Heap} (E : StrOK qLen qCh l D dA z sa Hz) {h0 fin : AH}  : ∀  (h : AH), p_X2_bringBack_147 h = some fin → GM l D dA z sa Hz q_X2_bringBack h0 none fin 147 [] [] h := by
  intro h hd
  exact step E (is := I_X2_bringBack_147) (pc := 147) (K := k0) (FI := FI_X2_bringBack) (FV := FV_X2_bringBack) (FL := fL0) (rt := rtV) (ft := 0) (by exact hd) ok_X2_bringBack_147 k0_ok (FI_X2_bringBack_ok E) (FV_X2_bringBack_ok E) (fL0_ok E) (rtV_ok rfl)
def I_X2_bringBack_141 : List AI := [(.iinc 2 1, 3, [], 1), (.goto (-142), 3, [2], 0)]
theorem ok_X2_bringBack_141 : vBL MT qLen qCh false q_X2_bringBack.2.2.2.2.1 q_X2_bringBack.2.2.2.2.2.1 q_X2_bringBack.2.2.1 q_X2_bringBack.1.cls q_X2_bringBack.1.name q_X2_bringBack.2.1 0 141 I_X2_bringBack_141 = true := by decide +kernel
def p_X2_bringBack_141 (k2 : Nat → Int32 → Int32 → AH → Option (AH)) (a0 : Nat) (x1 : Int32) (x2 : Int32) (h : AH) : Option (AH) :=
  k2 a0 x1 (x2 + (1 : Int32)) h
set_option maxRecDepth 100000 in
theorem e_X2_bringBack_141 {l : Launch} {D : va_G} {dA : Nat → ClassId} {z : Nat} {sa : Nat → Nat} {Hz : Heap} (E : StrOK qLen qCh l D dA z sa Hz) {h0 fin : AH}  {k2 : Nat → Int32 → Int32 → AH → Option (AH)} (hk2 : ∀ (a0 : Nat) (x1 : Int32) (x2 : Int32) (h : AH), k2 a0 x1 x2 h = some fin → GM l D dA z sa Hz q_X2_bringBack h0 none fin 2 [(0, .ref a0), (1, .int x1), (2, .int x2)] [] h) : ∀ (a0 : Nat) (x1 : Int32) (x2 : Int32) (h : AH), p_X2_bringBack_141 k2 a0 x1 x2 h = some fin → GM l D dA z sa Hz q_X2_bringBack h0 none fin 141 [(0, .ref a0), (1, .int x1), (2, .int x2)] [] h := by
  intro a0 x1 x2 h hd
  exact step E (is := I_X2_bringBack_141) (pc := 141) (K := (kx 2 (fun la st h => gR la 0 fun a0 => gI la 1 fun x1 => gI la 2 fun x2 => sE st (k2 a0 x1 x2 h)) k0)) (FI := FI_X2_bringBack) (FV := FV_X2_bringBack) (FL := fL0) (rt := rtV) (ft := 0) (by exact hd) ok_X2_bringBack_141 (kx_ok (fun la st h e => by obtain ⟨a0, m_a0, e1⟩ := gR_inv e; obtain ⟨x1, m_x1, e2⟩ := gI_inv e1; obtain ⟨x2, m_x2, e3⟩ := gI_inv e2; obtain ⟨rfl, ez⟩ := sE_inv e3; exact gm_fewer (hk2 a0 x1 x2 h ez) (mem_cons m_a0 (mem_cons m_x1 (mem_cons m_x2 mem_nil)))) k0_ok) (FI_X2_bringBack_ok E) (FV_X2_bringBack_ok E) (fL0_ok E) (rtV_ok rfl)
def I_X2_bringBack_63 : List AI := [(.aload_n 0, 1, [], 0), (.getfield 27, 3, [1, 2, 2, 322], 0), (.iload_n 1, 1, [], 0), (.iload_n 2, 1, [], 0), (.invokevirtual 183, 3, [1, 170, 3, 2, 1183], 0), (.pop, 1, [], 0), (.goto 68, 3, [141], 0)]
theorem ok_X2_bringBack_63 : vBL MT qLen qCh false q_X2_bringBack.2.2.2.2.1 q_X2_bringBack.2.2.2.2.2.1 q_X2_bringBack.2.2.1 q_X2_bringBack.1.cls q_X2_bringBack.1.name q_X2_bringBack.2.1 0 63 I_X2_bringBack_63 = true := by decide +kernel
def p_X2_bringBack_63 (k2 : Nat → Int32 → Int32 → AH → Option (AH)) (a0 : Nat) (x1 : Int32) (x2 : Int32) (h : AH) : Option (AH) :=
  if (tg h a0).1 = 1 then (if (tg h (rR h a0 2)).1 = 2 then ((p_X3_remove (rR h a0 2) x1 x2 h).bind fun q101 =>
  p_X2_bringBack_141 k2 a0 x1 x2 q101.2) else none) else none
set_option maxRecDepth 100000 in
theorem e_X2_bringBack_63 {l : Launch} {D : va_G} {dA : Nat → ClassId} {z : Nat} {sa : Nat → Nat} {Hz : Heap} (E : StrOK qLen qCh l D dA z sa Hz) {h0 fin : AH}  {k2 : Nat → Int32 → Int32 → AH → Option (AH)} (hk2 : ∀ (a0 : Nat) (x1 : Int32) (x2 : Int32) (h : AH), k2 a0 x1 x2 h = some fin → GM l D dA z sa Hz q_X2_bringBack h0 none fin 2 [(0, .ref a0), (1, .int x1), (2, .int x2)] [] h) : ∀ (a0 : Nat) (x1 : Int32) (x2 : Int32) (h : AH), p_X2_bringBack_63 k2 a0 x1 x2 h = some fin → GM l D dA z sa Hz q_X2_bringBack h0 none fin 63 [(0, .ref a0), (1, .int x1), (2, .int x2)] [] h := by
  intro a0 x1 x2 h hd
  exact step E (is := I_X2_bringBack_63) (pc := 63) (K := (kx 141 (fun la st h => gR la 0 fun a0 => gI la 1 fun x1 => gI la 2 fun x2 => sE st (p_X2_bringBack_141 k2 a0 x1 x2 h)) k0)) (FI := FI_X2_bringBack) (FV := FV_X2_bringBack) (FL := fL0) (rt := rtV) (ft := 0) (by exact hd) ok_X2_bringBack_63 (kx_ok (fun la st h e => by obtain ⟨a0, m_a0, e1⟩ := gR_inv e; obtain ⟨x1, m_x1, e2⟩ := gI_inv e1; obtain ⟨x2, m_x2, e3⟩ := gI_inv e2; obtain ⟨rfl, ez⟩ := sE_inv e3; exact gm_fewer (e_X2_bringBack_141 E hk2 a0 x1 x2 h ez) (mem_cons m_a0 (mem_cons m_x1 (mem_cons m_x2 mem_nil)))) k0_ok) (FI_X2_bringBack_ok E) (FV_X2_bringBack_ok E) (fL0_ok E) (rtV_ok rfl)
def I_X2_bringBack_123 : List AI := [(.istore 6, 2, [], 0), (.aload_n 0, 1, [], 0), (.getfield 27, 3, [1, 2, 2, 322], 0), (.iload_n 1, 1, [], 0), (.iload_n 2, 1, [], 0), (.iload_n 3, 1, [], 0), (.iconst 4, 1, [], 4), (.idiv, 1, [], 0), (.iload 5, 2, [], 0), (.iload 6, 2, [], 0), (.invokevirtual 103, 3, [2, 131, 6, 2, 982], 0)]
theorem ok_X2_bringBack_123 : vBL MT qLen qCh false q_X2_bringBack.2.2.2.2.1 q_X2_bringBack.2.2.2.2.2.1 q_X2_bringBack.2.2.1 q_X2_bringBack.1.cls q_X2_bringBack.1.name q_X2_bringBack.2.1 141 123 I_X2_bringBack_123 = true := by decide +kernel
def p_X2_bringBack_123 (k2 : Nat → Int32 → Int32 → AH → Option (AH)) (a0 : Nat) (x1 : Int32) (x2 : Int32) (x3 : Int32) (x5 : Int32) (y0 : Int32) (h : AH) : Option (AH) :=
  if (tg h a0).1 = 1 then (if ((4 : Int32)) = 0 then none else
  if (tg h (rR h a0 2)).1 = 2 then ((p_X3_tell (rR h a0 2) x1 x2 (x3 / ((4 : Int32))) x5 y0 h).bind fun h102 =>
  p_X2_bringBack_141 k2 a0 x1 x2 h102) else none) else none
set_option maxRecDepth 100000 in
theorem e_X2_bringBack_123 {l : Launch} {D : va_G} {dA : Nat → ClassId} {z : Nat} {sa : Nat → Nat} {Hz : Heap} (E : StrOK qLen qCh l D dA z sa Hz) {h0 fin : AH}  {k2 : Nat → Int32 → Int32 → AH → Option (AH)} (hk2 : ∀ (a0 : Nat) (x1 : Int32) (x2 : Int32) (h : AH), k2 a0 x1 x2 h = some fin → GM l D dA z sa Hz q_X2_bringBack h0 none fin 2 [(0, .ref a0), (1, .int x1), (2, .int x2)] [] h) : ∀ (a0 : Nat) (x1 : Int32) (x2 : Int32) (x3 : Int32) (x5 : Int32) (y0 : Int32) (h : AH), p_X2_bringBack_123 k2 a0 x1 x2 x3 x5 y0 h = some fin → GM l D dA z sa Hz q_X2_bringBack h0 none fin 123 [(0, .ref a0), (1, .int x1), (2, .int x2), (3, .int x3), (5, .int x5)] [.int y0] h := by
  intro a0 x1 x2 x3 x5 y0 h hd
  exact step E (is := I_X2_bringBack_123) (pc := 123) (K := (kx 141 (fun la st h => gR la 0 fun a0 => gI la 1 fun x1 => gI la 2 fun x2 => sE st (p_X2_bringBack_141 k2 a0 x1 x2 h)) k0)) (FI := FI_X2_bringBack) (FV := FV_X2_bringBack) (FL := fL0) (rt := rtV) (ft := 141) (by exact hd) ok_X2_bringBack_123 (kx_ok (fun la st h e => by obtain ⟨a0, m_a0, e1⟩ := gR_inv e; obtain ⟨x1, m_x1, e2⟩ := gI_inv e1; obtain ⟨x2, m_x2, e3⟩ := gI_inv e2; obtain ⟨rfl, ez⟩ := sE_inv e3; exact gm_fewer (e_X2_bringBack_141 E hk2 a0 x1 x2 h ez) (mem_cons m_a0 (mem_cons m_x1 (mem_cons m_x2 mem_nil)))) k0_ok) (FI_X2_bringBack_ok E) (FV_X2_bringBack_ok E) (fL0_ok E) (rtV_ok rfl)
def I_X2_bringBack_122 : List AI := [(.iconst 0, 1, [], 0)]
theorem ok_X2_bringBack_122 : vBL MT qLen qCh false q_X2_bringBack.2.2.2.2.1 q_X2_bringBack.2.2.2.2.2.1 q_X2_bringBack.2.2.1 q_X2_bringBack.1.cls q_X2_bringBack.1.name q_X2_bringBack.2.1 123 122 I_X2_bringBack_122 = true := by decide +kernel
def p_X2_bringBack_122 (k2 : Nat → Int32 → Int32 → AH → Option (AH)) (a0 : Nat) (x1 : Int32) (x2 : Int32) (x3 : Int32) (x5 : Int32) (h : AH) : Option (AH) :=
  p_X2_bringBack_123 k2 a0 x1 x2 x3 x5 ((0 : Int32)) h
set_option maxRecDepth 100000 in
theorem e_X2_bringBack_122 {l : Launch} {D : va_G} {dA : Nat → ClassId} {z : Nat} {sa : Nat → Nat} {Hz : Heap} (E : StrOK qLen qCh l D dA z sa Hz) {h0 fin : AH}  {k2 : Nat → Int32 → Int32 → AH → Option (AH)} (hk2 : ∀ (a0 : Nat) (x1 : Int32) (x2 : Int32) (h : AH), k2 a0 x1 x2 h = some fin → GM l D dA z sa Hz q_X2_bringBack h0 none fin 2 [(0, .ref a0), (1, .int x1), (2, .int x2)] [] h) : ∀ (a0 : Nat) (x1 : Int32) (x2 : Int32) (x3 : Int32) (x5 : Int32) (h : AH), p_X2_bringBack_122 k2 a0 x1 x2 x3 x5 h = some fin → GM l D dA z sa Hz q_X2_bringBack h0 none fin 122 [(0, .ref a0), (1, .int x1), (2, .int x2), (3, .int x3), (5, .int x5)] [] h := by
  intro a0 x1 x2 x3 x5 h hd
  exact step E (is := I_X2_bringBack_122) (pc := 122) (K := (kx 123 (fun la st h => gR la 0 fun a0 => gI la 1 fun x1 => gI la 2 fun x2 => gI la 3 fun x3 => gI la 5 fun x5 => sI st fun y0 st => sE st (p_X2_bringBack_123 k2 a0 x1 x2 x3 x5 y0 h)) k0)) (FI := FI_X2_bringBack) (FV := FV_X2_bringBack) (FL := fL0) (rt := rtV) (ft := 123) (by exact hd) ok_X2_bringBack_122 (kx_ok (fun la st h e => by obtain ⟨a0, m_a0, e1⟩ := gR_inv e; obtain ⟨x1, m_x1, e2⟩ := gI_inv e1; obtain ⟨x2, m_x2, e3⟩ := gI_inv e2; obtain ⟨x3, m_x3, e4⟩ := gI_inv e3; obtain ⟨x5, m_x5, e5⟩ := gI_inv e4; obtain ⟨y0, _, rfl, e6⟩ := sI_inv e5; obtain ⟨rfl, ez⟩ := sE_inv e6; exact gm_fewer (e_X2_bringBack_123 E hk2 a0 x1 x2 x3 x5 y0 h ez) (mem_cons m_a0 (mem_cons m_x1 (mem_cons m_x2 (mem_cons m_x3 (mem_cons m_x5 mem_nil)))))) k0_ok) (FI_X2_bringBack_ok E) (FV_X2_bringBack_ok E) (fL0_ok E) (rtV_ok rfl)
def I_X2_bringBack_99 : List AI := [(.istore 5, 2, [], 0), (.iload_n 3, 1, [], 0), (.iconst 1, 1, [], 1), (.invokestatic 90, 3, [1, 60, 2, 960], 0), (.ifCond .eq 16, 3, [122], 0), (.iload 4, 2, [], 0), (.iconst 4, 1, [], 4), (.invokestatic 90, 3, [1, 60, 2, 960], 0), (.ifCond .eq 7, 3, [122], 0), (.iconst 1, 1, [], 1), (.goto 4, 3, [123], 0)]
theorem ok_X2_bringBack_99 : vBL MT qLen qCh false q_X2_bringBack.2.2.2.2.1 q_X2_bringBack.2.2.2.2.2.1 q_X2_bringBack.2.2.1 q_X2_bringBack.1.cls q_X2_bringBack.1.name q_X2_bringBack.2.1 0 99 I_X2_bringBack_99 = true := by decide +kernel
def p_X2_bringBack_99 (k2 : Nat → Int32 → Int32 → AH → Option (AH)) (a0 : Nat) (x1 : Int32) (x2 : Int32) (x3 : Int32) (x4 : Int32) (y0 : Int32) (h : AH) : Option (AH) :=
  (p_X7_has x3 ((1 : Int32)) h).bind fun q103 =>
  if q103.1 = 0 then (p_X2_bringBack_122 k2 a0 x1 x2 x3 y0 q103.2)
  else
  (p_X7_has x4 ((4 : Int32)) q103.2).bind fun q104 =>
  if q104.1 = 0 then (p_X2_bringBack_122 k2 a0 x1 x2 x3 y0 q104.2)
  else
  p_X2_bringBack_123 k2 a0 x1 x2 x3 y0 ((1 : Int32)) q104.2
set_option maxRecDepth 100000 in
theorem e_X2_bringBack_99 {l : Launch} {D : va_G} {dA : Nat → ClassId} {z : Nat} {sa : Nat → Nat} {Hz : Heap} (E : StrOK qLen qCh l D dA z sa Hz) {h0 fin : AH}  {k2 : Nat → Int32 → Int32 → AH → Option (AH)} (hk2 : ∀ (a0 : Nat) (x1 : Int32) (x2 : Int32) (h : AH), k2 a0 x1 x2 h = some fin → GM l D dA z sa Hz q_X2_bringBack h0 none fin 2 [(0, .ref a0), (1, .int x1), (2, .int x2)] [] h) : ∀ (a0 : Nat) (x1 : Int32) (x2 : Int32) (x3 : Int32) (x4 : Int32) (y0 : Int32) (h : AH), p_X2_bringBack_99 k2 a0 x1 x2 x3 x4 y0 h = some fin → GM l D dA z sa Hz q_X2_bringBack h0 none fin 99 [(0, .ref a0), (1, .int x1), (2, .int x2), (3, .int x3), (4, .int x4)] [.int y0] h := by
  intro a0 x1 x2 x3 x4 y0 h hd
  exact step E (is := I_X2_bringBack_99) (pc := 99) (K := (kx 122 (fun la st h => gR la 0 fun a0 => gI la 1 fun x1 => gI la 2 fun x2 => gI la 3 fun x3 => gI la 5 fun x5 => sE st (p_X2_bringBack_122 k2 a0 x1 x2 x3 x5 h)) (kx 123 (fun la st h => gR la 0 fun a0 => gI la 1 fun x1 => gI la 2 fun x2 => gI la 3 fun x3 => gI la 5 fun x5 => sI st fun y0 st => sE st (p_X2_bringBack_123 k2 a0 x1 x2 x3 x5 y0 h)) k0))) (FI := FI_X2_bringBack) (FV := FV_X2_bringBack) (FL := fL0) (rt := rtV) (ft := 0) (by exact hd) ok_X2_bringBack_99 (kx_ok (fun la st h e => by obtain ⟨a0, m_a0, e1⟩ := gR_inv e; obtain ⟨x1, m_x1, e2⟩ := gI_inv e1; obtain ⟨x2, m_x2, e3⟩ := gI_inv e2; obtain ⟨x3, m_x3, e4⟩ := gI_inv e3; obtain ⟨x5, m_x5, e5⟩ := gI_inv e4; obtain ⟨rfl, ez⟩ := sE_inv e5; exact gm_fewer (e_X2_bringBack_122 E hk2 a0 x1 x2 x3 x5 h ez) (mem_cons m_a0 (mem_cons m_x1 (mem_cons m_x2 (mem_cons m_x3 (mem_cons m_x5 mem_nil)))))) (kx_ok (fun la st h e => by obtain ⟨a0, m_a0, e1⟩ := gR_inv e; obtain ⟨x1, m_x1, e2⟩ := gI_inv e1; obtain ⟨x2, m_x2, e3⟩ := gI_inv e2; obtain ⟨x3, m_x3, e4⟩ := gI_inv e3; obtain ⟨x5, m_x5, e5⟩ := gI_inv e4; obtain ⟨y0, _, rfl, e6⟩ := sI_inv e5; obtain ⟨rfl, ez⟩ := sE_inv e6; exact gm_fewer (e_X2_bringBack_123 E hk2 a0 x1 x2 x3 x5 y0 h ez) (mem_cons m_a0 (mem_cons m_x1 (mem_cons m_x2 (mem_cons m_x3 (mem_cons m_x5 mem_nil)))))) k0_ok)) (FI_X2_bringBack_ok E) (FV_X2_bringBack_ok E) (fL0_ok E) (rtV_ok rfl)
def I_X2_bringBack_98 : List AI := [(.iconst 0, 1, [], 0)]
theorem ok_X2_bringBack_98 : vBL MT qLen qCh false q_X2_bringBack.2.2.2.2.1 q_X2_bringBack.2.2.2.2.2.1 q_X2_bringBack.2.2.1 q_X2_bringBack.1.cls q_X2_bringBack.1.name q_X2_bringBack.2.1 99 98 I_X2_bringBack_98 = true := by decide +kernel
def p_X2_bringBack_98 (k2 : Nat → Int32 → Int32 → AH → Option (AH)) (a0 : Nat) (x1 : Int32) (x2 : Int32) (x3 : Int32) (x4 : Int32) (h : AH) : Option (AH) :=
  p_X2_bringBack_99 k2 a0 x1 x2 x3 x4 ((0 : Int32)) h
set_option maxRecDepth 100000 in
theorem e_X2_bringBack_98 {l : Launch} {D : va_G} {dA : Nat → ClassId} {z : Nat} {sa : Nat → Nat} {Hz : Heap} (E : StrOK qLen qCh l D dA z sa Hz) {h0 fin : AH}  {k2 : Nat → Int32 → Int32 → AH → Option (AH)} (hk2 : ∀ (a0 : Nat) (x1 : Int32) (x2 : Int32) (h : AH), k2 a0 x1 x2 h = some fin → GM l D dA z sa Hz q_X2_bringBack h0 none fin 2 [(0, .ref a0), (1, .int x1), (2, .int x2)] [] h) : ∀ (a0 : Nat) (x1 : Int32) (x2 : Int32) (x3 : Int32) (x4 : Int32) (h : AH), p_X2_bringBack_98 k2 a0 x1 x2 x3 x4 h = some fin → GM l D dA z sa Hz q_X2_bringBack h0 none fin 98 [(0, .ref a0), (1, .int x1), (2, .int x2), (3, .int x3), (4, .int x4)] [] h := by
  intro a0 x1 x2 x3 x4 h hd
  exact step E (is := I_X2_bringBack_98) (pc := 98) (K := (kx 99 (fun la st h => gR la 0 fun a0 => gI la 1 fun x1 => gI la 2 fun x2 => gI la 3 fun x3 => gI la 4 fun x4 => sI st fun y0 st => sE st (p_X2_bringBack_99 k2 a0 x1 x2 x3 x4 y0 h)) k0)) (FI := FI_X2_bringBack) (FV := FV_X2_bringBack) (FL := fL0) (rt := rtV) (ft := 99) (by exact hd) ok_X2_bringBack_98 (kx_ok (fun la st h e => by obtain ⟨a0, m_a0, e1⟩ := gR_inv e; obtain ⟨x1, m_x1, e2⟩ := gI_inv e1; obtain ⟨x2, m_x2, e3⟩ := gI_inv e2; obtain ⟨x3, m_x3, e4⟩ := gI_inv e3; obtain ⟨x4, m_x4, e5⟩ := gI_inv e4; obtain ⟨y0, _, rfl, e6⟩ := sI_inv e5; obtain ⟨rfl, ez⟩ := sE_inv e6; exact gm_fewer (e_X2_bringBack_99 E hk2 a0 x1 x2 x3 x4 y0 h ez) (mem_cons m_a0 (mem_cons m_x1 (mem_cons m_x2 (mem_cons m_x3 (mem_cons m_x4 mem_nil)))))) k0_ok) (FI_X2_bringBack_ok E) (FV_X2_bringBack_ok E) (fL0_ok E) (rtV_ok rfl)
def I_X2_bringBack_76 : List AI := [(.iload_n 3, 1, [], 0), (.iconst 2, 1, [], 2), (.invokestatic 90, 3, [1, 60, 2, 960], 0), (.ifCond .eq 17, 3, [98], 0), (.iload 4, 2, [], 0), (.bipush 18, 2, [], 18), (.invokestatic 90, 3, [1, 60, 2, 960], 0), (.ifCond .eq 7, 3, [98], 0), (.iconst 1, 1, [], 1), (.goto 4, 3, [99], 0)]
theorem ok_X2_bringBack_76 : vBL MT qLen qCh false q_X2_bringBack.2.2.2.2.1 q_X2_bringBack.2.2.2.2.2.1 q_X2_bringBack.2.2.1 q_X2_bringBack.1.cls q_X2_bringBack.1.name q_X2_bringBack.2.1 0 76 I_X2_bringBack_76 = true := by decide +kernel
def p_X2_bringBack_76 (k2 : Nat → Int32 → Int32 → AH → Option (AH)) (a0 : Nat) (x1 : Int32) (x2 : Int32) (x3 : Int32) (x4 : Int32) (h : AH) : Option (AH) :=
  (p_X7_has x3 ((2 : Int32)) h).bind fun q105 =>
  if q105.1 = 0 then (p_X2_bringBack_98 k2 a0 x1 x2 x3 x4 q105.2)
  else
  (p_X7_has x4 ((18 : Int32)) q105.2).bind fun q106 =>
  if q106.1 = 0 then (p_X2_bringBack_98 k2 a0 x1 x2 x3 x4 q106.2)
  else
  p_X2_bringBack_99 k2 a0 x1 x2 x3 x4 ((1 : Int32)) q106.2
set_option maxRecDepth 100000 in
theorem e_X2_bringBack_76 {l : Launch} {D : va_G} {dA : Nat → ClassId} {z : Nat} {sa : Nat → Nat} {Hz : Heap} (E : StrOK qLen qCh l D dA z sa Hz) {h0 fin : AH}  {k2 : Nat → Int32 → Int32 → AH → Option (AH)} (hk2 : ∀ (a0 : Nat) (x1 : Int32) (x2 : Int32) (h : AH), k2 a0 x1 x2 h = some fin → GM l D dA z sa Hz q_X2_bringBack h0 none fin 2 [(0, .ref a0), (1, .int x1), (2, .int x2)] [] h) : ∀ (a0 : Nat) (x1 : Int32) (x2 : Int32) (x3 : Int32) (x4 : Int32) (h : AH), p_X2_bringBack_76 k2 a0 x1 x2 x3 x4 h = some fin → GM l D dA z sa Hz q_X2_bringBack h0 none fin 76 [(0, .ref a0), (1, .int x1), (2, .int x2), (3, .int x3), (4, .int x4)] [] h := by
  intro a0 x1 x2 x3 x4 h hd
  exact step E (is := I_X2_bringBack_76) (pc := 76) (K := (kx 98 (fun la st h => gR la 0 fun a0 => gI la 1 fun x1 => gI la 2 fun x2 => gI la 3 fun x3 => gI la 4 fun x4 => sE st (p_X2_bringBack_98 k2 a0 x1 x2 x3 x4 h)) (kx 99 (fun la st h => gR la 0 fun a0 => gI la 1 fun x1 => gI la 2 fun x2 => gI la 3 fun x3 => gI la 4 fun x4 => sI st fun y0 st => sE st (p_X2_bringBack_99 k2 a0 x1 x2 x3 x4 y0 h)) k0))) (FI := FI_X2_bringBack) (FV := FV_X2_bringBack) (FL := fL0) (rt := rtV) (ft := 0) (by exact hd) ok_X2_bringBack_76 (kx_ok (fun la st h e => by obtain ⟨a0, m_a0, e1⟩ := gR_inv e; obtain ⟨x1, m_x1, e2⟩ := gI_inv e1; obtain ⟨x2, m_x2, e3⟩ := gI_inv e2; obtain ⟨x3, m_x3, e4⟩ := gI_inv e3; obtain ⟨x4, m_x4, e5⟩ := gI_inv e4; obtain ⟨rfl, ez⟩ := sE_inv e5; exact gm_fewer (e_X2_bringBack_98 E hk2 a0 x1 x2 x3 x4 h ez) (mem_cons m_a0 (mem_cons m_x1 (mem_cons m_x2 (mem_cons m_x3 (mem_cons m_x4 mem_nil)))))) (kx_ok (fun la st h e => by obtain ⟨a0, m_a0, e1⟩ := gR_inv e; obtain ⟨x1, m_x1, e2⟩ := gI_inv e1; obtain ⟨x2, m_x2, e3⟩ := gI_inv e2; obtain ⟨x3, m_x3, e4⟩ := gI_inv e3; obtain ⟨x4, m_x4, e5⟩ := gI_inv e4; obtain ⟨y0, _, rfl, e6⟩ := sI_inv e5; obtain ⟨rfl, ez⟩ := sE_inv e6; exact gm_fewer (e_X2_bringBack_99 E hk2 a0 x1 x2 x3 x4 y0 h ez) (mem_cons m_a0 (mem_cons m_x1 (mem_cons m_x2 (mem_cons m_x3 (mem_cons m_x4 mem_nil)))))) k0_ok)) (FI_X2_bringBack_ok E) (FV_X2_bringBack_ok E) (fL0_ok E) (rtV_ok rfl)
def I_X2_bringBack_43 : List AI := [(.iload 4, 2, [], 0), (.iconst 1, 1, [], 1), (.invokestatic 90, 3, [1, 60, 2, 960], 0), (.ifCond .eq 14, 3, [63], 0), (.iload 4, 2, [], 0), (.invokestatic 100, 3, [1, 72, 1, 981], 0), (.iload_n 3, 1, [], 0), (.iconst 4, 1, [], 4), (.idiv, 1, [], 0), (.if_icmp .eq 16, 3, [76], 0)]
theorem ok_X2_bringBack_43 : vBL MT qLen qCh false q_X2_bringBack.2.2.2.2.1 q_X2_bringBack.2.2.2.2.2.1 q_X2_bringBack.2.2.1 q_X2_bringBack.1.cls q_X2_bringBack.1.name q_X2_bringBack.2.1 63 43 I_X2_bringBack_43 = true := by decide +kernel
def p_X2_bringBack_43 (k2 : Nat → Int32 → Int32 → AH → Option (AH)) (a0 : Nat) (x1 : Int32) (x2 : Int32) (x3 : Int32) (x4 : Int32) (h : AH) : Option (AH) :=
  (p_X7_has x4 ((1 : Int32)) h).bind fun q107 =>
  if q107.1 = 0 then (p_X2_bringBack_63 k2 a0 x1 x2 q107.2)
  else
  (p_X7_frameIn x4 q107.2).bind fun q108 =>
  if ((4 : Int32)) = 0 then none else
  if q108.1 = (x3 / ((4 : Int32))) then ((p_X7_has x3 ((2 : Int32)) q108.2).bind fun q109 =>
  if q109.1 = 0 then (p_X2_bringBack_98 k2 a0 x1 x2 x3 x4 q109.2)
  else
  (p_X7_has x4 ((18 : Int32)) q109.2).bind fun q110 =>
  if q110.1 = 0 then (p_X2_bringBack_98 k2 a0 x1 x2 x3 x4 q110.2)
  else
  p_X2_bringBack_99 k2 a0 x1 x2 x3 x4 ((1 : Int32)) q110.2)
  else
  p_X2_bringBack_63 k2 a0 x1 x2 q108.2
set_option maxRecDepth 100000 in
theorem e_X2_bringBack_43 {l : Launch} {D : va_G} {dA : Nat → ClassId} {z : Nat} {sa : Nat → Nat} {Hz : Heap} (E : StrOK qLen qCh l D dA z sa Hz) {h0 fin : AH}  {k2 : Nat → Int32 → Int32 → AH → Option (AH)} (hk2 : ∀ (a0 : Nat) (x1 : Int32) (x2 : Int32) (h : AH), k2 a0 x1 x2 h = some fin → GM l D dA z sa Hz q_X2_bringBack h0 none fin 2 [(0, .ref a0), (1, .int x1), (2, .int x2)] [] h) : ∀ (a0 : Nat) (x1 : Int32) (x2 : Int32) (x3 : Int32) (x4 : Int32) (h : AH), p_X2_bringBack_43 k2 a0 x1 x2 x3 x4 h = some fin → GM l D dA z sa Hz q_X2_bringBack h0 none fin 43 [(0, .ref a0), (1, .int x1), (2, .int x2), (3, .int x3), (4, .int x4)] [] h := by
  intro a0 x1 x2 x3 x4 h hd
  exact step E (is := I_X2_bringBack_43) (pc := 43) (K := (kx 63 (fun la st h => gR la 0 fun a0 => gI la 1 fun x1 => gI la 2 fun x2 => sE st (p_X2_bringBack_63 k2 a0 x1 x2 h)) (kx 76 (fun la st h => gR la 0 fun a0 => gI la 1 fun x1 => gI la 2 fun x2 => gI la 3 fun x3 => gI la 4 fun x4 => sE st (p_X2_bringBack_76 k2 a0 x1 x2 x3 x4 h)) k0))) (FI := FI_X2_bringBack) (FV := FV_X2_bringBack) (FL := fL0) (rt := rtV) (ft := 63) (by exact hd) ok_X2_bringBack_43 (kx_ok (fun la st h e => by obtain ⟨a0, m_a0, e1⟩ := gR_inv e; obtain ⟨x1, m_x1, e2⟩ := gI_inv e1; obtain ⟨x2, m_x2, e3⟩ := gI_inv e2; obtain ⟨rfl, ez⟩ := sE_inv e3; exact gm_fewer (e_X2_bringBack_63 E hk2 a0 x1 x2 h ez) (mem_cons m_a0 (mem_cons m_x1 (mem_cons m_x2 mem_nil)))) (kx_ok (fun la st h e => by obtain ⟨a0, m_a0, e1⟩ := gR_inv e; obtain ⟨x1, m_x1, e2⟩ := gI_inv e1; obtain ⟨x2, m_x2, e3⟩ := gI_inv e2; obtain ⟨x3, m_x3, e4⟩ := gI_inv e3; obtain ⟨x4, m_x4, e5⟩ := gI_inv e4; obtain ⟨rfl, ez⟩ := sE_inv e5; exact gm_fewer (e_X2_bringBack_76 E hk2 a0 x1 x2 x3 x4 h ez) (mem_cons m_a0 (mem_cons m_x1 (mem_cons m_x2 (mem_cons m_x3 (mem_cons m_x4 mem_nil)))))) k0_ok)) (FI_X2_bringBack_ok E) (FV_X2_bringBack_ok E) (fL0_ok E) (rtV_ok rfl)
def I_X2_bringBack_2 : List AI := [(.iload_n 2, 1, [], 0), (.bipush 8, 2, [], 8), (.if_icmp .ge 142, 3, [147], 0), (.aload_n 0, 1, [], 0), (.getfield 27, 3, [1, 2, 2, 322], 0), (.iload_n 1, 1, [], 0), (.iload_n 2, 1, [], 0), (.invokevirtual 174, 3, [1, 88, 3, 2, 1180], 0), (.istore_n 3, 1, [], 0), (.aload_n 0, 1, [], 0), (.getfield 22, 3, [1, 1, 2, 320], 0), (.aload_n 0, 1, [], 0), (.getfield 27, 3, [1, 2, 2, 322], 0), (.iload_n 1, 1, [], 0), (.invokevirtual 177, 3, [1, 102, 2, 2, 1181], 0), (.iload_n 2, 1, [], 0), (.invokevirtual 180, 3, [1, 56, 3, 0, 1182], 0), (.istore 4, 2, [], 0), (.iload_n 3, 1, [], 0), (.ifCond .ge 6, 3, [43], 0), (.goto 101, 3, [141], 0)]
theorem ok_X2_bringBack_2 : vBL MT qLen qCh false q_X2_bringBack.2.2.2.2.1 q_X2_bringBack.2.2.2.2.2.1 q_X2_bringBack.2.2.1 q_X2_bringBack.1.cls q_X2_bringBack.1.name q_X2_bringBack.2.1 0 2 I_X2_bringBack_2 = true := by decide +kernel
def p_X2_bringBack_2 : Nat → Nat → Int32 → Int32 → AH → Option (AH)
  | 0, _, _, _, _ => none
  | n + 1, a0, x1, x2, h => if x2 < ((8 : Int32)) then (if (tg h a0).1 = 1 then (if (tg h (rR h a0 2)).1 = 2 then ((p_X3_entryAt (rR h a0 2) x1 x2 h).bind fun q111 =>
    if (tg q111.2 a0).1 = 1 then (if (tg q111.2 a0).1 = 1 then (if (tg q111.2 (rR q111.2 a0 2)).1 = 2 then ((p_X3_ownerOf (rR q111.2 a0 2) x1 q111.2).bind fun q112 =>
    if (tg q112.2 (rR q111.2 a0 1)).1 = 0 then ((p_X1_wordAt (rR q111.2 a0 1) q112.1 x2 q112.2).bind fun q113 =>
    if q111.1 < 0 then (p_X2_bringBack_141 (p_X2_bringBack_2 n) a0 x1 x2 q113.2)
    else
    (p_X7_has q113.1 ((1 : Int32)) q113.2).bind fun q114 =>
    if q114.1 = 0 then (p_X2_bringBack_63 (p_X2_bringBack_2 n) a0 x1 x2 q114.2)
    else
    (p_X7_frameIn q113.1 q114.2).bind fun q115 =>
    if ((4 : Int32)) = 0 then none else
    if q115.1 = (q111.1 / ((4 : Int32))) then ((p_X7_has q111.1 ((2 : Int32)) q115.2).bind fun q116 =>
    if q116.1 = 0 then (p_X2_bringBack_98 (p_X2_bringBack_2 n) a0 x1 x2 q111.1 q113.1 q116.2)
    else
    (p_X7_has q113.1 ((18 : Int32)) q116.2).bind fun q117 =>
    if q117.1 = 0 then (p_X2_bringBack_98 (p_X2_bringBack_2 n) a0 x1 x2 q111.1 q113.1 q117.2)
    else
    p_X2_bringBack_99 (p_X2_bringBack_2 n) a0 x1 x2 q111.1 q113.1 ((1 : Int32)) q117.2)
    else
    p_X2_bringBack_63 (p_X2_bringBack_2 n) a0 x1 x2 q115.2) else none) else none) else none) else none) else none) else none)
    else
    some h
set_option maxRecDepth 100000 in
theorem e_X2_bringBack_2 {l : Launch} {D : va_G} {dA : Nat → ClassId} {z : Nat} {sa : Nat → Nat} {Hz : Heap} (E : StrOK qLen qCh l D dA z sa Hz) {h0 fin : AH}  : ∀ (n : Nat) (a0 : Nat) (x1 : Int32) (x2 : Int32) (h : AH), p_X2_bringBack_2 n a0 x1 x2 h = some fin → GM l D dA z sa Hz q_X2_bringBack h0 none fin 2 [(0, .ref a0), (1, .int x1), (2, .int x2)] [] h := by
  intro n
  induction n with
  | zero => intro a0 x1 x2 h hd; exact nomatch hd
  | succ n ih =>
    intro a0 x1 x2 h hd
    exact step E (is := I_X2_bringBack_2) (pc := 2) (K := (kx 147 (fun la st h => sE st (p_X2_bringBack_147 h)) (kx 43 (fun la st h => gR la 0 fun a0 => gI la 1 fun x1 => gI la 2 fun x2 => gI la 3 fun x3 => gI la 4 fun x4 => sE st (p_X2_bringBack_43 (p_X2_bringBack_2 n) a0 x1 x2 x3 x4 h)) (kx 141 (fun la st h => gR la 0 fun a0 => gI la 1 fun x1 => gI la 2 fun x2 => sE st (p_X2_bringBack_141 (p_X2_bringBack_2 n) a0 x1 x2 h)) k0)))) (FI := FI_X2_bringBack) (FV := FV_X2_bringBack) (FL := fL0) (rt := rtV) (ft := 0) (by exact hd) ok_X2_bringBack_2 (kx_ok (fun la st h e => by obtain ⟨rfl, ez⟩ := sE_inv e; exact gm_fewer (e_X2_bringBack_147 E   h ez) mem_nil) (kx_ok (fun la st h e => by obtain ⟨a0, m_a0, e1⟩ := gR_inv e; obtain ⟨x1, m_x1, e2⟩ := gI_inv e1; obtain ⟨x2, m_x2, e3⟩ := gI_inv e2; obtain ⟨x3, m_x3, e4⟩ := gI_inv e3; obtain ⟨x4, m_x4, e5⟩ := gI_inv e4; obtain ⟨rfl, ez⟩ := sE_inv e5; exact gm_fewer (e_X2_bringBack_43 E ih a0 x1 x2 x3 x4 h ez) (mem_cons m_a0 (mem_cons m_x1 (mem_cons m_x2 (mem_cons m_x3 (mem_cons m_x4 mem_nil)))))) (kx_ok (fun la st h e => by obtain ⟨a0, m_a0, e1⟩ := gR_inv e; obtain ⟨x1, m_x1, e2⟩ := gI_inv e1; obtain ⟨x2, m_x2, e3⟩ := gI_inv e2; obtain ⟨rfl, ez⟩ := sE_inv e3; exact gm_fewer (e_X2_bringBack_141 E ih a0 x1 x2 h ez) (mem_cons m_a0 (mem_cons m_x1 (mem_cons m_x2 mem_nil)))) k0_ok))) (FI_X2_bringBack_ok E) (FV_X2_bringBack_ok E) (fL0_ok E) (rtV_ok rfl)
def I_X2_bringBack_0 : List AI := [(.iconst 0, 1, [], 0), (.istore_n 2, 1, [], 0)]
theorem ok_X2_bringBack_0 : vBL MT qLen qCh false q_X2_bringBack.2.2.2.2.1 q_X2_bringBack.2.2.2.2.2.1 q_X2_bringBack.2.2.1 q_X2_bringBack.1.cls q_X2_bringBack.1.name q_X2_bringBack.2.1 2 0 I_X2_bringBack_0 = true := by decide +kernel
def p_X2_bringBack (a0 : Nat) (x1 : Int32) (h : AH) : Option (AH) :=
  p_X2_bringBack_2 FU a0 x1 ((0 : Int32)) h
set_option maxRecDepth 100000 in
theorem e_X2_bringBack_0 {l : Launch} {D : va_G} {dA : Nat → ClassId} {z : Nat} {sa : Nat → Nat} {Hz : Heap} (E : StrOK qLen qCh l D dA z sa Hz) {h0 fin : AH}  : ∀ (a0 : Nat) (x1 : Int32) (h : AH), p_X2_bringBack a0 x1 h = some fin → GM l D dA z sa Hz q_X2_bringBack h0 none fin 0 [(0, .ref a0), (1, .int x1)] [] h := by
  intro a0 x1 h hd
  exact step E (is := I_X2_bringBack_0) (pc := 0) (K := (kx 2 (fun la st h => gR la 0 fun a0 => gI la 1 fun x1 => gI la 2 fun x2 => sE st (p_X2_bringBack_2 FU a0 x1 x2 h)) k0)) (FI := FI_X2_bringBack) (FV := FV_X2_bringBack) (FL := fL0) (rt := rtV) (ft := 2) (by exact hd) ok_X2_bringBack_0 (kx_ok (fun la st h e => by obtain ⟨a0, m_a0, e1⟩ := gR_inv e; obtain ⟨x1, m_x1, e2⟩ := gI_inv e1; obtain ⟨x2, m_x2, e3⟩ := gI_inv e2; obtain ⟨rfl, ez⟩ := sE_inv e3; exact gm_fewer (e_X2_bringBack_2 E  FU a0 x1 x2 h ez) (mem_cons m_a0 (mem_cons m_x1 (mem_cons m_x2 mem_nil)))) k0_ok) (FI_X2_bringBack_ok E) (FV_X2_bringBack_ok E) (fL0_ok E) (rtV_ok rfl)
theorem c_X2_bringBack {l : Launch} {D : va_G} {dA : Nat → ClassId} {z : Nat} {sa : Nat → Nat} {Hz : Heap} (E : StrOK qLen qCh l D dA z sa Hz) {a0 : Nat} {x1 : Int32} {h fin : AH} (hd : p_X2_bringBack a0 x1 h = some fin) : CalOK l D dA z sa Hz q_X2_bringBack [.ref a0, .int x1] h none fin := calOf (by decide +kernel) (Nat.le_of_ble_eq_true rfl) (e_X2_bringBack_0 E a0 x1 h hd)
def FI_X2_takeRoot : Nat → List Value → AH → Option (Int32 × AH) := (cx 154 (fun As h => sI As fun x0 As => sE As (p_J6_bitCount_0f7a4 x0 h)) (cx 103 (fun As h => sR As fun a0 As => sI As fun x1 As => sE As (p_X3_isAstray a0 x1 h)) (cx 115 (fun As h => sR As fun a0 As => sI As fun x1 As => sE As (p_X3_watches a0 x1 h)) (cx 128 (fun As h => sR As fun a0 As => sI As fun x1 As => sE As (p_X3_takeWrite a0 x1 h)) fI0))))
theorem FI_X2_takeRoot_ok {l : Launch} {D : va_G} {dA : Nat → ClassId} {z : Nat} {sa : Nat → Nat} {Hz : Heap} (E : StrOK qLen qCh l D dA z sa Hz) : ∀ mi As h x h', FI_X2_takeRoot mi As h = some (x, h') → CalOK l D dA z sa Hz (MT mi) As h (some (.int x)) h' := (cxI_ok (fun As h x h2 e => by obtain ⟨_, _, rfl, e0⟩ := sI_inv e; obtain ⟨rfl, ez⟩ := sE_inv e0; exact c_J6_bitCount_0f7a4 E ez) ((cxI_ok (fun As h x h2 e => by obtain ⟨_, _, rfl, e0⟩ := sR_inv e; obtain ⟨_, _, rfl, e1⟩ := sI_inv e0; obtain ⟨rfl, ez⟩ := sE_inv e1; exact c_X3_isAstray E ez) ((cxI_ok (fun As h x h2 e => by obtain ⟨_, _, rfl, e0⟩ := sR_inv e; obtain ⟨_, _, rfl, e1⟩ := sI_inv e0; obtain ⟨rfl, ez⟩ := sE_inv e1; exact c_X3_watches E ez) ((cxI_ok (fun As h x h2 e => by obtain ⟨_, _, rfl, e0⟩ := sR_inv e; obtain ⟨_, _, rfl, e1⟩ := sI_inv e0; obtain ⟨rfl, ez⟩ := sE_inv e1; exact c_X3_takeWrite E ez) (fI0_ok E))))))))
def FV_X2_takeRoot : Nat → List Value → AH → Option (AH) := (cx 176 (fun As h => sR As fun a0 As => sI As fun x1 As => sE As (p_X2_bringBack a0 x1 h)) fV0)
theorem FV_X2_takeRoot_ok {l : Launch} {D : va_G} {dA : Nat → ClassId} {z : Nat} {sa : Nat → Nat} {Hz : Heap} (E : StrOK qLen qCh l D dA z sa Hz) : ∀ mi As h h', FV_X2_takeRoot mi As h = some h' → CalOK l D dA z sa Hz (MT mi) As h none h' := (cxV_ok (fun As h h2 e => by obtain ⟨_, _, rfl, e0⟩ := sR_inv e; obtain ⟨_, _, rfl, e1⟩ := sI_inv e0; obtain ⟨rfl, ez⟩ := sE_inv e1; exact c_X2_bringBack E ez) (fV0_ok E))
def I_X2_takeRoot_91 : List AI := [(.iload_n 2, 1, [], 0), (.ireturn, 1, [], 0)]
theorem ok_X2_takeRoot_91 : vBL MT qLen qCh false q_X2_takeRoot.2.2.2.2.1 q_X2_takeRoot.2.2.2.2.2.1 q_X2_takeRoot.2.2.1 q_X2_takeRoot.1.cls q_X2_takeRoot.1.name q_X2_takeRoot.2.1 0 91 I_X2_takeRoot_91 = true := by decide +kernel
def p_X2_takeRoot_91 (x2 : Int32) (h : AH) : Option (Int32 × AH) :=
  some (x2, h)
set_option maxRecDepth 100000 in
theorem e_X2_takeRoot_91 {l : Launch} {D : va_G} {dA : Nat → ClassId} {z : Nat} {sa : Nat → Nat} {Hz : Heap} (E : StrOK qLen qCh l D dA z sa Hz) {h0 fin : AH} {x : Int32}  : ∀ (x2 : Int32) (h : AH), p_X2_takeRoot_91 x2 h = some (x, fin) → GM l D dA z sa Hz q_X2_takeRoot h0 (some (.int x)) fin 91 [(2, .int x2)] [] h := by
  intro x2 h hd
  exact step E (is := I_X2_takeRoot_91) (pc := 91) (K := k0) (FI := FI_X2_takeRoot) (FV := FV_X2_takeRoot) (FL := fL0) (rt := rtI) (ft := 0) (by exact hd) ok_X2_takeRoot_91 k0_ok (FI_X2_takeRoot_ok E) (FV_X2_takeRoot_ok E) (fL0_ok E) (rtI_ok rfl)
def I_X2_takeRoot_85 : List AI := [(.iinc 3 1, 3, [], 1), (.goto (-29), 3, [59], 0)]
theorem ok_X2_takeRoot_85 : vBL MT qLen qCh false q_X2_takeRoot.2.2.2.2.1 q_X2_takeRoot.2.2.2.2.2.1 q_X2_takeRoot.2.2.1 q_X2_takeRoot.1.cls q_X2_takeRoot.1.name q_X2_takeRoot.2.1 0 85 I_X2_takeRoot_85 = true := by decide +kernel
def p_X2_takeRoot_85 (k59 : Nat → Int32 → Int32 → AH → Option (Int32 × AH)) (a0 : Nat) (x2 : Int32) (x3 : Int32) (h : AH) : Option (Int32 × AH) :=
  k59 a0 x2 (x3 + (1 : Int32)) h
set_option maxRecDepth 100000 in
theorem e_X2_takeRoot_85 {l : Launch} {D : va_G} {dA : Nat → ClassId} {z : Nat} {sa : Nat → Nat} {Hz : Heap} (E : StrOK qLen qCh l D dA z sa Hz) {h0 fin : AH} {x : Int32}  {k59 : Nat → Int32 → Int32 → AH → Option (Int32 × AH)} (hk59 : ∀ (a0 : Nat) (x2 : Int32) (x3 : Int32) (h : AH), k59 a0 x2 x3 h = some (x, fin) → GM l D dA z sa Hz q_X2_takeRoot h0 (some (.int x)) fin 59 [(0, .ref a0), (2, .int x2), (3, .int x3)] [] h) : ∀ (a0 : Nat) (x2 : Int32) (x3 : Int32) (h : AH), p_X2_takeRoot_85 k59 a0 x2 x3 h = some (x, fin) → GM l D dA z sa Hz q_X2_takeRoot h0 (some (.int x)) fin 85 [(0, .ref a0), (2, .int x2), (3, .int x3)] [] h := by
  intro a0 x2 x3 h hd
  exact step E (is := I_X2_takeRoot_85) (pc := 85) (K := (kx 59 (fun la st h => gR la 0 fun a0 => gI la 2 fun x2 => gI la 3 fun x3 => sE st (k59 a0 x2 x3 h)) k0)) (FI := FI_X2_takeRoot) (FV := FV_X2_takeRoot) (FL := fL0) (rt := rtI) (ft := 0) (by exact hd) ok_X2_takeRoot_85 (kx_ok (fun la st h e => by obtain ⟨a0, m_a0, e1⟩ := gR_inv e; obtain ⟨x2, m_x2, e2⟩ := gI_inv e1; obtain ⟨x3, m_x3, e3⟩ := gI_inv e2; obtain ⟨rfl, ez⟩ := sE_inv e3; exact gm_fewer (hk59 a0 x2 x3 h ez) (mem_cons m_a0 (mem_cons m_x2 (mem_cons m_x3 mem_nil)))) k0_ok) (FI_X2_takeRoot_ok E) (FV_X2_takeRoot_ok E) (fL0_ok E) (rtI_ok rfl)
def I_X2_takeRoot_59 : List AI := [(.iload_n 3, 1, [], 0), (.bipush 16, 2, [], 16), (.if_icmp .ge 29, 3, [91], 0), (.aload_n 0, 1, [], 0), (.getfield 27, 3, [1, 2, 2, 322], 0), (.iload_n 3, 1, [], 0), (.invokevirtual 120, 3, [1, 115, 2, 2, 996], 0), (.ifCond .eq 12, 3, [85], 0), (.aload_n 0, 1, [], 0), (.getfield 27, 3, [1, 2, 2, 322], 0), (.iload_n 3, 1, [], 0), (.invokevirtual 139, 3, [1, 128, 2, 2, 976], 0), (.pop, 1, [], 0)]
theorem ok_X2_takeRoot_59 : vBL MT qLen qCh false q_X2_takeRoot.2.2.2.2.1 q_X2_takeRoot.2.2.2.2.2.1 q_X2_takeRoot.2.2.1 q_X2_takeRoot.1.cls q_X2_takeRoot.1.name q_X2_takeRoot.2.1 85 59 I_X2_takeRoot_59 = true := by decide +kernel
def p_X2_takeRoot_59 : Nat → Nat → Int32 → Int32 → AH → Option (Int32 × AH)
  | 0, _, _, _, _ => none
  | n + 1, a0, x2, x3, h => if x3 < ((16 : Int32)) then (if (tg h a0).1 = 1 then (if (tg h (rR h a0 2)).1 = 2 then ((p_X3_watches (rR h a0 2) x3 h).bind fun q101 =>
    if q101.1 = 0 then (p_X2_takeRoot_85 (p_X2_takeRoot_59 n) a0 x2 x3 q101.2)
    else
    if (tg q101.2 a0).1 = 1 then (if (tg q101.2 (rR q101.2 a0 2)).1 = 2 then ((p_X3_takeWrite (rR q101.2 a0 2) x3 q101.2).bind fun q102 =>
    p_X2_takeRoot_85 (p_X2_takeRoot_59 n) a0 x2 x3 q102.2) else none) else none) else none) else none)
    else
    some (x2, h)
set_option maxRecDepth 100000 in
theorem e_X2_takeRoot_59 {l : Launch} {D : va_G} {dA : Nat → ClassId} {z : Nat} {sa : Nat → Nat} {Hz : Heap} (E : StrOK qLen qCh l D dA z sa Hz) {h0 fin : AH} {x : Int32}  : ∀ (n : Nat) (a0 : Nat) (x2 : Int32) (x3 : Int32) (h : AH), p_X2_takeRoot_59 n a0 x2 x3 h = some (x, fin) → GM l D dA z sa Hz q_X2_takeRoot h0 (some (.int x)) fin 59 [(0, .ref a0), (2, .int x2), (3, .int x3)] [] h := by
  intro n
  induction n with
  | zero => intro a0 x2 x3 h hd; exact nomatch hd
  | succ n ih =>
    intro a0 x2 x3 h hd
    exact step E (is := I_X2_takeRoot_59) (pc := 59) (K := (kx 91 (fun la st h => gI la 2 fun x2 => sE st (p_X2_takeRoot_91 x2 h)) (kx 85 (fun la st h => gR la 0 fun a0 => gI la 2 fun x2 => gI la 3 fun x3 => sE st (p_X2_takeRoot_85 (p_X2_takeRoot_59 n) a0 x2 x3 h)) k0))) (FI := FI_X2_takeRoot) (FV := FV_X2_takeRoot) (FL := fL0) (rt := rtI) (ft := 85) (by exact hd) ok_X2_takeRoot_59 (kx_ok (fun la st h e => by obtain ⟨x2, m_x2, e1⟩ := gI_inv e; obtain ⟨rfl, ez⟩ := sE_inv e1; exact gm_fewer (e_X2_takeRoot_91 E  x2 h ez) (mem_cons m_x2 mem_nil)) (kx_ok (fun la st h e => by obtain ⟨a0, m_a0, e1⟩ := gR_inv e; obtain ⟨x2, m_x2, e2⟩ := gI_inv e1; obtain ⟨x3, m_x3, e3⟩ := gI_inv e2; obtain ⟨rfl, ez⟩ := sE_inv e3; exact gm_fewer (e_X2_takeRoot_85 E ih a0 x2 x3 h ez) (mem_cons m_a0 (mem_cons m_x2 (mem_cons m_x3 mem_nil)))) k0_ok)) (FI_X2_takeRoot_ok E) (FV_X2_takeRoot_ok E) (fL0_ok E) (rtI_ok rfl)
def I_X2_takeRoot_49 : List AI := [(.aload_n 0, 1, [], 0), (.getfield 27, 3, [1, 2, 2, 322], 0), (.iconst 0, 1, [], 0), (.putfield 160, 3, [2, 4, 0, 290], 0), (.iconst 0, 1, [], 0), (.istore_n 3, 1, [], 0)]
theorem ok_X2_takeRoot_49 : vBL MT qLen qCh false q_X2_takeRoot.2.2.2.2.1 q_X2_takeRoot.2.2.2.2.2.1 q_X2_takeRoot.2.2.1 q_X2_takeRoot.1.cls q_X2_takeRoot.1.name q_X2_takeRoot.2.1 59 49 I_X2_takeRoot_49 = true := by decide +kernel
def p_X2_takeRoot_49 (a0 : Nat) (x2 : Int32) (h : AH) : Option (Int32 × AH) :=
  if (tg h a0).1 = 1 then (if (tg h (rR h a0 2)).1 = 2 then (let h103 := wI h (rR h a0 2) 4 ((0 : Int32))
  p_X2_takeRoot_59 FU a0 x2 ((0 : Int32)) h103) else none) else none
set_option maxRecDepth 100000 in
theorem e_X2_takeRoot_49 {l : Launch} {D : va_G} {dA : Nat → ClassId} {z : Nat} {sa : Nat → Nat} {Hz : Heap} (E : StrOK qLen qCh l D dA z sa Hz) {h0 fin : AH} {x : Int32}  : ∀ (a0 : Nat) (x2 : Int32) (h : AH), p_X2_takeRoot_49 a0 x2 h = some (x, fin) → GM l D dA z sa Hz q_X2_takeRoot h0 (some (.int x)) fin 49 [(0, .ref a0), (2, .int x2)] [] h := by
  intro a0 x2 h hd
  exact step E (is := I_X2_takeRoot_49) (pc := 49) (K := (kx 59 (fun la st h => gR la 0 fun a0 => gI la 2 fun x2 => gI la 3 fun x3 => sE st (p_X2_takeRoot_59 FU a0 x2 x3 h)) k0)) (FI := FI_X2_takeRoot) (FV := FV_X2_takeRoot) (FL := fL0) (rt := rtI) (ft := 59) (by exact hd) ok_X2_takeRoot_49 (kx_ok (fun la st h e => by obtain ⟨a0, m_a0, e1⟩ := gR_inv e; obtain ⟨x2, m_x2, e2⟩ := gI_inv e1; obtain ⟨x3, m_x3, e3⟩ := gI_inv e2; obtain ⟨rfl, ez⟩ := sE_inv e3; exact gm_fewer (e_X2_takeRoot_59 E  FU a0 x2 x3 h ez) (mem_cons m_a0 (mem_cons m_x2 (mem_cons m_x3 mem_nil)))) k0_ok) (FI_X2_takeRoot_ok E) (FV_X2_takeRoot_ok E) (fL0_ok E) (rtI_ok rfl)
def I_X2_takeRoot_43 : List AI := [(.iinc 3 1, 3, [], 1), (.goto (-25), 3, [21], 0)]
theorem ok_X2_takeRoot_43 : vBL MT qLen qCh false q_X2_takeRoot.2.2.2.2.1 q_X2_takeRoot.2.2.2.2.2.1 q_X2_takeRoot.2.2.1 q_X2_takeRoot.1.cls q_X2_takeRoot.1.name q_X2_takeRoot.2.1 0 43 I_X2_takeRoot_43 = true := by decide +kernel
def p_X2_takeRoot_43 (k21 : Nat → Int32 → Int32 → AH → Option (Int32 × AH)) (a0 : Nat) (x2 : Int32) (x3 : Int32) (h : AH) : Option (Int32 × AH) :=
  k21 a0 x2 (x3 + (1 : Int32)) h
set_option maxRecDepth 100000 in
theorem e_X2_takeRoot_43 {l : Launch} {D : va_G} {dA : Nat → ClassId} {z : Nat} {sa : Nat → Nat} {Hz : Heap} (E : StrOK qLen qCh l D dA z sa Hz) {h0 fin : AH} {x : Int32}  {k21 : Nat → Int32 → Int32 → AH → Option (Int32 × AH)} (hk21 : ∀ (a0 : Nat) (x2 : Int32) (x3 : Int32) (h : AH), k21 a0 x2 x3 h = some (x, fin) → GM l D dA z sa Hz q_X2_takeRoot h0 (some (.int x)) fin 21 [(0, .ref a0), (2, .int x2), (3, .int x3)] [] h) : ∀ (a0 : Nat) (x2 : Int32) (x3 : Int32) (h : AH), p_X2_takeRoot_43 k21 a0 x2 x3 h = some (x, fin) → GM l D dA z sa Hz q_X2_takeRoot h0 (some (.int x)) fin 43 [(0, .ref a0), (2, .int x2), (3, .int x3)] [] h := by
  intro a0 x2 x3 h hd
  exact step E (is := I_X2_takeRoot_43) (pc := 43) (K := (kx 21 (fun la st h => gR la 0 fun a0 => gI la 2 fun x2 => gI la 3 fun x3 => sE st (k21 a0 x2 x3 h)) k0)) (FI := FI_X2_takeRoot) (FV := FV_X2_takeRoot) (FL := fL0) (rt := rtI) (ft := 0) (by exact hd) ok_X2_takeRoot_43 (kx_ok (fun la st h e => by obtain ⟨a0, m_a0, e1⟩ := gR_inv e; obtain ⟨x2, m_x2, e2⟩ := gI_inv e1; obtain ⟨x3, m_x3, e3⟩ := gI_inv e2; obtain ⟨rfl, ez⟩ := sE_inv e3; exact gm_fewer (hk21 a0 x2 x3 h ez) (mem_cons m_a0 (mem_cons m_x2 (mem_cons m_x3 mem_nil)))) k0_ok) (FI_X2_takeRoot_ok E) (FV_X2_takeRoot_ok E) (fL0_ok E) (rtI_ok rfl)
def I_X2_takeRoot_21 : List AI := [(.iload_n 3, 1, [], 0), (.bipush 8, 2, [], 8), (.if_icmp .ge 25, 3, [49], 0), (.aload_n 0, 1, [], 0), (.getfield 27, 3, [1, 2, 2, 322], 0), (.iload_n 3, 1, [], 0), (.invokevirtual 168, 3, [1, 103, 2, 2, 1175], 0), (.ifCond .eq 8, 3, [43], 0), (.aload_n 0, 1, [], 0), (.iload_n 3, 1, [], 0), (.invokevirtual 171, 3, [2, 176, 2, 1, 1176], 0)]
theorem ok_X2_takeRoot_21 : vBL MT qLen qCh false q_X2_takeRoot.2.2.2.2.1 q_X2_takeRoot.2.2.2.2.2.1 q_X2_takeRoot.2.2.1 q_X2_takeRoot.1.cls q_X2_takeRoot.1.name q_X2_takeRoot.2.1 43 21 I_X2_takeRoot_21 = true := by decide +kernel
def p_X2_takeRoot_21 : Nat → Nat → Int32 → Int32 → AH → Option (Int32 × AH)
  | 0, _, _, _, _ => none
  | n + 1, a0, x2, x3, h => if x3 < ((8 : Int32)) then (if (tg h a0).1 = 1 then (if (tg h (rR h a0 2)).1 = 2 then ((p_X3_isAstray (rR h a0 2) x3 h).bind fun q105 =>
    if q105.1 = 0 then (p_X2_takeRoot_43 (p_X2_takeRoot_21 n) a0 x2 x3 q105.2)
    else
    if (tg q105.2 a0).1 = 1 then ((p_X2_bringBack a0 x3 q105.2).bind fun h106 =>
    p_X2_takeRoot_43 (p_X2_takeRoot_21 n) a0 x2 x3 h106) else none) else none) else none)
    else
    if (tg h a0).1 = 1 then (if (tg h (rR h a0 2)).1 = 2 then (let h104 := wI h (rR h a0 2) 4 ((0 : Int32))
    p_X2_takeRoot_59 FU a0 x2 ((0 : Int32)) h104) else none) else none
set_option maxRecDepth 100000 in
theorem e_X2_takeRoot_21 {l : Launch} {D : va_G} {dA : Nat → ClassId} {z : Nat} {sa : Nat → Nat} {Hz : Heap} (E : StrOK qLen qCh l D dA z sa Hz) {h0 fin : AH} {x : Int32}  : ∀ (n : Nat) (a0 : Nat) (x2 : Int32) (x3 : Int32) (h : AH), p_X2_takeRoot_21 n a0 x2 x3 h = some (x, fin) → GM l D dA z sa Hz q_X2_takeRoot h0 (some (.int x)) fin 21 [(0, .ref a0), (2, .int x2), (3, .int x3)] [] h := by
  intro n
  induction n with
  | zero => intro a0 x2 x3 h hd; exact nomatch hd
  | succ n ih =>
    intro a0 x2 x3 h hd
    exact step E (is := I_X2_takeRoot_21) (pc := 21) (K := (kx 49 (fun la st h => gR la 0 fun a0 => gI la 2 fun x2 => sE st (p_X2_takeRoot_49 a0 x2 h)) (kx 43 (fun la st h => gR la 0 fun a0 => gI la 2 fun x2 => gI la 3 fun x3 => sE st (p_X2_takeRoot_43 (p_X2_takeRoot_21 n) a0 x2 x3 h)) k0))) (FI := FI_X2_takeRoot) (FV := FV_X2_takeRoot) (FL := fL0) (rt := rtI) (ft := 43) (by exact hd) ok_X2_takeRoot_21 (kx_ok (fun la st h e => by obtain ⟨a0, m_a0, e1⟩ := gR_inv e; obtain ⟨x2, m_x2, e2⟩ := gI_inv e1; obtain ⟨rfl, ez⟩ := sE_inv e2; exact gm_fewer (e_X2_takeRoot_49 E  a0 x2 h ez) (mem_cons m_a0 (mem_cons m_x2 mem_nil))) (kx_ok (fun la st h e => by obtain ⟨a0, m_a0, e1⟩ := gR_inv e; obtain ⟨x2, m_x2, e2⟩ := gI_inv e1; obtain ⟨x3, m_x3, e3⟩ := gI_inv e2; obtain ⟨rfl, ez⟩ := sE_inv e3; exact gm_fewer (e_X2_takeRoot_43 E ih a0 x2 x3 h ez) (mem_cons m_a0 (mem_cons m_x2 (mem_cons m_x3 mem_nil)))) k0_ok)) (FI_X2_takeRoot_ok E) (FV_X2_takeRoot_ok E) (fL0_ok E) (rtI_ok rfl)
def I_X2_takeRoot_0 : List AI := [(.aload_n 0, 1, [], 0), (.getfield 22, 3, [1, 1, 2, 320], 0), (.iload_n 1, 1, [], 0), (.putfield 62, 3, [0, 4, 0, 195], 0), (.aload_n 0, 1, [], 0), (.getfield 27, 3, [1, 2, 2, 322], 0), (.getfield 160, 3, [2, 4, 0, 290], 0), (.invokestatic 163, 3, [1, 154, 1, 1174], 0), (.istore_n 2, 1, [], 0), (.iconst 0, 1, [], 0), (.istore_n 3, 1, [], 0)]
theorem ok_X2_takeRoot_0 : vBL MT qLen qCh false q_X2_takeRoot.2.2.2.2.1 q_X2_takeRoot.2.2.2.2.2.1 q_X2_takeRoot.2.2.1 q_X2_takeRoot.1.cls q_X2_takeRoot.1.name q_X2_takeRoot.2.1 21 0 I_X2_takeRoot_0 = true := by decide +kernel
def p_X2_takeRoot (a0 : Nat) (x1 : Int32) (h : AH) : Option (Int32 × AH) :=
  if (tg h a0).1 = 1 then (if (tg h (rR h a0 1)).1 = 0 then (let h107 := wI h (rR h a0 1) 4 x1
  if (tg h107 a0).1 = 1 then (if (tg h107 (rR h107 a0 2)).1 = 2 then ((p_J6_bitCount_0f7a4 (rI h107 (rR h107 a0 2) 4) h107).bind fun q108 =>
  p_X2_takeRoot_21 FU a0 q108.1 ((0 : Int32)) q108.2) else none) else none) else none) else none
set_option maxRecDepth 100000 in
theorem e_X2_takeRoot_0 {l : Launch} {D : va_G} {dA : Nat → ClassId} {z : Nat} {sa : Nat → Nat} {Hz : Heap} (E : StrOK qLen qCh l D dA z sa Hz) {h0 fin : AH} {x : Int32}  : ∀ (a0 : Nat) (x1 : Int32) (h : AH), p_X2_takeRoot a0 x1 h = some (x, fin) → GM l D dA z sa Hz q_X2_takeRoot h0 (some (.int x)) fin 0 [(0, .ref a0), (1, .int x1)] [] h := by
  intro a0 x1 h hd
  exact step E (is := I_X2_takeRoot_0) (pc := 0) (K := (kx 21 (fun la st h => gR la 0 fun a0 => gI la 2 fun x2 => gI la 3 fun x3 => sE st (p_X2_takeRoot_21 FU a0 x2 x3 h)) k0)) (FI := FI_X2_takeRoot) (FV := FV_X2_takeRoot) (FL := fL0) (rt := rtI) (ft := 21) (by exact hd) ok_X2_takeRoot_0 (kx_ok (fun la st h e => by obtain ⟨a0, m_a0, e1⟩ := gR_inv e; obtain ⟨x2, m_x2, e2⟩ := gI_inv e1; obtain ⟨x3, m_x3, e3⟩ := gI_inv e2; obtain ⟨rfl, ez⟩ := sE_inv e3; exact gm_fewer (e_X2_takeRoot_21 E  FU a0 x2 x3 h ez) (mem_cons m_a0 (mem_cons m_x2 (mem_cons m_x3 mem_nil)))) k0_ok) (FI_X2_takeRoot_ok E) (FV_X2_takeRoot_ok E) (fL0_ok E) (rtI_ok rfl)
theorem c_X2_takeRoot {l : Launch} {D : va_G} {dA : Nat → ClassId} {z : Nat} {sa : Nat → Nat} {Hz : Heap} (E : StrOK qLen qCh l D dA z sa Hz) {a0 : Nat} {x1 : Int32} {h fin : AH} {x : Int32} (hd : p_X2_takeRoot a0 x1 h = some (x, fin)) : CalOK l D dA z sa Hz q_X2_takeRoot [.ref a0, .int x1] h (some (.int x)) fin := calOf (by decide +kernel) (Nat.le_of_ble_eq_true rfl) (e_X2_takeRoot_0 E a0 x1 h hd)
def FI_X7_load : Nat → List Value → AH → Option (Int32 × AH) := (cx 54 (fun As h => sR As fun a0 As => sI As fun x1 As => sE As (p_X7_isFrame a0 x1 h)) (cx 9 (fun As h => sR As fun a0 As => sI As fun x1 As => sE As (p_X7_refuse a0 x1 h)) (cx 177 (fun As h => sR As fun a0 As => sI As fun x1 As => sE As (p_X2_takeRoot a0 x1 h)) (cx 50 (fun As h => sR As fun a0 As => sI As fun x1 As => sE As (p_X7_answer a0 x1 h)) fI0))))
theorem FI_X7_load_ok {l : Launch} {D : va_G} {dA : Nat → ClassId} {z : Nat} {sa : Nat → Nat} {Hz : Heap} (E : StrOK qLen qCh l D dA z sa Hz) : ∀ mi As h x h', FI_X7_load mi As h = some (x, h') → CalOK l D dA z sa Hz (MT mi) As h (some (.int x)) h' := (cxI_ok (fun As h x h2 e => by obtain ⟨_, _, rfl, e0⟩ := sR_inv e; obtain ⟨_, _, rfl, e1⟩ := sI_inv e0; obtain ⟨rfl, ez⟩ := sE_inv e1; exact c_X7_isFrame E ez) ((cxI_ok (fun As h x h2 e => by obtain ⟨_, _, rfl, e0⟩ := sR_inv e; obtain ⟨_, _, rfl, e1⟩ := sI_inv e0; obtain ⟨rfl, ez⟩ := sE_inv e1; exact c_X7_refuse E ez) ((cxI_ok (fun As h x h2 e => by obtain ⟨_, _, rfl, e0⟩ := sR_inv e; obtain ⟨_, _, rfl, e1⟩ := sI_inv e0; obtain ⟨rfl, ez⟩ := sE_inv e1; exact c_X2_takeRoot E ez) ((cxI_ok (fun As h x h2 e => by obtain ⟨_, _, rfl, e0⟩ := sR_inv e; obtain ⟨_, _, rfl, e1⟩ := sI_inv e0; obtain ⟨rfl, ez⟩ := sE_inv e1; exact c_X7_answer E ez) (fI0_ok E))))))))
def FV_X7_load : Nat → List Value → AH → Option (AH) := (cx 167 (fun As h => sR As fun a0 As => sE As (p_X7_keep a0 h)) fV0)
theorem FV_X7_load_ok {l : Launch} {D : va_G} {dA : Nat → ClassId} {z : Nat} {sa : Nat → Nat} {Hz : Heap} (E : StrOK qLen qCh l D dA z sa Hz) : ∀ mi As h h', FV_X7_load mi As h = some h' → CalOK l D dA z sa Hz (MT mi) As h none h' := (cxV_ok (fun As h h2 e => by obtain ⟨_, _, rfl, e0⟩ := sR_inv e; obtain ⟨rfl, ez⟩ := sE_inv e0; exact c_X7_keep E ez) (fV0_ok E))
def I_X7_load_14 : List AI := [(.aload_n 0, 1, [], 0), (.invokevirtual 265, 3, [2, 167, 1, 6, 1131], 0), (.aload_n 0, 1, [], 0), (.aload_n 0, 1, [], 0), (.getfield 29, 3, [6, 4, 2, 358], 0), (.iload_n 1, 1, [], 0), (.invokevirtual 275, 3, [1, 177, 2, 1, 1170], 0), (.invokevirtual 68, 3, [1, 50, 2, 6, 633], 0), (.ireturn, 1, [], 0)]
theorem ok_X7_load_14 : vBL MT qLen qCh false q_X7_load.2.2.2.2.1 q_X7_load.2.2.2.2.2.1 q_X7_load.2.2.1 q_X7_load.1.cls q_X7_load.1.name q_X7_load.2.1 0 14 I_X7_load_14 = true := by decide +kernel
def p_X7_load_14 (a0 : Nat) (x1 : Int32) (h : AH) : Option (Int32 × AH) :=
  if (tg h a0).1 = 6 then ((p_X7_keep a0 h).bind fun h101 =>
  if (tg h101 a0).1 = 6 then (if (tg h101 (rR h101 a0 4)).1 = 1 then ((p_X2_takeRoot (rR h101 a0 4) x1 h101).bind fun q102 =>
  if (tg q102.2 a0).1 = 6 then ((p_X7_answer a0 q102.1 q102.2).bind fun q103 =>
  some (q103.1, q103.2)) else none) else none) else none) else none
set_option maxRecDepth 100000 in
theorem e_X7_load_14 {l : Launch} {D : va_G} {dA : Nat → ClassId} {z : Nat} {sa : Nat → Nat} {Hz : Heap} (E : StrOK qLen qCh l D dA z sa Hz) {h0 fin : AH} {x : Int32}  : ∀ (a0 : Nat) (x1 : Int32) (h : AH), p_X7_load_14 a0 x1 h = some (x, fin) → GM l D dA z sa Hz q_X7_load h0 (some (.int x)) fin 14 [(0, .ref a0), (1, .int x1)] [] h := by
  intro a0 x1 h hd
  exact step E (is := I_X7_load_14) (pc := 14) (K := k0) (FI := FI_X7_load) (FV := FV_X7_load) (FL := fL0) (rt := rtI) (ft := 0) (by exact hd) ok_X7_load_14 k0_ok (FI_X7_load_ok E) (FV_X7_load_ok E) (fL0_ok E) (rtI_ok rfl)
def I_X7_load_0 : List AI := [(.aload_n 0, 1, [], 0), (.iload_n 1, 1, [], 0), (.invokevirtual 80, 3, [1, 54, 2, 6, 649], 0), (.ifCond .ne 9, 3, [14], 0), (.aload_n 0, 1, [], 0), (.iconst 1, 1, [], 1), (.invokevirtual 54, 3, [1, 9, 2, 6, 403], 0), (.ireturn, 1, [], 0)]
theorem ok_X7_load_0 : vBL MT qLen qCh false q_X7_load.2.2.2.2.1 q_X7_load.2.2.2.2.2.1 q_X7_load.2.2.1 q_X7_load.1.cls q_X7_load.1.name q_X7_load.2.1 0 0 I_X7_load_0 = true := by decide +kernel
def p_X7_load (a0 : Nat) (x1 : Int32) (h : AH) : Option (Int32 × AH) :=
  if (tg h a0).1 = 6 then ((p_X7_isFrame a0 x1 h).bind fun q104 =>
  if q104.1 = 0 then (if (tg q104.2 a0).1 = 6 then ((p_X7_refuse a0 ((1 : Int32)) q104.2).bind fun q108 =>
  some (q108.1, q108.2)) else none)
  else
  if (tg q104.2 a0).1 = 6 then ((p_X7_keep a0 q104.2).bind fun h105 =>
  if (tg h105 a0).1 = 6 then (if (tg h105 (rR h105 a0 4)).1 = 1 then ((p_X2_takeRoot (rR h105 a0 4) x1 h105).bind fun q106 =>
  if (tg q106.2 a0).1 = 6 then ((p_X7_answer a0 q106.1 q106.2).bind fun q107 =>
  some (q107.1, q107.2)) else none) else none) else none) else none) else none
set_option maxRecDepth 100000 in
theorem e_X7_load_0 {l : Launch} {D : va_G} {dA : Nat → ClassId} {z : Nat} {sa : Nat → Nat} {Hz : Heap} (E : StrOK qLen qCh l D dA z sa Hz) {h0 fin : AH} {x : Int32}  : ∀ (a0 : Nat) (x1 : Int32) (h : AH), p_X7_load a0 x1 h = some (x, fin) → GM l D dA z sa Hz q_X7_load h0 (some (.int x)) fin 0 [(0, .ref a0), (1, .int x1)] [] h := by
  intro a0 x1 h hd
  exact step E (is := I_X7_load_0) (pc := 0) (K := (kx 14 (fun la st h => gR la 0 fun a0 => gI la 1 fun x1 => sE st (p_X7_load_14 a0 x1 h)) k0)) (FI := FI_X7_load) (FV := FV_X7_load) (FL := fL0) (rt := rtI) (ft := 0) (by exact hd) ok_X7_load_0 (kx_ok (fun la st h e => by obtain ⟨a0, m_a0, e1⟩ := gR_inv e; obtain ⟨x1, m_x1, e2⟩ := gI_inv e1; obtain ⟨rfl, ez⟩ := sE_inv e2; exact gm_fewer (e_X7_load_14 E  a0 x1 h ez) (mem_cons m_a0 (mem_cons m_x1 mem_nil))) k0_ok) (FI_X7_load_ok E) (FV_X7_load_ok E) (fL0_ok E) (rtI_ok rfl)
theorem c_X7_load {l : Launch} {D : va_G} {dA : Nat → ClassId} {z : Nat} {sa : Nat → Nat} {Hz : Heap} (E : StrOK qLen qCh l D dA z sa Hz) {a0 : Nat} {x1 : Int32} {h fin : AH} {x : Int32} (hd : p_X7_load a0 x1 h = some (x, fin)) : CalOK l D dA z sa Hz q_X7_load [.ref a0, .int x1] h (some (.int x)) fin := calOf (by decide +kernel) (Nat.le_of_ble_eq_true rfl) (e_X7_load_0 E a0 x1 h hd)
def FI_X2_forget : Nat → List Value → AH → Option (Int32 × AH) := (cx 89 (fun As h => sR As fun a0 As => sI As fun x1 As => sI As fun x2 As => sE As (p_X3_upperEntry a0 x1 x2 h)) (cx 170 (fun As h => sR As fun a0 As => sI As fun x1 As => sI As fun x2 As => sE As (p_X3_remove a0 x1 x2 h)) fI0))
theorem FI_X2_forget_ok {l : Launch} {D : va_G} {dA : Nat → ClassId} {z : Nat} {sa : Nat → Nat} {Hz : Heap} (E : StrOK qLen qCh l D dA z sa Hz) : ∀ mi As h x h', FI_X2_forget mi As h = some (x, h') → CalOK l D dA z sa Hz (MT mi) As h (some (.int x)) h' := (cxI_ok (fun As h x h2 e => by obtain ⟨_, _, rfl, e0⟩ := sR_inv e; obtain ⟨_, _, rfl, e1⟩ := sI_inv e0; obtain ⟨_, _, rfl, e2⟩ := sI_inv e1; obtain ⟨rfl, ez⟩ := sE_inv e2; exact c_X3_upperEntry E ez) ((cxI_ok (fun As h x h2 e => by obtain ⟨_, _, rfl, e0⟩ := sR_inv e; obtain ⟨_, _, rfl, e1⟩ := sI_inv e0; obtain ⟨_, _, rfl, e2⟩ := sI_inv e1; obtain ⟨rfl, ez⟩ := sE_inv e2; exact c_X3_remove E ez) (fI0_ok E))))
def I_X2_forget_35 : List AI := [(.ireturn, 1, [], 0)]
theorem ok_X2_forget_35 : vBL MT qLen qCh false q_X2_forget.2.2.2.2.1 q_X2_forget.2.2.2.2.2.1 q_X2_forget.2.2.1 q_X2_forget.1.cls q_X2_forget.1.name q_X2_forget.2.1 0 35 I_X2_forget_35 = true := by decide +kernel
def p_X2_forget_35 (y0 : Int32) (h : AH) : Option (Int32 × AH) :=
  some (y0, h)
set_option maxRecDepth 100000 in
theorem e_X2_forget_35 {l : Launch} {D : va_G} {dA : Nat → ClassId} {z : Nat} {sa : Nat → Nat} {Hz : Heap} (E : StrOK qLen qCh l D dA z sa Hz) {h0 fin : AH} {x : Int32}  : ∀ (y0 : Int32) (h : AH), p_X2_forget_35 y0 h = some (x, fin) → GM l D dA z sa Hz q_X2_forget h0 (some (.int x)) fin 35 [] [.int y0] h := by
  intro y0 h hd
  exact step E (is := I_X2_forget_35) (pc := 35) (K := k0) (FI := FI_X2_forget) (FV := fV0) (FL := fL0) (rt := rtI) (ft := 0) (by exact hd) ok_X2_forget_35 k0_ok (FI_X2_forget_ok E) (fV0_ok E) (fL0_ok E) (rtI_ok rfl)
def I_X2_forget_34 : List AI := [(.iconst 0, 1, [], 0)]
theorem ok_X2_forget_34 : vBL MT qLen qCh false q_X2_forget.2.2.2.2.1 q_X2_forget.2.2.2.2.2.1 q_X2_forget.2.2.1 q_X2_forget.1.cls q_X2_forget.1.name q_X2_forget.2.1 35 34 I_X2_forget_34 = true := by decide +kernel
def p_X2_forget_34 (h : AH) : Option (Int32 × AH) :=
  p_X2_forget_35 ((0 : Int32)) h
set_option maxRecDepth 100000 in
theorem e_X2_forget_34 {l : Launch} {D : va_G} {dA : Nat → ClassId} {z : Nat} {sa : Nat → Nat} {Hz : Heap} (E : StrOK qLen qCh l D dA z sa Hz) {h0 fin : AH} {x : Int32}  : ∀  (h : AH), p_X2_forget_34 h = some (x, fin) → GM l D dA z sa Hz q_X2_forget h0 (some (.int x)) fin 34 [] [] h := by
  intro h hd
  exact step E (is := I_X2_forget_34) (pc := 34) (K := (kx 35 (fun la st h => sI st fun y0 st => sE st (p_X2_forget_35 y0 h)) k0)) (FI := FI_X2_forget) (FV := fV0) (FL := fL0) (rt := rtI) (ft := 35) (by exact hd) ok_X2_forget_34 (kx_ok (fun la st h e => by obtain ⟨y0, _, rfl, e1⟩ := sI_inv e; obtain ⟨rfl, ez⟩ := sE_inv e1; exact gm_fewer (e_X2_forget_35 E  y0 h ez) mem_nil) k0_ok) (FI_X2_forget_ok E) (fV0_ok E) (fL0_ok E) (rtI_ok rfl)
def I_X2_forget_0 : List AI := [(.aload_n 0, 1, [], 0), (.getfield 27, 3, [1, 2, 2, 322], 0), (.aload_n 0, 1, [], 0), (.getfield 22, 3, [1, 1, 2, 320], 0), (.getfield 62, 3, [0, 4, 0, 195], 0), (.iload_n 1, 1, [], 0), (.invokevirtual 151, 3, [1, 89, 3, 2, 1153], 0), (.istore_n 2, 1, [], 0), (.iload_n 2, 1, [], 0), (.ifCond .lt 17, 3, [34], 0), (.aload_n 0, 1, [], 0), (.getfield 27, 3, [1, 2, 2, 322], 0), (.iload_n 2, 1, [], 0), (.iconst 4, 1, [], 4), (.idiv, 1, [], 0), (.iload_n 1, 1, [], 0), (.invokevirtual 183, 3, [1, 170, 3, 2, 1183], 0), (.goto 4, 3, [35], 0)]
theorem ok_X2_forget_0 : vBL MT qLen qCh false q_X2_forget.2.2.2.2.1 q_X2_forget.2.2.2.2.2.1 q_X2_forget.2.2.1 q_X2_forget.1.cls q_X2_forget.1.name q_X2_forget.2.1 0 0 I_X2_forget_0 = true := by decide +kernel
def p_X2_forget (a0 : Nat) (x1 : Int32) (h : AH) : Option (Int32 × AH) :=
  if (tg h a0).1 = 1 then (if (tg h a0).1 = 1 then (if (tg h (rR h a0 1)).1 = 0 then (if (tg h (rR h a0 2)).1 = 2 then ((p_X3_upperEntry (rR h a0 2) (rI h (rR h a0 1) 4) x1 h).bind fun q101 =>
  if q101.1 < 0 then (p_X2_forget_35 ((0 : Int32)) q101.2)
  else
  if (tg q101.2 a0).1 = 1 then (if ((4 : Int32)) = 0 then none else
  if (tg q101.2 (rR q101.2 a0 2)).1 = 2 then ((p_X3_remove (rR q101.2 a0 2) (q101.1 / ((4 : Int32))) x1 q101.2).bind fun q102 =>
  p_X2_forget_35 q102.1 q102.2) else none) else none) else none) else none) else none) else none
set_option maxRecDepth 100000 in
theorem e_X2_forget_0 {l : Launch} {D : va_G} {dA : Nat → ClassId} {z : Nat} {sa : Nat → Nat} {Hz : Heap} (E : StrOK qLen qCh l D dA z sa Hz) {h0 fin : AH} {x : Int32}  : ∀ (a0 : Nat) (x1 : Int32) (h : AH), p_X2_forget a0 x1 h = some (x, fin) → GM l D dA z sa Hz q_X2_forget h0 (some (.int x)) fin 0 [(0, .ref a0), (1, .int x1)] [] h := by
  intro a0 x1 h hd
  exact step E (is := I_X2_forget_0) (pc := 0) (K := (kx 34 (fun la st h => sE st (p_X2_forget_34 h)) (kx 35 (fun la st h => sI st fun y0 st => sE st (p_X2_forget_35 y0 h)) k0))) (FI := FI_X2_forget) (FV := fV0) (FL := fL0) (rt := rtI) (ft := 0) (by exact hd) ok_X2_forget_0 (kx_ok (fun la st h e => by obtain ⟨rfl, ez⟩ := sE_inv e; exact gm_fewer (e_X2_forget_34 E   h ez) mem_nil) (kx_ok (fun la st h e => by obtain ⟨y0, _, rfl, e1⟩ := sI_inv e; obtain ⟨rfl, ez⟩ := sE_inv e1; exact gm_fewer (e_X2_forget_35 E  y0 h ez) mem_nil) k0_ok)) (FI_X2_forget_ok E) (fV0_ok E) (fL0_ok E) (rtI_ok rfl)
theorem c_X2_forget {l : Launch} {D : va_G} {dA : Nat → ClassId} {z : Nat} {sa : Nat → Nat} {Hz : Heap} (E : StrOK qLen qCh l D dA z sa Hz) {a0 : Nat} {x1 : Int32} {h fin : AH} {x : Int32} (hd : p_X2_forget a0 x1 h = some (x, fin)) : CalOK l D dA z sa Hz q_X2_forget [.ref a0, .int x1] h (some (.int x)) fin := calOf (by decide +kernel) (Nat.le_of_ble_eq_true rfl) (e_X2_forget_0 E a0 x1 h hd)
def FI_X7_flush : Nat → List Value → AH → Option (Int32 × AH) := (cx 68 (fun As h => sR As fun a0 As => sI As fun x1 As => sE As (p_X7_isPage a0 x1 h)) (cx 9 (fun As h => sR As fun a0 As => sI As fun x1 As => sE As (p_X7_refuse a0 x1 h)) (cx 179 (fun As h => sR As fun a0 As => sI As fun x1 As => sE As (p_X2_forget a0 x1 h)) (cx 50 (fun As h => sR As fun a0 As => sI As fun x1 As => sE As (p_X7_answer a0 x1 h)) fI0))))
theorem FI_X7_flush_ok {l : Launch} {D : va_G} {dA : Nat → ClassId} {z : Nat} {sa : Nat → Nat} {Hz : Heap} (E : StrOK qLen qCh l D dA z sa Hz) : ∀ mi As h x h', FI_X7_flush mi As h = some (x, h') → CalOK l D dA z sa Hz (MT mi) As h (some (.int x)) h' := (cxI_ok (fun As h x h2 e => by obtain ⟨_, _, rfl, e0⟩ := sR_inv e; obtain ⟨_, _, rfl, e1⟩ := sI_inv e0; obtain ⟨rfl, ez⟩ := sE_inv e1; exact c_X7_isPage E ez) ((cxI_ok (fun As h x h2 e => by obtain ⟨_, _, rfl, e0⟩ := sR_inv e; obtain ⟨_, _, rfl, e1⟩ := sI_inv e0; obtain ⟨rfl, ez⟩ := sE_inv e1; exact c_X7_refuse E ez) ((cxI_ok (fun As h x h2 e => by obtain ⟨_, _, rfl, e0⟩ := sR_inv e; obtain ⟨_, _, rfl, e1⟩ := sI_inv e0; obtain ⟨rfl, ez⟩ := sE_inv e1; exact c_X2_forget E ez) ((cxI_ok (fun As h x h2 e => by obtain ⟨_, _, rfl, e0⟩ := sR_inv e; obtain ⟨_, _, rfl, e1⟩ := sI_inv e0; obtain ⟨rfl, ez⟩ := sE_inv e1; exact c_X7_answer E ez) (fI0_ok E))))))))
def FV_X7_flush : Nat → List Value → AH → Option (AH) := (cx 167 (fun As h => sR As fun a0 As => sE As (p_X7_keep a0 h)) fV0)
theorem FV_X7_flush_ok {l : Launch} {D : va_G} {dA : Nat → ClassId} {z : Nat} {sa : Nat → Nat} {Hz : Heap} (E : StrOK qLen qCh l D dA z sa Hz) : ∀ mi As h h', FV_X7_flush mi As h = some h' → CalOK l D dA z sa Hz (MT mi) As h none h' := (cxV_ok (fun As h h2 e => by obtain ⟨_, _, rfl, e0⟩ := sR_inv e; obtain ⟨rfl, ez⟩ := sE_inv e0; exact c_X7_keep E ez) (fV0_ok E))
def I_X7_flush_14 : List AI := [(.aload_n 0, 1, [], 0), (.invokevirtual 265, 3, [2, 167, 1, 6, 1131], 0), (.aload_n 0, 1, [], 0), (.aload_n 0, 1, [], 0), (.getfield 29, 3, [6, 4, 2, 358], 0), (.iload_n 1, 1, [], 0), (.invokevirtual 278, 3, [1, 179, 2, 1, 1188], 0), (.invokevirtual 68, 3, [1, 50, 2, 6, 633], 0), (.ireturn, 1, [], 0)]
theorem ok_X7_flush_14 : vBL MT qLen qCh false q_X7_flush.2.2.2.2.1 q_X7_flush.2.2.2.2.2.1 q_X7_flush.2.2.1 q_X7_flush.1.cls q_X7_flush.1.name q_X7_flush.2.1 0 14 I_X7_flush_14 = true := by decide +kernel
def p_X7_flush_14 (a0 : Nat) (x1 : Int32) (h : AH) : Option (Int32 × AH) :=
  if (tg h a0).1 = 6 then ((p_X7_keep a0 h).bind fun h101 =>
  if (tg h101 a0).1 = 6 then (if (tg h101 (rR h101 a0 4)).1 = 1 then ((p_X2_forget (rR h101 a0 4) x1 h101).bind fun q102 =>
  if (tg q102.2 a0).1 = 6 then ((p_X7_answer a0 q102.1 q102.2).bind fun q103 =>
  some (q103.1, q103.2)) else none) else none) else none) else none
set_option maxRecDepth 100000 in
theorem e_X7_flush_14 {l : Launch} {D : va_G} {dA : Nat → ClassId} {z : Nat} {sa : Nat → Nat} {Hz : Heap} (E : StrOK qLen qCh l D dA z sa Hz) {h0 fin : AH} {x : Int32}  : ∀ (a0 : Nat) (x1 : Int32) (h : AH), p_X7_flush_14 a0 x1 h = some (x, fin) → GM l D dA z sa Hz q_X7_flush h0 (some (.int x)) fin 14 [(0, .ref a0), (1, .int x1)] [] h := by
  intro a0 x1 h hd
  exact step E (is := I_X7_flush_14) (pc := 14) (K := k0) (FI := FI_X7_flush) (FV := FV_X7_flush) (FL := fL0) (rt := rtI) (ft := 0) (by exact hd) ok_X7_flush_14 k0_ok (FI_X7_flush_ok E) (FV_X7_flush_ok E) (fL0_ok E) (rtI_ok rfl)
def I_X7_flush_0 : List AI := [(.aload_n 0, 1, [], 0), (.iload_n 1, 1, [], 0), (.invokevirtual 120, 3, [1, 68, 2, 6, 704], 0), (.ifCond .ne 9, 3, [14], 0), (.aload_n 0, 1, [], 0), (.iconst 1, 1, [], 1), (.invokevirtual 54, 3, [1, 9, 2, 6, 403], 0), (.ireturn, 1, [], 0)]
theorem ok_X7_flush_0 : vBL MT qLen qCh false q_X7_flush.2.2.2.2.1 q_X7_flush.2.2.2.2.2.1 q_X7_flush.2.2.1 q_X7_flush.1.cls q_X7_flush.1.name q_X7_flush.2.1 0 0 I_X7_flush_0 = true := by decide +kernel
def p_X7_flush (a0 : Nat) (x1 : Int32) (h : AH) : Option (Int32 × AH) :=
  if (tg h a0).1 = 6 then ((p_X7_isPage a0 x1 h).bind fun q104 =>
  if q104.1 = 0 then (if (tg q104.2 a0).1 = 6 then ((p_X7_refuse a0 ((1 : Int32)) q104.2).bind fun q108 =>
  some (q108.1, q108.2)) else none)
  else
  if (tg q104.2 a0).1 = 6 then ((p_X7_keep a0 q104.2).bind fun h105 =>
  if (tg h105 a0).1 = 6 then (if (tg h105 (rR h105 a0 4)).1 = 1 then ((p_X2_forget (rR h105 a0 4) x1 h105).bind fun q106 =>
  if (tg q106.2 a0).1 = 6 then ((p_X7_answer a0 q106.1 q106.2).bind fun q107 =>
  some (q107.1, q107.2)) else none) else none) else none) else none) else none
set_option maxRecDepth 100000 in
theorem e_X7_flush_0 {l : Launch} {D : va_G} {dA : Nat → ClassId} {z : Nat} {sa : Nat → Nat} {Hz : Heap} (E : StrOK qLen qCh l D dA z sa Hz) {h0 fin : AH} {x : Int32}  : ∀ (a0 : Nat) (x1 : Int32) (h : AH), p_X7_flush a0 x1 h = some (x, fin) → GM l D dA z sa Hz q_X7_flush h0 (some (.int x)) fin 0 [(0, .ref a0), (1, .int x1)] [] h := by
  intro a0 x1 h hd
  exact step E (is := I_X7_flush_0) (pc := 0) (K := (kx 14 (fun la st h => gR la 0 fun a0 => gI la 1 fun x1 => sE st (p_X7_flush_14 a0 x1 h)) k0)) (FI := FI_X7_flush) (FV := FV_X7_flush) (FL := fL0) (rt := rtI) (ft := 0) (by exact hd) ok_X7_flush_0 (kx_ok (fun la st h e => by obtain ⟨a0, m_a0, e1⟩ := gR_inv e; obtain ⟨x1, m_x1, e2⟩ := gI_inv e1; obtain ⟨rfl, ez⟩ := sE_inv e2; exact gm_fewer (e_X7_flush_14 E  a0 x1 h ez) (mem_cons m_a0 (mem_cons m_x1 mem_nil))) k0_ok) (FI_X7_flush_ok E) (FV_X7_flush_ok E) (fL0_ok E) (rtI_ok rfl)
theorem c_X7_flush {l : Launch} {D : va_G} {dA : Nat → ClassId} {z : Nat} {sa : Nat → Nat} {Hz : Heap} (E : StrOK qLen qCh l D dA z sa Hz) {a0 : Nat} {x1 : Int32} {h fin : AH} {x : Int32} (hd : p_X7_flush a0 x1 h = some (x, fin)) : CalOK l D dA z sa Hz q_X7_flush [.ref a0, .int x1] h (some (.int x)) fin := calOf (by decide +kernel) (Nat.le_of_ble_eq_true rfl) (e_X7_flush_0 E a0 x1 h hd)
def FI_X3_forgetPlace : Nat → List Value → AH → Option (Int32 × AH) := (cx 87 (fun As h => sR As fun a0 As => sI As fun x1 As => sI As fun x2 As => sE As (p_X3_find a0 x1 x2 h)) (cx 170 (fun As h => sR As fun a0 As => sI As fun x1 As => sI As fun x2 As => sE As (p_X3_remove a0 x1 x2 h)) (cx 103 (fun As h => sR As fun a0 As => sI As fun x1 As => sE As (p_X3_isAstray a0 x1 h)) fI0)))
theorem FI_X3_forgetPlace_ok {l : Launch} {D : va_G} {dA : Nat → ClassId} {z : Nat} {sa : Nat → Nat} {Hz : Heap} (E : StrOK qLen qCh l D dA z sa Hz) : ∀ mi As h x h', FI_X3_forgetPlace mi As h = some (x, h') → CalOK l D dA z sa Hz (MT mi) As h (some (.int x)) h' := (cxI_ok (fun As h x h2 e => by obtain ⟨_, _, rfl, e0⟩ := sR_inv e; obtain ⟨_, _, rfl, e1⟩ := sI_inv e0; obtain ⟨_, _, rfl, e2⟩ := sI_inv e1; obtain ⟨rfl, ez⟩ := sE_inv e2; exact c_X3_find E ez) ((cxI_ok (fun As h x h2 e => by obtain ⟨_, _, rfl, e0⟩ := sR_inv e; obtain ⟨_, _, rfl, e1⟩ := sI_inv e0; obtain ⟨_, _, rfl, e2⟩ := sI_inv e1; obtain ⟨rfl, ez⟩ := sE_inv e2; exact c_X3_remove E ez) ((cxI_ok (fun As h x h2 e => by obtain ⟨_, _, rfl, e0⟩ := sR_inv e; obtain ⟨_, _, rfl, e1⟩ := sI_inv e0; obtain ⟨rfl, ez⟩ := sE_inv e1; exact c_X3_isAstray E ez) (fI0_ok E))))))
def I_X3_forgetPlace_57 : List AI := [(.iload_n 3, 1, [], 0), (.ireturn, 1, [], 0)]
theorem ok_X3_forgetPlace_57 : vBL MT qLen qCh false q_X3_forgetPlace.2.2.2.2.1 q_X3_forgetPlace.2.2.2.2.2.1 q_X3_forgetPlace.2.2.1 q_X3_forgetPlace.1.cls q_X3_forgetPlace.1.name q_X3_forgetPlace.2.1 0 57 I_X3_forgetPlace_57 = true := by decide +kernel
def p_X3_forgetPlace_57 (x3 : Int32) (h : AH) : Option (Int32 × AH) :=
  some (x3, h)
set_option maxRecDepth 100000 in
theorem e_X3_forgetPlace_57 {l : Launch} {D : va_G} {dA : Nat → ClassId} {z : Nat} {sa : Nat → Nat} {Hz : Heap} (E : StrOK qLen qCh l D dA z sa Hz) {h0 fin : AH} {x : Int32}  : ∀ (x3 : Int32) (h : AH), p_X3_forgetPlace_57 x3 h = some (x, fin) → GM l D dA z sa Hz q_X3_forgetPlace h0 (some (.int x)) fin 57 [(3, .int x3)] [] h := by
  intro x3 h hd
  exact step E (is := I_X3_forgetPlace_57) (pc := 57) (K := k0) (FI := FI_X3_forgetPlace) (FV := fV0) (FL := fL0) (rt := rtI) (ft := 0) (by exact hd) ok_X3_forgetPlace_57 k0_ok (FI_X3_forgetPlace_ok E) (fV0_ok E) (fL0_ok E) (rtI_ok rfl)
def I_X3_forgetPlace_25 : List AI := [(.aload_n 0, 1, [], 0), (.iconst 1, 1, [], 1), (.iload_n 1, 1, [], 0), (.invokevirtual 56, 3, [1, 87, 3, 2, 795], 0), (.istore 5, 2, [], 0), (.iload 5, 2, [], 0), (.ifCond .lt 22, 3, [57], 0), (.aload_n 0, 1, [], 0), (.iload 5, 2, [], 0), (.invokevirtual 59, 3, [1, 103, 2, 2, 856], 0), (.ifCond .ne 13, 3, [57], 0), (.iload_n 3, 1, [], 0), (.aload_n 0, 1, [], 0), (.iload 5, 2, [], 0), (.iload_n 2, 1, [], 0), (.invokevirtual 75, 3, [1, 170, 3, 2, 1158], 0), (.iadd, 1, [], 0), (.istore_n 3, 1, [], 0)]
theorem ok_X3_forgetPlace_25 : vBL MT qLen qCh false q_X3_forgetPlace.2.2.2.2.1 q_X3_forgetPlace.2.2.2.2.2.1 q_X3_forgetPlace.2.2.1 q_X3_forgetPlace.1.cls q_X3_forgetPlace.1.name q_X3_forgetPlace.2.1 57 25 I_X3_forgetPlace_25 = true := by decide +kernel
def p_X3_forgetPlace_25 (a0 : Nat) (x1 : Int32) (x2 : Int32) (x3 : Int32) (h : AH) : Option (Int32 × AH) :=
  if (tg h a0).1 = 2 then ((p_X3_find a0 ((1 : Int32)) x1 h).bind fun q101 =>
  if q101.1 < 0 then (p_X3_forgetPlace_57 x3 q101.2)
  else
  if (tg q101.2 a0).1 = 2 then ((p_X3_isAstray a0 q101.1 q101.2).bind fun q102 =>
  if q102.1 = 0 then (if (tg q102.2 a0).1 = 2 then ((p_X3_remove a0 q101.1 x2 q102.2).bind fun q103 =>
  let x104 := x3 + q103.1
  p_X3_forgetPlace_57 x104 q103.2) else none)
  else
  p_X3_forgetPlace_57 x3 q102.2) else none) else none
set_option maxRecDepth 100000 in
theorem e_X3_forgetPlace_25 {l : Launch} {D : va_G} {dA : Nat → ClassId} {z : Nat} {sa : Nat → Nat} {Hz : Heap} (E : StrOK qLen qCh l D dA z sa Hz) {h0 fin : AH} {x : Int32}  : ∀ (a0 : Nat) (x1 : Int32) (x2 : Int32) (x3 : Int32) (h : AH), p_X3_forgetPlace_25 a0 x1 x2 x3 h = some (x, fin) → GM l D dA z sa Hz q_X3_forgetPlace h0 (some (.int x)) fin 25 [(0, .ref a0), (1, .int x1), (2, .int x2), (3, .int x3)] [] h := by
  intro a0 x1 x2 x3 h hd
  exact step E (is := I_X3_forgetPlace_25) (pc := 25) (K := (kx 57 (fun la st h => gI la 3 fun x3 => sE st (p_X3_forgetPlace_57 x3 h)) k0)) (FI := FI_X3_forgetPlace) (FV := fV0) (FL := fL0) (rt := rtI) (ft := 57) (by exact hd) ok_X3_forgetPlace_25 (kx_ok (fun la st h e => by obtain ⟨x3, m_x3, e1⟩ := gI_inv e; obtain ⟨rfl, ez⟩ := sE_inv e1; exact gm_fewer (e_X3_forgetPlace_57 E  x3 h ez) (mem_cons m_x3 mem_nil)) k0_ok) (FI_X3_forgetPlace_ok E) (fV0_ok E) (fL0_ok E) (rtI_ok rfl)
def I_X3_forgetPlace_0 : List AI := [(.iconst 0, 1, [], 0), (.istore_n 3, 1, [], 0), (.aload_n 0, 1, [], 0), (.iconst 0, 1, [], 0), (.iload_n 1, 1, [], 0), (.invokevirtual 56, 3, [1, 87, 3, 2, 795], 0), (.istore 4, 2, [], 0), (.iload 4, 2, [], 0), (.ifCond .lt 13, 3, [25], 0), (.iload_n 3, 1, [], 0), (.aload_n 0, 1, [], 0), (.iload 4, 2, [], 0), (.iload_n 2, 1, [], 0), (.invokevirtual 75, 3, [1, 170, 3, 2, 1158], 0), (.iadd, 1, [], 0), (.istore_n 3, 1, [], 0)]
theorem ok_X3_forgetPlace_0 : vBL MT qLen qCh false q_X3_forgetPlace.2.2.2.2.1 q_X3_forgetPlace.2.2.2.2.2.1 q_X3_forgetPlace.2.2.1 q_X3_forgetPlace.1.cls q_X3_forgetPlace.1.name q_X3_forgetPlace.2.1 25 0 I_X3_forgetPlace_0 = true := by decide +kernel
def p_X3_forgetPlace (a0 : Nat) (x1 : Int32) (x2 : Int32) (h : AH) : Option (Int32 × AH) :=
  if (tg h a0).1 = 2 then ((p_X3_find a0 ((0 : Int32)) x1 h).bind fun q105 =>
  if q105.1 < 0 then (p_X3_forgetPlace_25 a0 x1 x2 ((0 : Int32)) q105.2)
  else
  if (tg q105.2 a0).1 = 2 then ((p_X3_remove a0 q105.1 x2 q105.2).bind fun q106 =>
  let x107 := ((0 : Int32)) + q106.1
  p_X3_forgetPlace_25 a0 x1 x2 x107 q106.2) else none) else none
set_option maxRecDepth 100000 in
theorem e_X3_forgetPlace_0 {l : Launch} {D : va_G} {dA : Nat → ClassId} {z : Nat} {sa : Nat → Nat} {Hz : Heap} (E : StrOK qLen qCh l D dA z sa Hz) {h0 fin : AH} {x : Int32}  : ∀ (a0 : Nat) (x1 : Int32) (x2 : Int32) (h : AH), p_X3_forgetPlace a0 x1 x2 h = some (x, fin) → GM l D dA z sa Hz q_X3_forgetPlace h0 (some (.int x)) fin 0 [(0, .ref a0), (1, .int x1), (2, .int x2)] [] h := by
  intro a0 x1 x2 h hd
  exact step E (is := I_X3_forgetPlace_0) (pc := 0) (K := (kx 25 (fun la st h => gR la 0 fun a0 => gI la 1 fun x1 => gI la 2 fun x2 => gI la 3 fun x3 => sE st (p_X3_forgetPlace_25 a0 x1 x2 x3 h)) k0)) (FI := FI_X3_forgetPlace) (FV := fV0) (FL := fL0) (rt := rtI) (ft := 25) (by exact hd) ok_X3_forgetPlace_0 (kx_ok (fun la st h e => by obtain ⟨a0, m_a0, e1⟩ := gR_inv e; obtain ⟨x1, m_x1, e2⟩ := gI_inv e1; obtain ⟨x2, m_x2, e3⟩ := gI_inv e2; obtain ⟨x3, m_x3, e4⟩ := gI_inv e3; obtain ⟨rfl, ez⟩ := sE_inv e4; exact gm_fewer (e_X3_forgetPlace_25 E  a0 x1 x2 x3 h ez) (mem_cons m_a0 (mem_cons m_x1 (mem_cons m_x2 (mem_cons m_x3 mem_nil))))) k0_ok) (FI_X3_forgetPlace_ok E) (fV0_ok E) (fL0_ok E) (rtI_ok rfl)
theorem c_X3_forgetPlace {l : Launch} {D : va_G} {dA : Nat → ClassId} {z : Nat} {sa : Nat → Nat} {Hz : Heap} (E : StrOK qLen qCh l D dA z sa Hz) {a0 : Nat} {x1 : Int32} {x2 : Int32} {h fin : AH} {x : Int32} (hd : p_X3_forgetPlace a0 x1 x2 h = some (x, fin)) : CalOK l D dA z sa Hz q_X3_forgetPlace [.ref a0, .int x1, .int x2] h (some (.int x)) fin := calOf (by decide +kernel) (Nat.le_of_ble_eq_true rfl) (e_X3_forgetPlace_0 E a0 x1 x2 h hd)
def FI_X2_putPastWatching : Nat → List Value → AH → Option (Int32 × AH) := (cx 181 (fun As h => sR As fun a0 As => sI As fun x1 As => sI As fun x2 As => sE As (p_X3_forgetPlace a0 x1 x2 h)) fI0)
theorem FI_X2_putPastWatching_ok {l : Launch} {D : va_G} {dA : Nat → ClassId} {z : Nat} {sa : Nat → Nat} {Hz : Heap} (E : StrOK qLen qCh l D dA z sa Hz) : ∀ mi As h x h', FI_X2_putPastWatching mi As h = some (x, h') → CalOK l D dA z sa Hz (MT mi) As h (some (.int x)) h' := (cxI_ok (fun As h x h2 e => by obtain ⟨_, _, rfl, e0⟩ := sR_inv e; obtain ⟨_, _, rfl, e1⟩ := sI_inv e0; obtain ⟨_, _, rfl, e2⟩ := sI_inv e1; obtain ⟨rfl, ez⟩ := sE_inv e2; exact c_X3_forgetPlace E ez) (fI0_ok E))
def FV_X2_putPastWatching : Nat → List Value → AH → Option (AH) := (cx 30 (fun As h => sR As fun a0 As => sI As fun x1 As => sI As fun x2 As => sI As fun x3 As => sE As (p_X1_setWord a0 x1 x2 x3 h)) (cx 124 (fun As h => sR As fun a0 As => sI As fun x1 As => sE As (p_X1_setMark a0 x1 h)) fV0))
theorem FV_X2_putPastWatching_ok {l : Launch} {D : va_G} {dA : Nat → ClassId} {z : Nat} {sa : Nat → Nat} {Hz : Heap} (E : StrOK qLen qCh l D dA z sa Hz) : ∀ mi As h h', FV_X2_putPastWatching mi As h = some h' → CalOK l D dA z sa Hz (MT mi) As h none h' := (cxV_ok (fun As h h2 e => by obtain ⟨_, _, rfl, e0⟩ := sR_inv e; obtain ⟨_, _, rfl, e1⟩ := sI_inv e0; obtain ⟨_, _, rfl, e2⟩ := sI_inv e1; obtain ⟨_, _, rfl, e3⟩ := sI_inv e2; obtain ⟨rfl, ez⟩ := sE_inv e3; exact c_X1_setWord E ez) ((cxV_ok (fun As h h2 e => by obtain ⟨_, _, rfl, e0⟩ := sR_inv e; obtain ⟨_, _, rfl, e1⟩ := sI_inv e0; obtain ⟨rfl, ez⟩ := sE_inv e1; exact c_X1_setMark E ez) (fV0_ok E))))
def I_X2_putPastWatching_0 : List AI := [(.aload_n 0, 1, [], 0), (.getfield 22, 3, [1, 1, 2, 320], 0), (.iload_n 1, 1, [], 0), (.iload_n 2, 1, [], 0), (.iload_n 3, 1, [], 0), (.invokevirtual 145, 3, [2, 30, 4, 0, 1148], 0), (.aload_n 0, 1, [], 0), (.getfield 22, 3, [1, 1, 2, 320], 0), (.iload_n 1, 1, [], 0), (.invokevirtual 186, 3, [2, 124, 2, 0, 1201], 0), (.aload_n 0, 1, [], 0), (.getfield 27, 3, [1, 2, 2, 322], 0), (.iload_n 1, 1, [], 0), (.iload_n 2, 1, [], 0), (.invokevirtual 189, 3, [1, 181, 3, 2, 1202], 0), (.ireturn, 1, [], 0)]
theorem ok_X2_putPastWatching_0 : vBL MT qLen qCh false q_X2_putPastWatching.2.2.2.2.1 q_X2_putPastWatching.2.2.2.2.2.1 q_X2_putPastWatching.2.2.1 q_X2_putPastWatching.1.cls q_X2_putPastWatching.1.name q_X2_putPastWatching.2.1 0 0 I_X2_putPastWatching_0 = true := by decide +kernel
def p_X2_putPastWatching (a0 : Nat) (x1 : Int32) (x2 : Int32) (x3 : Int32) (h : AH) : Option (Int32 × AH) :=
  if (tg h a0).1 = 1 then (if (tg h (rR h a0 1)).1 = 0 then ((p_X1_setWord (rR h a0 1) x1 x2 x3 h).bind fun h101 =>
  if (tg h101 a0).1 = 1 then (if (tg h101 (rR h101 a0 1)).1 = 0 then ((p_X1_setMark (rR h101 a0 1) x1 h101).bind fun h102 =>
  if (tg h102 a0).1 = 1 then (if (tg h102 (rR h102 a0 2)).1 = 2 then ((p_X3_forgetPlace (rR h102 a0 2) x1 x2 h102).bind fun q103 =>
  some (q103.1, q103.2)) else none) else none) else none) else none) else none) else none
set_option maxRecDepth 100000 in
theorem e_X2_putPastWatching_0 {l : Launch} {D : va_G} {dA : Nat → ClassId} {z : Nat} {sa : Nat → Nat} {Hz : Heap} (E : StrOK qLen qCh l D dA z sa Hz) {h0 fin : AH} {x : Int32}  : ∀ (a0 : Nat) (x1 : Int32) (x2 : Int32) (x3 : Int32) (h : AH), p_X2_putPastWatching a0 x1 x2 x3 h = some (x, fin) → GM l D dA z sa Hz q_X2_putPastWatching h0 (some (.int x)) fin 0 [(0, .ref a0), (1, .int x1), (2, .int x2), (3, .int x3)] [] h := by
  intro a0 x1 x2 x3 h hd
  exact step E (is := I_X2_putPastWatching_0) (pc := 0) (K := k0) (FI := FI_X2_putPastWatching) (FV := FV_X2_putPastWatching) (FL := fL0) (rt := rtI) (ft := 0) (by exact hd) ok_X2_putPastWatching_0 k0_ok (FI_X2_putPastWatching_ok E) (FV_X2_putPastWatching_ok E) (fL0_ok E) (rtI_ok rfl)
theorem c_X2_putPastWatching {l : Launch} {D : va_G} {dA : Nat → ClassId} {z : Nat} {sa : Nat → Nat} {Hz : Heap} (E : StrOK qLen qCh l D dA z sa Hz) {a0 : Nat} {x1 : Int32} {x2 : Int32} {x3 : Int32} {h fin : AH} {x : Int32} (hd : p_X2_putPastWatching a0 x1 x2 x3 h = some (x, fin)) : CalOK l D dA z sa Hz q_X2_putPastWatching [.ref a0, .int x1, .int x2, .int x3] h (some (.int x)) fin := calOf (by decide +kernel) (Nat.le_of_ble_eq_true rfl) (e_X2_putPastWatching_0 E a0 x1 x2 x3 h hd)
def FI_X7_device : Nat → List Value → AH → Option (Int32 × AH) := (cx 54 (fun As h => sR As fun a0 As => sI As fun x1 As => sE As (p_X7_isFrame a0 x1 h)) (cx 55 (fun As h => sI As fun x0 As => sE As (p_X7_isPlace x0 h)) (cx 9 (fun As h => sR As fun a0 As => sI As fun x1 As => sE As (p_X7_refuse a0 x1 h)) (cx 169 (fun As h => sI As fun x0 As => sE As (p_X7_isWord x0 h)) (cx 22 (fun As h => sR As fun a0 As => sI As fun x1 As => sE As (p_X1_isBacked a0 x1 h)) (cx 182 (fun As h => sR As fun a0 As => sI As fun x1 As => sI As fun x2 As => sI As fun x3 As => sE As (p_X2_putPastWatching a0 x1 x2 x3 h)) (cx 50 (fun As h => sR As fun a0 As => sI As fun x1 As => sE As (p_X7_answer a0 x1 h)) fI0)))))))
theorem FI_X7_device_ok {l : Launch} {D : va_G} {dA : Nat → ClassId} {z : Nat} {sa : Nat → Nat} {Hz : Heap} (E : StrOK qLen qCh l D dA z sa Hz) : ∀ mi As h x h', FI_X7_device mi As h = some (x, h') → CalOK l D dA z sa Hz (MT mi) As h (some (.int x)) h' := (cxI_ok (fun As h x h2 e => by obtain ⟨_, _, rfl, e0⟩ := sR_inv e; obtain ⟨_, _, rfl, e1⟩ := sI_inv e0; obtain ⟨rfl, ez⟩ := sE_inv e1; exact c_X7_isFrame E ez) ((cxI_ok (fun As h x h2 e => by obtain ⟨_, _, rfl, e0⟩ := sI_inv e; obtain ⟨rfl, ez⟩ := sE_inv e0; exact c_X7_isPlace E ez) ((cxI_ok (fun As h x h2 e => by obtain ⟨_, _, rfl, e0⟩ := sR_inv e; obtain ⟨_, _, rfl, e1⟩ := sI_inv e0; obtain ⟨rfl, ez⟩ := sE_inv e1; exact c_X7_refuse E ez) ((cxI_ok (fun As h x h2 e => by obtain ⟨_, _, rfl, e0⟩ := sI_inv e; obtain ⟨rfl, ez⟩ := sE_inv e0; exact c_X7_isWord E ez) ((cxI_ok (fun As h x h2 e => by obtain ⟨_, _, rfl, e0⟩ := sR_inv e; obtain ⟨_, _, rfl, e1⟩ := sI_inv e0; obtain ⟨rfl, ez⟩ := sE_inv e1; exact c_X1_isBacked E ez) ((cxI_ok (fun As h x h2 e => by obtain ⟨_, _, rfl, e0⟩ := sR_inv e; obtain ⟨_, _, rfl, e1⟩ := sI_inv e0; obtain ⟨_, _, rfl, e2⟩ := sI_inv e1; obtain ⟨_, _, rfl, e3⟩ := sI_inv e2; obtain ⟨rfl, ez⟩ := sE_inv e3; exact c_X2_putPastWatching E ez) ((cxI_ok (fun As h x h2 e => by obtain ⟨_, _, rfl, e0⟩ := sR_inv e; obtain ⟨_, _, rfl, e1⟩ := sI_inv e0; obtain ⟨rfl, ez⟩ := sE_inv e1; exact c_X7_answer E ez) (fI0_ok E))))))))))))))
def FV_X7_device : Nat → List Value → AH → Option (AH) := (cx 167 (fun As h => sR As fun a0 As => sE As (p_X7_keep a0 h)) fV0)
theorem FV_X7_device_ok {l : Launch} {D : va_G} {dA : Nat → ClassId} {z : Nat} {sa : Nat → Nat} {Hz : Heap} (E : StrOK qLen qCh l D dA z sa Hz) : ∀ mi As h h', FV_X7_device mi As h = some h' → CalOK l D dA z sa Hz (MT mi) As h none h' := (cxV_ok (fun As h h2 e => by obtain ⟨_, _, rfl, e0⟩ := sR_inv e; obtain ⟨rfl, ez⟩ := sE_inv e0; exact c_X7_keep E ez) (fV0_ok E))
def I_X7_device_15 : List AI := [(.aload_n 0, 1, [], 0), (.iconst 1, 1, [], 1), (.invokevirtual 54, 3, [1, 9, 2, 6, 403], 0), (.ireturn, 1, [], 0)]
theorem ok_X7_device_15 : vBL MT qLen qCh false q_X7_device.2.2.2.2.1 q_X7_device.2.2.2.2.2.1 q_X7_device.2.2.1 q_X7_device.1.cls q_X7_device.1.name q_X7_device.2.1 0 15 I_X7_device_15 = true := by decide +kernel
def p_X7_device_15 (a0 : Nat) (h : AH) : Option (Int32 × AH) :=
  if (tg h a0).1 = 6 then ((p_X7_refuse a0 ((1 : Int32)) h).bind fun q101 =>
  some (q101.1, q101.2)) else none
set_option maxRecDepth 100000 in
theorem e_X7_device_15 {l : Launch} {D : va_G} {dA : Nat → ClassId} {z : Nat} {sa : Nat → Nat} {Hz : Heap} (E : StrOK qLen qCh l D dA z sa Hz) {h0 fin : AH} {x : Int32}  : ∀ (a0 : Nat) (h : AH), p_X7_device_15 a0 h = some (x, fin) → GM l D dA z sa Hz q_X7_device h0 (some (.int x)) fin 15 [(0, .ref a0)] [] h := by
  intro a0 h hd
  exact step E (is := I_X7_device_15) (pc := 15) (K := k0) (FI := FI_X7_device) (FV := FV_X7_device) (FL := fL0) (rt := rtI) (ft := 0) (by exact hd) ok_X7_device_15 k0_ok (FI_X7_device_ok E) (FV_X7_device_ok E) (fL0_ok E) (rtI_ok rfl)
def I_X7_device_54 : List AI := [(.aload_n 0, 1, [], 0), (.invokevirtual 265, 3, [2, 167, 1, 6, 1131], 0), (.aload_n 0, 1, [], 0), (.aload_n 0, 1, [], 0), (.getfield 29, 3, [6, 4, 2, 358], 0), (.iload_n 1, 1, [], 0), (.iload_n 2, 1, [], 0), (.iload_n 3, 1, [], 0), (.invokevirtual 284, 3, [1, 182, 4, 1, 1197], 0), (.invokevirtual 68, 3, [1, 50, 2, 6, 633], 0), (.ireturn, 1, [], 0)]
theorem ok_X7_device_54 : vBL MT qLen qCh false q_X7_device.2.2.2.2.1 q_X7_device.2.2.2.2.2.1 q_X7_device.2.2.1 q_X7_device.1.cls q_X7_device.1.name q_X7_device.2.1 0 54 I_X7_device_54 = true := by decide +kernel
def p_X7_device_54 (a0 : Nat) (x1 : Int32) (x2 : Int32) (x3 : Int32) (h : AH) : Option (Int32 × AH) :=
  if (tg h a0).1 = 6 then ((p_X7_keep a0 h).bind fun h102 =>
  if (tg h102 a0).1 = 6 then (if (tg h102 (rR h102 a0 4)).1 = 1 then ((p_X2_putPastWatching (rR h102 a0 4) x1 x2 x3 h102).bind fun q103 =>
  if (tg q103.2 a0).1 = 6 then ((p_X7_answer a0 q103.1 q103.2).bind fun q104 =>
  some (q104.1, q104.2)) else none) else none) else none) else none
set_option maxRecDepth 100000 in
theorem e_X7_device_54 {l : Launch} {D : va_G} {dA : Nat → ClassId} {z : Nat} {sa : Nat → Nat} {Hz : Heap} (E : StrOK qLen qCh l D dA z sa Hz) {h0 fin : AH} {x : Int32}  : ∀ (a0 : Nat) (x1 : Int32) (x2 : Int32) (x3 : Int32) (h : AH), p_X7_device_54 a0 x1 x2 x3 h = some (x, fin) → GM l D dA z sa Hz q_X7_device h0 (some (.int x)) fin 54 [(0, .ref a0), (1, .int x1), (2, .int x2), (3, .int x3)] [] h := by
  intro a0 x1 x2 x3 h hd
  exact step E (is := I_X7_device_54) (pc := 54) (K := k0) (FI := FI_X7_device) (FV := FV_X7_device) (FL := fL0) (rt := rtI) (ft := 0) (by exact hd) ok_X7_device_54 k0_ok (FI_X7_device_ok E) (FV_X7_device_ok E) (fL0_ok E) (rtI_ok rfl)
def I_X7_device_34 : List AI := [(.aload_n 0, 1, [], 0), (.getfield 29, 3, [6, 4, 2, 358], 0), (.getfield 87, 3, [1, 1, 2, 321], 0), (.iload_n 1, 1, [], 0), (.invokevirtual 281, 3, [1, 22, 2, 0, 1196], 0), (.ifCond .ne 9, 3, [54], 0), (.aload_n 0, 1, [], 0), (.iconst 5, 1, [], 5), (.invokevirtual 54, 3, [1, 9, 2, 6, 403], 0), (.ireturn, 1, [], 0)]
theorem ok_X7_device_34 : vBL MT qLen qCh false q_X7_device.2.2.2.2.1 q_X7_device.2.2.2.2.2.1 q_X7_device.2.2.1 q_X7_device.1.cls q_X7_device.1.name q_X7_device.2.1 0 34 I_X7_device_34 = true := by decide +kernel
def p_X7_device_34 (a0 : Nat) (x1 : Int32) (x2 : Int32) (x3 : Int32) (h : AH) : Option (Int32 × AH) :=
  if (tg h a0).1 = 6 then (if (tg h (rR h a0 4)).1 = 1 then (if (tg h (rR h (rR h a0 4) 1)).1 = 0 then ((p_X1_isBacked (rR h (rR h a0 4) 1) x1 h).bind fun q105 =>
  if q105.1 = 0 then (if (tg q105.2 a0).1 = 6 then ((p_X7_refuse a0 ((5 : Int32)) q105.2).bind fun q109 =>
  some (q109.1, q109.2)) else none)
  else
  if (tg q105.2 a0).1 = 6 then ((p_X7_keep a0 q105.2).bind fun h106 =>
  if (tg h106 a0).1 = 6 then (if (tg h106 (rR h106 a0 4)).1 = 1 then ((p_X2_putPastWatching (rR h106 a0 4) x1 x2 x3 h106).bind fun q107 =>
  if (tg q107.2 a0).1 = 6 then ((p_X7_answer a0 q107.1 q107.2).bind fun q108 =>
  some (q108.1, q108.2)) else none) else none) else none) else none) else none) else none) else none
set_option maxRecDepth 100000 in
theorem e_X7_device_34 {l : Launch} {D : va_G} {dA : Nat → ClassId} {z : Nat} {sa : Nat → Nat} {Hz : Heap} (E : StrOK qLen qCh l D dA z sa Hz) {h0 fin : AH} {x : Int32}  : ∀ (a0 : Nat) (x1 : Int32) (x2 : Int32) (x3 : Int32) (h : AH), p_X7_device_34 a0 x1 x2 x3 h = some (x, fin) → GM l D dA z sa Hz q_X7_device h0 (some (.int x)) fin 34 [(0, .ref a0), (1, .int x1), (2, .int x2), (3, .int x3)] [] h := by
  intro a0 x1 x2 x3 h hd
  exact step E (is := I_X7_device_34) (pc := 34) (K := (kx 54 (fun la st h => gR la 0 fun a0 => gI la 1 fun x1 => gI la 2 fun x2 => gI la 3 fun x3 => sE st (p_X7_device_54 a0 x1 x2 x3 h)) k0)) (FI := FI_X7_device) (FV := FV_X7_device) (FL := fL0) (rt := rtI) (ft := 0) (by exact hd) ok_X7_device_34 (kx_ok (fun la st h e => by obtain ⟨a0, m_a0, e1⟩ := gR_inv e; obtain ⟨x1, m_x1, e2⟩ := gI_inv e1; obtain ⟨x2, m_x2, e3⟩ := gI_inv e2; obtain ⟨x3, m_x3, e4⟩ := gI_inv e3; obtain ⟨rfl, ez⟩ := sE_inv e4; exact gm_fewer (e_X7_device_54 E  a0 x1 x2 x3 h ez) (mem_cons m_a0 (mem_cons m_x1 (mem_cons m_x2 (mem_cons m_x3 mem_nil))))) k0_ok) (FI_X7_device_ok E) (FV_X7_device_ok E) (fL0_ok E) (rtI_ok rfl)
def I_X7_device_21 : List AI := [(.iload_n 3, 1, [], 0), (.invokestatic 268, 3, [1, 169, 1, 1140], 0), (.ifCond .ne 9, 3, [34], 0), (.aload_n 0, 1, [], 0), (.iconst 2, 1, [], 2), (.invokevirtual 54, 3, [1, 9, 2, 6, 403], 0), (.ireturn, 1, [], 0)]
theorem ok_X7_device_21 : vBL MT qLen qCh false q_X7_device.2.2.2.2.1 q_X7_device.2.2.2.2.2.1 q_X7_device.2.2.1 q_X7_device.1.cls q_X7_device.1.name q_X7_device.2.1 0 21 I_X7_device_21 = true := by decide +kernel
def p_X7_device_21 (a0 : Nat) (x1 : Int32) (x2 : Int32) (x3 : Int32) (h : AH) : Option (Int32 × AH) :=
  (p_X7_isWord x3 h).bind fun q110 =>
  if q110.1 = 0 then (if (tg q110.2 a0).1 = 6 then ((p_X7_refuse a0 ((2 : Int32)) q110.2).bind fun q116 =>
  some (q116.1, q116.2)) else none)
  else
  if (tg q110.2 a0).1 = 6 then (if (tg q110.2 (rR q110.2 a0 4)).1 = 1 then (if (tg q110.2 (rR q110.2 (rR q110.2 a0 4) 1)).1 = 0 then ((p_X1_isBacked (rR q110.2 (rR q110.2 a0 4) 1) x1 q110.2).bind fun q111 =>
  if q111.1 = 0 then (if (tg q111.2 a0).1 = 6 then ((p_X7_refuse a0 ((5 : Int32)) q111.2).bind fun q115 =>
  some (q115.1, q115.2)) else none)
  else
  if (tg q111.2 a0).1 = 6 then ((p_X7_keep a0 q111.2).bind fun h112 =>
  if (tg h112 a0).1 = 6 then (if (tg h112 (rR h112 a0 4)).1 = 1 then ((p_X2_putPastWatching (rR h112 a0 4) x1 x2 x3 h112).bind fun q113 =>
  if (tg q113.2 a0).1 = 6 then ((p_X7_answer a0 q113.1 q113.2).bind fun q114 =>
  some (q114.1, q114.2)) else none) else none) else none) else none) else none) else none) else none
set_option maxRecDepth 100000 in
theorem e_X7_device_21 {l : Launch} {D : va_G} {dA : Nat → ClassId} {z : Nat} {sa : Nat → Nat} {Hz : Heap} (E : StrOK qLen qCh l D dA z sa Hz) {h0 fin : AH} {x : Int32}  : ∀ (a0 : Nat) (x1 : Int32) (x2 : Int32) (x3 : Int32) (h : AH), p_X7_device_21 a0 x1 x2 x3 h = some (x, fin) → GM l D dA z sa Hz q_X7_device h0 (some (.int x)) fin 21 [(0, .ref a0), (1, .int x1), (2, .int x2), (3, .int x3)] [] h := by
  intro a0 x1 x2 x3 h hd
  exact step E (is := I_X7_device_21) (pc := 21) (K := (kx 34 (fun la st h => gR la 0 fun a0 => gI la 1 fun x1 => gI la 2 fun x2 => gI la 3 fun x3 => sE st (p_X7_device_34 a0 x1 x2 x3 h)) k0)) (FI := FI_X7_device) (FV := FV_X7_device) (FL := fL0) (rt := rtI) (ft := 0) (by exact hd) ok_X7_device_21 (kx_ok (fun la st h e => by obtain ⟨a0, m_a0, e1⟩ := gR_inv e; obtain ⟨x1, m_x1, e2⟩ := gI_inv e1; obtain ⟨x2, m_x2, e3⟩ := gI_inv e2; obtain ⟨x3, m_x3, e4⟩ := gI_inv e3; obtain ⟨rfl, ez⟩ := sE_inv e4; exact gm_fewer (e_X7_device_34 E  a0 x1 x2 x3 h ez) (mem_cons m_a0 (mem_cons m_x1 (mem_cons m_x2 (mem_cons m_x3 mem_nil))))) k0_ok) (FI_X7_device_ok E) (FV_X7_device_ok E) (fL0_ok E) (rtI_ok rfl)
def I_X7_device_0 : List AI := [(.aload_n 0, 1, [], 0), (.iload_n 1, 1, [], 0), (.invokevirtual 80, 3, [1, 54, 2, 6, 649], 0), (.ifCond .eq 10, 3, [15], 0), (.iload_n 2, 1, [], 0), (.invokestatic 84, 3, [1, 55, 1, 653], 0), (.ifCond .ne 9, 3, [21], 0)]
theorem ok_X7_device_0 : vBL MT qLen qCh false q_X7_device.2.2.2.2.1 q_X7_device.2.2.2.2.2.1 q_X7_device.2.2.1 q_X7_device.1.cls q_X7_device.1.name q_X7_device.2.1 15 0 I_X7_device_0 = true := by decide +kernel
def p_X7_device (a0 : Nat) (x1 : Int32) (x2 : Int32) (x3 : Int32) (h : AH) : Option (Int32 × AH) :=
  if (tg h a0).1 = 6 then ((p_X7_isFrame a0 x1 h).bind fun q117 =>
  if q117.1 = 0 then (p_X7_device_15 a0 q117.2)
  else
  (p_X7_isPlace x2 q117.2).bind fun q118 =>
  if q118.1 = 0 then (p_X7_device_15 a0 q118.2)
  else
  (p_X7_isWord x3 q118.2).bind fun q119 =>
  if q119.1 = 0 then (if (tg q119.2 a0).1 = 6 then ((p_X7_refuse a0 ((2 : Int32)) q119.2).bind fun q125 =>
  some (q125.1, q125.2)) else none)
  else
  if (tg q119.2 a0).1 = 6 then (if (tg q119.2 (rR q119.2 a0 4)).1 = 1 then (if (tg q119.2 (rR q119.2 (rR q119.2 a0 4) 1)).1 = 0 then ((p_X1_isBacked (rR q119.2 (rR q119.2 a0 4) 1) x1 q119.2).bind fun q120 =>
  if q120.1 = 0 then (if (tg q120.2 a0).1 = 6 then ((p_X7_refuse a0 ((5 : Int32)) q120.2).bind fun q124 =>
  some (q124.1, q124.2)) else none)
  else
  if (tg q120.2 a0).1 = 6 then ((p_X7_keep a0 q120.2).bind fun h121 =>
  if (tg h121 a0).1 = 6 then (if (tg h121 (rR h121 a0 4)).1 = 1 then ((p_X2_putPastWatching (rR h121 a0 4) x1 x2 x3 h121).bind fun q122 =>
  if (tg q122.2 a0).1 = 6 then ((p_X7_answer a0 q122.1 q122.2).bind fun q123 =>
  some (q123.1, q123.2)) else none) else none) else none) else none) else none) else none) else none) else none
set_option maxRecDepth 100000 in
theorem e_X7_device_0 {l : Launch} {D : va_G} {dA : Nat → ClassId} {z : Nat} {sa : Nat → Nat} {Hz : Heap} (E : StrOK qLen qCh l D dA z sa Hz) {h0 fin : AH} {x : Int32}  : ∀ (a0 : Nat) (x1 : Int32) (x2 : Int32) (x3 : Int32) (h : AH), p_X7_device a0 x1 x2 x3 h = some (x, fin) → GM l D dA z sa Hz q_X7_device h0 (some (.int x)) fin 0 [(0, .ref a0), (1, .int x1), (2, .int x2), (3, .int x3)] [] h := by
  intro a0 x1 x2 x3 h hd
  exact step E (is := I_X7_device_0) (pc := 0) (K := (kx 15 (fun la st h => gR la 0 fun a0 => sE st (p_X7_device_15 a0 h)) (kx 21 (fun la st h => gR la 0 fun a0 => gI la 1 fun x1 => gI la 2 fun x2 => gI la 3 fun x3 => sE st (p_X7_device_21 a0 x1 x2 x3 h)) k0))) (FI := FI_X7_device) (FV := FV_X7_device) (FL := fL0) (rt := rtI) (ft := 15) (by exact hd) ok_X7_device_0 (kx_ok (fun la st h e => by obtain ⟨a0, m_a0, e1⟩ := gR_inv e; obtain ⟨rfl, ez⟩ := sE_inv e1; exact gm_fewer (e_X7_device_15 E  a0 h ez) (mem_cons m_a0 mem_nil)) (kx_ok (fun la st h e => by obtain ⟨a0, m_a0, e1⟩ := gR_inv e; obtain ⟨x1, m_x1, e2⟩ := gI_inv e1; obtain ⟨x2, m_x2, e3⟩ := gI_inv e2; obtain ⟨x3, m_x3, e4⟩ := gI_inv e3; obtain ⟨rfl, ez⟩ := sE_inv e4; exact gm_fewer (e_X7_device_21 E  a0 x1 x2 x3 h ez) (mem_cons m_a0 (mem_cons m_x1 (mem_cons m_x2 (mem_cons m_x3 mem_nil))))) k0_ok)) (FI_X7_device_ok E) (FV_X7_device_ok E) (fL0_ok E) (rtI_ok rfl)
theorem c_X7_device {l : Launch} {D : va_G} {dA : Nat → ClassId} {z : Nat} {sa : Nat → Nat} {Hz : Heap} (E : StrOK qLen qCh l D dA z sa Hz) {a0 : Nat} {x1 : Int32} {x2 : Int32} {x3 : Int32} {h fin : AH} {x : Int32} (hd : p_X7_device a0 x1 x2 x3 h = some (x, fin)) : CalOK l D dA z sa Hz q_X7_device [.ref a0, .int x1, .int x2, .int x3] h (some (.int x)) fin := calOf (by decide +kernel) (Nat.le_of_ble_eq_true rfl) (e_X7_device_0 E a0 x1 x2 x3 h hd)
def I_X1_takeAway_0 : List AI := [(.aload_n 0, 1, [], 0), (.getfield 15, 3, [0, 1, 2, 190], 0), (.iload_n 1, 1, [], 0), (.bipush 15, 2, [], 15), (.iand, 1, [], 0), (.bipush (-2), 2, [], (-2)), (.iastore, 1, [], 0), (.return_, 1, [], 0)]
theorem ok_X1_takeAway_0 : vBL MT qLen qCh false q_X1_takeAway.2.2.2.2.1 q_X1_takeAway.2.2.2.2.2.1 q_X1_takeAway.2.2.1 q_X1_takeAway.1.cls q_X1_takeAway.1.name q_X1_takeAway.2.1 0 0 I_X1_takeAway_0 = true := by decide +kernel
def p_X1_takeAway (a0 : Nat) (x1 : Int32) (h : AH) : Option (AH) :=
  if (tg h a0).1 = 0 then (if inB h (rR h a0 1) 100 (x1 &&& ((15 : Int32))) then (let h101 := wI h (rR h a0 1) (x1 &&& ((15 : Int32))).toNatClampNeg ((-2 : Int32))
  some h101) else none) else none
set_option maxRecDepth 100000 in
theorem e_X1_takeAway_0 {l : Launch} {D : va_G} {dA : Nat → ClassId} {z : Nat} {sa : Nat → Nat} {Hz : Heap} (E : StrOK qLen qCh l D dA z sa Hz) {h0 fin : AH}  : ∀ (a0 : Nat) (x1 : Int32) (h : AH), p_X1_takeAway a0 x1 h = some fin → GM l D dA z sa Hz q_X1_takeAway h0 none fin 0 [(0, .ref a0), (1, .int x1)] [] h := by
  intro a0 x1 h hd
  exact step E (is := I_X1_takeAway_0) (pc := 0) (K := k0) (FI := fI0) (FV := fV0) (FL := fL0) (rt := rtV) (ft := 0) (by exact hd) ok_X1_takeAway_0 k0_ok (fI0_ok E) (fV0_ok E) (fL0_ok E) (rtV_ok rfl)
theorem c_X1_takeAway {l : Launch} {D : va_G} {dA : Nat → ClassId} {z : Nat} {sa : Nat → Nat} {Hz : Heap} (E : StrOK qLen qCh l D dA z sa Hz) {a0 : Nat} {x1 : Int32} {h fin : AH} (hd : p_X1_takeAway a0 x1 h = some fin) : CalOK l D dA z sa Hz q_X1_takeAway [.ref a0, .int x1] h none fin := calOf (by decide +kernel) (Nat.le_of_ble_eq_true rfl) (e_X1_takeAway_0 E a0 x1 h hd)
def FI_X3_removeMaps : Nat → List Value → AH → Option (Int32 × AH) := (cx 111 (fun As h => sR As fun a0 As => sI As fun x1 As => sI As fun x2 As => sE As (p_X3_isMap a0 x1 x2 h)) fI0)
theorem FI_X3_removeMaps_ok {l : Launch} {D : va_G} {dA : Nat → ClassId} {z : Nat} {sa : Nat → Nat} {Hz : Heap} (E : StrOK qLen qCh l D dA z sa Hz) : ∀ mi As h x h', FI_X3_removeMaps mi As h = some (x, h') → CalOK l D dA z sa Hz (MT mi) As h (some (.int x)) h' := (cxI_ok (fun As h x h2 e => by obtain ⟨_, _, rfl, e0⟩ := sR_inv e; obtain ⟨_, _, rfl, e1⟩ := sI_inv e0; obtain ⟨_, _, rfl, e2⟩ := sI_inv e1; obtain ⟨rfl, ez⟩ := sE_inv e2; exact c_X3_isMap E ez) (fI0_ok E))
def I_X3_removeMaps_36 : List AI := [(.iload_n 2, 1, [], 0), (.ireturn, 1, [], 0)]
theorem ok_X3_removeMaps_36 : vBL MT qLen qCh false q_X3_removeMaps.2.2.2.2.1 q_X3_removeMaps.2.2.2.2.2.1 q_X3_removeMaps.2.2.1 q_X3_removeMaps.1.cls q_X3_removeMaps.1.name q_X3_removeMaps.2.1 0 36 I_X3_removeMaps_36 = true := by decide +kernel
def p_X3_removeMaps_36 (x2 : Int32) (h : AH) : Option (Int32 × AH) :=
  some (x2, h)
set_option maxRecDepth 100000 in
theorem e_X3_removeMaps_36 {l : Launch} {D : va_G} {dA : Nat → ClassId} {z : Nat} {sa : Nat → Nat} {Hz : Heap} (E : StrOK qLen qCh l D dA z sa Hz) {h0 fin : AH} {x : Int32}  : ∀ (x2 : Int32) (h : AH), p_X3_removeMaps_36 x2 h = some (x, fin) → GM l D dA z sa Hz q_X3_removeMaps h0 (some (.int x)) fin 36 [(2, .int x2)] [] h := by
  intro x2 h hd
  exact step E (is := I_X3_removeMaps_36) (pc := 36) (K := k0) (FI := FI_X3_removeMaps) (FV := fV0) (FL := fL0) (rt := rtI) (ft := 0) (by exact hd) ok_X3_removeMaps_36 k0_ok (FI_X3_removeMaps_ok E) (fV0_ok E) (fL0_ok E) (rtI_ok rfl)
def I_X3_removeMaps_30 : List AI := [(.iinc 3 1, 3, [], 1), (.goto (-29), 3, [4], 0)]
theorem ok_X3_removeMaps_30 : vBL MT qLen qCh false q_X3_removeMaps.2.2.2.2.1 q_X3_removeMaps.2.2.2.2.2.1 q_X3_removeMaps.2.2.1 q_X3_removeMaps.1.cls q_X3_removeMaps.1.name q_X3_removeMaps.2.1 0 30 I_X3_removeMaps_30 = true := by decide +kernel
def p_X3_removeMaps_30 (k4 : Nat → Int32 → Int32 → Int32 → AH → Option (Int32 × AH)) (a0 : Nat) (x1 : Int32) (x2 : Int32) (x3 : Int32) (h : AH) : Option (Int32 × AH) :=
  k4 a0 x1 x2 (x3 + (1 : Int32)) h
set_option maxRecDepth 100000 in
theorem e_X3_removeMaps_30 {l : Launch} {D : va_G} {dA : Nat → ClassId} {z : Nat} {sa : Nat → Nat} {Hz : Heap} (E : StrOK qLen qCh l D dA z sa Hz) {h0 fin : AH} {x : Int32}  {k4 : Nat → Int32 → Int32 → Int32 → AH → Option (Int32 × AH)} (hk4 : ∀ (a0 : Nat) (x1 : Int32) (x2 : Int32) (x3 : Int32) (h : AH), k4 a0 x1 x2 x3 h = some (x, fin) → GM l D dA z sa Hz q_X3_removeMaps h0 (some (.int x)) fin 4 [(0, .ref a0), (1, .int x1), (2, .int x2), (3, .int x3)] [] h) : ∀ (a0 : Nat) (x1 : Int32) (x2 : Int32) (x3 : Int32) (h : AH), p_X3_removeMaps_30 k4 a0 x1 x2 x3 h = some (x, fin) → GM l D dA z sa Hz q_X3_removeMaps h0 (some (.int x)) fin 30 [(0, .ref a0), (1, .int x1), (2, .int x2), (3, .int x3)] [] h := by
  intro a0 x1 x2 x3 h hd
  exact step E (is := I_X3_removeMaps_30) (pc := 30) (K := (kx 4 (fun la st h => gR la 0 fun a0 => gI la 1 fun x1 => gI la 2 fun x2 => gI la 3 fun x3 => sE st (k4 a0 x1 x2 x3 h)) k0)) (FI := FI_X3_removeMaps) (FV := fV0) (FL := fL0) (rt := rtI) (ft := 0) (by exact hd) ok_X3_removeMaps_30 (kx_ok (fun la st h e => by obtain ⟨a0, m_a0, e1⟩ := gR_inv e; obtain ⟨x1, m_x1, e2⟩ := gI_inv e1; obtain ⟨x2, m_x2, e3⟩ := gI_inv e2; obtain ⟨x3, m_x3, e4⟩ := gI_inv e3; obtain ⟨rfl, ez⟩ := sE_inv e4; exact gm_fewer (hk4 a0 x1 x2 x3 h ez) (mem_cons m_a0 (mem_cons m_x1 (mem_cons m_x2 (mem_cons m_x3 mem_nil))))) k0_ok) (FI_X3_removeMaps_ok E) (fV0_ok E) (fL0_ok E) (rtI_ok rfl)
def I_X3_removeMaps_4 : List AI := [(.iload_n 3, 1, [], 0), (.bipush 64, 2, [], 64), (.if_icmp .ge 29, 3, [36], 0), (.aload_n 0, 1, [], 0), (.iload_n 3, 1, [], 0), (.iload_n 1, 1, [], 0), (.invokevirtual 66, 3, [1, 111, 3, 2, 890], 0), (.ifCond .eq 14, 3, [30], 0), (.aload_n 0, 1, [], 0), (.getfield 21, 3, [2, 3, 2, 288], 0), (.iload_n 3, 1, [], 0), (.bipush (-2), 2, [], (-2)), (.iastore, 1, [], 0), (.iinc 2 1, 3, [], 1)]
theorem ok_X3_removeMaps_4 : vBL MT qLen qCh false q_X3_removeMaps.2.2.2.2.1 q_X3_removeMaps.2.2.2.2.2.1 q_X3_removeMaps.2.2.1 q_X3_removeMaps.1.cls q_X3_removeMaps.1.name q_X3_removeMaps.2.1 30 4 I_X3_removeMaps_4 = true := by decide +kernel
def p_X3_removeMaps_4 : Nat → Nat → Int32 → Int32 → Int32 → AH → Option (Int32 × AH)
  | 0, _, _, _, _, _ => none
  | n + 1, a0, x1, x2, x3, h => if x3 < ((64 : Int32)) then (if (tg h a0).1 = 2 then ((p_X3_isMap a0 x3 x1 h).bind fun q101 =>
    if q101.1 = 0 then (p_X3_removeMaps_30 (p_X3_removeMaps_4 n) a0 x1 x2 x3 q101.2)
    else
    if (tg q101.2 a0).1 = 2 then (if inB q101.2 (rR q101.2 a0 3) 100 x3 then (let h102 := wI q101.2 (rR q101.2 a0 3) x3.toNatClampNeg ((-2 : Int32))
    p_X3_removeMaps_30 (p_X3_removeMaps_4 n) a0 x1 (x2 + (1 : Int32)) x3 h102) else none) else none) else none)
    else
    some (x2, h)
set_option maxRecDepth 100000 in
theorem e_X3_removeMaps_4 {l : Launch} {D : va_G} {dA : Nat → ClassId} {z : Nat} {sa : Nat → Nat} {Hz : Heap} (E : StrOK qLen qCh l D dA z sa Hz) {h0 fin : AH} {x : Int32}  : ∀ (n : Nat) (a0 : Nat) (x1 : Int32) (x2 : Int32) (x3 : Int32) (h : AH), p_X3_removeMaps_4 n a0 x1 x2 x3 h = some (x, fin) → GM l D dA z sa Hz q_X3_removeMaps h0 (some (.int x)) fin 4 [(0, .ref a0), (1, .int x1), (2, .int x2), (3, .int x3)] [] h := by
  intro n
  induction n with
  | zero => intro a0 x1 x2 x3 h hd; exact nomatch hd
  | succ n ih =>
    intro a0 x1 x2 x3 h hd
    exact step E (is := I_X3_removeMaps_4) (pc := 4) (K := (kx 36 (fun la st h => gI la 2 fun x2 => sE st (p_X3_removeMaps_36 x2 h)) (kx 30 (fun la st h => gR la 0 fun a0 => gI la 1 fun x1 => gI la 2 fun x2 => gI la 3 fun x3 => sE st (p_X3_removeMaps_30 (p_X3_removeMaps_4 n) a0 x1 x2 x3 h)) k0))) (FI := FI_X3_removeMaps) (FV := fV0) (FL := fL0) (rt := rtI) (ft := 30) (by exact hd) ok_X3_removeMaps_4 (kx_ok (fun la st h e => by obtain ⟨x2, m_x2, e1⟩ := gI_inv e; obtain ⟨rfl, ez⟩ := sE_inv e1; exact gm_fewer (e_X3_removeMaps_36 E  x2 h ez) (mem_cons m_x2 mem_nil)) (kx_ok (fun la st h e => by obtain ⟨a0, m_a0, e1⟩ := gR_inv e; obtain ⟨x1, m_x1, e2⟩ := gI_inv e1; obtain ⟨x2, m_x2, e3⟩ := gI_inv e2; obtain ⟨x3, m_x3, e4⟩ := gI_inv e3; obtain ⟨rfl, ez⟩ := sE_inv e4; exact gm_fewer (e_X3_removeMaps_30 E ih a0 x1 x2 x3 h ez) (mem_cons m_a0 (mem_cons m_x1 (mem_cons m_x2 (mem_cons m_x3 mem_nil))))) k0_ok)) (FI_X3_removeMaps_ok E) (fV0_ok E) (fL0_ok E) (rtI_ok rfl)
def I_X3_removeMaps_0 : List AI := [(.iconst 0, 1, [], 0), (.istore_n 2, 1, [], 0), (.iconst 0, 1, [], 0), (.istore_n 3, 1, [], 0)]
theorem ok_X3_removeMaps_0 : vBL MT qLen qCh false q_X3_removeMaps.2.2.2.2.1 q_X3_removeMaps.2.2.2.2.2.1 q_X3_removeMaps.2.2.1 q_X3_removeMaps.1.cls q_X3_removeMaps.1.name q_X3_removeMaps.2.1 4 0 I_X3_removeMaps_0 = true := by decide +kernel
def p_X3_removeMaps (a0 : Nat) (x1 : Int32) (h : AH) : Option (Int32 × AH) :=
  p_X3_removeMaps_4 FU a0 x1 ((0 : Int32)) ((0 : Int32)) h
set_option maxRecDepth 100000 in
theorem e_X3_removeMaps_0 {l : Launch} {D : va_G} {dA : Nat → ClassId} {z : Nat} {sa : Nat → Nat} {Hz : Heap} (E : StrOK qLen qCh l D dA z sa Hz) {h0 fin : AH} {x : Int32}  : ∀ (a0 : Nat) (x1 : Int32) (h : AH), p_X3_removeMaps a0 x1 h = some (x, fin) → GM l D dA z sa Hz q_X3_removeMaps h0 (some (.int x)) fin 0 [(0, .ref a0), (1, .int x1)] [] h := by
  intro a0 x1 h hd
  exact step E (is := I_X3_removeMaps_0) (pc := 0) (K := (kx 4 (fun la st h => gR la 0 fun a0 => gI la 1 fun x1 => gI la 2 fun x2 => gI la 3 fun x3 => sE st (p_X3_removeMaps_4 FU a0 x1 x2 x3 h)) k0)) (FI := FI_X3_removeMaps) (FV := fV0) (FL := fL0) (rt := rtI) (ft := 4) (by exact hd) ok_X3_removeMaps_0 (kx_ok (fun la st h e => by obtain ⟨a0, m_a0, e1⟩ := gR_inv e; obtain ⟨x1, m_x1, e2⟩ := gI_inv e1; obtain ⟨x2, m_x2, e3⟩ := gI_inv e2; obtain ⟨x3, m_x3, e4⟩ := gI_inv e3; obtain ⟨rfl, ez⟩ := sE_inv e4; exact gm_fewer (e_X3_removeMaps_4 E  FU a0 x1 x2 x3 h ez) (mem_cons m_a0 (mem_cons m_x1 (mem_cons m_x2 (mem_cons m_x3 mem_nil))))) k0_ok) (FI_X3_removeMaps_ok E) (fV0_ok E) (fL0_ok E) (rtI_ok rfl)
theorem c_X3_removeMaps {l : Launch} {D : va_G} {dA : Nat → ClassId} {z : Nat} {sa : Nat → Nat} {Hz : Heap} (E : StrOK qLen qCh l D dA z sa Hz) {a0 : Nat} {x1 : Int32} {h fin : AH} {x : Int32} (hd : p_X3_removeMaps a0 x1 h = some (x, fin)) : CalOK l D dA z sa Hz q_X3_removeMaps [.ref a0, .int x1] h (some (.int x)) fin := calOf (by decide +kernel) (Nat.le_of_ble_eq_true rfl) (e_X3_removeMaps_0 E a0 x1 h hd)
def FI_X7_unmap : Nat → List Value → AH → Option (Int32 × AH) := (cx 54 (fun As h => sR As fun a0 As => sI As fun x1 As => sE As (p_X7_isFrame a0 x1 h)) (cx 9 (fun As h => sR As fun a0 As => sI As fun x1 As => sE As (p_X7_refuse a0 x1 h)) (cx 22 (fun As h => sR As fun a0 As => sI As fun x1 As => sE As (p_X1_isBacked a0 x1 h)) (cx 185 (fun As h => sR As fun a0 As => sI As fun x1 As => sE As (p_X3_removeMaps a0 x1 h)) (cx 50 (fun As h => sR As fun a0 As => sI As fun x1 As => sE As (p_X7_answer a0 x1 h)) fI0)))))
theorem FI_X7_unmap_ok {l : Launch} {D : va_G} {dA : Nat → ClassId} {z : Nat} {sa : Nat → Nat} {Hz : Heap} (E : StrOK qLen qCh l D dA z sa Hz) : ∀ mi As h x h', FI_X7_unmap mi As h = some (x, h') → CalOK l D dA z sa Hz (MT mi) As h (some (.int x)) h' := (cxI_ok (fun As h x h2 e => by obtain ⟨_, _, rfl, e0⟩ := sR_inv e; obtain ⟨_, _, rfl, e1⟩ := sI_inv e0; obtain ⟨rfl, ez⟩ := sE_inv e1; exact c_X7_isFrame E ez) ((cxI_ok (fun As h x h2 e => by obtain ⟨_, _, rfl, e0⟩ := sR_inv e; obtain ⟨_, _, rfl, e1⟩ := sI_inv e0; obtain ⟨rfl, ez⟩ := sE_inv e1; exact c_X7_refuse E ez) ((cxI_ok (fun As h x h2 e => by obtain ⟨_, _, rfl, e0⟩ := sR_inv e; obtain ⟨_, _, rfl, e1⟩ := sI_inv e0; obtain ⟨rfl, ez⟩ := sE_inv e1; exact c_X1_isBacked E ez) ((cxI_ok (fun As h x h2 e => by obtain ⟨_, _, rfl, e0⟩ := sR_inv e; obtain ⟨_, _, rfl, e1⟩ := sI_inv e0; obtain ⟨rfl, ez⟩ := sE_inv e1; exact c_X3_removeMaps E ez) ((cxI_ok (fun As h x h2 e => by obtain ⟨_, _, rfl, e0⟩ := sR_inv e; obtain ⟨_, _, rfl, e1⟩ := sI_inv e0; obtain ⟨rfl, ez⟩ := sE_inv e1; exact c_X7_answer E ez) (fI0_ok E))))))))))
def FV_X7_unmap : Nat → List Value → AH → Option (AH) := (cx 167 (fun As h => sR As fun a0 As => sE As (p_X7_keep a0 h)) (cx 184 (fun As h => sR As fun a0 As => sI As fun x1 As => sE As (p_X1_takeAway a0 x1 h)) fV0))
theorem FV_X7_unmap_ok {l : Launch} {D : va_G} {dA : Nat → ClassId} {z : Nat} {sa : Nat → Nat} {Hz : Heap} (E : StrOK qLen qCh l D dA z sa Hz) : ∀ mi As h h', FV_X7_unmap mi As h = some h' → CalOK l D dA z sa Hz (MT mi) As h none h' := (cxV_ok (fun As h h2 e => by obtain ⟨_, _, rfl, e0⟩ := sR_inv e; obtain ⟨rfl, ez⟩ := sE_inv e0; exact c_X7_keep E ez) ((cxV_ok (fun As h h2 e => by obtain ⟨_, _, rfl, e0⟩ := sR_inv e; obtain ⟨_, _, rfl, e1⟩ := sI_inv e0; obtain ⟨rfl, ez⟩ := sE_inv e1; exact c_X1_takeAway E ez) (fV0_ok E))))
def I_X7_unmap_34 : List AI := [(.aload_n 0, 1, [], 0), (.invokevirtual 265, 3, [2, 167, 1, 6, 1131], 0), (.aload_n 0, 1, [], 0), (.getfield 29, 3, [6, 4, 2, 358], 0), (.getfield 87, 3, [1, 1, 2, 321], 0), (.iload_n 1, 1, [], 0), (.invokevirtual 288, 3, [2, 184, 2, 0, 1210], 0), (.aload_n 0, 1, [], 0), (.aload_n 0, 1, [], 0), (.getfield 29, 3, [6, 4, 2, 358], 0), (.getfield 165, 3, [1, 2, 2, 323], 0), (.iload_n 1, 1, [], 0), (.invokevirtual 291, 3, [1, 185, 2, 2, 1214], 0), (.invokevirtual 68, 3, [1, 50, 2, 6, 633], 0), (.ireturn, 1, [], 0)]
theorem ok_X7_unmap_34 : vBL MT qLen qCh false q_X7_unmap.2.2.2.2.1 q_X7_unmap.2.2.2.2.2.1 q_X7_unmap.2.2.1 q_X7_unmap.1.cls q_X7_unmap.1.name q_X7_unmap.2.1 0 34 I_X7_unmap_34 = true := by decide +kernel
def p_X7_unmap_34 (a0 : Nat) (x1 : Int32) (h : AH) : Option (Int32 × AH) :=
  if (tg h a0).1 = 6 then ((p_X7_keep a0 h).bind fun h101 =>
  if (tg h101 a0).1 = 6 then (if (tg h101 (rR h101 a0 4)).1 = 1 then (if (tg h101 (rR h101 (rR h101 a0 4) 1)).1 = 0 then ((p_X1_takeAway (rR h101 (rR h101 a0 4) 1) x1 h101).bind fun h102 =>
  if (tg h102 a0).1 = 6 then (if (tg h102 (rR h102 a0 4)).1 = 1 then (if (tg h102 (rR h102 (rR h102 a0 4) 2)).1 = 2 then ((p_X3_removeMaps (rR h102 (rR h102 a0 4) 2) x1 h102).bind fun q103 =>
  if (tg q103.2 a0).1 = 6 then ((p_X7_answer a0 q103.1 q103.2).bind fun q104 =>
  some (q104.1, q104.2)) else none) else none) else none) else none) else none) else none) else none) else none
set_option maxRecDepth 100000 in
theorem e_X7_unmap_34 {l : Launch} {D : va_G} {dA : Nat → ClassId} {z : Nat} {sa : Nat → Nat} {Hz : Heap} (E : StrOK qLen qCh l D dA z sa Hz) {h0 fin : AH} {x : Int32}  : ∀ (a0 : Nat) (x1 : Int32) (h : AH), p_X7_unmap_34 a0 x1 h = some (x, fin) → GM l D dA z sa Hz q_X7_unmap h0 (some (.int x)) fin 34 [(0, .ref a0), (1, .int x1)] [] h := by
  intro a0 x1 h hd
  exact step E (is := I_X7_unmap_34) (pc := 34) (K := k0) (FI := FI_X7_unmap) (FV := FV_X7_unmap) (FL := fL0) (rt := rtI) (ft := 0) (by exact hd) ok_X7_unmap_34 k0_ok (FI_X7_unmap_ok E) (FV_X7_unmap_ok E) (fL0_ok E) (rtI_ok rfl)
def I_X7_unmap_14 : List AI := [(.aload_n 0, 1, [], 0), (.getfield 29, 3, [6, 4, 2, 358], 0), (.getfield 87, 3, [1, 1, 2, 321], 0), (.iload_n 1, 1, [], 0), (.invokevirtual 281, 3, [1, 22, 2, 0, 1196], 0), (.ifCond .ne 9, 3, [34], 0), (.aload_n 0, 1, [], 0), (.iconst 5, 1, [], 5), (.invokevirtual 54, 3, [1, 9, 2, 6, 403], 0), (.ireturn, 1, [], 0)]
theorem ok_X7_unmap_14 : vBL MT qLen qCh false q_X7_unmap.2.2.2.2.1 q_X7_unmap.2.2.2.2.2.1 q_X7_unmap.2.2.1 q_X7_unmap.1.cls q_X7_unmap.1.name q_X7_unmap.2.1 0 14 I_X7_unmap_14 = true := by decide +kernel
def p_X7_unmap_14 (a0 : Nat) (x1 : Int32) (h : AH) : Option (Int32 × AH) :=
  if (tg h a0).1 = 6 then (if (tg h (rR h a0 4)).1 = 1 then (if (tg h (rR h (rR h a0 4) 1)).1 = 0 then ((p_X1_isBacked (rR h (rR h a0 4) 1) x1 h).bind fun q105 =>
  if q105.1 = 0 then (if (tg q105.2 a0).1 = 6 then ((p_X7_refuse a0 ((5 : Int32)) q105.2).bind fun q110 =>
  some (q110.1, q110.2)) else none)
  else
  if (tg q105.2 a0).1 = 6 then ((p_X7_keep a0 q105.2).bind fun h106 =>
  if (tg h106 a0).1 = 6 then (if (tg h106 (rR h106 a0 4)).1 = 1 then (if (tg h106 (rR h106 (rR h106 a0 4) 1)).1 = 0 then ((p_X1_takeAway (rR h106 (rR h106 a0 4) 1) x1 h106).bind fun h107 =>
  if (tg h107 a0).1 = 6 then (if (tg h107 (rR h107 a0 4)).1 = 1 then (if (tg h107 (rR h107 (rR h107 a0 4) 2)).1 = 2 then ((p_X3_removeMaps (rR h107 (rR h107 a0 4) 2) x1 h107).bind fun q108 =>
  if (tg q108.2 a0).1 = 6 then ((p_X7_answer a0 q108.1 q108.2).bind fun q109 =>
  some (q109.1, q109.2)) else none) else none) else none) else none) else none) else none) else none) else none) else none) else none) else none
set_option maxRecDepth 100000 in
theorem e_X7_unmap_14 {l : Launch} {D : va_G} {dA : Nat → ClassId} {z : Nat} {sa : Nat → Nat} {Hz : Heap} (E : StrOK qLen qCh l D dA z sa Hz) {h0 fin : AH} {x : Int32}  : ∀ (a0 : Nat) (x1 : Int32) (h : AH), p_X7_unmap_14 a0 x1 h = some (x, fin) → GM l D dA z sa Hz q_X7_unmap h0 (some (.int x)) fin 14 [(0, .ref a0), (1, .int x1)] [] h := by
  intro a0 x1 h hd
  exact step E (is := I_X7_unmap_14) (pc := 14) (K := (kx 34 (fun la st h => gR la 0 fun a0 => gI la 1 fun x1 => sE st (p_X7_unmap_34 a0 x1 h)) k0)) (FI := FI_X7_unmap) (FV := FV_X7_unmap) (FL := fL0) (rt := rtI) (ft := 0) (by exact hd) ok_X7_unmap_14 (kx_ok (fun la st h e => by obtain ⟨a0, m_a0, e1⟩ := gR_inv e; obtain ⟨x1, m_x1, e2⟩ := gI_inv e1; obtain ⟨rfl, ez⟩ := sE_inv e2; exact gm_fewer (e_X7_unmap_34 E  a0 x1 h ez) (mem_cons m_a0 (mem_cons m_x1 mem_nil))) k0_ok) (FI_X7_unmap_ok E) (FV_X7_unmap_ok E) (fL0_ok E) (rtI_ok rfl)
def I_X7_unmap_0 : List AI := [(.aload_n 0, 1, [], 0), (.iload_n 1, 1, [], 0), (.invokevirtual 80, 3, [1, 54, 2, 6, 649], 0), (.ifCond .ne 9, 3, [14], 0), (.aload_n 0, 1, [], 0), (.iconst 1, 1, [], 1), (.invokevirtual 54, 3, [1, 9, 2, 6, 403], 0), (.ireturn, 1, [], 0)]
theorem ok_X7_unmap_0 : vBL MT qLen qCh false q_X7_unmap.2.2.2.2.1 q_X7_unmap.2.2.2.2.2.1 q_X7_unmap.2.2.1 q_X7_unmap.1.cls q_X7_unmap.1.name q_X7_unmap.2.1 0 0 I_X7_unmap_0 = true := by decide +kernel
def p_X7_unmap (a0 : Nat) (x1 : Int32) (h : AH) : Option (Int32 × AH) :=
  if (tg h a0).1 = 6 then ((p_X7_isFrame a0 x1 h).bind fun q111 =>
  if q111.1 = 0 then (if (tg q111.2 a0).1 = 6 then ((p_X7_refuse a0 ((1 : Int32)) q111.2).bind fun q118 =>
  some (q118.1, q118.2)) else none)
  else
  if (tg q111.2 a0).1 = 6 then (if (tg q111.2 (rR q111.2 a0 4)).1 = 1 then (if (tg q111.2 (rR q111.2 (rR q111.2 a0 4) 1)).1 = 0 then ((p_X1_isBacked (rR q111.2 (rR q111.2 a0 4) 1) x1 q111.2).bind fun q112 =>
  if q112.1 = 0 then (if (tg q112.2 a0).1 = 6 then ((p_X7_refuse a0 ((5 : Int32)) q112.2).bind fun q117 =>
  some (q117.1, q117.2)) else none)
  else
  if (tg q112.2 a0).1 = 6 then ((p_X7_keep a0 q112.2).bind fun h113 =>
  if (tg h113 a0).1 = 6 then (if (tg h113 (rR h113 a0 4)).1 = 1 then (if (tg h113 (rR h113 (rR h113 a0 4) 1)).1 = 0 then ((p_X1_takeAway (rR h113 (rR h113 a0 4) 1) x1 h113).bind fun h114 =>
  if (tg h114 a0).1 = 6 then (if (tg h114 (rR h114 a0 4)).1 = 1 then (if (tg h114 (rR h114 (rR h114 a0 4) 2)).1 = 2 then ((p_X3_removeMaps (rR h114 (rR h114 a0 4) 2) x1 h114).bind fun q115 =>
  if (tg q115.2 a0).1 = 6 then ((p_X7_answer a0 q115.1 q115.2).bind fun q116 =>
  some (q116.1, q116.2)) else none) else none) else none) else none) else none) else none) else none) else none) else none) else none) else none) else none
set_option maxRecDepth 100000 in
theorem e_X7_unmap_0 {l : Launch} {D : va_G} {dA : Nat → ClassId} {z : Nat} {sa : Nat → Nat} {Hz : Heap} (E : StrOK qLen qCh l D dA z sa Hz) {h0 fin : AH} {x : Int32}  : ∀ (a0 : Nat) (x1 : Int32) (h : AH), p_X7_unmap a0 x1 h = some (x, fin) → GM l D dA z sa Hz q_X7_unmap h0 (some (.int x)) fin 0 [(0, .ref a0), (1, .int x1)] [] h := by
  intro a0 x1 h hd
  exact step E (is := I_X7_unmap_0) (pc := 0) (K := (kx 14 (fun la st h => gR la 0 fun a0 => gI la 1 fun x1 => sE st (p_X7_unmap_14 a0 x1 h)) k0)) (FI := FI_X7_unmap) (FV := FV_X7_unmap) (FL := fL0) (rt := rtI) (ft := 0) (by exact hd) ok_X7_unmap_0 (kx_ok (fun la st h e => by obtain ⟨a0, m_a0, e1⟩ := gR_inv e; obtain ⟨x1, m_x1, e2⟩ := gI_inv e1; obtain ⟨rfl, ez⟩ := sE_inv e2; exact gm_fewer (e_X7_unmap_14 E  a0 x1 h ez) (mem_cons m_a0 (mem_cons m_x1 mem_nil))) k0_ok) (FI_X7_unmap_ok E) (FV_X7_unmap_ok E) (fL0_ok E) (rtI_ok rfl)
theorem c_X7_unmap {l : Launch} {D : va_G} {dA : Nat → ClassId} {z : Nat} {sa : Nat → Nat} {Hz : Heap} (E : StrOK qLen qCh l D dA z sa Hz) {a0 : Nat} {x1 : Int32} {h fin : AH} {x : Int32} (hd : p_X7_unmap a0 x1 h = some (x, fin)) : CalOK l D dA z sa Hz q_X7_unmap [.ref a0, .int x1] h (some (.int x)) fin := calOf (by decide +kernel) (Nat.le_of_ble_eq_true rfl) (e_X7_unmap_0 E a0 x1 h hd)
def I_X1_unmark_0 : List AI := [(.aload_n 0, 1, [], 0), (.dup, 1, [], 0), (.getfield 22, 3, [0, 3, 0, 192], 0), (.iconst 1, 1, [], 1), (.iload_n 1, 1, [], 0), (.ishl, 1, [], 0), (.iconst (-1), 1, [], (-1)), (.ixor, 1, [], 0), (.iand, 1, [], 0), (.putfield 22, 3, [0, 3, 0, 192], 0), (.return_, 1, [], 0)]
theorem ok_X1_unmark_0 : vBL MT qLen qCh false q_X1_unmark.2.2.2.2.1 q_X1_unmark.2.2.2.2.2.1 q_X1_unmark.2.2.1 q_X1_unmark.1.cls q_X1_unmark.1.name q_X1_unmark.2.1 0 0 I_X1_unmark_0 = true := by decide +kernel
def p_X1_unmark (a0 : Nat) (x1 : Int32) (h : AH) : Option (AH) :=
  if (tg h a0).1 = 0 then (if (tg h a0).1 = 0 then (let h101 := wI h a0 3 ((rI h a0 3) &&& ((((1 : Int32)) <<< (x1 &&& 31)) ^^^ ((-1 : Int32))))
  some h101) else none) else none
set_option maxRecDepth 100000 in
theorem e_X1_unmark_0 {l : Launch} {D : va_G} {dA : Nat → ClassId} {z : Nat} {sa : Nat → Nat} {Hz : Heap} (E : StrOK qLen qCh l D dA z sa Hz) {h0 fin : AH}  : ∀ (a0 : Nat) (x1 : Int32) (h : AH), p_X1_unmark a0 x1 h = some fin → GM l D dA z sa Hz q_X1_unmark h0 none fin 0 [(0, .ref a0), (1, .int x1)] [] h := by
  intro a0 x1 h hd
  exact step E (is := I_X1_unmark_0) (pc := 0) (K := k0) (FI := fI0) (FV := fV0) (FL := fL0) (rt := rtV) (ft := 0) (by exact hd) ok_X1_unmark_0 k0_ok (fI0_ok E) (fV0_ok E) (fL0_ok E) (rtV_ok rfl)
theorem c_X1_unmark {l : Launch} {D : va_G} {dA : Nat → ClassId} {z : Nat} {sa : Nat → Nat} {Hz : Heap} (E : StrOK qLen qCh l D dA z sa Hz) {a0 : Nat} {x1 : Int32} {h fin : AH} (hd : p_X1_unmark a0 x1 h = some fin) : CalOK l D dA z sa Hz q_X1_unmark [.ref a0, .int x1] h none fin := calOf (by decide +kernel) (Nat.le_of_ble_eq_true rfl) (e_X1_unmark_0 E a0 x1 h hd)
def FI_X7_give : Nat → List Value → AH → Option (Int32 × AH) := (cx 54 (fun As h => sR As fun a0 As => sI As fun x1 As => sE As (p_X7_isFrame a0 x1 h)) (cx 121 (fun As h => sR As fun a0 As => sI As fun x1 As => sE As (p_X7_declines a0 x1 h)) (cx 22 (fun As h => sR As fun a0 As => sI As fun x1 As => sE As (p_X1_isBacked a0 x1 h)) (cx 23 (fun As h => sR As fun a0 As => sI As fun x1 As => sE As (p_X1_isTaken a0 x1 h)) (cx 122 (fun As h => sR As fun a0 As => sE As (p_X7_agrees a0 h)) fI0)))))
theorem FI_X7_give_ok {l : Launch} {D : va_G} {dA : Nat → ClassId} {z : Nat} {sa : Nat → Nat} {Hz : Heap} (E : StrOK qLen qCh l D dA z sa Hz) : ∀ mi As h x h', FI_X7_give mi As h = some (x, h') → CalOK l D dA z sa Hz (MT mi) As h (some (.int x)) h' := (cxI_ok (fun As h x h2 e => by obtain ⟨_, _, rfl, e0⟩ := sR_inv e; obtain ⟨_, _, rfl, e1⟩ := sI_inv e0; obtain ⟨rfl, ez⟩ := sE_inv e1; exact c_X7_isFrame E ez) ((cxI_ok (fun As h x h2 e => by obtain ⟨_, _, rfl, e0⟩ := sR_inv e; obtain ⟨_, _, rfl, e1⟩ := sI_inv e0; obtain ⟨rfl, ez⟩ := sE_inv e1; exact c_X7_declines E ez) ((cxI_ok (fun As h x h2 e => by obtain ⟨_, _, rfl, e0⟩ := sR_inv e; obtain ⟨_, _, rfl, e1⟩ := sI_inv e0; obtain ⟨rfl, ez⟩ := sE_inv e1; exact c_X1_isBacked E ez) ((cxI_ok (fun As h x h2 e => by obtain ⟨_, _, rfl, e0⟩ := sR_inv e; obtain ⟨_, _, rfl, e1⟩ := sI_inv e0; obtain ⟨rfl, ez⟩ := sE_inv e1; exact c_X1_isTaken E ez) ((cxI_ok (fun As h x h2 e => by obtain ⟨_, _, rfl, e0⟩ := sR_inv e; obtain ⟨rfl, ez⟩ := sE_inv e0; exact c_X7_agrees E ez) (fI0_ok E))))))))))
def FV_X7_give : Nat → List Value → AH → Option (AH) := (cx 167 (fun As h => sR As fun a0 As => sE As (p_X7_keep a0 h)) (cx 24 (fun As h => sR As fun a0 As => sI As fun x1 As => sI As fun x2 As => sI As fun x3 As => sE As (p_X1_backWith a0 x1 x2 x3 h)) (cx 187 (fun As h => sR As fun a0 As => sI As fun x1 As => sE As (p_X1_unmark a0 x1 h)) fV0)))
theorem FV_X7_give_ok {l : Launch} {D : va_G} {dA : Nat → ClassId} {z : Nat} {sa : Nat → Nat} {Hz : Heap} (E : StrOK qLen qCh l D dA z sa Hz) : ∀ mi As h h', FV_X7_give mi As h = some h' → CalOK l D dA z sa Hz (MT mi) As h none h' := (cxV_ok (fun As h h2 e => by obtain ⟨_, _, rfl, e0⟩ := sR_inv e; obtain ⟨rfl, ez⟩ := sE_inv e0; exact c_X7_keep E ez) ((cxV_ok (fun As h h2 e => by obtain ⟨_, _, rfl, e0⟩ := sR_inv e; obtain ⟨_, _, rfl, e1⟩ := sI_inv e0; obtain ⟨_, _, rfl, e2⟩ := sI_inv e1; obtain ⟨_, _, rfl, e3⟩ := sI_inv e2; obtain ⟨rfl, ez⟩ := sE_inv e3; exact c_X1_backWith E ez) ((cxV_ok (fun As h h2 e => by obtain ⟨_, _, rfl, e0⟩ := sR_inv e; obtain ⟨_, _, rfl, e1⟩ := sI_inv e0; obtain ⟨rfl, ez⟩ := sE_inv e1; exact c_X1_unmark E ez) (fV0_ok E))))))
def I_X7_give_24 : List AI := [(.aload_n 0, 1, [], 0), (.iconst 2, 1, [], 2), (.invokevirtual 294, 3, [1, 121, 2, 6, 930], 0), (.ireturn, 1, [], 0)]
theorem ok_X7_give_24 : vBL MT qLen qCh false q_X7_give.2.2.2.2.1 q_X7_give.2.2.2.2.2.1 q_X7_give.2.2.1 q_X7_give.1.cls q_X7_give.1.name q_X7_give.2.1 0 24 I_X7_give_24 = true := by decide +kernel
def p_X7_give_24 (a0 : Nat) (h : AH) : Option (Int32 × AH) :=
  if (tg h a0).1 = 6 then ((p_X7_declines a0 ((2 : Int32)) h).bind fun q101 =>
  if q101.1 &&& 1 = q101.1 then some (q101.1, q101.2) else none) else none
set_option maxRecDepth 100000 in
theorem e_X7_give_24 {l : Launch} {D : va_G} {dA : Nat → ClassId} {z : Nat} {sa : Nat → Nat} {Hz : Heap} (E : StrOK qLen qCh l D dA z sa Hz) {h0 fin : AH} {x : Int32}  : ∀ (a0 : Nat) (h : AH), p_X7_give_24 a0 h = some (x, fin) → GM l D dA z sa Hz q_X7_give h0 (some (.int x)) fin 24 [(0, .ref a0)] [] h := by
  intro a0 h hd
  exact step E (is := I_X7_give_24) (pc := 24) (K := k0) (FI := FI_X7_give) (FV := FV_X7_give) (FL := fL0) (rt := rtZ) (ft := 0) (by exact hd) ok_X7_give_24 k0_ok (FI_X7_give_ok E) (FV_X7_give_ok E) (fL0_ok E) (rtZ_ok rfl)
def I_X7_give_58 : List AI := [(.aload_n 0, 1, [], 0), (.iconst 5, 1, [], 5), (.invokevirtual 294, 3, [1, 121, 2, 6, 930], 0), (.ireturn, 1, [], 0)]
theorem ok_X7_give_58 : vBL MT qLen qCh false q_X7_give.2.2.2.2.1 q_X7_give.2.2.2.2.2.1 q_X7_give.2.2.1 q_X7_give.1.cls q_X7_give.1.name q_X7_give.2.1 0 58 I_X7_give_58 = true := by decide +kernel
def p_X7_give_58 (a0 : Nat) (h : AH) : Option (Int32 × AH) :=
  if (tg h a0).1 = 6 then ((p_X7_declines a0 ((5 : Int32)) h).bind fun q102 =>
  if q102.1 &&& 1 = q102.1 then some (q102.1, q102.2) else none) else none
set_option maxRecDepth 100000 in
theorem e_X7_give_58 {l : Launch} {D : va_G} {dA : Nat → ClassId} {z : Nat} {sa : Nat → Nat} {Hz : Heap} (E : StrOK qLen qCh l D dA z sa Hz) {h0 fin : AH} {x : Int32}  : ∀ (a0 : Nat) (h : AH), p_X7_give_58 a0 h = some (x, fin) → GM l D dA z sa Hz q_X7_give h0 (some (.int x)) fin 58 [(0, .ref a0)] [] h := by
  intro a0 h hd
  exact step E (is := I_X7_give_58) (pc := 58) (K := k0) (FI := FI_X7_give) (FV := FV_X7_give) (FL := fL0) (rt := rtZ) (ft := 0) (by exact hd) ok_X7_give_58 k0_ok (FI_X7_give_ok E) (FV_X7_give_ok E) (fL0_ok E) (rtZ_ok rfl)
def I_X7_give_64 : List AI := [(.aload_n 0, 1, [], 0), (.invokevirtual 265, 3, [2, 167, 1, 6, 1131], 0), (.aload_n 0, 1, [], 0), (.getfield 29, 3, [6, 4, 2, 358], 0), (.getfield 87, 3, [1, 1, 2, 321], 0), (.iload_n 1, 1, [], 0), (.iload_n 2, 1, [], 0), (.iload_n 3, 1, [], 0), (.invokevirtual 300, 3, [2, 24, 4, 0, 1223], 0), (.aload_n 0, 1, [], 0), (.getfield 29, 3, [6, 4, 2, 358], 0), (.getfield 87, 3, [1, 1, 2, 321], 0), (.iload_n 1, 1, [], 0), (.invokevirtual 304, 3, [2, 187, 2, 0, 1224], 0), (.aload_n 0, 1, [], 0), (.invokevirtual 307, 3, [1, 122, 1, 6, 934], 0), (.ireturn, 1, [], 0)]
theorem ok_X7_give_64 : vBL MT qLen qCh false q_X7_give.2.2.2.2.1 q_X7_give.2.2.2.2.2.1 q_X7_give.2.2.1 q_X7_give.1.cls q_X7_give.1.name q_X7_give.2.1 0 64 I_X7_give_64 = true := by decide +kernel
def p_X7_give_64 (a0 : Nat) (x1 : Int32) (x2 : Int32) (x3 : Int32) (h : AH) : Option (Int32 × AH) :=
  if (tg h a0).1 = 6 then ((p_X7_keep a0 h).bind fun h103 =>
  if (tg h103 a0).1 = 6 then (if (tg h103 (rR h103 a0 4)).1 = 1 then (if (tg h103 (rR h103 (rR h103 a0 4) 1)).1 = 0 then ((p_X1_backWith (rR h103 (rR h103 a0 4) 1) x1 x2 x3 h103).bind fun h104 =>
  if (tg h104 a0).1 = 6 then (if (tg h104 (rR h104 a0 4)).1 = 1 then (if (tg h104 (rR h104 (rR h104 a0 4) 1)).1 = 0 then ((p_X1_unmark (rR h104 (rR h104 a0 4) 1) x1 h104).bind fun h105 =>
  if (tg h105 a0).1 = 6 then ((p_X7_agrees a0 h105).bind fun q106 =>
  if q106.1 &&& 1 = q106.1 then some (q106.1, q106.2) else none) else none) else none) else none) else none) else none) else none) else none) else none
set_option maxRecDepth 100000 in
theorem e_X7_give_64 {l : Launch} {D : va_G} {dA : Nat → ClassId} {z : Nat} {sa : Nat → Nat} {Hz : Heap} (E : StrOK qLen qCh l D dA z sa Hz) {h0 fin : AH} {x : Int32}  : ∀ (a0 : Nat) (x1 : Int32) (x2 : Int32) (x3 : Int32) (h : AH), p_X7_give_64 a0 x1 x2 x3 h = some (x, fin) → GM l D dA z sa Hz q_X7_give h0 (some (.int x)) fin 64 [(0, .ref a0), (1, .int x1), (2, .int x2), (3, .int x3)] [] h := by
  intro a0 x1 x2 x3 h hd
  exact step E (is := I_X7_give_64) (pc := 64) (K := k0) (FI := FI_X7_give) (FV := FV_X7_give) (FL := fL0) (rt := rtZ) (ft := 0) (by exact hd) ok_X7_give_64 k0_ok (FI_X7_give_ok E) (FV_X7_give_ok E) (fL0_ok E) (rtZ_ok rfl)
def I_X7_give_30 : List AI := [(.aload_n 0, 1, [], 0), (.getfield 29, 3, [6, 4, 2, 358], 0), (.getfield 87, 3, [1, 1, 2, 321], 0), (.iload_n 1, 1, [], 0), (.invokevirtual 281, 3, [1, 22, 2, 0, 1196], 0), (.ifCond .ne 17, 3, [58], 0), (.aload_n 0, 1, [], 0), (.getfield 29, 3, [6, 4, 2, 358], 0), (.getfield 87, 3, [1, 1, 2, 321], 0), (.iload_n 2, 1, [], 0), (.invokevirtual 297, 3, [1, 23, 2, 0, 1222], 0), (.ifCond .eq 9, 3, [64], 0)]
theorem ok_X7_give_30 : vBL MT qLen qCh false q_X7_give.2.2.2.2.1 q_X7_give.2.2.2.2.2.1 q_X7_give.2.2.1 q_X7_give.1.cls q_X7_give.1.name q_X7_give.2.1 58 30 I_X7_give_30 = true := by decide +kernel
def p_X7_give_30 (a0 : Nat) (x1 : Int32) (x2 : Int32) (x3 : Int32) (h : AH) : Option (Int32 × AH) :=
  if (tg h a0).1 = 6 then (if (tg h (rR h a0 4)).1 = 1 then (if (tg h (rR h (rR h a0 4) 1)).1 = 0 then ((p_X1_isBacked (rR h (rR h a0 4) 1) x1 h).bind fun q107 =>
  if q107.1 = 0 then (if (tg q107.2 a0).1 = 6 then (if (tg q107.2 (rR q107.2 a0 4)).1 = 1 then (if (tg q107.2 (rR q107.2 (rR q107.2 a0 4) 1)).1 = 0 then ((p_X1_isTaken (rR q107.2 (rR q107.2 a0 4) 1) x2 q107.2).bind fun q108 =>
  if q108.1 = 0 then (if (tg q108.2 a0).1 = 6 then ((p_X7_keep a0 q108.2).bind fun h109 =>
  if (tg h109 a0).1 = 6 then (if (tg h109 (rR h109 a0 4)).1 = 1 then (if (tg h109 (rR h109 (rR h109 a0 4) 1)).1 = 0 then ((p_X1_backWith (rR h109 (rR h109 a0 4) 1) x1 x2 x3 h109).bind fun h110 =>
  if (tg h110 a0).1 = 6 then (if (tg h110 (rR h110 a0 4)).1 = 1 then (if (tg h110 (rR h110 (rR h110 a0 4) 1)).1 = 0 then ((p_X1_unmark (rR h110 (rR h110 a0 4) 1) x1 h110).bind fun h111 =>
  if (tg h111 a0).1 = 6 then ((p_X7_agrees a0 h111).bind fun q112 =>
  if q112.1 &&& 1 = q112.1 then some (q112.1, q112.2) else none) else none) else none) else none) else none) else none) else none) else none) else none)
  else
  p_X7_give_58 a0 q108.2) else none) else none) else none)
  else
  p_X7_give_58 a0 q107.2) else none) else none) else none
set_option maxRecDepth 100000 in
theorem e_X7_give_30 {l : Launch} {D : va_G} {dA : Nat → ClassId} {z : Nat} {sa : Nat → Nat} {Hz : Heap} (E : StrOK qLen qCh l D dA z sa Hz) {h0 fin : AH} {x : Int32}  : ∀ (a0 : Nat) (x1 : Int32) (x2 : Int32) (x3 : Int32) (h : AH), p_X7_give_30 a0 x1 x2 x3 h = some (x, fin) → GM l D dA z sa Hz q_X7_give h0 (some (.int x)) fin 30 [(0, .ref a0), (1, .int x1), (2, .int x2), (3, .int x3)] [] h := by
  intro a0 x1 x2 x3 h hd
  exact step E (is := I_X7_give_30) (pc := 30) (K := (kx 58 (fun la st h => gR la 0 fun a0 => sE st (p_X7_give_58 a0 h)) (kx 64 (fun la st h => gR la 0 fun a0 => gI la 1 fun x1 => gI la 2 fun x2 => gI la 3 fun x3 => sE st (p_X7_give_64 a0 x1 x2 x3 h)) k0))) (FI := FI_X7_give) (FV := FV_X7_give) (FL := fL0) (rt := rtZ) (ft := 58) (by exact hd) ok_X7_give_30 (kx_ok (fun la st h e => by obtain ⟨a0, m_a0, e1⟩ := gR_inv e; obtain ⟨rfl, ez⟩ := sE_inv e1; exact gm_fewer (e_X7_give_58 E  a0 h ez) (mem_cons m_a0 mem_nil)) (kx_ok (fun la st h e => by obtain ⟨a0, m_a0, e1⟩ := gR_inv e; obtain ⟨x1, m_x1, e2⟩ := gI_inv e1; obtain ⟨x2, m_x2, e3⟩ := gI_inv e2; obtain ⟨x3, m_x3, e4⟩ := gI_inv e3; obtain ⟨rfl, ez⟩ := sE_inv e4; exact gm_fewer (e_X7_give_64 E  a0 x1 x2 x3 h ez) (mem_cons m_a0 (mem_cons m_x1 (mem_cons m_x2 (mem_cons m_x3 mem_nil))))) k0_ok)) (FI_X7_give_ok E) (FV_X7_give_ok E) (fL0_ok E) (rtZ_ok rfl)
def I_X7_give_14 : List AI := [(.iload_n 2, 1, [], 0), (.ifCond .lt 9, 3, [24], 0), (.iload_n 2, 1, [], 0), (.bipush 32, 2, [], 32), (.if_icmp .lt 9, 3, [30], 0)]
theorem ok_X7_give_14 : vBL MT qLen qCh false q_X7_give.2.2.2.2.1 q_X7_give.2.2.2.2.2.1 q_X7_give.2.2.1 q_X7_give.1.cls q_X7_give.1.name q_X7_give.2.1 24 14 I_X7_give_14 = true := by decide +kernel
def p_X7_give_14 (a0 : Nat) (x1 : Int32) (x2 : Int32) (x3 : Int32) (h : AH) : Option (Int32 × AH) :=
  if x2 < 0 then (p_X7_give_24 a0 h)
  else
  if x2 < ((32 : Int32)) then (if (tg h a0).1 = 6 then (if (tg h (rR h a0 4)).1 = 1 then (if (tg h (rR h (rR h a0 4) 1)).1 = 0 then ((p_X1_isBacked (rR h (rR h a0 4) 1) x1 h).bind fun q113 =>
  if q113.1 = 0 then (if (tg q113.2 a0).1 = 6 then (if (tg q113.2 (rR q113.2 a0 4)).1 = 1 then (if (tg q113.2 (rR q113.2 (rR q113.2 a0 4) 1)).1 = 0 then ((p_X1_isTaken (rR q113.2 (rR q113.2 a0 4) 1) x2 q113.2).bind fun q114 =>
  if q114.1 = 0 then (if (tg q114.2 a0).1 = 6 then ((p_X7_keep a0 q114.2).bind fun h115 =>
  if (tg h115 a0).1 = 6 then (if (tg h115 (rR h115 a0 4)).1 = 1 then (if (tg h115 (rR h115 (rR h115 a0 4) 1)).1 = 0 then ((p_X1_backWith (rR h115 (rR h115 a0 4) 1) x1 x2 x3 h115).bind fun h116 =>
  if (tg h116 a0).1 = 6 then (if (tg h116 (rR h116 a0 4)).1 = 1 then (if (tg h116 (rR h116 (rR h116 a0 4) 1)).1 = 0 then ((p_X1_unmark (rR h116 (rR h116 a0 4) 1) x1 h116).bind fun h117 =>
  if (tg h117 a0).1 = 6 then ((p_X7_agrees a0 h117).bind fun q118 =>
  if q118.1 &&& 1 = q118.1 then some (q118.1, q118.2) else none) else none) else none) else none) else none) else none) else none) else none) else none)
  else
  p_X7_give_58 a0 q114.2) else none) else none) else none)
  else
  p_X7_give_58 a0 q113.2) else none) else none) else none)
  else
  p_X7_give_24 a0 h
set_option maxRecDepth 100000 in
theorem e_X7_give_14 {l : Launch} {D : va_G} {dA : Nat → ClassId} {z : Nat} {sa : Nat → Nat} {Hz : Heap} (E : StrOK qLen qCh l D dA z sa Hz) {h0 fin : AH} {x : Int32}  : ∀ (a0 : Nat) (x1 : Int32) (x2 : Int32) (x3 : Int32) (h : AH), p_X7_give_14 a0 x1 x2 x3 h = some (x, fin) → GM l D dA z sa Hz q_X7_give h0 (some (.int x)) fin 14 [(0, .ref a0), (1, .int x1), (2, .int x2), (3, .int x3)] [] h := by
  intro a0 x1 x2 x3 h hd
  exact step E (is := I_X7_give_14) (pc := 14) (K := (kx 24 (fun la st h => gR la 0 fun a0 => sE st (p_X7_give_24 a0 h)) (kx 30 (fun la st h => gR la 0 fun a0 => gI la 1 fun x1 => gI la 2 fun x2 => gI la 3 fun x3 => sE st (p_X7_give_30 a0 x1 x2 x3 h)) k0))) (FI := FI_X7_give) (FV := FV_X7_give) (FL := fL0) (rt := rtZ) (ft := 24) (by exact hd) ok_X7_give_14 (kx_ok (fun la st h e => by obtain ⟨a0, m_a0, e1⟩ := gR_inv e; obtain ⟨rfl, ez⟩ := sE_inv e1; exact gm_fewer (e_X7_give_24 E  a0 h ez) (mem_cons m_a0 mem_nil)) (kx_ok (fun la st h e => by obtain ⟨a0, m_a0, e1⟩ := gR_inv e; obtain ⟨x1, m_x1, e2⟩ := gI_inv e1; obtain ⟨x2, m_x2, e3⟩ := gI_inv e2; obtain ⟨x3, m_x3, e4⟩ := gI_inv e3; obtain ⟨rfl, ez⟩ := sE_inv e4; exact gm_fewer (e_X7_give_30 E  a0 x1 x2 x3 h ez) (mem_cons m_a0 (mem_cons m_x1 (mem_cons m_x2 (mem_cons m_x3 mem_nil))))) k0_ok)) (FI_X7_give_ok E) (FV_X7_give_ok E) (fL0_ok E) (rtZ_ok rfl)
def I_X7_give_0 : List AI := [(.aload_n 0, 1, [], 0), (.iload_n 1, 1, [], 0), (.invokevirtual 80, 3, [1, 54, 2, 6, 649], 0), (.ifCond .ne 9, 3, [14], 0), (.aload_n 0, 1, [], 0), (.iconst 1, 1, [], 1), (.invokevirtual 294, 3, [1, 121, 2, 6, 930], 0), (.ireturn, 1, [], 0)]
theorem ok_X7_give_0 : vBL MT qLen qCh false q_X7_give.2.2.2.2.1 q_X7_give.2.2.2.2.2.1 q_X7_give.2.2.1 q_X7_give.1.cls q_X7_give.1.name q_X7_give.2.1 0 0 I_X7_give_0 = true := by decide +kernel
def p_X7_give (a0 : Nat) (x1 : Int32) (x2 : Int32) (x3 : Int32) (h : AH) : Option (Int32 × AH) :=
  if (tg h a0).1 = 6 then ((p_X7_isFrame a0 x1 h).bind fun q119 =>
  if q119.1 = 0 then (if (tg q119.2 a0).1 = 6 then ((p_X7_declines a0 ((1 : Int32)) q119.2).bind fun q126 =>
  if q126.1 &&& 1 = q126.1 then some (q126.1, q126.2) else none) else none)
  else
  if x2 < 0 then (p_X7_give_24 a0 q119.2)
  else
  if x2 < ((32 : Int32)) then (if (tg q119.2 a0).1 = 6 then (if (tg q119.2 (rR q119.2 a0 4)).1 = 1 then (if (tg q119.2 (rR q119.2 (rR q119.2 a0 4) 1)).1 = 0 then ((p_X1_isBacked (rR q119.2 (rR q119.2 a0 4) 1) x1 q119.2).bind fun q120 =>
  if q120.1 = 0 then (if (tg q120.2 a0).1 = 6 then (if (tg q120.2 (rR q120.2 a0 4)).1 = 1 then (if (tg q120.2 (rR q120.2 (rR q120.2 a0 4) 1)).1 = 0 then ((p_X1_isTaken (rR q120.2 (rR q120.2 a0 4) 1) x2 q120.2).bind fun q121 =>
  if q121.1 = 0 then (if (tg q121.2 a0).1 = 6 then ((p_X7_keep a0 q121.2).bind fun h122 =>
  if (tg h122 a0).1 = 6 then (if (tg h122 (rR h122 a0 4)).1 = 1 then (if (tg h122 (rR h122 (rR h122 a0 4) 1)).1 = 0 then ((p_X1_backWith (rR h122 (rR h122 a0 4) 1) x1 x2 x3 h122).bind fun h123 =>
  if (tg h123 a0).1 = 6 then (if (tg h123 (rR h123 a0 4)).1 = 1 then (if (tg h123 (rR h123 (rR h123 a0 4) 1)).1 = 0 then ((p_X1_unmark (rR h123 (rR h123 a0 4) 1) x1 h123).bind fun h124 =>
  if (tg h124 a0).1 = 6 then ((p_X7_agrees a0 h124).bind fun q125 =>
  if q125.1 &&& 1 = q125.1 then some (q125.1, q125.2) else none) else none) else none) else none) else none) else none) else none) else none) else none)
  else
  p_X7_give_58 a0 q121.2) else none) else none) else none)
  else
  p_X7_give_58 a0 q120.2) else none) else none) else none)
  else
  p_X7_give_24 a0 q119.2) else none
set_option maxRecDepth 100000 in
theorem e_X7_give_0 {l : Launch} {D : va_G} {dA : Nat → ClassId} {z : Nat} {sa : Nat → Nat} {Hz : Heap} (E : StrOK qLen qCh l D dA z sa Hz) {h0 fin : AH} {x : Int32}  : ∀ (a0 : Nat) (x1 : Int32) (x2 : Int32) (x3 : Int32) (h : AH), p_X7_give a0 x1 x2 x3 h = some (x, fin) → GM l D dA z sa Hz q_X7_give h0 (some (.int x)) fin 0 [(0, .ref a0), (1, .int x1), (2, .int x2), (3, .int x3)] [] h := by
  intro a0 x1 x2 x3 h hd
  exact step E (is := I_X7_give_0) (pc := 0) (K := (kx 14 (fun la st h => gR la 0 fun a0 => gI la 1 fun x1 => gI la 2 fun x2 => gI la 3 fun x3 => sE st (p_X7_give_14 a0 x1 x2 x3 h)) k0)) (FI := FI_X7_give) (FV := FV_X7_give) (FL := fL0) (rt := rtZ) (ft := 0) (by exact hd) ok_X7_give_0 (kx_ok (fun la st h e => by obtain ⟨a0, m_a0, e1⟩ := gR_inv e; obtain ⟨x1, m_x1, e2⟩ := gI_inv e1; obtain ⟨x2, m_x2, e3⟩ := gI_inv e2; obtain ⟨x3, m_x3, e4⟩ := gI_inv e3; obtain ⟨rfl, ez⟩ := sE_inv e4; exact gm_fewer (e_X7_give_14 E  a0 x1 x2 x3 h ez) (mem_cons m_a0 (mem_cons m_x1 (mem_cons m_x2 (mem_cons m_x3 mem_nil))))) k0_ok) (FI_X7_give_ok E) (FV_X7_give_ok E) (fL0_ok E) (rtZ_ok rfl)
theorem c_X7_give {l : Launch} {D : va_G} {dA : Nat → ClassId} {z : Nat} {sa : Nat → Nat} {Hz : Heap} (E : StrOK qLen qCh l D dA z sa Hz) {a0 : Nat} {x1 : Int32} {x2 : Int32} {x3 : Int32} {h fin : AH} {x : Int32} (hd : p_X7_give a0 x1 x2 x3 h = some (x, fin)) : CalOK l D dA z sa Hz q_X7_give [.ref a0, .int x1, .int x2, .int x3] h (some (.int x)) fin := calOf (by decide +kernel) (Nat.le_of_ble_eq_true rfl) (e_X7_give_0 E a0 x1 x2 x3 h hd)
def I_X1_makeReadOnly_0 : List AI := [(.aload_n 0, 1, [], 0), (.dup, 1, [], 0), (.getfield 18, 3, [0, 2, 0, 191], 0), (.iconst 1, 1, [], 1), (.iload_n 1, 1, [], 0), (.ishl, 1, [], 0), (.iconst (-1), 1, [], (-1)), (.ixor, 1, [], 0), (.iand, 1, [], 0), (.putfield 18, 3, [0, 2, 0, 191], 0), (.return_, 1, [], 0)]
theorem ok_X1_makeReadOnly_0 : vBL MT qLen qCh false q_X1_makeReadOnly.2.2.2.2.1 q_X1_makeReadOnly.2.2.2.2.2.1 q_X1_makeReadOnly.2.2.1 q_X1_makeReadOnly.1.cls q_X1_makeReadOnly.1.name q_X1_makeReadOnly.2.1 0 0 I_X1_makeReadOnly_0 = true := by decide +kernel
def p_X1_makeReadOnly (a0 : Nat) (x1 : Int32) (h : AH) : Option (AH) :=
  if (tg h a0).1 = 0 then (if (tg h a0).1 = 0 then (let h101 := wI h a0 2 ((rI h a0 2) &&& ((((1 : Int32)) <<< (x1 &&& 31)) ^^^ ((-1 : Int32))))
  some h101) else none) else none
set_option maxRecDepth 100000 in
theorem e_X1_makeReadOnly_0 {l : Launch} {D : va_G} {dA : Nat → ClassId} {z : Nat} {sa : Nat → Nat} {Hz : Heap} (E : StrOK qLen qCh l D dA z sa Hz) {h0 fin : AH}  : ∀ (a0 : Nat) (x1 : Int32) (h : AH), p_X1_makeReadOnly a0 x1 h = some fin → GM l D dA z sa Hz q_X1_makeReadOnly h0 none fin 0 [(0, .ref a0), (1, .int x1)] [] h := by
  intro a0 x1 h hd
  exact step E (is := I_X1_makeReadOnly_0) (pc := 0) (K := k0) (FI := fI0) (FV := fV0) (FL := fL0) (rt := rtV) (ft := 0) (by exact hd) ok_X1_makeReadOnly_0 k0_ok (fI0_ok E) (fV0_ok E) (fL0_ok E) (rtV_ok rfl)
theorem c_X1_makeReadOnly {l : Launch} {D : va_G} {dA : Nat → ClassId} {z : Nat} {sa : Nat → Nat} {Hz : Heap} (E : StrOK qLen qCh l D dA z sa Hz) {a0 : Nat} {x1 : Int32} {h fin : AH} (hd : p_X1_makeReadOnly a0 x1 h = some fin) : CalOK l D dA z sa Hz q_X1_makeReadOnly [.ref a0, .int x1] h none fin := calOf (by decide +kernel) (Nat.le_of_ble_eq_true rfl) (e_X1_makeReadOnly_0 E a0 x1 h hd)
def FI_X7_protect : Nat → List Value → AH → Option (Int32 × AH) := (cx 54 (fun As h => sR As fun a0 As => sI As fun x1 As => sE As (p_X7_isFrame a0 x1 h)) (cx 9 (fun As h => sR As fun a0 As => sI As fun x1 As => sE As (p_X7_refuse a0 x1 h)) (cx 61 (fun As h => sR As fun a0 As => sI As fun x1 As => sE As (p_X1_isWritable a0 x1 h)) (cx 128 (fun As h => sR As fun a0 As => sI As fun x1 As => sE As (p_X3_takeWrite a0 x1 h)) (cx 50 (fun As h => sR As fun a0 As => sI As fun x1 As => sE As (p_X7_answer a0 x1 h)) fI0)))))
theorem FI_X7_protect_ok {l : Launch} {D : va_G} {dA : Nat → ClassId} {z : Nat} {sa : Nat → Nat} {Hz : Heap} (E : StrOK qLen qCh l D dA z sa Hz) : ∀ mi As h x h', FI_X7_protect mi As h = some (x, h') → CalOK l D dA z sa Hz (MT mi) As h (some (.int x)) h' := (cxI_ok (fun As h x h2 e => by obtain ⟨_, _, rfl, e0⟩ := sR_inv e; obtain ⟨_, _, rfl, e1⟩ := sI_inv e0; obtain ⟨rfl, ez⟩ := sE_inv e1; exact c_X7_isFrame E ez) ((cxI_ok (fun As h x h2 e => by obtain ⟨_, _, rfl, e0⟩ := sR_inv e; obtain ⟨_, _, rfl, e1⟩ := sI_inv e0; obtain ⟨rfl, ez⟩ := sE_inv e1; exact c_X7_refuse E ez) ((cxI_ok (fun As h x h2 e => by obtain ⟨_, _, rfl, e0⟩ := sR_inv e; obtain ⟨_, _, rfl, e1⟩ := sI_inv e0; obtain ⟨rfl, ez⟩ := sE_inv e1; exact c_X1_isWritable E ez) ((cxI_ok (fun As h x h2 e => by obtain ⟨_, _, rfl, e0⟩ := sR_inv e; obtain ⟨_, _, rfl, e1⟩ := sI_inv e0; obtain ⟨rfl, ez⟩ := sE_inv e1; exact c_X3_takeWrite E ez) ((cxI_ok (fun As h x h2 e => by obtain ⟨_, _, rfl, e0⟩ := sR_inv e; obtain ⟨_, _, rfl, e1⟩ := sI_inv e0; obtain ⟨rfl, ez⟩ := sE_inv e1; exact c_X7_answer E ez) (fI0_ok E))))))))))
def FV_X7_protect : Nat → List Value → AH → Option (AH) := (cx 167 (fun As h => sR As fun a0 As => sE As (p_X7_keep a0 h)) (cx 189 (fun As h => sR As fun a0 As => sI As fun x1 As => sE As (p_X1_makeReadOnly a0 x1 h)) fV0))
theorem FV_X7_protect_ok {l : Launch} {D : va_G} {dA : Nat → ClassId} {z : Nat} {sa : Nat → Nat} {Hz : Heap} (E : StrOK qLen qCh l D dA z sa Hz) : ∀ mi As h h', FV_X7_protect mi As h = some h' → CalOK l D dA z sa Hz (MT mi) As h none h' := (cxV_ok (fun As h h2 e => by obtain ⟨_, _, rfl, e0⟩ := sR_inv e; obtain ⟨rfl, ez⟩ := sE_inv e0; exact c_X7_keep E ez) ((cxV_ok (fun As h h2 e => by obtain ⟨_, _, rfl, e0⟩ := sR_inv e; obtain ⟨_, _, rfl, e1⟩ := sI_inv e0; obtain ⟨rfl, ez⟩ := sE_inv e1; exact c_X1_makeReadOnly E ez) (fV0_ok E))))
def I_X7_protect_34 : List AI := [(.aload_n 0, 1, [], 0), (.invokevirtual 265, 3, [2, 167, 1, 6, 1131], 0), (.aload_n 0, 1, [], 0), (.getfield 29, 3, [6, 4, 2, 358], 0), (.getfield 87, 3, [1, 1, 2, 321], 0), (.iload_n 1, 1, [], 0), (.invokevirtual 311, 3, [2, 189, 2, 0, 1232], 0), (.aload_n 0, 1, [], 0), (.aload_n 0, 1, [], 0), (.getfield 29, 3, [6, 4, 2, 358], 0), (.getfield 165, 3, [1, 2, 2, 323], 0), (.iload_n 1, 1, [], 0), (.invokevirtual 314, 3, [1, 128, 2, 2, 1236], 0), (.invokevirtual 68, 3, [1, 50, 2, 6, 633], 0), (.ireturn, 1, [], 0)]
theorem ok_X7_protect_34 : vBL MT qLen qCh false q_X7_protect.2.2.2.2.1 q_X7_protect.2.2.2.2.2.1 q_X7_protect.2.2.1 q_X7_protect.1.cls q_X7_protect.1.name q_X7_protect.2.1 0 34 I_X7_protect_34 = true := by decide +kernel
def p_X7_protect_34 (a0 : Nat) (x1 : Int32) (h : AH) : Option (Int32 × AH) :=
  if (tg h a0).1 = 6 then ((p_X7_keep a0 h).bind fun h101 =>
  if (tg h101 a0).1 = 6 then (if (tg h101 (rR h101 a0 4)).1 = 1 then (if (tg h101 (rR h101 (rR h101 a0 4) 1)).1 = 0 then ((p_X1_makeReadOnly (rR h101 (rR h101 a0 4) 1) x1 h101).bind fun h102 =>
  if (tg h102 a0).1 = 6 then (if (tg h102 (rR h102 a0 4)).1 = 1 then (if (tg h102 (rR h102 (rR h102 a0 4) 2)).1 = 2 then ((p_X3_takeWrite (rR h102 (rR h102 a0 4) 2) x1 h102).bind fun q103 =>
  if (tg q103.2 a0).1 = 6 then ((p_X7_answer a0 q103.1 q103.2).bind fun q104 =>
  some (q104.1, q104.2)) else none) else none) else none) else none) else none) else none) else none) else none
set_option maxRecDepth 100000 in
theorem e_X7_protect_34 {l : Launch} {D : va_G} {dA : Nat → ClassId} {z : Nat} {sa : Nat → Nat} {Hz : Heap} (E : StrOK qLen qCh l D dA z sa Hz) {h0 fin : AH} {x : Int32}  : ∀ (a0 : Nat) (x1 : Int32) (h : AH), p_X7_protect_34 a0 x1 h = some (x, fin) → GM l D dA z sa Hz q_X7_protect h0 (some (.int x)) fin 34 [(0, .ref a0), (1, .int x1)] [] h := by
  intro a0 x1 h hd
  exact step E (is := I_X7_protect_34) (pc := 34) (K := k0) (FI := FI_X7_protect) (FV := FV_X7_protect) (FL := fL0) (rt := rtI) (ft := 0) (by exact hd) ok_X7_protect_34 k0_ok (FI_X7_protect_ok E) (FV_X7_protect_ok E) (fL0_ok E) (rtI_ok rfl)
def I_X7_protect_14 : List AI := [(.aload_n 0, 1, [], 0), (.getfield 29, 3, [6, 4, 2, 358], 0), (.getfield 87, 3, [1, 1, 2, 321], 0), (.iload_n 1, 1, [], 0), (.invokevirtual 100, 3, [1, 61, 2, 0, 672], 0), (.ifCond .ne 9, 3, [34], 0), (.aload_n 0, 1, [], 0), (.iconst 5, 1, [], 5), (.invokevirtual 54, 3, [1, 9, 2, 6, 403], 0), (.ireturn, 1, [], 0)]
theorem ok_X7_protect_14 : vBL MT qLen qCh false q_X7_protect.2.2.2.2.1 q_X7_protect.2.2.2.2.2.1 q_X7_protect.2.2.1 q_X7_protect.1.cls q_X7_protect.1.name q_X7_protect.2.1 0 14 I_X7_protect_14 = true := by decide +kernel
def p_X7_protect_14 (a0 : Nat) (x1 : Int32) (h : AH) : Option (Int32 × AH) :=
  if (tg h a0).1 = 6 then (if (tg h (rR h a0 4)).1 = 1 then (if (tg h (rR h (rR h a0 4) 1)).1 = 0 then ((p_X1_isWritable (rR h (rR h a0 4) 1) x1 h).bind fun q105 =>
  if q105.1 = 0 then (if (tg q105.2 a0).1 = 6 then ((p_X7_refuse a0 ((5 : Int32)) q105.2).bind fun q110 =>
  some (q110.1, q110.2)) else none)
  else
  if (tg q105.2 a0).1 = 6 then ((p_X7_keep a0 q105.2).bind fun h106 =>
  if (tg h106 a0).1 = 6 then (if (tg h106 (rR h106 a0 4)).1 = 1 then (if (tg h106 (rR h106 (rR h106 a0 4) 1)).1 = 0 then ((p_X1_makeReadOnly (rR h106 (rR h106 a0 4) 1) x1 h106).bind fun h107 =>
  if (tg h107 a0).1 = 6 then (if (tg h107 (rR h107 a0 4)).1 = 1 then (if (tg h107 (rR h107 (rR h107 a0 4) 2)).1 = 2 then ((p_X3_takeWrite (rR h107 (rR h107 a0 4) 2) x1 h107).bind fun q108 =>
  if (tg q108.2 a0).1 = 6 then ((p_X7_answer a0 q108.1 q108.2).bind fun q109 =>
  some (q109.1, q109.2)) else none) else none) else none) else none) else none) else none) else none) else none) else none) else none) else none
set_option maxRecDepth 100000 in
theorem e_X7_protect_14 {l : Launch} {D : va_G} {dA : Nat → ClassId} {z : Nat} {sa : Nat → Nat} {Hz : Heap} (E : StrOK qLen qCh l D dA z sa Hz) {h0 fin : AH} {x : Int32}  : ∀ (a0 : Nat) (x1 : Int32) (h : AH), p_X7_protect_14 a0 x1 h = some (x, fin) → GM l D dA z sa Hz q_X7_protect h0 (some (.int x)) fin 14 [(0, .ref a0), (1, .int x1)] [] h := by
  intro a0 x1 h hd
  exact step E (is := I_X7_protect_14) (pc := 14) (K := (kx 34 (fun la st h => gR la 0 fun a0 => gI la 1 fun x1 => sE st (p_X7_protect_34 a0 x1 h)) k0)) (FI := FI_X7_protect) (FV := FV_X7_protect) (FL := fL0) (rt := rtI) (ft := 0) (by exact hd) ok_X7_protect_14 (kx_ok (fun la st h e => by obtain ⟨a0, m_a0, e1⟩ := gR_inv e; obtain ⟨x1, m_x1, e2⟩ := gI_inv e1; obtain ⟨rfl, ez⟩ := sE_inv e2; exact gm_fewer (e_X7_protect_34 E  a0 x1 h ez) (mem_cons m_a0 (mem_cons m_x1 mem_nil))) k0_ok) (FI_X7_protect_ok E) (FV_X7_protect_ok E) (fL0_ok E) (rtI_ok rfl)
def I_X7_protect_0 : List AI := [(.aload_n 0, 1, [], 0), (.iload_n 1, 1, [], 0), (.invokevirtual 80, 3, [1, 54, 2, 6, 649], 0), (.ifCond .ne 9, 3, [14], 0), (.aload_n 0, 1, [], 0), (.iconst 1, 1, [], 1), (.invokevirtual 54, 3, [1, 9, 2, 6, 403], 0), (.ireturn, 1, [], 0)]
theorem ok_X7_protect_0 : vBL MT qLen qCh false q_X7_protect.2.2.2.2.1 q_X7_protect.2.2.2.2.2.1 q_X7_protect.2.2.1 q_X7_protect.1.cls q_X7_protect.1.name q_X7_protect.2.1 0 0 I_X7_protect_0 = true := by decide +kernel
def p_X7_protect (a0 : Nat) (x1 : Int32) (h : AH) : Option (Int32 × AH) :=
  if (tg h a0).1 = 6 then ((p_X7_isFrame a0 x1 h).bind fun q111 =>
  if q111.1 = 0 then (if (tg q111.2 a0).1 = 6 then ((p_X7_refuse a0 ((1 : Int32)) q111.2).bind fun q118 =>
  some (q118.1, q118.2)) else none)
  else
  if (tg q111.2 a0).1 = 6 then (if (tg q111.2 (rR q111.2 a0 4)).1 = 1 then (if (tg q111.2 (rR q111.2 (rR q111.2 a0 4) 1)).1 = 0 then ((p_X1_isWritable (rR q111.2 (rR q111.2 a0 4) 1) x1 q111.2).bind fun q112 =>
  if q112.1 = 0 then (if (tg q112.2 a0).1 = 6 then ((p_X7_refuse a0 ((5 : Int32)) q112.2).bind fun q117 =>
  some (q117.1, q117.2)) else none)
  else
  if (tg q112.2 a0).1 = 6 then ((p_X7_keep a0 q112.2).bind fun h113 =>
  if (tg h113 a0).1 = 6 then (if (tg h113 (rR h113 a0 4)).1 = 1 then (if (tg h113 (rR h113 (rR h113 a0 4) 1)).1 = 0 then ((p_X1_makeReadOnly (rR h113 (rR h113 a0 4) 1) x1 h113).bind fun h114 =>
  if (tg h114 a0).1 = 6 then (if (tg h114 (rR h114 a0 4)).1 = 1 then (if (tg h114 (rR h114 (rR h114 a0 4) 2)).1 = 2 then ((p_X3_takeWrite (rR h114 (rR h114 a0 4) 2) x1 h114).bind fun q115 =>
  if (tg q115.2 a0).1 = 6 then ((p_X7_answer a0 q115.1 q115.2).bind fun q116 =>
  some (q116.1, q116.2)) else none) else none) else none) else none) else none) else none) else none) else none) else none) else none) else none) else none
set_option maxRecDepth 100000 in
theorem e_X7_protect_0 {l : Launch} {D : va_G} {dA : Nat → ClassId} {z : Nat} {sa : Nat → Nat} {Hz : Heap} (E : StrOK qLen qCh l D dA z sa Hz) {h0 fin : AH} {x : Int32}  : ∀ (a0 : Nat) (x1 : Int32) (h : AH), p_X7_protect a0 x1 h = some (x, fin) → GM l D dA z sa Hz q_X7_protect h0 (some (.int x)) fin 0 [(0, .ref a0), (1, .int x1)] [] h := by
  intro a0 x1 h hd
  exact step E (is := I_X7_protect_0) (pc := 0) (K := (kx 14 (fun la st h => gR la 0 fun a0 => gI la 1 fun x1 => sE st (p_X7_protect_14 a0 x1 h)) k0)) (FI := FI_X7_protect) (FV := FV_X7_protect) (FL := fL0) (rt := rtI) (ft := 0) (by exact hd) ok_X7_protect_0 (kx_ok (fun la st h e => by obtain ⟨a0, m_a0, e1⟩ := gR_inv e; obtain ⟨x1, m_x1, e2⟩ := gI_inv e1; obtain ⟨rfl, ez⟩ := sE_inv e2; exact gm_fewer (e_X7_protect_14 E  a0 x1 h ez) (mem_cons m_a0 (mem_cons m_x1 mem_nil))) k0_ok) (FI_X7_protect_ok E) (FV_X7_protect_ok E) (fL0_ok E) (rtI_ok rfl)
theorem c_X7_protect {l : Launch} {D : va_G} {dA : Nat → ClassId} {z : Nat} {sa : Nat → Nat} {Hz : Heap} (E : StrOK qLen qCh l D dA z sa Hz) {a0 : Nat} {x1 : Int32} {h fin : AH} {x : Int32} (hd : p_X7_protect a0 x1 h = some (x, fin)) : CalOK l D dA z sa Hz q_X7_protect [.ref a0, .int x1] h (some (.int x)) fin := calOf (by decide +kernel) (Nat.le_of_ble_eq_true rfl) (e_X7_protect_0 E a0 x1 h hd)
def FI_X7_clean : Nat → List Value → AH → Option (Int32 × AH) := (cx 54 (fun As h => sR As fun a0 As => sI As fun x1 As => sE As (p_X7_isFrame a0 x1 h)) (cx 9 (fun As h => sR As fun a0 As => sI As fun x1 As => sE As (p_X7_refuse a0 x1 h)) (cx 132 (fun As h => sR As fun a0 As => sI As fun x1 As => sE As (p_X1_isMarked a0 x1 h)) (cx 62 (fun As h => sI As fun x0 As => sE As (p_X7_bit x0 h)) (cx 128 (fun As h => sR As fun a0 As => sI As fun x1 As => sE As (p_X3_takeWrite a0 x1 h)) (cx 50 (fun As h => sR As fun a0 As => sI As fun x1 As => sE As (p_X7_answer a0 x1 h)) fI0))))))
theorem FI_X7_clean_ok {l : Launch} {D : va_G} {dA : Nat → ClassId} {z : Nat} {sa : Nat → Nat} {Hz : Heap} (E : StrOK qLen qCh l D dA z sa Hz) : ∀ mi As h x h', FI_X7_clean mi As h = some (x, h') → CalOK l D dA z sa Hz (MT mi) As h (some (.int x)) h' := (cxI_ok (fun As h x h2 e => by obtain ⟨_, _, rfl, e0⟩ := sR_inv e; obtain ⟨_, _, rfl, e1⟩ := sI_inv e0; obtain ⟨rfl, ez⟩ := sE_inv e1; exact c_X7_isFrame E ez) ((cxI_ok (fun As h x h2 e => by obtain ⟨_, _, rfl, e0⟩ := sR_inv e; obtain ⟨_, _, rfl, e1⟩ := sI_inv e0; obtain ⟨rfl, ez⟩ := sE_inv e1; exact c_X7_refuse E ez) ((cxI_ok (fun As h x h2 e => by obtain ⟨_, _, rfl, e0⟩ := sR_inv e; obtain ⟨_, _, rfl, e1⟩ := sI_inv e0; obtain ⟨rfl, ez⟩ := sE_inv e1; exact c_X1_isMarked E ez) ((cxI_ok (fun As h x h2 e => by obtain ⟨_, _, rfl, e0⟩ := sI_inv e; obtain ⟨rfl, ez⟩ := sE_inv e0; exact c_X7_bit E ez) ((cxI_ok (fun As h x h2 e => by obtain ⟨_, _, rfl, e0⟩ := sR_inv e; obtain ⟨_, _, rfl, e1⟩ := sI_inv e0; obtain ⟨rfl, ez⟩ := sE_inv e1; exact c_X3_takeWrite E ez) ((cxI_ok (fun As h x h2 e => by obtain ⟨_, _, rfl, e0⟩ := sR_inv e; obtain ⟨_, _, rfl, e1⟩ := sI_inv e0; obtain ⟨rfl, ez⟩ := sE_inv e1; exact c_X7_answer E ez) (fI0_ok E))))))))))))
def FV_X7_clean : Nat → List Value → AH → Option (AH) := (cx 167 (fun As h => sR As fun a0 As => sE As (p_X7_keep a0 h)) (cx 187 (fun As h => sR As fun a0 As => sI As fun x1 As => sE As (p_X1_unmark a0 x1 h)) fV0))
theorem FV_X7_clean_ok {l : Launch} {D : va_G} {dA : Nat → ClassId} {z : Nat} {sa : Nat → Nat} {Hz : Heap} (E : StrOK qLen qCh l D dA z sa Hz) : ∀ mi As h h', FV_X7_clean mi As h = some h' → CalOK l D dA z sa Hz (MT mi) As h none h' := (cxV_ok (fun As h h2 e => by obtain ⟨_, _, rfl, e0⟩ := sR_inv e; obtain ⟨rfl, ez⟩ := sE_inv e0; exact c_X7_keep E ez) ((cxV_ok (fun As h h2 e => by obtain ⟨_, _, rfl, e0⟩ := sR_inv e; obtain ⟨_, _, rfl, e1⟩ := sI_inv e0; obtain ⟨rfl, ez⟩ := sE_inv e1; exact c_X1_unmark E ez) (fV0_ok E))))
def I_X7_clean_14 : List AI := [(.aload_n 0, 1, [], 0), (.invokevirtual 265, 3, [2, 167, 1, 6, 1131], 0), (.aload_n 0, 1, [], 0), (.getfield 29, 3, [6, 4, 2, 358], 0), (.getfield 87, 3, [1, 1, 2, 321], 0), (.iload_n 1, 1, [], 0), (.invokevirtual 317, 3, [1, 132, 2, 0, 1241], 0), (.invokestatic 103, 3, [1, 62, 1, 680], 0), (.istore_n 2, 1, [], 0), (.aload_n 0, 1, [], 0), (.getfield 29, 3, [6, 4, 2, 358], 0), (.getfield 87, 3, [1, 1, 2, 321], 0), (.iload_n 1, 1, [], 0), (.invokevirtual 304, 3, [2, 187, 2, 0, 1224], 0), (.aload_n 0, 1, [], 0), (.getfield 29, 3, [6, 4, 2, 358], 0), (.getfield 165, 3, [1, 2, 2, 323], 0), (.iload_n 1, 1, [], 0), (.invokevirtual 314, 3, [1, 128, 2, 2, 1236], 0), (.pop, 1, [], 0), (.aload_n 0, 1, [], 0), (.iload_n 2, 1, [], 0), (.invokevirtual 68, 3, [1, 50, 2, 6, 633], 0), (.ireturn, 1, [], 0)]
theorem ok_X7_clean_14 : vBL MT qLen qCh false q_X7_clean.2.2.2.2.1 q_X7_clean.2.2.2.2.2.1 q_X7_clean.2.2.1 q_X7_clean.1.cls q_X7_clean.1.name q_X7_clean.2.1 0 14 I_X7_clean_14 = true := by decide +kernel
def p_X7_clean_14 (a0 : Nat) (x1 : Int32) (h : AH) : Option (Int32 × AH) :=
  if (tg h a0).1 = 6 then ((p_X7_keep a0 h).bind fun h101 =>
  if (tg h101 a0).1 = 6 then (if (tg h101 (rR h101 a0 4)).1 = 1 then (if (tg h101 (rR h101 (rR h101 a0 4) 1)).1 = 0 then ((p_X1_isMarked (rR h101 (rR h101 a0 4) 1) x1 h101).bind fun q102 =>
  (p_X7_bit q102.1 q102.2).bind fun q103 =>
  if (tg q103.2 a0).1 = 6 then (if (tg q103.2 (rR q103.2 a0 4)).1 = 1 then (if (tg q103.2 (rR q103.2 (rR q103.2 a0 4) 1)).1 = 0 then ((p_X1_unmark (rR q103.2 (rR q103.2 a0 4) 1) x1 q103.2).bind fun h104 =>
  if (tg h104 a0).1 = 6 then (if (tg h104 (rR h104 a0 4)).1 = 1 then (if (tg h104 (rR h104 (rR h104 a0 4) 2)).1 = 2 then ((p_X3_takeWrite (rR h104 (rR h104 a0 4) 2) x1 h104).bind fun q105 =>
  if (tg q105.2 a0).1 = 6 then ((p_X7_answer a0 q103.1 q105.2).bind fun q106 =>
  some (q106.1, q106.2)) else none) else none) else none) else none) else none) else none) else none) else none) else none) else none) else none
set_option maxRecDepth 100000 in
theorem e_X7_clean_14 {l : Launch} {D : va_G} {dA : Nat → ClassId} {z : Nat} {sa : Nat → Nat} {Hz : Heap} (E : StrOK qLen qCh l D dA z sa Hz) {h0 fin : AH} {x : Int32}  : ∀ (a0 : Nat) (x1 : Int32) (h : AH), p_X7_clean_14 a0 x1 h = some (x, fin) → GM l D dA z sa Hz q_X7_clean h0 (some (.int x)) fin 14 [(0, .ref a0), (1, .int x1)] [] h := by
  intro a0 x1 h hd
  exact step E (is := I_X7_clean_14) (pc := 14) (K := k0) (FI := FI_X7_clean) (FV := FV_X7_clean) (FL := fL0) (rt := rtI) (ft := 0) (by exact hd) ok_X7_clean_14 k0_ok (FI_X7_clean_ok E) (FV_X7_clean_ok E) (fL0_ok E) (rtI_ok rfl)
def I_X7_clean_0 : List AI := [(.aload_n 0, 1, [], 0), (.iload_n 1, 1, [], 0), (.invokevirtual 80, 3, [1, 54, 2, 6, 649], 0), (.ifCond .ne 9, 3, [14], 0), (.aload_n 0, 1, [], 0), (.iconst 1, 1, [], 1), (.invokevirtual 54, 3, [1, 9, 2, 6, 403], 0), (.ireturn, 1, [], 0)]
theorem ok_X7_clean_0 : vBL MT qLen qCh false q_X7_clean.2.2.2.2.1 q_X7_clean.2.2.2.2.2.1 q_X7_clean.2.2.1 q_X7_clean.1.cls q_X7_clean.1.name q_X7_clean.2.1 0 0 I_X7_clean_0 = true := by decide +kernel
def p_X7_clean (a0 : Nat) (x1 : Int32) (h : AH) : Option (Int32 × AH) :=
  if (tg h a0).1 = 6 then ((p_X7_isFrame a0 x1 h).bind fun q107 =>
  if q107.1 = 0 then (if (tg q107.2 a0).1 = 6 then ((p_X7_refuse a0 ((1 : Int32)) q107.2).bind fun q114 =>
  some (q114.1, q114.2)) else none)
  else
  if (tg q107.2 a0).1 = 6 then ((p_X7_keep a0 q107.2).bind fun h108 =>
  if (tg h108 a0).1 = 6 then (if (tg h108 (rR h108 a0 4)).1 = 1 then (if (tg h108 (rR h108 (rR h108 a0 4) 1)).1 = 0 then ((p_X1_isMarked (rR h108 (rR h108 a0 4) 1) x1 h108).bind fun q109 =>
  (p_X7_bit q109.1 q109.2).bind fun q110 =>
  if (tg q110.2 a0).1 = 6 then (if (tg q110.2 (rR q110.2 a0 4)).1 = 1 then (if (tg q110.2 (rR q110.2 (rR q110.2 a0 4) 1)).1 = 0 then ((p_X1_unmark (rR q110.2 (rR q110.2 a0 4) 1) x1 q110.2).bind fun h111 =>
  if (tg h111 a0).1 = 6 then (if (tg h111 (rR h111 a0 4)).1 = 1 then (if (tg h111 (rR h111 (rR h111 a0 4) 2)).1 = 2 then ((p_X3_takeWrite (rR h111 (rR h111 a0 4) 2) x1 h111).bind fun q112 =>
  if (tg q112.2 a0).1 = 6 then ((p_X7_answer a0 q110.1 q112.2).bind fun q113 =>
  some (q113.1, q113.2)) else none) else none) else none) else none) else none) else none) else none) else none) else none) else none) else none) else none
set_option maxRecDepth 100000 in
theorem e_X7_clean_0 {l : Launch} {D : va_G} {dA : Nat → ClassId} {z : Nat} {sa : Nat → Nat} {Hz : Heap} (E : StrOK qLen qCh l D dA z sa Hz) {h0 fin : AH} {x : Int32}  : ∀ (a0 : Nat) (x1 : Int32) (h : AH), p_X7_clean a0 x1 h = some (x, fin) → GM l D dA z sa Hz q_X7_clean h0 (some (.int x)) fin 0 [(0, .ref a0), (1, .int x1)] [] h := by
  intro a0 x1 h hd
  exact step E (is := I_X7_clean_0) (pc := 0) (K := (kx 14 (fun la st h => gR la 0 fun a0 => gI la 1 fun x1 => sE st (p_X7_clean_14 a0 x1 h)) k0)) (FI := FI_X7_clean) (FV := FV_X7_clean) (FL := fL0) (rt := rtI) (ft := 0) (by exact hd) ok_X7_clean_0 (kx_ok (fun la st h e => by obtain ⟨a0, m_a0, e1⟩ := gR_inv e; obtain ⟨x1, m_x1, e2⟩ := gI_inv e1; obtain ⟨rfl, ez⟩ := sE_inv e2; exact gm_fewer (e_X7_clean_14 E  a0 x1 h ez) (mem_cons m_a0 (mem_cons m_x1 mem_nil))) k0_ok) (FI_X7_clean_ok E) (FV_X7_clean_ok E) (fL0_ok E) (rtI_ok rfl)
theorem c_X7_clean {l : Launch} {D : va_G} {dA : Nat → ClassId} {z : Nat} {sa : Nat → Nat} {Hz : Heap} (E : StrOK qLen qCh l D dA z sa Hz) {a0 : Nat} {x1 : Int32} {h fin : AH} {x : Int32} (hd : p_X7_clean a0 x1 h = some (x, fin)) : CalOK l D dA z sa Hz q_X7_clean [.ref a0, .int x1] h (some (.int x)) fin := calOf (by decide +kernel) (Nat.le_of_ble_eq_true rfl) (e_X7_clean_0 E a0 x1 h hd)
def FI_X7_undo : Nat → List Value → AH → Option (Int32 × AH) := (cx 121 (fun As h => sR As fun a0 As => sI As fun x1 As => sE As (p_X7_declines a0 x1 h)) (cx 122 (fun As h => sR As fun a0 As => sE As (p_X7_agrees a0 h)) fI0))
theorem FI_X7_undo_ok {l : Launch} {D : va_G} {dA : Nat → ClassId} {z : Nat} {sa : Nat → Nat} {Hz : Heap} (E : StrOK qLen qCh l D dA z sa Hz) : ∀ mi As h x h', FI_X7_undo mi As h = some (x, h') → CalOK l D dA z sa Hz (MT mi) As h (some (.int x)) h' := (cxI_ok (fun As h x h2 e => by obtain ⟨_, _, rfl, e0⟩ := sR_inv e; obtain ⟨_, _, rfl, e1⟩ := sI_inv e0; obtain ⟨rfl, ez⟩ := sE_inv e1; exact c_X7_declines E ez) ((cxI_ok (fun As h x h2 e => by obtain ⟨_, _, rfl, e0⟩ := sR_inv e; obtain ⟨rfl, ez⟩ := sE_inv e0; exact c_X7_agrees E ez) (fI0_ok E))))
def FV_X7_undo : Nat → List Value → AH → Option (AH) := (cx 141 (fun As h => sR As fun a0 As => sR As fun a1 As => sE As (p_X4_copyFrom a0 a1 h)) fV0)
theorem FV_X7_undo_ok {l : Launch} {D : va_G} {dA : Nat → ClassId} {z : Nat} {sa : Nat → Nat} {Hz : Heap} (E : StrOK qLen qCh l D dA z sa Hz) : ∀ mi As h h', FV_X7_undo mi As h = some h' → CalOK l D dA z sa Hz (MT mi) As h none h' := (cxV_ok (fun As h h2 e => by obtain ⟨_, _, rfl, e0⟩ := sR_inv e; obtain ⟨_, _, rfl, e1⟩ := sR_inv e0; obtain ⟨rfl, ez⟩ := sE_inv e1; exact c_X4_copyFrom E ez) (fV0_ok E))
def I_X7_undo_14 : List AI := [(.aload_n 0, 1, [], 0), (.getfield 29, 3, [6, 4, 2, 358], 0), (.getfield 206, 3, [1, 0, 2, 319], 0), (.aload_n 0, 1, [], 0), (.getfield 38, 3, [6, 6, 2, 360], 0), (.aload_n 0, 1, [], 0), (.getfield 323, 3, [6, 7, 0, 361], 0), (.bipush 15, 2, [], 15), (.iand, 1, [], 0), (.aaload, 1, [], 0), (.invokevirtual 326, 3, [2, 141, 2, 3, 1135], 0), (.aload_n 0, 1, [], 0), (.aload_n 0, 1, [], 0), (.getfield 323, 3, [6, 7, 0, 361], 0), (.bipush 16, 2, [], 16), (.iadd, 1, [], 0), (.iconst 1, 1, [], 1), (.isub, 1, [], 0), (.bipush 15, 2, [], 15), (.iand, 1, [], 0), (.putfield 323, 3, [6, 7, 0, 361], 0), (.aload_n 0, 1, [], 0), (.dup, 1, [], 0), (.getfield 320, 3, [6, 8, 0, 362], 0), (.iconst 1, 1, [], 1), (.isub, 1, [], 0), (.putfield 320, 3, [6, 8, 0, 362], 0), (.aload_n 0, 1, [], 0), (.invokevirtual 307, 3, [1, 122, 1, 6, 934], 0), (.ireturn, 1, [], 0)]
theorem ok_X7_undo_14 : vBL MT qLen qCh false q_X7_undo.2.2.2.2.1 q_X7_undo.2.2.2.2.2.1 q_X7_undo.2.2.1 q_X7_undo.1.cls q_X7_undo.1.name q_X7_undo.2.1 0 14 I_X7_undo_14 = true := by decide +kernel
def p_X7_undo_14 (a0 : Nat) (h : AH) : Option (Int32 × AH) :=
  if (tg h a0).1 = 6 then (if (tg h (rR h a0 4)).1 = 1 then (if (tg h a0).1 = 6 then (if (tg h a0).1 = 6 then (if inB h (rR h a0 6) 104 ((rI h a0 7) &&& ((15 : Int32))) then (if (tg h (rR h (rR h a0 4) 0)).1 = 3 then ((p_X4_copyFrom (rR h (rR h a0 4) 0) (rR h (rR h a0 6) ((rI h a0 7) &&& ((15 : Int32))).toNatClampNeg) h).bind fun h101 =>
  if (tg h101 a0).1 = 6 then (if (tg h101 a0).1 = 6 then (let h102 := wI h101 a0 7 ((((rI h101 a0 7) + ((16 : Int32))) - ((1 : Int32))) &&& ((15 : Int32)))
  if (tg h102 a0).1 = 6 then (if (tg h102 a0).1 = 6 then (let h103 := wI h102 a0 8 ((rI h102 a0 8) - ((1 : Int32)))
  if (tg h103 a0).1 = 6 then ((p_X7_agrees a0 h103).bind fun q104 =>
  if q104.1 &&& 1 = q104.1 then some (q104.1, q104.2) else none) else none) else none) else none) else none) else none) else none) else none) else none) else none) else none) else none
set_option maxRecDepth 100000 in
theorem e_X7_undo_14 {l : Launch} {D : va_G} {dA : Nat → ClassId} {z : Nat} {sa : Nat → Nat} {Hz : Heap} (E : StrOK qLen qCh l D dA z sa Hz) {h0 fin : AH} {x : Int32}  : ∀ (a0 : Nat) (h : AH), p_X7_undo_14 a0 h = some (x, fin) → GM l D dA z sa Hz q_X7_undo h0 (some (.int x)) fin 14 [(0, .ref a0)] [] h := by
  intro a0 h hd
  exact step E (is := I_X7_undo_14) (pc := 14) (K := k0) (FI := FI_X7_undo) (FV := FV_X7_undo) (FL := fL0) (rt := rtZ) (ft := 0) (by exact hd) ok_X7_undo_14 k0_ok (FI_X7_undo_ok E) (FV_X7_undo_ok E) (fL0_ok E) (rtZ_ok rfl)
def I_X7_undo_0 : List AI := [(.aload_n 0, 1, [], 0), (.getfield 320, 3, [6, 8, 0, 362], 0), (.ifCond .ne 10, 3, [14], 0), (.aload_n 0, 1, [], 0), (.bipush 6, 2, [], 6), (.invokevirtual 294, 3, [1, 121, 2, 6, 930], 0), (.ireturn, 1, [], 0)]
theorem ok_X7_undo_0 : vBL MT qLen qCh false q_X7_undo.2.2.2.2.1 q_X7_undo.2.2.2.2.2.1 q_X7_undo.2.2.1 q_X7_undo.1.cls q_X7_undo.1.name q_X7_undo.2.1 0 0 I_X7_undo_0 = true := by decide +kernel
def p_X7_undo (a0 : Nat) (h : AH) : Option (Int32 × AH) :=
  if (tg h a0).1 = 6 then (if (rI h a0 8) = 0 then (if (tg h a0).1 = 6 then ((p_X7_declines a0 ((6 : Int32)) h).bind fun q109 =>
  if q109.1 &&& 1 = q109.1 then some (q109.1, q109.2) else none) else none)
  else
  if (tg h a0).1 = 6 then (if (tg h (rR h a0 4)).1 = 1 then (if (tg h a0).1 = 6 then (if (tg h a0).1 = 6 then (if inB h (rR h a0 6) 104 ((rI h a0 7) &&& ((15 : Int32))) then (if (tg h (rR h (rR h a0 4) 0)).1 = 3 then ((p_X4_copyFrom (rR h (rR h a0 4) 0) (rR h (rR h a0 6) ((rI h a0 7) &&& ((15 : Int32))).toNatClampNeg) h).bind fun h105 =>
  if (tg h105 a0).1 = 6 then (if (tg h105 a0).1 = 6 then (let h106 := wI h105 a0 7 ((((rI h105 a0 7) + ((16 : Int32))) - ((1 : Int32))) &&& ((15 : Int32)))
  if (tg h106 a0).1 = 6 then (if (tg h106 a0).1 = 6 then (let h107 := wI h106 a0 8 ((rI h106 a0 8) - ((1 : Int32)))
  if (tg h107 a0).1 = 6 then ((p_X7_agrees a0 h107).bind fun q108 =>
  if q108.1 &&& 1 = q108.1 then some (q108.1, q108.2) else none) else none) else none) else none) else none) else none) else none) else none) else none) else none) else none) else none) else none
set_option maxRecDepth 100000 in
theorem e_X7_undo_0 {l : Launch} {D : va_G} {dA : Nat → ClassId} {z : Nat} {sa : Nat → Nat} {Hz : Heap} (E : StrOK qLen qCh l D dA z sa Hz) {h0 fin : AH} {x : Int32}  : ∀ (a0 : Nat) (h : AH), p_X7_undo a0 h = some (x, fin) → GM l D dA z sa Hz q_X7_undo h0 (some (.int x)) fin 0 [(0, .ref a0)] [] h := by
  intro a0 h hd
  exact step E (is := I_X7_undo_0) (pc := 0) (K := (kx 14 (fun la st h => gR la 0 fun a0 => sE st (p_X7_undo_14 a0 h)) k0)) (FI := FI_X7_undo) (FV := FV_X7_undo) (FL := fL0) (rt := rtZ) (ft := 0) (by exact hd) ok_X7_undo_0 (kx_ok (fun la st h e => by obtain ⟨a0, m_a0, e1⟩ := gR_inv e; obtain ⟨rfl, ez⟩ := sE_inv e1; exact gm_fewer (e_X7_undo_14 E  a0 h ez) (mem_cons m_a0 mem_nil)) k0_ok) (FI_X7_undo_ok E) (FV_X7_undo_ok E) (fL0_ok E) (rtZ_ok rfl)
theorem c_X7_undo {l : Launch} {D : va_G} {dA : Nat → ClassId} {z : Nat} {sa : Nat → Nat} {Hz : Heap} (E : StrOK qLen qCh l D dA z sa Hz) {a0 : Nat} {h fin : AH} {x : Int32} (hd : p_X7_undo a0 h = some (x, fin)) : CalOK l D dA z sa Hz q_X7_undo [.ref a0] h (some (.int x)) fin := calOf (by decide +kernel) (Nat.le_of_ble_eq_true rfl) (e_X7_undo_0 E a0 h hd)
def FI_X7_image : Nat → List Value → AH → Option (Int32 × AH) := (cx 9 (fun As h => sR As fun a0 As => sI As fun x1 As => sE As (p_X7_refuse a0 x1 h)) (cx 50 (fun As h => sR As fun a0 As => sI As fun x1 As => sE As (p_X7_answer a0 x1 h)) fI0))
theorem FI_X7_image_ok {l : Launch} {D : va_G} {dA : Nat → ClassId} {z : Nat} {sa : Nat → Nat} {Hz : Heap} (E : StrOK qLen qCh l D dA z sa Hz) : ∀ mi As h x h', FI_X7_image mi As h = some (x, h') → CalOK l D dA z sa Hz (MT mi) As h (some (.int x)) h' := (cxI_ok (fun As h x h2 e => by obtain ⟨_, _, rfl, e0⟩ := sR_inv e; obtain ⟨_, _, rfl, e1⟩ := sI_inv e0; obtain ⟨rfl, ez⟩ := sE_inv e1; exact c_X7_refuse E ez) ((cxI_ok (fun As h x h2 e => by obtain ⟨_, _, rfl, e0⟩ := sR_inv e; obtain ⟨_, _, rfl, e1⟩ := sI_inv e0; obtain ⟨rfl, ez⟩ := sE_inv e1; exact c_X7_answer E ez) (fI0_ok E))))
def FV_X7_image : Nat → List Value → AH → Option (AH) := (cx 141 (fun As h => sR As fun a0 As => sR As fun a1 As => sE As (p_X4_copyFrom a0 a1 h)) fV0)
theorem FV_X7_image_ok {l : Launch} {D : va_G} {dA : Nat → ClassId} {z : Nat} {sa : Nat → Nat} {Hz : Heap} (E : StrOK qLen qCh l D dA z sa Hz) : ∀ mi As h h', FV_X7_image mi As h = some h' → CalOK l D dA z sa Hz (MT mi) As h none h' := (cxV_ok (fun As h h2 e => by obtain ⟨_, _, rfl, e0⟩ := sR_inv e; obtain ⟨_, _, rfl, e1⟩ := sR_inv e0; obtain ⟨rfl, ez⟩ := sE_inv e1; exact c_X4_copyFrom E ez) (fV0_ok E))
def I_X7_image_27 : List AI := [(.aload_n 0, 1, [], 0), (.getfield 42, 3, [6, 9, 2, 363], 0), (.aload_n 0, 1, [], 0), (.getfield 329, 3, [6, 10, 0, 364], 0), (.aaload, 1, [], 0), (.aload_n 0, 1, [], 0), (.getfield 29, 3, [6, 4, 2, 358], 0), (.getfield 206, 3, [1, 0, 2, 319], 0), (.invokevirtual 326, 3, [2, 141, 2, 3, 1135], 0), (.aload_n 0, 1, [], 0), (.dup, 1, [], 0), (.getfield 329, 3, [6, 10, 0, 364], 0), (.iconst 1, 1, [], 1), (.iadd, 1, [], 0), (.putfield 329, 3, [6, 10, 0, 364], 0), (.aload_n 0, 1, [], 0), (.aload_n 0, 1, [], 0), (.getfield 329, 3, [6, 10, 0, 364], 0), (.iconst 1, 1, [], 1), (.isub, 1, [], 0), (.invokevirtual 68, 3, [1, 50, 2, 6, 633], 0), (.ireturn, 1, [], 0)]
theorem ok_X7_image_27 : vBL MT qLen qCh false q_X7_image.2.2.2.2.1 q_X7_image.2.2.2.2.2.1 q_X7_image.2.2.1 q_X7_image.1.cls q_X7_image.1.name q_X7_image.2.1 0 27 I_X7_image_27 = true := by decide +kernel
def p_X7_image_27 (a0 : Nat) (h : AH) : Option (Int32 × AH) :=
  if (tg h a0).1 = 6 then (if (tg h a0).1 = 6 then (if inB h (rR h a0 9) 104 (rI h a0 10) then (if (tg h a0).1 = 6 then (if (tg h (rR h a0 4)).1 = 1 then (if (tg h (rR h (rR h a0 9) (rI h a0 10).toNatClampNeg)).1 = 3 then ((p_X4_copyFrom (rR h (rR h a0 9) (rI h a0 10).toNatClampNeg) (rR h (rR h a0 4) 0) h).bind fun h101 =>
  if (tg h101 a0).1 = 6 then (if (tg h101 a0).1 = 6 then (let h102 := wI h101 a0 10 ((rI h101 a0 10) + ((1 : Int32)))
  if (tg h102 a0).1 = 6 then (if (tg h102 a0).1 = 6 then ((p_X7_answer a0 ((rI h102 a0 10) - ((1 : Int32))) h102).bind fun q103 =>
  some (q103.1, q103.2)) else none) else none) else none) else none) else none) else none) else none) else none) else none) else none
set_option maxRecDepth 100000 in
theorem e_X7_image_27 {l : Launch} {D : va_G} {dA : Nat → ClassId} {z : Nat} {sa : Nat → Nat} {Hz : Heap} (E : StrOK qLen qCh l D dA z sa Hz) {h0 fin : AH} {x : Int32}  : ∀ (a0 : Nat) (h : AH), p_X7_image_27 a0 h = some (x, fin) → GM l D dA z sa Hz q_X7_image h0 (some (.int x)) fin 27 [(0, .ref a0)] [] h := by
  intro a0 h hd
  exact step E (is := I_X7_image_27) (pc := 27) (K := k0) (FI := FI_X7_image) (FV := FV_X7_image) (FL := fL0) (rt := rtI) (ft := 0) (by exact hd) ok_X7_image_27 k0_ok (FI_X7_image_ok E) (FV_X7_image_ok E) (fL0_ok E) (rtI_ok rfl)
def I_X7_image_13 : List AI := [(.aload_n 0, 1, [], 0), (.getfield 329, 3, [6, 10, 0, 364], 0), (.iconst 3, 1, [], 3), (.if_icmp .lt 9, 3, [27], 0), (.aload_n 0, 1, [], 0), (.iconst 3, 1, [], 3), (.invokevirtual 54, 3, [1, 9, 2, 6, 403], 0), (.ireturn, 1, [], 0)]
theorem ok_X7_image_13 : vBL MT qLen qCh false q_X7_image.2.2.2.2.1 q_X7_image.2.2.2.2.2.1 q_X7_image.2.2.1 q_X7_image.1.cls q_X7_image.1.name q_X7_image.2.1 0 13 I_X7_image_13 = true := by decide +kernel
def p_X7_image_13 (a0 : Nat) (h : AH) : Option (Int32 × AH) :=
  if (tg h a0).1 = 6 then (if (rI h a0 10) < ((3 : Int32)) then (if (tg h a0).1 = 6 then (if (tg h a0).1 = 6 then (if inB h (rR h a0 9) 104 (rI h a0 10) then (if (tg h a0).1 = 6 then (if (tg h (rR h a0 4)).1 = 1 then (if (tg h (rR h (rR h a0 9) (rI h a0 10).toNatClampNeg)).1 = 3 then ((p_X4_copyFrom (rR h (rR h a0 9) (rI h a0 10).toNatClampNeg) (rR h (rR h a0 4) 0) h).bind fun h104 =>
  if (tg h104 a0).1 = 6 then (if (tg h104 a0).1 = 6 then (let h105 := wI h104 a0 10 ((rI h104 a0 10) + ((1 : Int32)))
  if (tg h105 a0).1 = 6 then (if (tg h105 a0).1 = 6 then ((p_X7_answer a0 ((rI h105 a0 10) - ((1 : Int32))) h105).bind fun q106 =>
  some (q106.1, q106.2)) else none) else none) else none) else none) else none) else none) else none) else none) else none) else none)
  else
  if (tg h a0).1 = 6 then ((p_X7_refuse a0 ((3 : Int32)) h).bind fun q107 =>
  some (q107.1, q107.2)) else none) else none
set_option maxRecDepth 100000 in
theorem e_X7_image_13 {l : Launch} {D : va_G} {dA : Nat → ClassId} {z : Nat} {sa : Nat → Nat} {Hz : Heap} (E : StrOK qLen qCh l D dA z sa Hz) {h0 fin : AH} {x : Int32}  : ∀ (a0 : Nat) (h : AH), p_X7_image_13 a0 h = some (x, fin) → GM l D dA z sa Hz q_X7_image h0 (some (.int x)) fin 13 [(0, .ref a0)] [] h := by
  intro a0 h hd
  exact step E (is := I_X7_image_13) (pc := 13) (K := (kx 27 (fun la st h => gR la 0 fun a0 => sE st (p_X7_image_27 a0 h)) k0)) (FI := FI_X7_image) (FV := FV_X7_image) (FL := fL0) (rt := rtI) (ft := 0) (by exact hd) ok_X7_image_13 (kx_ok (fun la st h e => by obtain ⟨a0, m_a0, e1⟩ := gR_inv e; obtain ⟨rfl, ez⟩ := sE_inv e1; exact gm_fewer (e_X7_image_27 E  a0 h ez) (mem_cons m_a0 mem_nil)) k0_ok) (FI_X7_image_ok E) (FV_X7_image_ok E) (fL0_ok E) (rtI_ok rfl)
def I_X7_image_0 : List AI := [(.aload_n 0, 1, [], 0), (.getfield 107, 3, [6, 3, 3, 357], 0), (.ifCond .ne 9, 3, [13], 0), (.aload_n 0, 1, [], 0), (.iconst 1, 1, [], 1), (.invokevirtual 54, 3, [1, 9, 2, 6, 403], 0), (.ireturn, 1, [], 0)]
theorem ok_X7_image_0 : vBL MT qLen qCh false q_X7_image.2.2.2.2.1 q_X7_image.2.2.2.2.2.1 q_X7_image.2.2.1 q_X7_image.1.cls q_X7_image.1.name q_X7_image.2.1 0 0 I_X7_image_0 = true := by decide +kernel
def p_X7_image (a0 : Nat) (h : AH) : Option (Int32 × AH) :=
  if (tg h a0).1 = 6 then (if (rI h a0 3) = 0 then (if (tg h a0).1 = 6 then ((p_X7_refuse a0 ((1 : Int32)) h).bind fun q112 =>
  some (q112.1, q112.2)) else none)
  else
  if (tg h a0).1 = 6 then (if (rI h a0 10) < ((3 : Int32)) then (if (tg h a0).1 = 6 then (if (tg h a0).1 = 6 then (if inB h (rR h a0 9) 104 (rI h a0 10) then (if (tg h a0).1 = 6 then (if (tg h (rR h a0 4)).1 = 1 then (if (tg h (rR h (rR h a0 9) (rI h a0 10).toNatClampNeg)).1 = 3 then ((p_X4_copyFrom (rR h (rR h a0 9) (rI h a0 10).toNatClampNeg) (rR h (rR h a0 4) 0) h).bind fun h108 =>
  if (tg h108 a0).1 = 6 then (if (tg h108 a0).1 = 6 then (let h109 := wI h108 a0 10 ((rI h108 a0 10) + ((1 : Int32)))
  if (tg h109 a0).1 = 6 then (if (tg h109 a0).1 = 6 then ((p_X7_answer a0 ((rI h109 a0 10) - ((1 : Int32))) h109).bind fun q110 =>
  some (q110.1, q110.2)) else none) else none) else none) else none) else none) else none) else none) else none) else none) else none)
  else
  if (tg h a0).1 = 6 then ((p_X7_refuse a0 ((3 : Int32)) h).bind fun q111 =>
  some (q111.1, q111.2)) else none) else none) else none
set_option maxRecDepth 100000 in
theorem e_X7_image_0 {l : Launch} {D : va_G} {dA : Nat → ClassId} {z : Nat} {sa : Nat → Nat} {Hz : Heap} (E : StrOK qLen qCh l D dA z sa Hz) {h0 fin : AH} {x : Int32}  : ∀ (a0 : Nat) (h : AH), p_X7_image a0 h = some (x, fin) → GM l D dA z sa Hz q_X7_image h0 (some (.int x)) fin 0 [(0, .ref a0)] [] h := by
  intro a0 h hd
  exact step E (is := I_X7_image_0) (pc := 0) (K := (kx 13 (fun la st h => gR la 0 fun a0 => sE st (p_X7_image_13 a0 h)) k0)) (FI := FI_X7_image) (FV := FV_X7_image) (FL := fL0) (rt := rtI) (ft := 0) (by exact hd) ok_X7_image_0 (kx_ok (fun la st h e => by obtain ⟨a0, m_a0, e1⟩ := gR_inv e; obtain ⟨rfl, ez⟩ := sE_inv e1; exact gm_fewer (e_X7_image_13 E  a0 h ez) (mem_cons m_a0 mem_nil)) k0_ok) (FI_X7_image_ok E) (FV_X7_image_ok E) (fL0_ok E) (rtI_ok rfl)
theorem c_X7_image {l : Launch} {D : va_G} {dA : Nat → ClassId} {z : Nat} {sa : Nat → Nat} {Hz : Heap} (E : StrOK qLen qCh l D dA z sa Hz) {a0 : Nat} {h fin : AH} {x : Int32} (hd : p_X7_image a0 h = some (x, fin)) : CalOK l D dA z sa Hz q_X7_image [.ref a0] h (some (.int x)) fin := calOf (by decide +kernel) (Nat.le_of_ble_eq_true rfl) (e_X7_image_0 E a0 h hd)
def FI_X7_back : Nat → List Value → AH → Option (Int32 × AH) := (cx 121 (fun As h => sR As fun a0 As => sI As fun x1 As => sE As (p_X7_declines a0 x1 h)) (cx 122 (fun As h => sR As fun a0 As => sE As (p_X7_agrees a0 h)) fI0))
theorem FI_X7_back_ok {l : Launch} {D : va_G} {dA : Nat → ClassId} {z : Nat} {sa : Nat → Nat} {Hz : Heap} (E : StrOK qLen qCh l D dA z sa Hz) : ∀ mi As h x h', FI_X7_back mi As h = some (x, h') → CalOK l D dA z sa Hz (MT mi) As h (some (.int x)) h' := (cxI_ok (fun As h x h2 e => by obtain ⟨_, _, rfl, e0⟩ := sR_inv e; obtain ⟨_, _, rfl, e1⟩ := sI_inv e0; obtain ⟨rfl, ez⟩ := sE_inv e1; exact c_X7_declines E ez) ((cxI_ok (fun As h x h2 e => by obtain ⟨_, _, rfl, e0⟩ := sR_inv e; obtain ⟨rfl, ez⟩ := sE_inv e0; exact c_X7_agrees E ez) (fI0_ok E))))
def FV_X7_back : Nat → List Value → AH → Option (AH) := (cx 141 (fun As h => sR As fun a0 As => sR As fun a1 As => sE As (p_X4_copyFrom a0 a1 h)) fV0)
theorem FV_X7_back_ok {l : Launch} {D : va_G} {dA : Nat → ClassId} {z : Nat} {sa : Nat → Nat} {Hz : Heap} (E : StrOK qLen qCh l D dA z sa Hz) : ∀ mi As h h', FV_X7_back mi As h = some h' → CalOK l D dA z sa Hz (MT mi) As h none h' := (cxV_ok (fun As h h2 e => by obtain ⟨_, _, rfl, e0⟩ := sR_inv e; obtain ⟨_, _, rfl, e1⟩ := sR_inv e0; obtain ⟨rfl, ez⟩ := sE_inv e1; exact c_X4_copyFrom E ez) (fV0_ok E))
def I_X7_back_17 : List AI := [(.aload_n 0, 1, [], 0), (.iconst 1, 1, [], 1), (.invokevirtual 294, 3, [1, 121, 2, 6, 930], 0), (.ireturn, 1, [], 0)]
theorem ok_X7_back_17 : vBL MT qLen qCh false q_X7_back.2.2.2.2.1 q_X7_back.2.2.2.2.2.1 q_X7_back.2.2.1 q_X7_back.1.cls q_X7_back.1.name q_X7_back.2.1 0 17 I_X7_back_17 = true := by decide +kernel
def p_X7_back_17 (a0 : Nat) (h : AH) : Option (Int32 × AH) :=
  if (tg h a0).1 = 6 then ((p_X7_declines a0 ((1 : Int32)) h).bind fun q101 =>
  if q101.1 &&& 1 = q101.1 then some (q101.1, q101.2) else none) else none
set_option maxRecDepth 100000 in
theorem e_X7_back_17 {l : Launch} {D : va_G} {dA : Nat → ClassId} {z : Nat} {sa : Nat → Nat} {Hz : Heap} (E : StrOK qLen qCh l D dA z sa Hz) {h0 fin : AH} {x : Int32}  : ∀ (a0 : Nat) (h : AH), p_X7_back_17 a0 h = some (x, fin) → GM l D dA z sa Hz q_X7_back h0 (some (.int x)) fin 17 [(0, .ref a0)] [] h := by
  intro a0 h hd
  exact step E (is := I_X7_back_17) (pc := 17) (K := k0) (FI := FI_X7_back) (FV := FV_X7_back) (FL := fL0) (rt := rtZ) (ft := 0) (by exact hd) ok_X7_back_17 k0_ok (FI_X7_back_ok E) (FV_X7_back_ok E) (fL0_ok E) (rtZ_ok rfl)
def I_X7_back_23 : List AI := [(.aload_n 0, 1, [], 0), (.getfield 29, 3, [6, 4, 2, 358], 0), (.getfield 206, 3, [1, 0, 2, 319], 0), (.aload_n 0, 1, [], 0), (.getfield 42, 3, [6, 9, 2, 363], 0), (.iload_n 1, 1, [], 0), (.aaload, 1, [], 0), (.invokevirtual 326, 3, [2, 141, 2, 3, 1135], 0), (.aload_n 0, 1, [], 0), (.iconst 0, 1, [], 0), (.putfield 320, 3, [6, 8, 0, 362], 0), (.aload_n 0, 1, [], 0), (.invokevirtual 307, 3, [1, 122, 1, 6, 934], 0), (.ireturn, 1, [], 0)]
theorem ok_X7_back_23 : vBL MT qLen qCh false q_X7_back.2.2.2.2.1 q_X7_back.2.2.2.2.2.1 q_X7_back.2.2.1 q_X7_back.1.cls q_X7_back.1.name q_X7_back.2.1 0 23 I_X7_back_23 = true := by decide +kernel
def p_X7_back_23 (a0 : Nat) (x1 : Int32) (h : AH) : Option (Int32 × AH) :=
  if (tg h a0).1 = 6 then (if (tg h (rR h a0 4)).1 = 1 then (if (tg h a0).1 = 6 then (if inB h (rR h a0 9) 104 x1 then (if (tg h (rR h (rR h a0 4) 0)).1 = 3 then ((p_X4_copyFrom (rR h (rR h a0 4) 0) (rR h (rR h a0 9) x1.toNatClampNeg) h).bind fun h102 =>
  if (tg h102 a0).1 = 6 then (let h103 := wI h102 a0 8 ((0 : Int32))
  if (tg h103 a0).1 = 6 then ((p_X7_agrees a0 h103).bind fun q104 =>
  if q104.1 &&& 1 = q104.1 then some (q104.1, q104.2) else none) else none) else none) else none) else none) else none) else none) else none
set_option maxRecDepth 100000 in
theorem e_X7_back_23 {l : Launch} {D : va_G} {dA : Nat → ClassId} {z : Nat} {sa : Nat → Nat} {Hz : Heap} (E : StrOK qLen qCh l D dA z sa Hz) {h0 fin : AH} {x : Int32}  : ∀ (a0 : Nat) (x1 : Int32) (h : AH), p_X7_back_23 a0 x1 h = some (x, fin) → GM l D dA z sa Hz q_X7_back h0 (some (.int x)) fin 23 [(0, .ref a0), (1, .int x1)] [] h := by
  intro a0 x1 h hd
  exact step E (is := I_X7_back_23) (pc := 23) (K := k0) (FI := FI_X7_back) (FV := FV_X7_back) (FL := fL0) (rt := rtZ) (ft := 0) (by exact hd) ok_X7_back_23 k0_ok (FI_X7_back_ok E) (FV_X7_back_ok E) (fL0_ok E) (rtZ_ok rfl)
def I_X7_back_0 : List AI := [(.iload_n 1, 1, [], 0), (.ifCond .lt 16, 3, [17], 0), (.iload_n 1, 1, [], 0), (.aload_n 0, 1, [], 0), (.getfield 329, 3, [6, 10, 0, 364], 0), (.if_icmp .ge 8, 3, [17], 0), (.iload_n 1, 1, [], 0), (.iconst 3, 1, [], 3), (.if_icmp .lt 9, 3, [23], 0)]
theorem ok_X7_back_0 : vBL MT qLen qCh false q_X7_back.2.2.2.2.1 q_X7_back.2.2.2.2.2.1 q_X7_back.2.2.1 q_X7_back.1.cls q_X7_back.1.name q_X7_back.2.1 17 0 I_X7_back_0 = true := by decide +kernel
def p_X7_back (a0 : Nat) (x1 : Int32) (h : AH) : Option (Int32 × AH) :=
  if x1 < 0 then (p_X7_back_17 a0 h)
  else
  if (tg h a0).1 = 6 then (if x1 < (rI h a0 10) then (if x1 < ((3 : Int32)) then (if (tg h a0).1 = 6 then (if (tg h (rR h a0 4)).1 = 1 then (if (tg h a0).1 = 6 then (if inB h (rR h a0 9) 104 x1 then (if (tg h (rR h (rR h a0 4) 0)).1 = 3 then ((p_X4_copyFrom (rR h (rR h a0 4) 0) (rR h (rR h a0 9) x1.toNatClampNeg) h).bind fun h105 =>
  if (tg h105 a0).1 = 6 then (let h106 := wI h105 a0 8 ((0 : Int32))
  if (tg h106 a0).1 = 6 then ((p_X7_agrees a0 h106).bind fun q107 =>
  if q107.1 &&& 1 = q107.1 then some (q107.1, q107.2) else none) else none) else none) else none) else none) else none) else none) else none)
  else
  p_X7_back_17 a0 h)
  else
  p_X7_back_17 a0 h) else none
set_option maxRecDepth 100000 in
theorem e_X7_back_0 {l : Launch} {D : va_G} {dA : Nat → ClassId} {z : Nat} {sa : Nat → Nat} {Hz : Heap} (E : StrOK qLen qCh l D dA z sa Hz) {h0 fin : AH} {x : Int32}  : ∀ (a0 : Nat) (x1 : Int32) (h : AH), p_X7_back a0 x1 h = some (x, fin) → GM l D dA z sa Hz q_X7_back h0 (some (.int x)) fin 0 [(0, .ref a0), (1, .int x1)] [] h := by
  intro a0 x1 h hd
  exact step E (is := I_X7_back_0) (pc := 0) (K := (kx 17 (fun la st h => gR la 0 fun a0 => sE st (p_X7_back_17 a0 h)) (kx 23 (fun la st h => gR la 0 fun a0 => gI la 1 fun x1 => sE st (p_X7_back_23 a0 x1 h)) k0))) (FI := FI_X7_back) (FV := FV_X7_back) (FL := fL0) (rt := rtZ) (ft := 17) (by exact hd) ok_X7_back_0 (kx_ok (fun la st h e => by obtain ⟨a0, m_a0, e1⟩ := gR_inv e; obtain ⟨rfl, ez⟩ := sE_inv e1; exact gm_fewer (e_X7_back_17 E  a0 h ez) (mem_cons m_a0 mem_nil)) (kx_ok (fun la st h e => by obtain ⟨a0, m_a0, e1⟩ := gR_inv e; obtain ⟨x1, m_x1, e2⟩ := gI_inv e1; obtain ⟨rfl, ez⟩ := sE_inv e2; exact gm_fewer (e_X7_back_23 E  a0 x1 h ez) (mem_cons m_a0 (mem_cons m_x1 mem_nil))) k0_ok)) (FI_X7_back_ok E) (FV_X7_back_ok E) (fL0_ok E) (rtZ_ok rfl)
theorem c_X7_back {l : Launch} {D : va_G} {dA : Nat → ClassId} {z : Nat} {sa : Nat → Nat} {Hz : Heap} (E : StrOK qLen qCh l D dA z sa Hz) {a0 : Nat} {x1 : Int32} {h fin : AH} {x : Int32} (hd : p_X7_back a0 x1 h = some (x, fin)) : CalOK l D dA z sa Hz q_X7_back [.ref a0, .int x1] h (some (.int x)) fin := calOf (by decide +kernel) (Nat.le_of_ble_eq_true rfl) (e_X7_back_0 E a0 x1 h hd)
def FI_X1_countBacked : Nat → List Value → AH → Option (Int32 × AH) := (cx 22 (fun As h => sR As fun a0 As => sI As fun x1 As => sE As (p_X1_isBacked a0 x1 h)) (cx 62 (fun As h => sI As fun x0 As => sE As (p_X7_bit x0 h)) fI0))
theorem FI_X1_countBacked_ok {l : Launch} {D : va_G} {dA : Nat → ClassId} {z : Nat} {sa : Nat → Nat} {Hz : Heap} (E : StrOK qLen qCh l D dA z sa Hz) : ∀ mi As h x h', FI_X1_countBacked mi As h = some (x, h') → CalOK l D dA z sa Hz (MT mi) As h (some (.int x)) h' := (cxI_ok (fun As h x h2 e => by obtain ⟨_, _, rfl, e0⟩ := sR_inv e; obtain ⟨_, _, rfl, e1⟩ := sI_inv e0; obtain ⟨rfl, ez⟩ := sE_inv e1; exact c_X1_isBacked E ez) ((cxI_ok (fun As h x h2 e => by obtain ⟨_, _, rfl, e0⟩ := sI_inv e; obtain ⟨rfl, ez⟩ := sE_inv e0; exact c_X7_bit E ez) (fI0_ok E))))
def I_X1_countBacked_27 : List AI := [(.iload_n 1, 1, [], 0), (.ireturn, 1, [], 0)]
theorem ok_X1_countBacked_27 : vBL MT qLen qCh false q_X1_countBacked.2.2.2.2.1 q_X1_countBacked.2.2.2.2.2.1 q_X1_countBacked.2.2.1 q_X1_countBacked.1.cls q_X1_countBacked.1.name q_X1_countBacked.2.1 0 27 I_X1_countBacked_27 = true := by decide +kernel
def p_X1_countBacked_27 (x1 : Int32) (h : AH) : Option (Int32 × AH) :=
  some (x1, h)
set_option maxRecDepth 100000 in
theorem e_X1_countBacked_27 {l : Launch} {D : va_G} {dA : Nat → ClassId} {z : Nat} {sa : Nat → Nat} {Hz : Heap} (E : StrOK qLen qCh l D dA z sa Hz) {h0 fin : AH} {x : Int32}  : ∀ (x1 : Int32) (h : AH), p_X1_countBacked_27 x1 h = some (x, fin) → GM l D dA z sa Hz q_X1_countBacked h0 (some (.int x)) fin 27 [(1, .int x1)] [] h := by
  intro x1 h hd
  exact step E (is := I_X1_countBacked_27) (pc := 27) (K := k0) (FI := FI_X1_countBacked) (FV := fV0) (FL := fL0) (rt := rtI) (ft := 0) (by exact hd) ok_X1_countBacked_27 k0_ok (FI_X1_countBacked_ok E) (fV0_ok E) (fL0_ok E) (rtI_ok rfl)
def I_X1_countBacked_4 : List AI := [(.iload_n 2, 1, [], 0), (.bipush 16, 2, [], 16), (.if_icmp .ge 20, 3, [27], 0), (.iload_n 1, 1, [], 0), (.aload_n 0, 1, [], 0), (.iload_n 2, 1, [], 0), (.invokevirtual 38, 3, [1, 22, 2, 0, 676], 0), (.invokestatic 46, 3, [1, 62, 1, 770], 0), (.iadd, 1, [], 0), (.istore_n 1, 1, [], 0), (.iinc 2 1, 3, [], 1), (.goto (-20), 3, [4], 0)]
theorem ok_X1_countBacked_4 : vBL MT qLen qCh false q_X1_countBacked.2.2.2.2.1 q_X1_countBacked.2.2.2.2.2.1 q_X1_countBacked.2.2.1 q_X1_countBacked.1.cls q_X1_countBacked.1.name q_X1_countBacked.2.1 0 4 I_X1_countBacked_4 = true := by decide +kernel
def p_X1_countBacked_4 : Nat → Nat → Int32 → Int32 → AH → Option (Int32 × AH)
  | 0, _, _, _, _ => none
  | n + 1, a0, x1, x2, h => if x2 < ((16 : Int32)) then (if (tg h a0).1 = 0 then ((p_X1_isBacked a0 x2 h).bind fun q101 =>
    (p_X7_bit q101.1 q101.2).bind fun q102 =>
    let x103 := x1 + q102.1
    p_X1_countBacked_4 n a0 x103 (x2 + (1 : Int32)) q102.2) else none)
    else
    some (x1, h)
set_option maxRecDepth 100000 in
theorem e_X1_countBacked_4 {l : Launch} {D : va_G} {dA : Nat → ClassId} {z : Nat} {sa : Nat → Nat} {Hz : Heap} (E : StrOK qLen qCh l D dA z sa Hz) {h0 fin : AH} {x : Int32}  : ∀ (n : Nat) (a0 : Nat) (x1 : Int32) (x2 : Int32) (h : AH), p_X1_countBacked_4 n a0 x1 x2 h = some (x, fin) → GM l D dA z sa Hz q_X1_countBacked h0 (some (.int x)) fin 4 [(0, .ref a0), (1, .int x1), (2, .int x2)] [] h := by
  intro n
  induction n with
  | zero => intro a0 x1 x2 h hd; exact nomatch hd
  | succ n ih =>
    intro a0 x1 x2 h hd
    exact step E (is := I_X1_countBacked_4) (pc := 4) (K := (kx 27 (fun la st h => gI la 1 fun x1 => sE st (p_X1_countBacked_27 x1 h)) (kx 4 (fun la st h => gR la 0 fun a0 => gI la 1 fun x1 => gI la 2 fun x2 => sE st (p_X1_countBacked_4 n a0 x1 x2 h)) k0))) (FI := FI_X1_countBacked) (FV := fV0) (FL := fL0) (rt := rtI) (ft := 0) (by exact hd) ok_X1_countBacked_4 (kx_ok (fun la st h e => by obtain ⟨x1, m_x1, e1⟩ := gI_inv e; obtain ⟨rfl, ez⟩ := sE_inv e1; exact gm_fewer (e_X1_countBacked_27 E  x1 h ez) (mem_cons m_x1 mem_nil)) (kx_ok (fun la st h e => by obtain ⟨a0, m_a0, e1⟩ := gR_inv e; obtain ⟨x1, m_x1, e2⟩ := gI_inv e1; obtain ⟨x2, m_x2, e3⟩ := gI_inv e2; obtain ⟨rfl, ez⟩ := sE_inv e3; exact gm_fewer (ih a0 x1 x2 h ez) (mem_cons m_a0 (mem_cons m_x1 (mem_cons m_x2 mem_nil)))) k0_ok)) (FI_X1_countBacked_ok E) (fV0_ok E) (fL0_ok E) (rtI_ok rfl)
def I_X1_countBacked_0 : List AI := [(.iconst 0, 1, [], 0), (.istore_n 1, 1, [], 0), (.iconst 0, 1, [], 0), (.istore_n 2, 1, [], 0)]
theorem ok_X1_countBacked_0 : vBL MT qLen qCh false q_X1_countBacked.2.2.2.2.1 q_X1_countBacked.2.2.2.2.2.1 q_X1_countBacked.2.2.1 q_X1_countBacked.1.cls q_X1_countBacked.1.name q_X1_countBacked.2.1 4 0 I_X1_countBacked_0 = true := by decide +kernel
def p_X1_countBacked (a0 : Nat) (h : AH) : Option (Int32 × AH) :=
  p_X1_countBacked_4 FU a0 ((0 : Int32)) ((0 : Int32)) h
set_option maxRecDepth 100000 in
theorem e_X1_countBacked_0 {l : Launch} {D : va_G} {dA : Nat → ClassId} {z : Nat} {sa : Nat → Nat} {Hz : Heap} (E : StrOK qLen qCh l D dA z sa Hz) {h0 fin : AH} {x : Int32}  : ∀ (a0 : Nat) (h : AH), p_X1_countBacked a0 h = some (x, fin) → GM l D dA z sa Hz q_X1_countBacked h0 (some (.int x)) fin 0 [(0, .ref a0)] [] h := by
  intro a0 h hd
  exact step E (is := I_X1_countBacked_0) (pc := 0) (K := (kx 4 (fun la st h => gR la 0 fun a0 => gI la 1 fun x1 => gI la 2 fun x2 => sE st (p_X1_countBacked_4 FU a0 x1 x2 h)) k0)) (FI := FI_X1_countBacked) (FV := fV0) (FL := fL0) (rt := rtI) (ft := 4) (by exact hd) ok_X1_countBacked_0 (kx_ok (fun la st h e => by obtain ⟨a0, m_a0, e1⟩ := gR_inv e; obtain ⟨x1, m_x1, e2⟩ := gI_inv e1; obtain ⟨x2, m_x2, e3⟩ := gI_inv e2; obtain ⟨rfl, ez⟩ := sE_inv e3; exact gm_fewer (e_X1_countBacked_4 E  FU a0 x1 x2 h ez) (mem_cons m_a0 (mem_cons m_x1 (mem_cons m_x2 mem_nil)))) k0_ok) (FI_X1_countBacked_ok E) (fV0_ok E) (fL0_ok E) (rtI_ok rfl)
theorem c_X1_countBacked {l : Launch} {D : va_G} {dA : Nat → ClassId} {z : Nat} {sa : Nat → Nat} {Hz : Heap} (E : StrOK qLen qCh l D dA z sa Hz) {a0 : Nat} {h fin : AH} {x : Int32} (hd : p_X1_countBacked a0 h = some (x, fin)) : CalOK l D dA z sa Hz q_X1_countBacked [.ref a0] h (some (.int x)) fin := calOf (by decide +kernel) (Nat.le_of_ble_eq_true rfl) (e_X1_countBacked_0 E a0 h hd)
def FI_X7_size : Nat → List Value → AH → Option (Int32 × AH) := (cx 195 (fun As h => sR As fun a0 As => sE As (p_X1_countBacked a0 h)) fI0)
theorem FI_X7_size_ok {l : Launch} {D : va_G} {dA : Nat → ClassId} {z : Nat} {sa : Nat → Nat} {Hz : Heap} (E : StrOK qLen qCh l D dA z sa Hz) : ∀ mi As h x h', FI_X7_size mi As h = some (x, h') → CalOK l D dA z sa Hz (MT mi) As h (some (.int x)) h' := (cxI_ok (fun As h x h2 e => by obtain ⟨_, _, rfl, e0⟩ := sR_inv e; obtain ⟨rfl, ez⟩ := sE_inv e0; exact c_X1_countBacked E ez) (fI0_ok E))
def I_X7_size_10 : List AI := [(.iconst (-1), 1, [], (-1)), (.ireturn, 1, [], 0)]
theorem ok_X7_size_10 : vBL MT qLen qCh false q_X7_size.2.2.2.2.1 q_X7_size.2.2.2.2.2.1 q_X7_size.2.2.1 q_X7_size.1.cls q_X7_size.1.name q_X7_size.2.1 0 10 I_X7_size_10 = true := by decide +kernel
def p_X7_size_10 (h : AH) : Option (Int32 × AH) :=
  some (((-1 : Int32)), h)
set_option maxRecDepth 100000 in
theorem e_X7_size_10 {l : Launch} {D : va_G} {dA : Nat → ClassId} {z : Nat} {sa : Nat → Nat} {Hz : Heap} (E : StrOK qLen qCh l D dA z sa Hz) {h0 fin : AH} {x : Int32}  : ∀  (h : AH), p_X7_size_10 h = some (x, fin) → GM l D dA z sa Hz q_X7_size h0 (some (.int x)) fin 10 [] [] h := by
  intro h hd
  exact step E (is := I_X7_size_10) (pc := 10) (K := k0) (FI := FI_X7_size) (FV := fV0) (FL := fL0) (rt := rtI) (ft := 0) (by exact hd) ok_X7_size_10 k0_ok (FI_X7_size_ok E) (fV0_ok E) (fL0_ok E) (rtI_ok rfl)
def I_X7_size_172 : List AI := [(.aload_n 0, 1, [], 0), (.getfield 329, 3, [6, 10, 0, 364], 0), (.ireturn, 1, [], 0)]
theorem ok_X7_size_172 : vBL MT qLen qCh false q_X7_size.2.2.2.2.1 q_X7_size.2.2.2.2.2.1 q_X7_size.2.2.1 q_X7_size.1.cls q_X7_size.1.name q_X7_size.2.1 0 172 I_X7_size_172 = true := by decide +kernel
def p_X7_size_172 (a0 : Nat) (h : AH) : Option (Int32 × AH) :=
  if (tg h a0).1 = 6 then (some ((rI h a0 10), h)) else none
set_option maxRecDepth 100000 in
theorem e_X7_size_172 {l : Launch} {D : va_G} {dA : Nat → ClassId} {z : Nat} {sa : Nat → Nat} {Hz : Heap} (E : StrOK qLen qCh l D dA z sa Hz) {h0 fin : AH} {x : Int32}  : ∀ (a0 : Nat) (h : AH), p_X7_size_172 a0 h = some (x, fin) → GM l D dA z sa Hz q_X7_size h0 (some (.int x)) fin 172 [(0, .ref a0)] [] h := by
  intro a0 h hd
  exact step E (is := I_X7_size_172) (pc := 172) (K := k0) (FI := FI_X7_size) (FV := fV0) (FL := fL0) (rt := rtI) (ft := 0) (by exact hd) ok_X7_size_172 k0_ok (FI_X7_size_ok E) (fV0_ok E) (fL0_ok E) (rtI_ok rfl)
def I_X7_size_92 : List AI := [(.aload_n 0, 1, [], 0), (.getfield 19, 3, [6, 1, 2, 355], 0), (.getfield 65, 3, [5, 1, 0, 214], 0), (.ireturn, 1, [], 0)]
theorem ok_X7_size_92 : vBL MT qLen qCh false q_X7_size.2.2.2.2.1 q_X7_size.2.2.2.2.2.1 q_X7_size.2.2.1 q_X7_size.1.cls q_X7_size.1.name q_X7_size.2.1 0 92 I_X7_size_92 = true := by decide +kernel
def p_X7_size_92 (a0 : Nat) (h : AH) : Option (Int32 × AH) :=
  if (tg h a0).1 = 6 then (if (tg h (rR h a0 1)).1 = 5 then (some ((rI h (rR h a0 1) 1), h)) else none) else none
set_option maxRecDepth 100000 in
theorem e_X7_size_92 {l : Launch} {D : va_G} {dA : Nat → ClassId} {z : Nat} {sa : Nat → Nat} {Hz : Heap} (E : StrOK qLen qCh l D dA z sa Hz) {h0 fin : AH} {x : Int32}  : ∀ (a0 : Nat) (h : AH), p_X7_size_92 a0 h = some (x, fin) → GM l D dA z sa Hz q_X7_size h0 (some (.int x)) fin 92 [(0, .ref a0)] [] h := by
  intro a0 h hd
  exact step E (is := I_X7_size_92) (pc := 92) (K := k0) (FI := FI_X7_size) (FV := fV0) (FL := fL0) (rt := rtI) (ft := 0) (by exact hd) ok_X7_size_92 k0_ok (FI_X7_size_ok E) (fV0_ok E) (fL0_ok E) (rtI_ok rfl)
def I_X7_size_100 : List AI := [(.aload_n 0, 1, [], 0), (.getfield 29, 3, [6, 4, 2, 358], 0), (.getfield 87, 3, [1, 1, 2, 321], 0), (.invokevirtual 339, 3, [1, 195, 1, 0, 1258], 0), (.ireturn, 1, [], 0)]
theorem ok_X7_size_100 : vBL MT qLen qCh false q_X7_size.2.2.2.2.1 q_X7_size.2.2.2.2.2.1 q_X7_size.2.2.1 q_X7_size.1.cls q_X7_size.1.name q_X7_size.2.1 0 100 I_X7_size_100 = true := by decide +kernel
def p_X7_size_100 (a0 : Nat) (h : AH) : Option (Int32 × AH) :=
  if (tg h a0).1 = 6 then (if (tg h (rR h a0 4)).1 = 1 then (if (tg h (rR h (rR h a0 4) 1)).1 = 0 then ((p_X1_countBacked (rR h (rR h a0 4) 1) h).bind fun q101 =>
  some (q101.1, q101.2)) else none) else none) else none
set_option maxRecDepth 100000 in
theorem e_X7_size_100 {l : Launch} {D : va_G} {dA : Nat → ClassId} {z : Nat} {sa : Nat → Nat} {Hz : Heap} (E : StrOK qLen qCh l D dA z sa Hz) {h0 fin : AH} {x : Int32}  : ∀ (a0 : Nat) (h : AH), p_X7_size_100 a0 h = some (x, fin) → GM l D dA z sa Hz q_X7_size h0 (some (.int x)) fin 100 [(0, .ref a0)] [] h := by
  intro a0 h hd
  exact step E (is := I_X7_size_100) (pc := 100) (K := k0) (FI := FI_X7_size) (FV := fV0) (FL := fL0) (rt := rtI) (ft := 0) (by exact hd) ok_X7_size_100 k0_ok (FI_X7_size_ok E) (fV0_ok E) (fL0_ok E) (rtI_ok rfl)
def I_X7_size_111 : List AI := [(.aload_n 0, 1, [], 0), (.getfield 19, 3, [6, 1, 2, 355], 0), (.getfield 342, 3, [5, 4, 0, 221], 0), (.ireturn, 1, [], 0)]
theorem ok_X7_size_111 : vBL MT qLen qCh false q_X7_size.2.2.2.2.1 q_X7_size.2.2.2.2.2.1 q_X7_size.2.2.1 q_X7_size.1.cls q_X7_size.1.name q_X7_size.2.1 0 111 I_X7_size_111 = true := by decide +kernel
def p_X7_size_111 (a0 : Nat) (h : AH) : Option (Int32 × AH) :=
  if (tg h a0).1 = 6 then (if (tg h (rR h a0 1)).1 = 5 then (some ((rI h (rR h a0 1) 4), h)) else none) else none
set_option maxRecDepth 100000 in
theorem e_X7_size_111 {l : Launch} {D : va_G} {dA : Nat → ClassId} {z : Nat} {sa : Nat → Nat} {Hz : Heap} (E : StrOK qLen qCh l D dA z sa Hz) {h0 fin : AH} {x : Int32}  : ∀ (a0 : Nat) (h : AH), p_X7_size_111 a0 h = some (x, fin) → GM l D dA z sa Hz q_X7_size h0 (some (.int x)) fin 111 [(0, .ref a0)] [] h := by
  intro a0 h hd
  exact step E (is := I_X7_size_111) (pc := 111) (K := k0) (FI := FI_X7_size) (FV := fV0) (FL := fL0) (rt := rtI) (ft := 0) (by exact hd) ok_X7_size_111 k0_ok (FI_X7_size_ok E) (fV0_ok E) (fL0_ok E) (rtI_ok rfl)
def I_X7_size_119 : List AI := [(.aload_n 0, 1, [], 0), (.getfield 19, 3, [6, 1, 2, 355], 0), (.getfield 345, 3, [5, 6, 0, 226], 0), (.ireturn, 1, [], 0)]
theorem ok_X7_size_119 : vBL MT qLen qCh false q_X7_size.2.2.2.2.1 q_X7_size.2.2.2.2.2.1 q_X7_size.2.2.1 q_X7_size.1.cls q_X7_size.1.name q_X7_size.2.1 0 119 I_X7_size_119 = true := by decide +kernel
def p_X7_size_119 (a0 : Nat) (h : AH) : Option (Int32 × AH) :=
  if (tg h a0).1 = 6 then (if (tg h (rR h a0 1)).1 = 5 then (some ((rI h (rR h a0 1) 6), h)) else none) else none
set_option maxRecDepth 100000 in
theorem e_X7_size_119 {l : Launch} {D : va_G} {dA : Nat → ClassId} {z : Nat} {sa : Nat → Nat} {Hz : Heap} (E : StrOK qLen qCh l D dA z sa Hz) {h0 fin : AH} {x : Int32}  : ∀ (a0 : Nat) (h : AH), p_X7_size_119 a0 h = some (x, fin) → GM l D dA z sa Hz q_X7_size h0 (some (.int x)) fin 119 [(0, .ref a0)] [] h := by
  intro a0 h hd
  exact step E (is := I_X7_size_119) (pc := 119) (K := k0) (FI := FI_X7_size) (FV := fV0) (FL := fL0) (rt := rtI) (ft := 0) (by exact hd) ok_X7_size_119 k0_ok (FI_X7_size_ok E) (fV0_ok E) (fL0_ok E) (rtI_ok rfl)
def I_X7_size_127 : List AI := [(.aload_n 0, 1, [], 0), (.getfield 19, 3, [6, 1, 2, 355], 0), (.getfield 249, 3, [5, 9, 0, 231], 0), (.ireturn, 1, [], 0)]
theorem ok_X7_size_127 : vBL MT qLen qCh false q_X7_size.2.2.2.2.1 q_X7_size.2.2.2.2.2.1 q_X7_size.2.2.1 q_X7_size.1.cls q_X7_size.1.name q_X7_size.2.1 0 127 I_X7_size_127 = true := by decide +kernel
def p_X7_size_127 (a0 : Nat) (h : AH) : Option (Int32 × AH) :=
  if (tg h a0).1 = 6 then (if (tg h (rR h a0 1)).1 = 5 then (some ((rI h (rR h a0 1) 9), h)) else none) else none
set_option maxRecDepth 100000 in
theorem e_X7_size_127 {l : Launch} {D : va_G} {dA : Nat → ClassId} {z : Nat} {sa : Nat → Nat} {Hz : Heap} (E : StrOK qLen qCh l D dA z sa Hz) {h0 fin : AH} {x : Int32}  : ∀ (a0 : Nat) (h : AH), p_X7_size_127 a0 h = some (x, fin) → GM l D dA z sa Hz q_X7_size h0 (some (.int x)) fin 127 [(0, .ref a0)] [] h := by
  intro a0 h hd
  exact step E (is := I_X7_size_127) (pc := 127) (K := k0) (FI := FI_X7_size) (FV := fV0) (FL := fL0) (rt := rtI) (ft := 0) (by exact hd) ok_X7_size_127 k0_ok (FI_X7_size_ok E) (fV0_ok E) (fL0_ok E) (rtI_ok rfl)
def I_X7_size_135 : List AI := [(.aload_n 0, 1, [], 0), (.getfield 19, 3, [6, 1, 2, 355], 0), (.getfield 348, 3, [5, 12, 0, 236], 0), (.ireturn, 1, [], 0)]
theorem ok_X7_size_135 : vBL MT qLen qCh false q_X7_size.2.2.2.2.1 q_X7_size.2.2.2.2.2.1 q_X7_size.2.2.1 q_X7_size.1.cls q_X7_size.1.name q_X7_size.2.1 0 135 I_X7_size_135 = true := by decide +kernel
def p_X7_size_135 (a0 : Nat) (h : AH) : Option (Int32 × AH) :=
  if (tg h a0).1 = 6 then (if (tg h (rR h a0 1)).1 = 5 then (some ((rI h (rR h a0 1) 12), h)) else none) else none
set_option maxRecDepth 100000 in
theorem e_X7_size_135 {l : Launch} {D : va_G} {dA : Nat → ClassId} {z : Nat} {sa : Nat → Nat} {Hz : Heap} (E : StrOK qLen qCh l D dA z sa Hz) {h0 fin : AH} {x : Int32}  : ∀ (a0 : Nat) (h : AH), p_X7_size_135 a0 h = some (x, fin) → GM l D dA z sa Hz q_X7_size h0 (some (.int x)) fin 135 [(0, .ref a0)] [] h := by
  intro a0 h hd
  exact step E (is := I_X7_size_135) (pc := 135) (K := k0) (FI := FI_X7_size) (FV := fV0) (FL := fL0) (rt := rtI) (ft := 0) (by exact hd) ok_X7_size_135 k0_ok (FI_X7_size_ok E) (fV0_ok E) (fL0_ok E) (rtI_ok rfl)
def I_X7_size_143 : List AI := [(.aload_n 0, 1, [], 0), (.getfield 29, 3, [6, 4, 2, 358], 0), (.getfield 197, 3, [1, 4, 0, 327], 0), (.ireturn, 1, [], 0)]
theorem ok_X7_size_143 : vBL MT qLen qCh false q_X7_size.2.2.2.2.1 q_X7_size.2.2.2.2.2.1 q_X7_size.2.2.1 q_X7_size.1.cls q_X7_size.1.name q_X7_size.2.1 0 143 I_X7_size_143 = true := by decide +kernel
def p_X7_size_143 (a0 : Nat) (h : AH) : Option (Int32 × AH) :=
  if (tg h a0).1 = 6 then (if (tg h (rR h a0 4)).1 = 1 then (some ((rI h (rR h a0 4) 4), h)) else none) else none
set_option maxRecDepth 100000 in
theorem e_X7_size_143 {l : Launch} {D : va_G} {dA : Nat → ClassId} {z : Nat} {sa : Nat → Nat} {Hz : Heap} (E : StrOK qLen qCh l D dA z sa Hz) {h0 fin : AH} {x : Int32}  : ∀ (a0 : Nat) (h : AH), p_X7_size_143 a0 h = some (x, fin) → GM l D dA z sa Hz q_X7_size h0 (some (.int x)) fin 143 [(0, .ref a0)] [] h := by
  intro a0 h hd
  exact step E (is := I_X7_size_143) (pc := 143) (K := k0) (FI := FI_X7_size) (FV := fV0) (FL := fL0) (rt := rtI) (ft := 0) (by exact hd) ok_X7_size_143 k0_ok (FI_X7_size_ok E) (fV0_ok E) (fL0_ok E) (rtI_ok rfl)
def I_X7_size_151 : List AI := [(.aload_n 0, 1, [], 0), (.getfield 29, 3, [6, 4, 2, 358], 0), (.getfield 351, 3, [1, 6, 0, 331], 0), (.ireturn, 1, [], 0)]
theorem ok_X7_size_151 : vBL MT qLen qCh false q_X7_size.2.2.2.2.1 q_X7_size.2.2.2.2.2.1 q_X7_size.2.2.1 q_X7_size.1.cls q_X7_size.1.name q_X7_size.2.1 0 151 I_X7_size_151 = true := by decide +kernel
def p_X7_size_151 (a0 : Nat) (h : AH) : Option (Int32 × AH) :=
  if (tg h a0).1 = 6 then (if (tg h (rR h a0 4)).1 = 1 then (some ((rI h (rR h a0 4) 6), h)) else none) else none
set_option maxRecDepth 100000 in
theorem e_X7_size_151 {l : Launch} {D : va_G} {dA : Nat → ClassId} {z : Nat} {sa : Nat → Nat} {Hz : Heap} (E : StrOK qLen qCh l D dA z sa Hz) {h0 fin : AH} {x : Int32}  : ∀ (a0 : Nat) (h : AH), p_X7_size_151 a0 h = some (x, fin) → GM l D dA z sa Hz q_X7_size h0 (some (.int x)) fin 151 [(0, .ref a0)] [] h := by
  intro a0 h hd
  exact step E (is := I_X7_size_151) (pc := 151) (K := k0) (FI := FI_X7_size) (FV := fV0) (FL := fL0) (rt := rtI) (ft := 0) (by exact hd) ok_X7_size_151 k0_ok (FI_X7_size_ok E) (fV0_ok E) (fL0_ok E) (rtI_ok rfl)
def I_X7_size_159 : List AI := [(.aload_n 0, 1, [], 0), (.getfield 29, 3, [6, 4, 2, 358], 0), (.getfield 203, 3, [1, 7, 0, 333], 0), (.ireturn, 1, [], 0)]
theorem ok_X7_size_159 : vBL MT qLen qCh false q_X7_size.2.2.2.2.1 q_X7_size.2.2.2.2.2.1 q_X7_size.2.2.1 q_X7_size.1.cls q_X7_size.1.name q_X7_size.2.1 0 159 I_X7_size_159 = true := by decide +kernel
def p_X7_size_159 (a0 : Nat) (h : AH) : Option (Int32 × AH) :=
  if (tg h a0).1 = 6 then (if (tg h (rR h a0 4)).1 = 1 then (some ((rI h (rR h a0 4) 7), h)) else none) else none
set_option maxRecDepth 100000 in
theorem e_X7_size_159 {l : Launch} {D : va_G} {dA : Nat → ClassId} {z : Nat} {sa : Nat → Nat} {Hz : Heap} (E : StrOK qLen qCh l D dA z sa Hz) {h0 fin : AH} {x : Int32}  : ∀ (a0 : Nat) (h : AH), p_X7_size_159 a0 h = some (x, fin) → GM l D dA z sa Hz q_X7_size h0 (some (.int x)) fin 159 [(0, .ref a0)] [] h := by
  intro a0 h hd
  exact step E (is := I_X7_size_159) (pc := 159) (K := k0) (FI := FI_X7_size) (FV := fV0) (FL := fL0) (rt := rtI) (ft := 0) (by exact hd) ok_X7_size_159 k0_ok (FI_X7_size_ok E) (fV0_ok E) (fL0_ok E) (rtI_ok rfl)
def I_X7_size_167 : List AI := [(.aload_n 0, 1, [], 0), (.getfield 320, 3, [6, 8, 0, 362], 0), (.ireturn, 1, [], 0)]
theorem ok_X7_size_167 : vBL MT qLen qCh false q_X7_size.2.2.2.2.1 q_X7_size.2.2.2.2.2.1 q_X7_size.2.2.1 q_X7_size.1.cls q_X7_size.1.name q_X7_size.2.1 0 167 I_X7_size_167 = true := by decide +kernel
def p_X7_size_167 (a0 : Nat) (h : AH) : Option (Int32 × AH) :=
  if (tg h a0).1 = 6 then (some ((rI h a0 8), h)) else none
set_option maxRecDepth 100000 in
theorem e_X7_size_167 {l : Launch} {D : va_G} {dA : Nat → ClassId} {z : Nat} {sa : Nat → Nat} {Hz : Heap} (E : StrOK qLen qCh l D dA z sa Hz) {h0 fin : AH} {x : Int32}  : ∀ (a0 : Nat) (h : AH), p_X7_size_167 a0 h = some (x, fin) → GM l D dA z sa Hz q_X7_size h0 (some (.int x)) fin 167 [(0, .ref a0)] [] h := by
  intro a0 h hd
  exact step E (is := I_X7_size_167) (pc := 167) (K := k0) (FI := FI_X7_size) (FV := fV0) (FL := fL0) (rt := rtI) (ft := 0) (by exact hd) ok_X7_size_167 k0_ok (FI_X7_size_ok E) (fV0_ok E) (fL0_ok E) (rtI_ok rfl)
def I_X7_size_35 : List AI := [(.iload_n 1, 1, [], 0), (.tableswitch 136 0 9 #[56, 64, 75, 83, 91, 99, 107, 115, 123, 131], 56, [172, 92, 100, 111, 119, 127, 135, 143, 151, 159, 167], 0)]
theorem ok_X7_size_35 : vBL MT qLen qCh false q_X7_size.2.2.2.2.1 q_X7_size.2.2.2.2.2.1 q_X7_size.2.2.1 q_X7_size.1.cls q_X7_size.1.name q_X7_size.2.1 0 35 I_X7_size_35 = true := by decide +kernel
def p_X7_size_35 (a0 : Nat) (x1 : Int32) (h : AH) : Option (Int32 × AH) :=
  if swT 0 9 [172, 92, 100, 111, 119, 127, 135, 143, 151, 159, 167] x1 = 172 then (if (tg h a0).1 = 6 then (some ((rI h a0 10), h)) else none)
  else
  if swT 0 9 [172, 92, 100, 111, 119, 127, 135, 143, 151, 159, 167] x1 = 92 then (if (tg h a0).1 = 6 then (if (tg h (rR h a0 1)).1 = 5 then (some ((rI h (rR h a0 1) 1), h)) else none) else none)
  else
  if swT 0 9 [172, 92, 100, 111, 119, 127, 135, 143, 151, 159, 167] x1 = 100 then (if (tg h a0).1 = 6 then (if (tg h (rR h a0 4)).1 = 1 then (if (tg h (rR h (rR h a0 4) 1)).1 = 0 then ((p_X1_countBacked (rR h (rR h a0 4) 1) h).bind fun q102 =>
  some (q102.1, q102.2)) else none) else none) else none)
  else
  if swT 0 9 [172, 92, 100, 111, 119, 127, 135, 143, 151, 159, 167] x1 = 111 then (if (tg h a0).1 = 6 then (if (tg h (rR h a0 1)).1 = 5 then (some ((rI h (rR h a0 1) 4), h)) else none) else none)
  else
  if swT 0 9 [172, 92, 100, 111, 119, 127, 135, 143, 151, 159, 167] x1 = 119 then (if (tg h a0).1 = 6 then (if (tg h (rR h a0 1)).1 = 5 then (some ((rI h (rR h a0 1) 6), h)) else none) else none)
  else
  if swT 0 9 [172, 92, 100, 111, 119, 127, 135, 143, 151, 159, 167] x1 = 127 then (if (tg h a0).1 = 6 then (if (tg h (rR h a0 1)).1 = 5 then (some ((rI h (rR h a0 1) 9), h)) else none) else none)
  else
  if swT 0 9 [172, 92, 100, 111, 119, 127, 135, 143, 151, 159, 167] x1 = 135 then (if (tg h a0).1 = 6 then (if (tg h (rR h a0 1)).1 = 5 then (some ((rI h (rR h a0 1) 12), h)) else none) else none)
  else
  if swT 0 9 [172, 92, 100, 111, 119, 127, 135, 143, 151, 159, 167] x1 = 143 then (if (tg h a0).1 = 6 then (if (tg h (rR h a0 4)).1 = 1 then (some ((rI h (rR h a0 4) 4), h)) else none) else none)
  else
  if swT 0 9 [172, 92, 100, 111, 119, 127, 135, 143, 151, 159, 167] x1 = 151 then (if (tg h a0).1 = 6 then (if (tg h (rR h a0 4)).1 = 1 then (some ((rI h (rR h a0 4) 6), h)) else none) else none)
  else
  if swT 0 9 [172, 92, 100, 111, 119, 127, 135, 143, 151, 159, 167] x1 = 159 then (if (tg h a0).1 = 6 then (if (tg h (rR h a0 4)).1 = 1 then (some ((rI h (rR h a0 4) 7), h)) else none) else none)
  else
  if swT 0 9 [172, 92, 100, 111, 119, 127, 135, 143, 151, 159, 167] x1 = 167 then (if (tg h a0).1 = 6 then (some ((rI h a0 8), h)) else none)
  else
  none
set_option maxRecDepth 100000 in
theorem e_X7_size_35 {l : Launch} {D : va_G} {dA : Nat → ClassId} {z : Nat} {sa : Nat → Nat} {Hz : Heap} (E : StrOK qLen qCh l D dA z sa Hz) {h0 fin : AH} {x : Int32}  : ∀ (a0 : Nat) (x1 : Int32) (h : AH), p_X7_size_35 a0 x1 h = some (x, fin) → GM l D dA z sa Hz q_X7_size h0 (some (.int x)) fin 35 [(0, .ref a0), (1, .int x1)] [] h := by
  intro a0 x1 h hd
  exact step E (is := I_X7_size_35) (pc := 35) (K := (kx 172 (fun la st h => gR la 0 fun a0 => sE st (p_X7_size_172 a0 h)) (kx 92 (fun la st h => gR la 0 fun a0 => sE st (p_X7_size_92 a0 h)) (kx 100 (fun la st h => gR la 0 fun a0 => sE st (p_X7_size_100 a0 h)) (kx 111 (fun la st h => gR la 0 fun a0 => sE st (p_X7_size_111 a0 h)) (kx 119 (fun la st h => gR la 0 fun a0 => sE st (p_X7_size_119 a0 h)) (kx 127 (fun la st h => gR la 0 fun a0 => sE st (p_X7_size_127 a0 h)) (kx 135 (fun la st h => gR la 0 fun a0 => sE st (p_X7_size_135 a0 h)) (kx 143 (fun la st h => gR la 0 fun a0 => sE st (p_X7_size_143 a0 h)) (kx 151 (fun la st h => gR la 0 fun a0 => sE st (p_X7_size_151 a0 h)) (kx 159 (fun la st h => gR la 0 fun a0 => sE st (p_X7_size_159 a0 h)) (kx 167 (fun la st h => gR la 0 fun a0 => sE st (p_X7_size_167 a0 h)) k0)))))))))))) (FI := FI_X7_size) (FV := fV0) (FL := fL0) (rt := rtI) (ft := 0) (by exact hd) ok_X7_size_35 (kx_ok (fun la st h e => by obtain ⟨a0, m_a0, e1⟩ := gR_inv e; obtain ⟨rfl, ez⟩ := sE_inv e1; exact gm_fewer (e_X7_size_172 E  a0 h ez) (mem_cons m_a0 mem_nil)) (kx_ok (fun la st h e => by obtain ⟨a0, m_a0, e1⟩ := gR_inv e; obtain ⟨rfl, ez⟩ := sE_inv e1; exact gm_fewer (e_X7_size_92 E  a0 h ez) (mem_cons m_a0 mem_nil)) (kx_ok (fun la st h e => by obtain ⟨a0, m_a0, e1⟩ := gR_inv e; obtain ⟨rfl, ez⟩ := sE_inv e1; exact gm_fewer (e_X7_size_100 E  a0 h ez) (mem_cons m_a0 mem_nil)) (kx_ok (fun la st h e => by obtain ⟨a0, m_a0, e1⟩ := gR_inv e; obtain ⟨rfl, ez⟩ := sE_inv e1; exact gm_fewer (e_X7_size_111 E  a0 h ez) (mem_cons m_a0 mem_nil)) (kx_ok (fun la st h e => by obtain ⟨a0, m_a0, e1⟩ := gR_inv e; obtain ⟨rfl, ez⟩ := sE_inv e1; exact gm_fewer (e_X7_size_119 E  a0 h ez) (mem_cons m_a0 mem_nil)) (kx_ok (fun la st h e => by obtain ⟨a0, m_a0, e1⟩ := gR_inv e; obtain ⟨rfl, ez⟩ := sE_inv e1; exact gm_fewer (e_X7_size_127 E  a0 h ez) (mem_cons m_a0 mem_nil)) (kx_ok (fun la st h e => by obtain ⟨a0, m_a0, e1⟩ := gR_inv e; obtain ⟨rfl, ez⟩ := sE_inv e1; exact gm_fewer (e_X7_size_135 E  a0 h ez) (mem_cons m_a0 mem_nil)) (kx_ok (fun la st h e => by obtain ⟨a0, m_a0, e1⟩ := gR_inv e; obtain ⟨rfl, ez⟩ := sE_inv e1; exact gm_fewer (e_X7_size_143 E  a0 h ez) (mem_cons m_a0 mem_nil)) (kx_ok (fun la st h e => by obtain ⟨a0, m_a0, e1⟩ := gR_inv e; obtain ⟨rfl, ez⟩ := sE_inv e1; exact gm_fewer (e_X7_size_151 E  a0 h ez) (mem_cons m_a0 mem_nil)) (kx_ok (fun la st h e => by obtain ⟨a0, m_a0, e1⟩ := gR_inv e; obtain ⟨rfl, ez⟩ := sE_inv e1; exact gm_fewer (e_X7_size_159 E  a0 h ez) (mem_cons m_a0 mem_nil)) (kx_ok (fun la st h e => by obtain ⟨a0, m_a0, e1⟩ := gR_inv e; obtain ⟨rfl, ez⟩ := sE_inv e1; exact gm_fewer (e_X7_size_167 E  a0 h ez) (mem_cons m_a0 mem_nil)) k0_ok))))))))))) (FI_X7_size_ok E) (fV0_ok E) (fL0_ok E) (rtI_ok rfl)
def I_X7_size_26 : List AI := [(.aload_n 0, 1, [], 0), (.getfield 107, 3, [6, 3, 3, 357], 0), (.ifCond .ne 5, 3, [35], 0), (.iconst 0, 1, [], 0), (.ireturn, 1, [], 0)]
theorem ok_X7_size_26 : vBL MT qLen qCh false q_X7_size.2.2.2.2.1 q_X7_size.2.2.2.2.2.1 q_X7_size.2.2.1 q_X7_size.1.cls q_X7_size.1.name q_X7_size.2.1 0 26 I_X7_size_26 = true := by decide +kernel
def p_X7_size_26 (a0 : Nat) (x1 : Int32) (h : AH) : Option (Int32 × AH) :=
  if (tg h a0).1 = 6 then (if (rI h a0 3) = 0 then (some (((0 : Int32)), h))
  else
  if swT 0 9 [172, 92, 100, 111, 119, 127, 135, 143, 151, 159, 167] x1 = 172 then (if (tg h a0).1 = 6 then (some ((rI h a0 10), h)) else none)
  else
  if swT 0 9 [172, 92, 100, 111, 119, 127, 135, 143, 151, 159, 167] x1 = 92 then (if (tg h a0).1 = 6 then (if (tg h (rR h a0 1)).1 = 5 then (some ((rI h (rR h a0 1) 1), h)) else none) else none)
  else
  if swT 0 9 [172, 92, 100, 111, 119, 127, 135, 143, 151, 159, 167] x1 = 100 then (if (tg h a0).1 = 6 then (if (tg h (rR h a0 4)).1 = 1 then (if (tg h (rR h (rR h a0 4) 1)).1 = 0 then ((p_X1_countBacked (rR h (rR h a0 4) 1) h).bind fun q103 =>
  some (q103.1, q103.2)) else none) else none) else none)
  else
  if swT 0 9 [172, 92, 100, 111, 119, 127, 135, 143, 151, 159, 167] x1 = 111 then (if (tg h a0).1 = 6 then (if (tg h (rR h a0 1)).1 = 5 then (some ((rI h (rR h a0 1) 4), h)) else none) else none)
  else
  if swT 0 9 [172, 92, 100, 111, 119, 127, 135, 143, 151, 159, 167] x1 = 119 then (if (tg h a0).1 = 6 then (if (tg h (rR h a0 1)).1 = 5 then (some ((rI h (rR h a0 1) 6), h)) else none) else none)
  else
  if swT 0 9 [172, 92, 100, 111, 119, 127, 135, 143, 151, 159, 167] x1 = 127 then (if (tg h a0).1 = 6 then (if (tg h (rR h a0 1)).1 = 5 then (some ((rI h (rR h a0 1) 9), h)) else none) else none)
  else
  if swT 0 9 [172, 92, 100, 111, 119, 127, 135, 143, 151, 159, 167] x1 = 135 then (if (tg h a0).1 = 6 then (if (tg h (rR h a0 1)).1 = 5 then (some ((rI h (rR h a0 1) 12), h)) else none) else none)
  else
  if swT 0 9 [172, 92, 100, 111, 119, 127, 135, 143, 151, 159, 167] x1 = 143 then (if (tg h a0).1 = 6 then (if (tg h (rR h a0 4)).1 = 1 then (some ((rI h (rR h a0 4) 4), h)) else none) else none)
  else
  if swT 0 9 [172, 92, 100, 111, 119, 127, 135, 143, 151, 159, 167] x1 = 151 then (if (tg h a0).1 = 6 then (if (tg h (rR h a0 4)).1 = 1 then (some ((rI h (rR h a0 4) 6), h)) else none) else none)
  else
  if swT 0 9 [172, 92, 100, 111, 119, 127, 135, 143, 151, 159, 167] x1 = 159 then (if (tg h a0).1 = 6 then (if (tg h (rR h a0 4)).1 = 1 then (some ((rI h (rR h a0 4) 7), h)) else none) else none)
  else
  if swT 0 9 [172, 92, 100, 111, 119, 127, 135, 143, 151, 159, 167] x1 = 167 then (if (tg h a0).1 = 6 then (some ((rI h a0 8), h)) else none)
  else
  none) else none
set_option maxRecDepth 100000 in
theorem e_X7_size_26 {l : Launch} {D : va_G} {dA : Nat → ClassId} {z : Nat} {sa : Nat → Nat} {Hz : Heap} (E : StrOK qLen qCh l D dA z sa Hz) {h0 fin : AH} {x : Int32}  : ∀ (a0 : Nat) (x1 : Int32) (h : AH), p_X7_size_26 a0 x1 h = some (x, fin) → GM l D dA z sa Hz q_X7_size h0 (some (.int x)) fin 26 [(0, .ref a0), (1, .int x1)] [] h := by
  intro a0 x1 h hd
  exact step E (is := I_X7_size_26) (pc := 26) (K := (kx 35 (fun la st h => gR la 0 fun a0 => gI la 1 fun x1 => sE st (p_X7_size_35 a0 x1 h)) k0)) (FI := FI_X7_size) (FV := fV0) (FL := fL0) (rt := rtI) (ft := 0) (by exact hd) ok_X7_size_26 (kx_ok (fun la st h e => by obtain ⟨a0, m_a0, e1⟩ := gR_inv e; obtain ⟨x1, m_x1, e2⟩ := gI_inv e1; obtain ⟨rfl, ez⟩ := sE_inv e2; exact gm_fewer (e_X7_size_35 E  a0 x1 h ez) (mem_cons m_a0 (mem_cons m_x1 mem_nil))) k0_ok) (FI_X7_size_ok E) (fV0_ok E) (fL0_ok E) (rtI_ok rfl)
def I_X7_size_12 : List AI := [(.iload_n 1, 1, [], 0), (.bipush 11, 2, [], 11), (.if_icmp .ne 11, 3, [26], 0), (.aload_n 0, 1, [], 0), (.getfield 10, 3, [6, 0, 2, 354], 0), (.getfield 46, 3, [4, 1, 0, 146], 0), (.ireturn, 1, [], 0)]
theorem ok_X7_size_12 : vBL MT qLen qCh false q_X7_size.2.2.2.2.1 q_X7_size.2.2.2.2.2.1 q_X7_size.2.2.1 q_X7_size.1.cls q_X7_size.1.name q_X7_size.2.1 0 12 I_X7_size_12 = true := by decide +kernel
def p_X7_size_12 (a0 : Nat) (x1 : Int32) (h : AH) : Option (Int32 × AH) :=
  if x1 = ((11 : Int32)) then (if (tg h a0).1 = 6 then (if (tg h (rR h a0 0)).1 = 4 then (some ((rI h (rR h a0 0) 1), h)) else none) else none)
  else
  if (tg h a0).1 = 6 then (if (rI h a0 3) = 0 then (some (((0 : Int32)), h))
  else
  if swT 0 9 [172, 92, 100, 111, 119, 127, 135, 143, 151, 159, 167] x1 = 172 then (if (tg h a0).1 = 6 then (some ((rI h a0 10), h)) else none)
  else
  if swT 0 9 [172, 92, 100, 111, 119, 127, 135, 143, 151, 159, 167] x1 = 92 then (if (tg h a0).1 = 6 then (if (tg h (rR h a0 1)).1 = 5 then (some ((rI h (rR h a0 1) 1), h)) else none) else none)
  else
  if swT 0 9 [172, 92, 100, 111, 119, 127, 135, 143, 151, 159, 167] x1 = 100 then (if (tg h a0).1 = 6 then (if (tg h (rR h a0 4)).1 = 1 then (if (tg h (rR h (rR h a0 4) 1)).1 = 0 then ((p_X1_countBacked (rR h (rR h a0 4) 1) h).bind fun q104 =>
  some (q104.1, q104.2)) else none) else none) else none)
  else
  if swT 0 9 [172, 92, 100, 111, 119, 127, 135, 143, 151, 159, 167] x1 = 111 then (if (tg h a0).1 = 6 then (if (tg h (rR h a0 1)).1 = 5 then (some ((rI h (rR h a0 1) 4), h)) else none) else none)
  else
  if swT 0 9 [172, 92, 100, 111, 119, 127, 135, 143, 151, 159, 167] x1 = 119 then (if (tg h a0).1 = 6 then (if (tg h (rR h a0 1)).1 = 5 then (some ((rI h (rR h a0 1) 6), h)) else none) else none)
  else
  if swT 0 9 [172, 92, 100, 111, 119, 127, 135, 143, 151, 159, 167] x1 = 127 then (if (tg h a0).1 = 6 then (if (tg h (rR h a0 1)).1 = 5 then (some ((rI h (rR h a0 1) 9), h)) else none) else none)
  else
  if swT 0 9 [172, 92, 100, 111, 119, 127, 135, 143, 151, 159, 167] x1 = 135 then (if (tg h a0).1 = 6 then (if (tg h (rR h a0 1)).1 = 5 then (some ((rI h (rR h a0 1) 12), h)) else none) else none)
  else
  if swT 0 9 [172, 92, 100, 111, 119, 127, 135, 143, 151, 159, 167] x1 = 143 then (if (tg h a0).1 = 6 then (if (tg h (rR h a0 4)).1 = 1 then (some ((rI h (rR h a0 4) 4), h)) else none) else none)
  else
  if swT 0 9 [172, 92, 100, 111, 119, 127, 135, 143, 151, 159, 167] x1 = 151 then (if (tg h a0).1 = 6 then (if (tg h (rR h a0 4)).1 = 1 then (some ((rI h (rR h a0 4) 6), h)) else none) else none)
  else
  if swT 0 9 [172, 92, 100, 111, 119, 127, 135, 143, 151, 159, 167] x1 = 159 then (if (tg h a0).1 = 6 then (if (tg h (rR h a0 4)).1 = 1 then (some ((rI h (rR h a0 4) 7), h)) else none) else none)
  else
  if swT 0 9 [172, 92, 100, 111, 119, 127, 135, 143, 151, 159, 167] x1 = 167 then (if (tg h a0).1 = 6 then (some ((rI h a0 8), h)) else none)
  else
  none) else none
set_option maxRecDepth 100000 in
theorem e_X7_size_12 {l : Launch} {D : va_G} {dA : Nat → ClassId} {z : Nat} {sa : Nat → Nat} {Hz : Heap} (E : StrOK qLen qCh l D dA z sa Hz) {h0 fin : AH} {x : Int32}  : ∀ (a0 : Nat) (x1 : Int32) (h : AH), p_X7_size_12 a0 x1 h = some (x, fin) → GM l D dA z sa Hz q_X7_size h0 (some (.int x)) fin 12 [(0, .ref a0), (1, .int x1)] [] h := by
  intro a0 x1 h hd
  exact step E (is := I_X7_size_12) (pc := 12) (K := (kx 26 (fun la st h => gR la 0 fun a0 => gI la 1 fun x1 => sE st (p_X7_size_26 a0 x1 h)) k0)) (FI := FI_X7_size) (FV := fV0) (FL := fL0) (rt := rtI) (ft := 0) (by exact hd) ok_X7_size_12 (kx_ok (fun la st h e => by obtain ⟨a0, m_a0, e1⟩ := gR_inv e; obtain ⟨x1, m_x1, e2⟩ := gI_inv e1; obtain ⟨rfl, ez⟩ := sE_inv e2; exact gm_fewer (e_X7_size_26 E  a0 x1 h ez) (mem_cons m_a0 (mem_cons m_x1 mem_nil))) k0_ok) (FI_X7_size_ok E) (fV0_ok E) (fL0_ok E) (rtI_ok rfl)
def I_X7_size_0 : List AI := [(.iload_n 1, 1, [], 0), (.ifCond .lt 9, 3, [10], 0), (.iload_n 1, 1, [], 0), (.bipush 11, 2, [], 11), (.if_icmp .le 5, 3, [12], 0)]
theorem ok_X7_size_0 : vBL MT qLen qCh false q_X7_size.2.2.2.2.1 q_X7_size.2.2.2.2.2.1 q_X7_size.2.2.1 q_X7_size.1.cls q_X7_size.1.name q_X7_size.2.1 10 0 I_X7_size_0 = true := by decide +kernel
def p_X7_size (a0 : Nat) (x1 : Int32) (h : AH) : Option (Int32 × AH) :=
  if x1 < 0 then (p_X7_size_10 h)
  else
  if ((11 : Int32)) < x1 then (p_X7_size_10 h)
  else
  if x1 = ((11 : Int32)) then (if (tg h a0).1 = 6 then (if (tg h (rR h a0 0)).1 = 4 then (some ((rI h (rR h a0 0) 1), h)) else none) else none)
  else
  if (tg h a0).1 = 6 then (if (rI h a0 3) = 0 then (some (((0 : Int32)), h))
  else
  if swT 0 9 [172, 92, 100, 111, 119, 127, 135, 143, 151, 159, 167] x1 = 172 then (if (tg h a0).1 = 6 then (some ((rI h a0 10), h)) else none)
  else
  if swT 0 9 [172, 92, 100, 111, 119, 127, 135, 143, 151, 159, 167] x1 = 92 then (if (tg h a0).1 = 6 then (if (tg h (rR h a0 1)).1 = 5 then (some ((rI h (rR h a0 1) 1), h)) else none) else none)
  else
  if swT 0 9 [172, 92, 100, 111, 119, 127, 135, 143, 151, 159, 167] x1 = 100 then (if (tg h a0).1 = 6 then (if (tg h (rR h a0 4)).1 = 1 then (if (tg h (rR h (rR h a0 4) 1)).1 = 0 then ((p_X1_countBacked (rR h (rR h a0 4) 1) h).bind fun q105 =>
  some (q105.1, q105.2)) else none) else none) else none)
  else
  if swT 0 9 [172, 92, 100, 111, 119, 127, 135, 143, 151, 159, 167] x1 = 111 then (if (tg h a0).1 = 6 then (if (tg h (rR h a0 1)).1 = 5 then (some ((rI h (rR h a0 1) 4), h)) else none) else none)
  else
  if swT 0 9 [172, 92, 100, 111, 119, 127, 135, 143, 151, 159, 167] x1 = 119 then (if (tg h a0).1 = 6 then (if (tg h (rR h a0 1)).1 = 5 then (some ((rI h (rR h a0 1) 6), h)) else none) else none)
  else
  if swT 0 9 [172, 92, 100, 111, 119, 127, 135, 143, 151, 159, 167] x1 = 127 then (if (tg h a0).1 = 6 then (if (tg h (rR h a0 1)).1 = 5 then (some ((rI h (rR h a0 1) 9), h)) else none) else none)
  else
  if swT 0 9 [172, 92, 100, 111, 119, 127, 135, 143, 151, 159, 167] x1 = 135 then (if (tg h a0).1 = 6 then (if (tg h (rR h a0 1)).1 = 5 then (some ((rI h (rR h a0 1) 12), h)) else none) else none)
  else
  if swT 0 9 [172, 92, 100, 111, 119, 127, 135, 143, 151, 159, 167] x1 = 143 then (if (tg h a0).1 = 6 then (if (tg h (rR h a0 4)).1 = 1 then (some ((rI h (rR h a0 4) 4), h)) else none) else none)
  else
  if swT 0 9 [172, 92, 100, 111, 119, 127, 135, 143, 151, 159, 167] x1 = 151 then (if (tg h a0).1 = 6 then (if (tg h (rR h a0 4)).1 = 1 then (some ((rI h (rR h a0 4) 6), h)) else none) else none)
  else
  if swT 0 9 [172, 92, 100, 111, 119, 127, 135, 143, 151, 159, 167] x1 = 159 then (if (tg h a0).1 = 6 then (if (tg h (rR h a0 4)).1 = 1 then (some ((rI h (rR h a0 4) 7), h)) else none) else none)
  else
  if swT 0 9 [172, 92, 100, 111, 119, 127, 135, 143, 151, 159, 167] x1 = 167 then (if (tg h a0).1 = 6 then (some ((rI h a0 8), h)) else none)
  else
  none) else none
set_option maxRecDepth 100000 in
theorem e_X7_size_0 {l : Launch} {D : va_G} {dA : Nat → ClassId} {z : Nat} {sa : Nat → Nat} {Hz : Heap} (E : StrOK qLen qCh l D dA z sa Hz) {h0 fin : AH} {x : Int32}  : ∀ (a0 : Nat) (x1 : Int32) (h : AH), p_X7_size a0 x1 h = some (x, fin) → GM l D dA z sa Hz q_X7_size h0 (some (.int x)) fin 0 [(0, .ref a0), (1, .int x1)] [] h := by
  intro a0 x1 h hd
  exact step E (is := I_X7_size_0) (pc := 0) (K := (kx 10 (fun la st h => sE st (p_X7_size_10 h)) (kx 12 (fun la st h => gR la 0 fun a0 => gI la 1 fun x1 => sE st (p_X7_size_12 a0 x1 h)) k0))) (FI := FI_X7_size) (FV := fV0) (FL := fL0) (rt := rtI) (ft := 10) (by exact hd) ok_X7_size_0 (kx_ok (fun la st h e => by obtain ⟨rfl, ez⟩ := sE_inv e; exact gm_fewer (e_X7_size_10 E   h ez) mem_nil) (kx_ok (fun la st h e => by obtain ⟨a0, m_a0, e1⟩ := gR_inv e; obtain ⟨x1, m_x1, e2⟩ := gI_inv e1; obtain ⟨rfl, ez⟩ := sE_inv e2; exact gm_fewer (e_X7_size_12 E  a0 x1 h ez) (mem_cons m_a0 (mem_cons m_x1 mem_nil))) k0_ok)) (FI_X7_size_ok E) (fV0_ok E) (fL0_ok E) (rtI_ok rfl)
theorem c_X7_size {l : Launch} {D : va_G} {dA : Nat → ClassId} {z : Nat} {sa : Nat → Nat} {Hz : Heap} (E : StrOK qLen qCh l D dA z sa Hz) {a0 : Nat} {x1 : Int32} {h fin : AH} {x : Int32} (hd : p_X7_size a0 x1 h = some (x, fin)) : CalOK l D dA z sa Hz q_X7_size [.ref a0, .int x1] h (some (.int x)) fin := calOf (by decide +kernel) (Nat.le_of_ble_eq_true rfl) (e_X7_size_0 E a0 x1 h hd)
def I_X7_trouble_0 : List AI := [(.aload_n 0, 1, [], 0), (.getfield 74, 3, [6, 11, 0, 365], 0), (.ireturn, 1, [], 0)]
theorem ok_X7_trouble_0 : vBL MT qLen qCh false q_X7_trouble.2.2.2.2.1 q_X7_trouble.2.2.2.2.2.1 q_X7_trouble.2.2.1 q_X7_trouble.1.cls q_X7_trouble.1.name q_X7_trouble.2.1 0 0 I_X7_trouble_0 = true := by decide +kernel
def p_X7_trouble (a0 : Nat) (h : AH) : Option (Int32 × AH) :=
  if (tg h a0).1 = 6 then (some ((rI h a0 11), h)) else none
set_option maxRecDepth 100000 in
theorem e_X7_trouble_0 {l : Launch} {D : va_G} {dA : Nat → ClassId} {z : Nat} {sa : Nat → Nat} {Hz : Heap} (E : StrOK qLen qCh l D dA z sa Hz) {h0 fin : AH} {x : Int32}  : ∀ (a0 : Nat) (h : AH), p_X7_trouble a0 h = some (x, fin) → GM l D dA z sa Hz q_X7_trouble h0 (some (.int x)) fin 0 [(0, .ref a0)] [] h := by
  intro a0 h hd
  exact step E (is := I_X7_trouble_0) (pc := 0) (K := k0) (FI := fI0) (FV := fV0) (FL := fL0) (rt := rtI) (ft := 0) (by exact hd) ok_X7_trouble_0 k0_ok (fI0_ok E) (fV0_ok E) (fL0_ok E) (rtI_ok rfl)
theorem c_X7_trouble {l : Launch} {D : va_G} {dA : Nat → ClassId} {z : Nat} {sa : Nat → Nat} {Hz : Heap} (E : StrOK qLen qCh l D dA z sa Hz) {a0 : Nat} {h fin : AH} {x : Int32} (hd : p_X7_trouble a0 h = some (x, fin)) : CalOK l D dA z sa Hz q_X7_trouble [.ref a0] h (some (.int x)) fin := calOf (by decide +kernel) (Nat.le_of_ble_eq_true rfl) (e_X7_trouble_0 E a0 h hd)
def I_X9_init_0 : List AI := [(.aload_n 0, 1, [], 0), (.invokespecial 3, 3, [0, 1344], 0), (.aload_n 0, 1, [], 0), (.iconst (-1), 1, [], (-1)), (.putfield 9, 3, [8, 2, 0, 1347], 0), (.aload_n 0, 1, [], 0), (.sipush 900, 3, [], 900), (.newarray .byte, 2, [101], 0), (.putfield 13, 3, [8, 5, 2, 1350], 0), (.aload_n 0, 1, [], 0), (.sipush 244, 3, [], 244), (.newarray .int, 2, [100], 0), (.putfield 17, 3, [8, 15, 2, 1360], 0), (.aload_n 0, 1, [], 0), (.sipush 244, 3, [], 244), (.newarray .int, 2, [100], 0), (.putfield 21, 3, [8, 16, 2, 1361], 0), (.aload_n 0, 1, [], 0), (.sipush 3904, 3, [], 3904), (.newarray .int, 2, [100], 0), (.putfield 24, 3, [8, 17, 2, 1362], 0), (.aload_n 0, 1, [], 0), (.sipush 732, 3, [], 732), (.newarray .int, 2, [100], 0), (.putfield 27, 3, [8, 18, 2, 1363], 0), (.aload_n 0, 1, [], 0), (.iconst 4, 1, [], 4), (.newarray .int, 2, [100], 0), (.putfield 30, 3, [8, 39, 2, 1384], 0), (.return_, 1, [], 0)]
theorem ok_X9_init_0 : vBL MT qLen qCh false q_X9_init.2.2.2.2.1 q_X9_init.2.2.2.2.2.1 q_X9_init.2.2.1 q_X9_init.1.cls q_X9_init.1.name q_X9_init.2.1 0 0 I_X9_init_0 = true := by decide +kernel
def p_X9_init (a0 : Nat) (h : AH) : Option (AH) :=
  if a0 = 0 then none else
  if (tg h a0).1 = 8 then (let h101 := wI h a0 2 ((-1 : Int32))
  if ((900 : Int32)) < 0 ∨ 100000 < ((900 : Int32)).toNatClampNeg then none else
  let h102 := al h101 101 ((900 : Int32)).toNatClampNeg
  if (tg h102 a0).1 = 8 then (let h103 := wR h102 a0 5 (nx h101)
  if ((244 : Int32)) < 0 ∨ 100000 < ((244 : Int32)).toNatClampNeg then none else
  let h104 := al h103 100 ((244 : Int32)).toNatClampNeg
  if (tg h104 a0).1 = 8 then (let h105 := wR h104 a0 15 (nx h103)
  if ((244 : Int32)) < 0 ∨ 100000 < ((244 : Int32)).toNatClampNeg then none else
  let h106 := al h105 100 ((244 : Int32)).toNatClampNeg
  if (tg h106 a0).1 = 8 then (let h107 := wR h106 a0 16 (nx h105)
  if ((3904 : Int32)) < 0 ∨ 100000 < ((3904 : Int32)).toNatClampNeg then none else
  let h108 := al h107 100 ((3904 : Int32)).toNatClampNeg
  if (tg h108 a0).1 = 8 then (let h109 := wR h108 a0 17 (nx h107)
  if ((732 : Int32)) < 0 ∨ 100000 < ((732 : Int32)).toNatClampNeg then none else
  let h110 := al h109 100 ((732 : Int32)).toNatClampNeg
  if (tg h110 a0).1 = 8 then (let h111 := wR h110 a0 18 (nx h109)
  if ((4 : Int32)) < 0 ∨ 100000 < ((4 : Int32)).toNatClampNeg then none else
  let h112 := al h111 100 ((4 : Int32)).toNatClampNeg
  if (tg h112 a0).1 = 8 then (let h113 := wR h112 a0 39 (nx h111)
  some h113) else none) else none) else none) else none) else none) else none) else none
set_option maxRecDepth 100000 in
theorem e_X9_init_0 {l : Launch} {D : va_G} {dA : Nat → ClassId} {z : Nat} {sa : Nat → Nat} {Hz : Heap} (E : StrOK qLen qCh l D dA z sa Hz) {h0 fin : AH}  : ∀ (a0 : Nat) (h : AH), p_X9_init a0 h = some fin → GM l D dA z sa Hz q_X9_init h0 none fin 0 [(0, .ref a0)] [] h := by
  intro a0 h hd
  exact step E (is := I_X9_init_0) (pc := 0) (K := k0) (FI := fI0) (FV := fV0) (FL := fL0) (rt := rtV) (ft := 0) (by exact hd) ok_X9_init_0 k0_ok (fI0_ok E) (fV0_ok E) (fL0_ok E) (rtV_ok rfl)
theorem c_X9_init {l : Launch} {D : va_G} {dA : Nat → ClassId} {z : Nat} {sa : Nat → Nat} {Hz : Heap} (E : StrOK qLen qCh l D dA z sa Hz) {a0 : Nat} {h fin : AH} (hd : p_X9_init a0 h = some fin) : CalOK l D dA z sa Hz q_X9_init [.ref a0] h none fin := calOf (by decide +kernel) (Nat.le_of_ble_eq_true rfl) (e_X9_init_0 E a0 h hd)
def I_X9_thrown_0 : List AI := [(.aload_n 0, 1, [], 0), (.getfield 33, 3, [8, 0, 0, 1345], 0), (.ireturn, 1, [], 0)]
theorem ok_X9_thrown_0 : vBL MT qLen qCh false q_X9_thrown.2.2.2.2.1 q_X9_thrown.2.2.2.2.2.1 q_X9_thrown.2.2.1 q_X9_thrown.1.cls q_X9_thrown.1.name q_X9_thrown.2.1 0 0 I_X9_thrown_0 = true := by decide +kernel
def p_X9_thrown (a0 : Nat) (h : AH) : Option (Int32 × AH) :=
  if (tg h a0).1 = 8 then (some ((rI h a0 0), h)) else none
set_option maxRecDepth 100000 in
theorem e_X9_thrown_0 {l : Launch} {D : va_G} {dA : Nat → ClassId} {z : Nat} {sa : Nat → Nat} {Hz : Heap} (E : StrOK qLen qCh l D dA z sa Hz) {h0 fin : AH} {x : Int32}  : ∀ (a0 : Nat) (h : AH), p_X9_thrown a0 h = some (x, fin) → GM l D dA z sa Hz q_X9_thrown h0 (some (.int x)) fin 0 [(0, .ref a0)] [] h := by
  intro a0 h hd
  exact step E (is := I_X9_thrown_0) (pc := 0) (K := k0) (FI := fI0) (FV := fV0) (FL := fL0) (rt := rtI) (ft := 0) (by exact hd) ok_X9_thrown_0 k0_ok (fI0_ok E) (fV0_ok E) (fL0_ok E) (rtI_ok rfl)
theorem c_X9_thrown {l : Launch} {D : va_G} {dA : Nat → ClassId} {z : Nat} {sa : Nat → Nat} {Hz : Heap} (E : StrOK qLen qCh l D dA z sa Hz) {a0 : Nat} {h fin : AH} {x : Int32} (hd : p_X9_thrown a0 h = some (x, fin)) : CalOK l D dA z sa Hz q_X9_thrown [.ref a0] h (some (.int x)) fin := calOf (by decide +kernel) (Nat.le_of_ble_eq_true rfl) (e_X9_thrown_0 E a0 h hd)
