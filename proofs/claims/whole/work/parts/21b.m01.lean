/-! ===== methods 25 to 49 ===== -/
def FV_X6_addHost : Nat → List Value → AH → Option (AH) := (cx 24 (fun As h => sR As fun a0 As => sI As fun x1 As => sI As fun x2 As => sI As fun x3 As => sE As (p_X1_backWith a0 x1 x2 x3 h)) fV0)
theorem FV_X6_addHost_ok {l : Launch} {D : va_G} {dA : Nat → ClassId} {z : Nat} {sa : Nat → Nat} {Hz : Heap} (E : StrOK qLen qCh l D dA z sa Hz) : ∀ mi As h h', FV_X6_addHost mi As h = some h' → CalOK l D dA z sa Hz (MT mi) As h none h' := (cxV_ok (fun As h h2 e => by obtain ⟨_, _, rfl, e0⟩ := sR_inv e; obtain ⟨_, _, rfl, e1⟩ := sI_inv e0; obtain ⟨_, _, rfl, e2⟩ := sI_inv e1; obtain ⟨_, _, rfl, e3⟩ := sI_inv e2; obtain ⟨rfl, ez⟩ := sE_inv e3; exact c_X1_backWith E ez) (fV0_ok E))
def I_X6_addHost_0 : List AI := [(.aload_n 0, 1, [], 0), (.getfield 12, 3, [5, 0, 2, 210], 0), (.iload_n 1, 1, [], 0), (.iload_n 2, 1, [], 0), (.iload_n 3, 1, [], 0), (.invokevirtual 64, 3, [2, 24, 4, 0, 534], 0), (.aload_n 0, 1, [], 0), (.dup, 1, [], 0), (.getfield 45, 3, [5, 2, 0, 216], 0), (.iconst 1, 1, [], 1), (.iadd, 1, [], 0), (.putfield 45, 3, [5, 2, 0, 216], 0), (.return_, 1, [], 0)]
theorem ok_X6_addHost_0 : vBL MT qLen qCh false q_X6_addHost.2.2.2.2.1 q_X6_addHost.2.2.2.2.2.1 q_X6_addHost.2.2.1 q_X6_addHost.1.cls q_X6_addHost.1.name q_X6_addHost.2.1 0 0 I_X6_addHost_0 = true := by decide +kernel
def p_X6_addHost (a0 : Nat) (x1 : Int32) (x2 : Int32) (x3 : Int32) (h : AH) : Option (AH) :=
  if (tg h a0).1 = 5 then (if (tg h (rR h a0 0)).1 = 0 then ((p_X1_backWith (rR h a0 0) x1 x2 x3 h).bind fun h101 =>
  if (tg h101 a0).1 = 5 then (if (tg h101 a0).1 = 5 then (let h102 := wI h101 a0 2 ((rI h101 a0 2) + ((1 : Int32)))
  some h102) else none) else none) else none) else none
set_option maxRecDepth 100000 in
theorem e_X6_addHost_0 {l : Launch} {D : va_G} {dA : Nat → ClassId} {z : Nat} {sa : Nat → Nat} {Hz : Heap} (E : StrOK qLen qCh l D dA z sa Hz) {h0 fin : AH}  : ∀ (a0 : Nat) (x1 : Int32) (x2 : Int32) (x3 : Int32) (h : AH), p_X6_addHost a0 x1 x2 x3 h = some fin → GM l D dA z sa Hz q_X6_addHost h0 none fin 0 [(0, .ref a0), (1, .int x1), (2, .int x2), (3, .int x3)] [] h := by
  intro a0 x1 x2 x3 h hd
  exact step E (is := I_X6_addHost_0) (pc := 0) (K := k0) (FI := fI0) (FV := FV_X6_addHost) (FL := fL0) (rt := rtV) (ft := 0) (by exact hd) ok_X6_addHost_0 k0_ok (fI0_ok E) (FV_X6_addHost_ok E) (fL0_ok E) (rtV_ok rfl)
theorem c_X6_addHost {l : Launch} {D : va_G} {dA : Nat → ClassId} {z : Nat} {sa : Nat → Nat} {Hz : Heap} (E : StrOK qLen qCh l D dA z sa Hz) {a0 : Nat} {x1 : Int32} {x2 : Int32} {x3 : Int32} {h fin : AH} (hd : p_X6_addHost a0 x1 x2 x3 h = some fin) : CalOK l D dA z sa Hz q_X6_addHost [.ref a0, .int x1, .int x2, .int x3] h none fin := calOf (by decide +kernel) (Nat.le_of_ble_eq_true rfl) (e_X6_addHost_0 E a0 x1 x2 x3 h hd)
def FI_X5_readsHost : Nat → List Value → AH → Option (Int32 × AH) := (cx 18 (fun As h => sR As fun a0 As => sI As fun x1 As => sI As fun x2 As => sE As (p_X5_isWhole a0 x1 x2 h)) (cx 22 (fun As h => sR As fun a0 As => sI As fun x1 As => sE As (p_X1_isBacked a0 x1 h)) (cx 17 (fun As h => sR As fun a0 As => sI As fun x1 As => sE As (p_X5_fails a0 x1 h)) (cx 23 (fun As h => sR As fun a0 As => sI As fun x1 As => sE As (p_X1_isTaken a0 x1 h)) (cx 16 (fun As h => sR As fun a0 As => sT As fun t1 As => sE As (p_X5_isName a0 t1 h)) fI0)))))
theorem FI_X5_readsHost_ok {l : Launch} {D : va_G} {dA : Nat → ClassId} {z : Nat} {sa : Nat → Nat} {Hz : Heap} (E : StrOK qLen qCh l D dA z sa Hz) : ∀ mi As h x h', FI_X5_readsHost mi As h = some (x, h') → CalOK l D dA z sa Hz (MT mi) As h (some (.int x)) h' := (cxI_ok (fun As h x h2 e => by obtain ⟨_, _, rfl, e0⟩ := sR_inv e; obtain ⟨_, _, rfl, e1⟩ := sI_inv e0; obtain ⟨_, _, rfl, e2⟩ := sI_inv e1; obtain ⟨rfl, ez⟩ := sE_inv e2; exact c_X5_isWhole E ez) ((cxI_ok (fun As h x h2 e => by obtain ⟨_, _, rfl, e0⟩ := sR_inv e; obtain ⟨_, _, rfl, e1⟩ := sI_inv e0; obtain ⟨rfl, ez⟩ := sE_inv e1; exact c_X1_isBacked E ez) ((cxI_ok (fun As h x h2 e => by obtain ⟨_, _, rfl, e0⟩ := sR_inv e; obtain ⟨_, _, rfl, e1⟩ := sI_inv e0; obtain ⟨rfl, ez⟩ := sE_inv e1; exact c_X5_fails E ez) ((cxI_ok (fun As h x h2 e => by obtain ⟨_, _, rfl, e0⟩ := sR_inv e; obtain ⟨_, _, rfl, e1⟩ := sI_inv e0; obtain ⟨rfl, ez⟩ := sE_inv e1; exact c_X1_isTaken E ez) ((cxI_ok (fun As h x h2 e => by obtain ⟨_, _, rfl, e0⟩ := sR_inv e; obtain ⟨_, _, rfl, e1⟩ := sT_inv e0; obtain ⟨rfl, ez⟩ := sE_inv e1; exact c_X5_isName E ez) (fI0_ok E))))))))))
def FV_X5_readsHost : Nat → List Value → AH → Option (AH) := (cx 15 (fun As h => sR As fun a0 As => sE As (p_X5_advance a0 h)) (cx 25 (fun As h => sR As fun a0 As => sI As fun x1 As => sI As fun x2 As => sI As fun x3 As => sE As (p_X6_addHost a0 x1 x2 x3 h)) fV0))
theorem FV_X5_readsHost_ok {l : Launch} {D : va_G} {dA : Nat → ClassId} {z : Nat} {sa : Nat → Nat} {Hz : Heap} (E : StrOK qLen qCh l D dA z sa Hz) : ∀ mi As h h', FV_X5_readsHost mi As h = some h' → CalOK l D dA z sa Hz (MT mi) As h none h' := (cxV_ok (fun As h h2 e => by obtain ⟨_, _, rfl, e0⟩ := sR_inv e; obtain ⟨rfl, ez⟩ := sE_inv e0; exact c_X5_advance E ez) ((cxV_ok (fun As h h2 e => by obtain ⟨_, _, rfl, e0⟩ := sR_inv e; obtain ⟨_, _, rfl, e1⟩ := sI_inv e0; obtain ⟨_, _, rfl, e2⟩ := sI_inv e1; obtain ⟨_, _, rfl, e3⟩ := sI_inv e2; obtain ⟨rfl, ez⟩ := sE_inv e3; exact c_X6_addHost E ez) (fV0_ok E))))
def I_X5_readsHost_104 : List AI := [(.aload_n 1, 1, [], 0), (.iload_n 2, 1, [], 0), (.iload_n 3, 1, [], 0), (.iload 4, 2, [], 0), (.invokevirtual 158, 3, [2, 25, 4, 5, 530], 0), (.aload_n 0, 1, [], 0), (.invokevirtual 36, 3, [2, 15, 1, 4, 419], 0), (.iconst 1, 1, [], 1), (.ireturn, 1, [], 0)]
theorem ok_X5_readsHost_104 : vBL MT qLen qCh false q_X5_readsHost.2.2.2.2.1 q_X5_readsHost.2.2.2.2.2.1 q_X5_readsHost.2.2.1 q_X5_readsHost.1.cls q_X5_readsHost.1.name q_X5_readsHost.2.1 0 104 I_X5_readsHost_104 = true := by decide +kernel
def p_X5_readsHost_104 (a0 : Nat) (a1 : Nat) (x2 : Int32) (x3 : Int32) (x4 : Int32) (h : AH) : Option (Int32 × AH) :=
  if (tg h a1).1 = 5 then ((p_X6_addHost a1 x2 x3 x4 h).bind fun h101 =>
  if (tg h101 a0).1 = 4 then ((p_X5_advance a0 h101).bind fun h102 =>
  if ((1 : Int32)) &&& 1 = ((1 : Int32)) then some (((1 : Int32)), h102) else none) else none) else none
set_option maxRecDepth 100000 in
theorem e_X5_readsHost_104 {l : Launch} {D : va_G} {dA : Nat → ClassId} {z : Nat} {sa : Nat → Nat} {Hz : Heap} (E : StrOK qLen qCh l D dA z sa Hz) {h0 fin : AH} {x : Int32}  : ∀ (a0 : Nat) (a1 : Nat) (x2 : Int32) (x3 : Int32) (x4 : Int32) (h : AH), p_X5_readsHost_104 a0 a1 x2 x3 x4 h = some (x, fin) → GM l D dA z sa Hz q_X5_readsHost h0 (some (.int x)) fin 104 [(0, .ref a0), (1, .ref a1), (2, .int x2), (3, .int x3), (4, .int x4)] [] h := by
  intro a0 a1 x2 x3 x4 h hd
  exact step E (is := I_X5_readsHost_104) (pc := 104) (K := k0) (FI := FI_X5_readsHost) (FV := FV_X5_readsHost) (FL := fL0) (rt := rtZ) (ft := 0) (by exact hd) ok_X5_readsHost_104 k0_ok (FI_X5_readsHost_ok E) (FV_X5_readsHost_ok E) (fL0_ok E) (rtZ_ok rfl)
def I_X5_readsHost_72 : List AI := [(.aload_n 0, 1, [], 0), (.invokevirtual 36, 3, [2, 15, 1, 4, 419], 0), (.aload_n 0, 1, [], 0), (.ldc 154, 2, [9, 0], 0), (.invokevirtual 77, 3, [1, 16, 2, 4, 438], 0), (.istore 4, 2, [], 0), (.iload 4, 2, [], 0), (.ifCond .ne 18, 3, [104], 0), (.aload_n 0, 1, [], 0), (.ldc 156, 2, [10, 0], 0), (.invokevirtual 77, 3, [1, 16, 2, 4, 438], 0), (.ifCond .ne 9, 3, [104], 0), (.aload_n 0, 1, [], 0), (.iconst 1, 1, [], 1), (.invokevirtual 46, 3, [1, 17, 2, 4, 494], 0), (.ireturn, 1, [], 0)]
theorem ok_X5_readsHost_72 : vBL MT qLen qCh false q_X5_readsHost.2.2.2.2.1 q_X5_readsHost.2.2.2.2.2.1 q_X5_readsHost.2.2.1 q_X5_readsHost.1.cls q_X5_readsHost.1.name q_X5_readsHost.2.1 0 72 I_X5_readsHost_72 = true := by decide +kernel
def p_X5_readsHost_72 (a0 : Nat) (a1 : Nat) (x2 : Int32) (x3 : Int32) (h : AH) : Option (Int32 × AH) :=
  if (tg h a0).1 = 4 then ((p_X5_advance a0 h).bind fun h103 =>
  if (tg h103 a0).1 = 4 then ((p_X5_isName a0 9 h103).bind fun q104 =>
  if q104.1 = 0 then (if (tg q104.2 a0).1 = 4 then ((p_X5_isName a0 10 q104.2).bind fun q105 =>
  if q105.1 = 0 then (if (tg q105.2 a0).1 = 4 then ((p_X5_fails a0 ((1 : Int32)) q105.2).bind fun q106 =>
  if q106.1 &&& 1 = q106.1 then some (q106.1, q106.2) else none) else none)
  else
  p_X5_readsHost_104 a0 a1 x2 x3 q104.1 q105.2) else none)
  else
  p_X5_readsHost_104 a0 a1 x2 x3 q104.1 q104.2) else none) else none
set_option maxRecDepth 100000 in
theorem e_X5_readsHost_72 {l : Launch} {D : va_G} {dA : Nat → ClassId} {z : Nat} {sa : Nat → Nat} {Hz : Heap} (E : StrOK qLen qCh l D dA z sa Hz) {h0 fin : AH} {x : Int32}  : ∀ (a0 : Nat) (a1 : Nat) (x2 : Int32) (x3 : Int32) (h : AH), p_X5_readsHost_72 a0 a1 x2 x3 h = some (x, fin) → GM l D dA z sa Hz q_X5_readsHost h0 (some (.int x)) fin 72 [(0, .ref a0), (1, .ref a1), (2, .int x2), (3, .int x3)] [] h := by
  intro a0 a1 x2 x3 h hd
  exact step E (is := I_X5_readsHost_72) (pc := 72) (K := (kx 104 (fun la st h => gR la 0 fun a0 => gR la 1 fun a1 => gI la 2 fun x2 => gI la 3 fun x3 => gI la 4 fun x4 => sE st (p_X5_readsHost_104 a0 a1 x2 x3 x4 h)) k0)) (FI := FI_X5_readsHost) (FV := FV_X5_readsHost) (FL := fL0) (rt := rtZ) (ft := 0) (by exact hd) ok_X5_readsHost_72 (kx_ok (fun la st h e => by obtain ⟨a0, m_a0, e1⟩ := gR_inv e; obtain ⟨a1, m_a1, e2⟩ := gR_inv e1; obtain ⟨x2, m_x2, e3⟩ := gI_inv e2; obtain ⟨x3, m_x3, e4⟩ := gI_inv e3; obtain ⟨x4, m_x4, e5⟩ := gI_inv e4; obtain ⟨rfl, ez⟩ := sE_inv e5; exact gm_fewer (e_X5_readsHost_104 E  a0 a1 x2 x3 x4 h ez) (mem_cons m_a0 (mem_cons m_a1 (mem_cons m_x2 (mem_cons m_x3 (mem_cons m_x4 mem_nil)))))) k0_ok) (FI_X5_readsHost_ok E) (FV_X5_readsHost_ok E) (fL0_ok E) (rtZ_ok rfl)
def I_X5_readsHost_50 : List AI := [(.aload_n 0, 1, [], 0), (.getfield 63, 3, [4, 6, 0, 152], 0), (.istore_n 3, 1, [], 0), (.aload_n 1, 1, [], 0), (.getfield 139, 3, [5, 0, 2, 211], 0), (.iload_n 3, 1, [], 0), (.invokevirtual 151, 3, [1, 23, 2, 0, 524], 0), (.ifCond .eq 9, 3, [72], 0), (.aload_n 0, 1, [], 0), (.iconst 3, 1, [], 3), (.invokevirtual 46, 3, [1, 17, 2, 4, 494], 0), (.ireturn, 1, [], 0)]
theorem ok_X5_readsHost_50 : vBL MT qLen qCh false q_X5_readsHost.2.2.2.2.1 q_X5_readsHost.2.2.2.2.2.1 q_X5_readsHost.2.2.1 q_X5_readsHost.1.cls q_X5_readsHost.1.name q_X5_readsHost.2.1 0 50 I_X5_readsHost_50 = true := by decide +kernel
def p_X5_readsHost_50 (a0 : Nat) (a1 : Nat) (x2 : Int32) (h : AH) : Option (Int32 × AH) :=
  if (tg h a0).1 = 4 then (let x107 := rI h a0 6
  if (tg h a1).1 = 5 then (if (tg h (rR h a1 0)).1 = 0 then ((p_X1_isTaken (rR h a1 0) x107 h).bind fun q108 =>
  if q108.1 = 0 then (if (tg q108.2 a0).1 = 4 then ((p_X5_advance a0 q108.2).bind fun h109 =>
  if (tg h109 a0).1 = 4 then ((p_X5_isName a0 9 h109).bind fun q110 =>
  if q110.1 = 0 then (if (tg q110.2 a0).1 = 4 then ((p_X5_isName a0 10 q110.2).bind fun q111 =>
  if q111.1 = 0 then (if (tg q111.2 a0).1 = 4 then ((p_X5_fails a0 ((1 : Int32)) q111.2).bind fun q112 =>
  if q112.1 &&& 1 = q112.1 then some (q112.1, q112.2) else none) else none)
  else
  p_X5_readsHost_104 a0 a1 x2 x107 q110.1 q111.2) else none)
  else
  p_X5_readsHost_104 a0 a1 x2 x107 q110.1 q110.2) else none) else none)
  else
  if (tg q108.2 a0).1 = 4 then ((p_X5_fails a0 ((3 : Int32)) q108.2).bind fun q113 =>
  if q113.1 &&& 1 = q113.1 then some (q113.1, q113.2) else none) else none) else none) else none) else none
set_option maxRecDepth 100000 in
theorem e_X5_readsHost_50 {l : Launch} {D : va_G} {dA : Nat → ClassId} {z : Nat} {sa : Nat → Nat} {Hz : Heap} (E : StrOK qLen qCh l D dA z sa Hz) {h0 fin : AH} {x : Int32}  : ∀ (a0 : Nat) (a1 : Nat) (x2 : Int32) (h : AH), p_X5_readsHost_50 a0 a1 x2 h = some (x, fin) → GM l D dA z sa Hz q_X5_readsHost h0 (some (.int x)) fin 50 [(0, .ref a0), (1, .ref a1), (2, .int x2)] [] h := by
  intro a0 a1 x2 h hd
  exact step E (is := I_X5_readsHost_50) (pc := 50) (K := (kx 72 (fun la st h => gR la 0 fun a0 => gR la 1 fun a1 => gI la 2 fun x2 => gI la 3 fun x3 => sE st (p_X5_readsHost_72 a0 a1 x2 x3 h)) k0)) (FI := FI_X5_readsHost) (FV := FV_X5_readsHost) (FL := fL0) (rt := rtZ) (ft := 0) (by exact hd) ok_X5_readsHost_50 (kx_ok (fun la st h e => by obtain ⟨a0, m_a0, e1⟩ := gR_inv e; obtain ⟨a1, m_a1, e2⟩ := gR_inv e1; obtain ⟨x2, m_x2, e3⟩ := gI_inv e2; obtain ⟨x3, m_x3, e4⟩ := gI_inv e3; obtain ⟨rfl, ez⟩ := sE_inv e4; exact gm_fewer (e_X5_readsHost_72 E  a0 a1 x2 x3 h ez) (mem_cons m_a0 (mem_cons m_a1 (mem_cons m_x2 (mem_cons m_x3 mem_nil))))) k0_ok) (FI_X5_readsHost_ok E) (FV_X5_readsHost_ok E) (fL0_ok E) (rtZ_ok rfl)
def I_X5_readsHost_34 : List AI := [(.aload_n 0, 1, [], 0), (.invokevirtual 36, 3, [2, 15, 1, 4, 419], 0), (.aload_n 0, 1, [], 0), (.iconst 0, 1, [], 0), (.bipush 31, 2, [], 31), (.invokevirtual 133, 3, [1, 18, 3, 4, 499], 0), (.ifCond .ne 5, 3, [50], 0), (.iconst 0, 1, [], 0), (.ireturn, 1, [], 0)]
theorem ok_X5_readsHost_34 : vBL MT qLen qCh false q_X5_readsHost.2.2.2.2.1 q_X5_readsHost.2.2.2.2.2.1 q_X5_readsHost.2.2.1 q_X5_readsHost.1.cls q_X5_readsHost.1.name q_X5_readsHost.2.1 0 34 I_X5_readsHost_34 = true := by decide +kernel
def p_X5_readsHost_34 (a0 : Nat) (a1 : Nat) (x2 : Int32) (h : AH) : Option (Int32 × AH) :=
  if (tg h a0).1 = 4 then ((p_X5_advance a0 h).bind fun h114 =>
  if (tg h114 a0).1 = 4 then ((p_X5_isWhole a0 ((0 : Int32)) ((31 : Int32)) h114).bind fun q115 =>
  if q115.1 = 0 then (if ((0 : Int32)) &&& 1 = ((0 : Int32)) then some (((0 : Int32)), q115.2) else none)
  else
  if (tg q115.2 a0).1 = 4 then (let x116 := rI q115.2 a0 6
  if (tg q115.2 a1).1 = 5 then (if (tg q115.2 (rR q115.2 a1 0)).1 = 0 then ((p_X1_isTaken (rR q115.2 a1 0) x116 q115.2).bind fun q117 =>
  if q117.1 = 0 then (if (tg q117.2 a0).1 = 4 then ((p_X5_advance a0 q117.2).bind fun h118 =>
  if (tg h118 a0).1 = 4 then ((p_X5_isName a0 9 h118).bind fun q119 =>
  if q119.1 = 0 then (if (tg q119.2 a0).1 = 4 then ((p_X5_isName a0 10 q119.2).bind fun q120 =>
  if q120.1 = 0 then (if (tg q120.2 a0).1 = 4 then ((p_X5_fails a0 ((1 : Int32)) q120.2).bind fun q121 =>
  if q121.1 &&& 1 = q121.1 then some (q121.1, q121.2) else none) else none)
  else
  p_X5_readsHost_104 a0 a1 x2 x116 q119.1 q120.2) else none)
  else
  p_X5_readsHost_104 a0 a1 x2 x116 q119.1 q119.2) else none) else none)
  else
  if (tg q117.2 a0).1 = 4 then ((p_X5_fails a0 ((3 : Int32)) q117.2).bind fun q122 =>
  if q122.1 &&& 1 = q122.1 then some (q122.1, q122.2) else none) else none) else none) else none) else none) else none) else none
set_option maxRecDepth 100000 in
theorem e_X5_readsHost_34 {l : Launch} {D : va_G} {dA : Nat → ClassId} {z : Nat} {sa : Nat → Nat} {Hz : Heap} (E : StrOK qLen qCh l D dA z sa Hz) {h0 fin : AH} {x : Int32}  : ∀ (a0 : Nat) (a1 : Nat) (x2 : Int32) (h : AH), p_X5_readsHost_34 a0 a1 x2 h = some (x, fin) → GM l D dA z sa Hz q_X5_readsHost h0 (some (.int x)) fin 34 [(0, .ref a0), (1, .ref a1), (2, .int x2)] [] h := by
  intro a0 a1 x2 h hd
  exact step E (is := I_X5_readsHost_34) (pc := 34) (K := (kx 50 (fun la st h => gR la 0 fun a0 => gR la 1 fun a1 => gI la 2 fun x2 => sE st (p_X5_readsHost_50 a0 a1 x2 h)) k0)) (FI := FI_X5_readsHost) (FV := FV_X5_readsHost) (FL := fL0) (rt := rtZ) (ft := 0) (by exact hd) ok_X5_readsHost_34 (kx_ok (fun la st h e => by obtain ⟨a0, m_a0, e1⟩ := gR_inv e; obtain ⟨a1, m_a1, e2⟩ := gR_inv e1; obtain ⟨x2, m_x2, e3⟩ := gI_inv e2; obtain ⟨rfl, ez⟩ := sE_inv e3; exact gm_fewer (e_X5_readsHost_50 E  a0 a1 x2 h ez) (mem_cons m_a0 (mem_cons m_a1 (mem_cons m_x2 mem_nil)))) k0_ok) (FI_X5_readsHost_ok E) (FV_X5_readsHost_ok E) (fL0_ok E) (rtZ_ok rfl)
def I_X5_readsHost_12 : List AI := [(.aload_n 0, 1, [], 0), (.getfield 63, 3, [4, 6, 0, 152], 0), (.istore_n 2, 1, [], 0), (.aload_n 1, 1, [], 0), (.getfield 139, 3, [5, 0, 2, 211], 0), (.iload_n 2, 1, [], 0), (.invokevirtual 148, 3, [1, 22, 2, 0, 520], 0), (.ifCond .eq 9, 3, [34], 0), (.aload_n 0, 1, [], 0), (.iconst 3, 1, [], 3), (.invokevirtual 46, 3, [1, 17, 2, 4, 494], 0), (.ireturn, 1, [], 0)]
theorem ok_X5_readsHost_12 : vBL MT qLen qCh false q_X5_readsHost.2.2.2.2.1 q_X5_readsHost.2.2.2.2.2.1 q_X5_readsHost.2.2.1 q_X5_readsHost.1.cls q_X5_readsHost.1.name q_X5_readsHost.2.1 0 12 I_X5_readsHost_12 = true := by decide +kernel
def p_X5_readsHost_12 (a0 : Nat) (a1 : Nat) (h : AH) : Option (Int32 × AH) :=
  if (tg h a0).1 = 4 then (let x123 := rI h a0 6
  if (tg h a1).1 = 5 then (if (tg h (rR h a1 0)).1 = 0 then ((p_X1_isBacked (rR h a1 0) x123 h).bind fun q124 =>
  if q124.1 = 0 then (if (tg q124.2 a0).1 = 4 then ((p_X5_advance a0 q124.2).bind fun h125 =>
  if (tg h125 a0).1 = 4 then ((p_X5_isWhole a0 ((0 : Int32)) ((31 : Int32)) h125).bind fun q126 =>
  if q126.1 = 0 then (if ((0 : Int32)) &&& 1 = ((0 : Int32)) then some (((0 : Int32)), q126.2) else none)
  else
  if (tg q126.2 a0).1 = 4 then (let x127 := rI q126.2 a0 6
  if (tg q126.2 a1).1 = 5 then (if (tg q126.2 (rR q126.2 a1 0)).1 = 0 then ((p_X1_isTaken (rR q126.2 a1 0) x127 q126.2).bind fun q128 =>
  if q128.1 = 0 then (if (tg q128.2 a0).1 = 4 then ((p_X5_advance a0 q128.2).bind fun h129 =>
  if (tg h129 a0).1 = 4 then ((p_X5_isName a0 9 h129).bind fun q130 =>
  if q130.1 = 0 then (if (tg q130.2 a0).1 = 4 then ((p_X5_isName a0 10 q130.2).bind fun q131 =>
  if q131.1 = 0 then (if (tg q131.2 a0).1 = 4 then ((p_X5_fails a0 ((1 : Int32)) q131.2).bind fun q132 =>
  if q132.1 &&& 1 = q132.1 then some (q132.1, q132.2) else none) else none)
  else
  p_X5_readsHost_104 a0 a1 x123 x127 q130.1 q131.2) else none)
  else
  p_X5_readsHost_104 a0 a1 x123 x127 q130.1 q130.2) else none) else none)
  else
  if (tg q128.2 a0).1 = 4 then ((p_X5_fails a0 ((3 : Int32)) q128.2).bind fun q133 =>
  if q133.1 &&& 1 = q133.1 then some (q133.1, q133.2) else none) else none) else none) else none) else none) else none) else none)
  else
  if (tg q124.2 a0).1 = 4 then ((p_X5_fails a0 ((3 : Int32)) q124.2).bind fun q134 =>
  if q134.1 &&& 1 = q134.1 then some (q134.1, q134.2) else none) else none) else none) else none) else none
set_option maxRecDepth 100000 in
theorem e_X5_readsHost_12 {l : Launch} {D : va_G} {dA : Nat → ClassId} {z : Nat} {sa : Nat → Nat} {Hz : Heap} (E : StrOK qLen qCh l D dA z sa Hz) {h0 fin : AH} {x : Int32}  : ∀ (a0 : Nat) (a1 : Nat) (h : AH), p_X5_readsHost_12 a0 a1 h = some (x, fin) → GM l D dA z sa Hz q_X5_readsHost h0 (some (.int x)) fin 12 [(0, .ref a0), (1, .ref a1)] [] h := by
  intro a0 a1 h hd
  exact step E (is := I_X5_readsHost_12) (pc := 12) (K := (kx 34 (fun la st h => gR la 0 fun a0 => gR la 1 fun a1 => gI la 2 fun x2 => sE st (p_X5_readsHost_34 a0 a1 x2 h)) k0)) (FI := FI_X5_readsHost) (FV := FV_X5_readsHost) (FL := fL0) (rt := rtZ) (ft := 0) (by exact hd) ok_X5_readsHost_12 (kx_ok (fun la st h e => by obtain ⟨a0, m_a0, e1⟩ := gR_inv e; obtain ⟨a1, m_a1, e2⟩ := gR_inv e1; obtain ⟨x2, m_x2, e3⟩ := gI_inv e2; obtain ⟨rfl, ez⟩ := sE_inv e3; exact gm_fewer (e_X5_readsHost_34 E  a0 a1 x2 h ez) (mem_cons m_a0 (mem_cons m_a1 (mem_cons m_x2 mem_nil)))) k0_ok) (FI_X5_readsHost_ok E) (FV_X5_readsHost_ok E) (fL0_ok E) (rtZ_ok rfl)
def I_X5_readsHost_0 : List AI := [(.aload_n 0, 1, [], 0), (.iconst 0, 1, [], 0), (.bipush 15, 2, [], 15), (.invokevirtual 133, 3, [1, 18, 3, 4, 499], 0), (.ifCond .ne 5, 3, [12], 0), (.iconst 0, 1, [], 0), (.ireturn, 1, [], 0)]
theorem ok_X5_readsHost_0 : vBL MT qLen qCh false q_X5_readsHost.2.2.2.2.1 q_X5_readsHost.2.2.2.2.2.1 q_X5_readsHost.2.2.1 q_X5_readsHost.1.cls q_X5_readsHost.1.name q_X5_readsHost.2.1 0 0 I_X5_readsHost_0 = true := by decide +kernel
def p_X5_readsHost (a0 : Nat) (a1 : Nat) (h : AH) : Option (Int32 × AH) :=
  if (tg h a0).1 = 4 then ((p_X5_isWhole a0 ((0 : Int32)) ((15 : Int32)) h).bind fun q135 =>
  if q135.1 = 0 then (if ((0 : Int32)) &&& 1 = ((0 : Int32)) then some (((0 : Int32)), q135.2) else none)
  else
  if (tg q135.2 a0).1 = 4 then (let x136 := rI q135.2 a0 6
  if (tg q135.2 a1).1 = 5 then (if (tg q135.2 (rR q135.2 a1 0)).1 = 0 then ((p_X1_isBacked (rR q135.2 a1 0) x136 q135.2).bind fun q137 =>
  if q137.1 = 0 then (if (tg q137.2 a0).1 = 4 then ((p_X5_advance a0 q137.2).bind fun h138 =>
  if (tg h138 a0).1 = 4 then ((p_X5_isWhole a0 ((0 : Int32)) ((31 : Int32)) h138).bind fun q139 =>
  if q139.1 = 0 then (if ((0 : Int32)) &&& 1 = ((0 : Int32)) then some (((0 : Int32)), q139.2) else none)
  else
  if (tg q139.2 a0).1 = 4 then (let x140 := rI q139.2 a0 6
  if (tg q139.2 a1).1 = 5 then (if (tg q139.2 (rR q139.2 a1 0)).1 = 0 then ((p_X1_isTaken (rR q139.2 a1 0) x140 q139.2).bind fun q141 =>
  if q141.1 = 0 then (if (tg q141.2 a0).1 = 4 then ((p_X5_advance a0 q141.2).bind fun h142 =>
  if (tg h142 a0).1 = 4 then ((p_X5_isName a0 9 h142).bind fun q143 =>
  if q143.1 = 0 then (if (tg q143.2 a0).1 = 4 then ((p_X5_isName a0 10 q143.2).bind fun q144 =>
  if q144.1 = 0 then (if (tg q144.2 a0).1 = 4 then ((p_X5_fails a0 ((1 : Int32)) q144.2).bind fun q145 =>
  if q145.1 &&& 1 = q145.1 then some (q145.1, q145.2) else none) else none)
  else
  p_X5_readsHost_104 a0 a1 x136 x140 q143.1 q144.2) else none)
  else
  p_X5_readsHost_104 a0 a1 x136 x140 q143.1 q143.2) else none) else none)
  else
  if (tg q141.2 a0).1 = 4 then ((p_X5_fails a0 ((3 : Int32)) q141.2).bind fun q146 =>
  if q146.1 &&& 1 = q146.1 then some (q146.1, q146.2) else none) else none) else none) else none) else none) else none) else none)
  else
  if (tg q137.2 a0).1 = 4 then ((p_X5_fails a0 ((3 : Int32)) q137.2).bind fun q147 =>
  if q147.1 &&& 1 = q147.1 then some (q147.1, q147.2) else none) else none) else none) else none) else none) else none
set_option maxRecDepth 100000 in
theorem e_X5_readsHost_0 {l : Launch} {D : va_G} {dA : Nat → ClassId} {z : Nat} {sa : Nat → Nat} {Hz : Heap} (E : StrOK qLen qCh l D dA z sa Hz) {h0 fin : AH} {x : Int32}  : ∀ (a0 : Nat) (a1 : Nat) (h : AH), p_X5_readsHost a0 a1 h = some (x, fin) → GM l D dA z sa Hz q_X5_readsHost h0 (some (.int x)) fin 0 [(0, .ref a0), (1, .ref a1)] [] h := by
  intro a0 a1 h hd
  exact step E (is := I_X5_readsHost_0) (pc := 0) (K := (kx 12 (fun la st h => gR la 0 fun a0 => gR la 1 fun a1 => sE st (p_X5_readsHost_12 a0 a1 h)) k0)) (FI := FI_X5_readsHost) (FV := FV_X5_readsHost) (FL := fL0) (rt := rtZ) (ft := 0) (by exact hd) ok_X5_readsHost_0 (kx_ok (fun la st h e => by obtain ⟨a0, m_a0, e1⟩ := gR_inv e; obtain ⟨a1, m_a1, e2⟩ := gR_inv e1; obtain ⟨rfl, ez⟩ := sE_inv e2; exact gm_fewer (e_X5_readsHost_12 E  a0 a1 h ez) (mem_cons m_a0 (mem_cons m_a1 mem_nil))) k0_ok) (FI_X5_readsHost_ok E) (FV_X5_readsHost_ok E) (fL0_ok E) (rtZ_ok rfl)
theorem c_X5_readsHost {l : Launch} {D : va_G} {dA : Nat → ClassId} {z : Nat} {sa : Nat → Nat} {Hz : Heap} (E : StrOK qLen qCh l D dA z sa Hz) {a0 : Nat} {a1 : Nat} {h fin : AH} {x : Int32} (hd : p_X5_readsHost a0 a1 h = some (x, fin)) : CalOK l D dA z sa Hz q_X5_readsHost [.ref a0, .ref a1] h (some (.int x)) fin := calOf (by decide +kernel) (Nat.le_of_ble_eq_true rfl) (e_X5_readsHost_0 E a0 a1 h hd)
def I_X1_spot_0 : List AI := [(.iload_n 0, 1, [], 0), (.bipush 15, 2, [], 15), (.iand, 1, [], 0), (.bipush 8, 2, [], 8), (.imul, 1, [], 0), (.iload_n 1, 1, [], 0), (.bipush 7, 2, [], 7), (.iand, 1, [], 0), (.iadd, 1, [], 0), (.ireturn, 1, [], 0)]
theorem ok_X1_spot_0 : vBL MT qLen qCh false q_X1_spot.2.2.2.2.1 q_X1_spot.2.2.2.2.2.1 q_X1_spot.2.2.1 q_X1_spot.1.cls q_X1_spot.1.name q_X1_spot.2.1 0 0 I_X1_spot_0 = true := by decide +kernel
def p_X1_spot (x0 : Int32) (x1 : Int32) (h : AH) : Option (Int32 × AH) :=
  some ((((x0 &&& ((15 : Int32))) * ((8 : Int32))) + (x1 &&& ((7 : Int32)))), h)
set_option maxRecDepth 100000 in
theorem e_X1_spot_0 {l : Launch} {D : va_G} {dA : Nat → ClassId} {z : Nat} {sa : Nat → Nat} {Hz : Heap} (E : StrOK qLen qCh l D dA z sa Hz) {h0 fin : AH} {x : Int32}  : ∀ (x0 : Int32) (x1 : Int32) (h : AH), p_X1_spot x0 x1 h = some (x, fin) → GM l D dA z sa Hz q_X1_spot h0 (some (.int x)) fin 0 [(0, .int x0), (1, .int x1)] [] h := by
  intro x0 x1 h hd
  exact step E (is := I_X1_spot_0) (pc := 0) (K := k0) (FI := fI0) (FV := fV0) (FL := fL0) (rt := rtI) (ft := 0) (by exact hd) ok_X1_spot_0 k0_ok (fI0_ok E) (fV0_ok E) (fL0_ok E) (rtI_ok rfl)
theorem c_X1_spot {l : Launch} {D : va_G} {dA : Nat → ClassId} {z : Nat} {sa : Nat → Nat} {Hz : Heap} (E : StrOK qLen qCh l D dA z sa Hz) {x0 : Int32} {x1 : Int32} {h fin : AH} {x : Int32} (hd : p_X1_spot x0 x1 h = some (x, fin)) : CalOK l D dA z sa Hz q_X1_spot [.int x0, .int x1] h (some (.int x)) fin := calOf (by decide +kernel) (Nat.le_of_ble_eq_true rfl) (e_X1_spot_0 E x0 x1 h hd)
def FI_X6_toldWord : Nat → List Value → AH → Option (Int32 × AH) := (cx 27 (fun As h => sI As fun x0 As => sI As fun x1 As => sE As (p_X1_spot x0 x1 h)) fI0)
theorem FI_X6_toldWord_ok {l : Launch} {D : va_G} {dA : Nat → ClassId} {z : Nat} {sa : Nat → Nat} {Hz : Heap} (E : StrOK qLen qCh l D dA z sa Hz) : ∀ mi As h x h', FI_X6_toldWord mi As h = some (x, h') → CalOK l D dA z sa Hz (MT mi) As h (some (.int x)) h' := (cxI_ok (fun As h x h2 e => by obtain ⟨_, _, rfl, e0⟩ := sI_inv e; obtain ⟨_, _, rfl, e1⟩ := sI_inv e0; obtain ⟨rfl, ez⟩ := sE_inv e1; exact c_X1_spot E ez) (fI0_ok E))
def I_X6_toldWord_0 : List AI := [(.aload_n 0, 1, [], 0), (.getfield 18, 3, [5, 3, 2, 218], 0), (.iload_n 1, 1, [], 0), (.iload_n 2, 1, [], 0), (.invokestatic 60, 3, [1, 27, 2, 546], 0), (.baload, 1, [102], 0), (.ireturn, 1, [], 0)]
theorem ok_X6_toldWord_0 : vBL MT qLen qCh false q_X6_toldWord.2.2.2.2.1 q_X6_toldWord.2.2.2.2.2.1 q_X6_toldWord.2.2.1 q_X6_toldWord.1.cls q_X6_toldWord.1.name q_X6_toldWord.2.1 0 0 I_X6_toldWord_0 = true := by decide +kernel
def p_X6_toldWord (a0 : Nat) (x1 : Int32) (x2 : Int32) (h : AH) : Option (Int32 × AH) :=
  if (tg h a0).1 = 5 then ((p_X1_spot x1 x2 h).bind fun q101 =>
  if inB q101.2 (rR h a0 3) 102 q101.1 then (if (rI q101.2 (rR h a0 3) q101.1.toNatClampNeg) &&& 1 = (rI q101.2 (rR h a0 3) q101.1.toNatClampNeg) then some ((rI q101.2 (rR h a0 3) q101.1.toNatClampNeg), q101.2) else none) else none) else none
set_option maxRecDepth 100000 in
theorem e_X6_toldWord_0 {l : Launch} {D : va_G} {dA : Nat → ClassId} {z : Nat} {sa : Nat → Nat} {Hz : Heap} (E : StrOK qLen qCh l D dA z sa Hz) {h0 fin : AH} {x : Int32}  : ∀ (a0 : Nat) (x1 : Int32) (x2 : Int32) (h : AH), p_X6_toldWord a0 x1 x2 h = some (x, fin) → GM l D dA z sa Hz q_X6_toldWord h0 (some (.int x)) fin 0 [(0, .ref a0), (1, .int x1), (2, .int x2)] [] h := by
  intro a0 x1 x2 h hd
  exact step E (is := I_X6_toldWord_0) (pc := 0) (K := k0) (FI := FI_X6_toldWord) (FV := fV0) (FL := fL0) (rt := rtZ) (ft := 0) (by exact hd) ok_X6_toldWord_0 k0_ok (FI_X6_toldWord_ok E) (fV0_ok E) (fL0_ok E) (rtZ_ok rfl)
theorem c_X6_toldWord {l : Launch} {D : va_G} {dA : Nat → ClassId} {z : Nat} {sa : Nat → Nat} {Hz : Heap} (E : StrOK qLen qCh l D dA z sa Hz) {a0 : Nat} {x1 : Int32} {x2 : Int32} {h fin : AH} {x : Int32} (hd : p_X6_toldWord a0 x1 x2 h = some (x, fin)) : CalOK l D dA z sa Hz q_X6_toldWord [.ref a0, .int x1, .int x2] h (some (.int x)) fin := calOf (by decide +kernel) (Nat.le_of_ble_eq_true rfl) (e_X6_toldWord_0 E a0 x1 x2 h hd)
def FI_X6_doubted : Nat → List Value → AH → Option (Int32 × AH) := (cx 27 (fun As h => sI As fun x0 As => sI As fun x1 As => sE As (p_X1_spot x0 x1 h)) fI0)
theorem FI_X6_doubted_ok {l : Launch} {D : va_G} {dA : Nat → ClassId} {z : Nat} {sa : Nat → Nat} {Hz : Heap} (E : StrOK qLen qCh l D dA z sa Hz) : ∀ mi As h x h', FI_X6_doubted mi As h = some (x, h') → CalOK l D dA z sa Hz (MT mi) As h (some (.int x)) h' := (cxI_ok (fun As h x h2 e => by obtain ⟨_, _, rfl, e0⟩ := sI_inv e; obtain ⟨_, _, rfl, e1⟩ := sI_inv e0; obtain ⟨rfl, ez⟩ := sE_inv e1; exact c_X1_spot E ez) (fI0_ok E))
def I_X6_doubted_37 : List AI := [(.iconst 0, 1, [], 0), (.ireturn, 1, [], 0)]
theorem ok_X6_doubted_37 : vBL MT qLen qCh false q_X6_doubted.2.2.2.2.1 q_X6_doubted.2.2.2.2.2.1 q_X6_doubted.2.2.1 q_X6_doubted.1.cls q_X6_doubted.1.name q_X6_doubted.2.1 0 37 I_X6_doubted_37 = true := by decide +kernel
def p_X6_doubted_37 (h : AH) : Option (Int32 × AH) :=
  if ((0 : Int32)) &&& 1 = ((0 : Int32)) then some (((0 : Int32)), h) else none
set_option maxRecDepth 100000 in
theorem e_X6_doubted_37 {l : Launch} {D : va_G} {dA : Nat → ClassId} {z : Nat} {sa : Nat → Nat} {Hz : Heap} (E : StrOK qLen qCh l D dA z sa Hz) {h0 fin : AH} {x : Int32}  : ∀  (h : AH), p_X6_doubted_37 h = some (x, fin) → GM l D dA z sa Hz q_X6_doubted h0 (some (.int x)) fin 37 [] [] h := by
  intro h hd
  exact step E (is := I_X6_doubted_37) (pc := 37) (K := k0) (FI := FI_X6_doubted) (FV := fV0) (FL := fL0) (rt := rtZ) (ft := 0) (by exact hd) ok_X6_doubted_37 k0_ok (FI_X6_doubted_ok E) (fV0_ok E) (fL0_ok E) (rtZ_ok rfl)
def I_X6_doubted_31 : List AI := [(.iinc 3 1, 3, [], 1), (.goto (-32), 3, [2], 0)]
theorem ok_X6_doubted_31 : vBL MT qLen qCh false q_X6_doubted.2.2.2.2.1 q_X6_doubted.2.2.2.2.2.1 q_X6_doubted.2.2.1 q_X6_doubted.1.cls q_X6_doubted.1.name q_X6_doubted.2.1 0 31 I_X6_doubted_31 = true := by decide +kernel
def p_X6_doubted_31 (k2 : Nat → Int32 → Int32 → Int32 → AH → Option (Int32 × AH)) (a0 : Nat) (x1 : Int32) (x2 : Int32) (x3 : Int32) (h : AH) : Option (Int32 × AH) :=
  k2 a0 x1 x2 (x3 + (1 : Int32)) h
set_option maxRecDepth 100000 in
theorem e_X6_doubted_31 {l : Launch} {D : va_G} {dA : Nat → ClassId} {z : Nat} {sa : Nat → Nat} {Hz : Heap} (E : StrOK qLen qCh l D dA z sa Hz) {h0 fin : AH} {x : Int32}  {k2 : Nat → Int32 → Int32 → Int32 → AH → Option (Int32 × AH)} (hk2 : ∀ (a0 : Nat) (x1 : Int32) (x2 : Int32) (x3 : Int32) (h : AH), k2 a0 x1 x2 x3 h = some (x, fin) → GM l D dA z sa Hz q_X6_doubted h0 (some (.int x)) fin 2 [(0, .ref a0), (1, .int x1), (2, .int x2), (3, .int x3)] [] h) : ∀ (a0 : Nat) (x1 : Int32) (x2 : Int32) (x3 : Int32) (h : AH), p_X6_doubted_31 k2 a0 x1 x2 x3 h = some (x, fin) → GM l D dA z sa Hz q_X6_doubted h0 (some (.int x)) fin 31 [(0, .ref a0), (1, .int x1), (2, .int x2), (3, .int x3)] [] h := by
  intro a0 x1 x2 x3 h hd
  exact step E (is := I_X6_doubted_31) (pc := 31) (K := (kx 2 (fun la st h => gR la 0 fun a0 => gI la 1 fun x1 => gI la 2 fun x2 => gI la 3 fun x3 => sE st (k2 a0 x1 x2 x3 h)) k0)) (FI := FI_X6_doubted) (FV := fV0) (FL := fL0) (rt := rtZ) (ft := 0) (by exact hd) ok_X6_doubted_31 (kx_ok (fun la st h e => by obtain ⟨a0, m_a0, e1⟩ := gR_inv e; obtain ⟨x1, m_x1, e2⟩ := gI_inv e1; obtain ⟨x2, m_x2, e3⟩ := gI_inv e2; obtain ⟨x3, m_x3, e4⟩ := gI_inv e3; obtain ⟨rfl, ez⟩ := sE_inv e4; exact gm_fewer (hk2 a0 x1 x2 x3 h ez) (mem_cons m_a0 (mem_cons m_x1 (mem_cons m_x2 (mem_cons m_x3 mem_nil))))) k0_ok) (FI_X6_doubted_ok E) (fV0_ok E) (fL0_ok E) (rtZ_ok rfl)
def I_X6_doubted_2 : List AI := [(.iload_n 3, 1, [], 0), (.aload_n 0, 1, [], 0), (.getfield 54, 3, [5, 9, 0, 229], 0), (.if_icmp .ge 30, 3, [37], 0), (.iload_n 3, 1, [], 0), (.iconst 4, 1, [], 4), (.if_icmp .ge 25, 3, [37], 0), (.aload_n 0, 1, [], 0), (.getfield 26, 3, [5, 7, 2, 227], 0), (.iload_n 3, 1, [], 0), (.iaload, 1, [], 0), (.iload_n 1, 1, [], 0), (.iload_n 2, 1, [], 0), (.invokestatic 60, 3, [1, 27, 2, 546], 0), (.if_icmp .ne 5, 3, [31], 0), (.iconst 1, 1, [], 1), (.ireturn, 1, [], 0)]
theorem ok_X6_doubted_2 : vBL MT qLen qCh false q_X6_doubted.2.2.2.2.1 q_X6_doubted.2.2.2.2.2.1 q_X6_doubted.2.2.1 q_X6_doubted.1.cls q_X6_doubted.1.name q_X6_doubted.2.1 0 2 I_X6_doubted_2 = true := by decide +kernel
def p_X6_doubted_2 : Nat → Nat → Int32 → Int32 → Int32 → AH → Option (Int32 × AH)
  | 0, _, _, _, _, _ => none
  | n + 1, a0, x1, x2, x3, h => if (tg h a0).1 = 5 then (if x3 < (rI h a0 9) then (if x3 < ((4 : Int32)) then (if (tg h a0).1 = 5 then (if inB h (rR h a0 7) 100 x3 then ((p_X1_spot x1 x2 h).bind fun q101 =>
    if (rI h (rR h a0 7) x3.toNatClampNeg) = q101.1 then (if ((1 : Int32)) &&& 1 = ((1 : Int32)) then some (((1 : Int32)), q101.2) else none)
    else
    p_X6_doubted_2 n a0 x1 x2 (x3 + (1 : Int32)) q101.2) else none) else none)
    else
    p_X6_doubted_37 h)
    else
    p_X6_doubted_37 h) else none
set_option maxRecDepth 100000 in
theorem e_X6_doubted_2 {l : Launch} {D : va_G} {dA : Nat → ClassId} {z : Nat} {sa : Nat → Nat} {Hz : Heap} (E : StrOK qLen qCh l D dA z sa Hz) {h0 fin : AH} {x : Int32}  : ∀ (n : Nat) (a0 : Nat) (x1 : Int32) (x2 : Int32) (x3 : Int32) (h : AH), p_X6_doubted_2 n a0 x1 x2 x3 h = some (x, fin) → GM l D dA z sa Hz q_X6_doubted h0 (some (.int x)) fin 2 [(0, .ref a0), (1, .int x1), (2, .int x2), (3, .int x3)] [] h := by
  intro n
  induction n with
  | zero => intro a0 x1 x2 x3 h hd; exact nomatch hd
  | succ n ih =>
    intro a0 x1 x2 x3 h hd
    exact step E (is := I_X6_doubted_2) (pc := 2) (K := (kx 37 (fun la st h => sE st (p_X6_doubted_37 h)) (kx 31 (fun la st h => gR la 0 fun a0 => gI la 1 fun x1 => gI la 2 fun x2 => gI la 3 fun x3 => sE st (p_X6_doubted_31 (p_X6_doubted_2 n) a0 x1 x2 x3 h)) k0))) (FI := FI_X6_doubted) (FV := fV0) (FL := fL0) (rt := rtZ) (ft := 0) (by exact hd) ok_X6_doubted_2 (kx_ok (fun la st h e => by obtain ⟨rfl, ez⟩ := sE_inv e; exact gm_fewer (e_X6_doubted_37 E   h ez) mem_nil) (kx_ok (fun la st h e => by obtain ⟨a0, m_a0, e1⟩ := gR_inv e; obtain ⟨x1, m_x1, e2⟩ := gI_inv e1; obtain ⟨x2, m_x2, e3⟩ := gI_inv e2; obtain ⟨x3, m_x3, e4⟩ := gI_inv e3; obtain ⟨rfl, ez⟩ := sE_inv e4; exact gm_fewer (e_X6_doubted_31 E ih a0 x1 x2 x3 h ez) (mem_cons m_a0 (mem_cons m_x1 (mem_cons m_x2 (mem_cons m_x3 mem_nil))))) k0_ok)) (FI_X6_doubted_ok E) (fV0_ok E) (fL0_ok E) (rtZ_ok rfl)
def I_X6_doubted_0 : List AI := [(.iconst 0, 1, [], 0), (.istore_n 3, 1, [], 0)]
theorem ok_X6_doubted_0 : vBL MT qLen qCh false q_X6_doubted.2.2.2.2.1 q_X6_doubted.2.2.2.2.2.1 q_X6_doubted.2.2.1 q_X6_doubted.1.cls q_X6_doubted.1.name q_X6_doubted.2.1 2 0 I_X6_doubted_0 = true := by decide +kernel
def p_X6_doubted (a0 : Nat) (x1 : Int32) (x2 : Int32) (h : AH) : Option (Int32 × AH) :=
  p_X6_doubted_2 FU a0 x1 x2 ((0 : Int32)) h
set_option maxRecDepth 100000 in
theorem e_X6_doubted_0 {l : Launch} {D : va_G} {dA : Nat → ClassId} {z : Nat} {sa : Nat → Nat} {Hz : Heap} (E : StrOK qLen qCh l D dA z sa Hz) {h0 fin : AH} {x : Int32}  : ∀ (a0 : Nat) (x1 : Int32) (x2 : Int32) (h : AH), p_X6_doubted a0 x1 x2 h = some (x, fin) → GM l D dA z sa Hz q_X6_doubted h0 (some (.int x)) fin 0 [(0, .ref a0), (1, .int x1), (2, .int x2)] [] h := by
  intro a0 x1 x2 h hd
  exact step E (is := I_X6_doubted_0) (pc := 0) (K := (kx 2 (fun la st h => gR la 0 fun a0 => gI la 1 fun x1 => gI la 2 fun x2 => gI la 3 fun x3 => sE st (p_X6_doubted_2 FU a0 x1 x2 x3 h)) k0)) (FI := FI_X6_doubted) (FV := fV0) (FL := fL0) (rt := rtZ) (ft := 2) (by exact hd) ok_X6_doubted_0 (kx_ok (fun la st h e => by obtain ⟨a0, m_a0, e1⟩ := gR_inv e; obtain ⟨x1, m_x1, e2⟩ := gI_inv e1; obtain ⟨x2, m_x2, e3⟩ := gI_inv e2; obtain ⟨x3, m_x3, e4⟩ := gI_inv e3; obtain ⟨rfl, ez⟩ := sE_inv e4; exact gm_fewer (e_X6_doubted_2 E  FU a0 x1 x2 x3 h ez) (mem_cons m_a0 (mem_cons m_x1 (mem_cons m_x2 (mem_cons m_x3 mem_nil))))) k0_ok) (FI_X6_doubted_ok E) (fV0_ok E) (fL0_ok E) (rtZ_ok rfl)
theorem c_X6_doubted {l : Launch} {D : va_G} {dA : Nat → ClassId} {z : Nat} {sa : Nat → Nat} {Hz : Heap} (E : StrOK qLen qCh l D dA z sa Hz) {a0 : Nat} {x1 : Int32} {x2 : Int32} {h fin : AH} {x : Int32} (hd : p_X6_doubted a0 x1 x2 h = some (x, fin)) : CalOK l D dA z sa Hz q_X6_doubted [.ref a0, .int x1, .int x2] h (some (.int x)) fin := calOf (by decide +kernel) (Nat.le_of_ble_eq_true rfl) (e_X6_doubted_0 E a0 x1 x2 h hd)
def FI_X1_setWord : Nat → List Value → AH → Option (Int32 × AH) := (cx 27 (fun As h => sI As fun x0 As => sI As fun x1 As => sE As (p_X1_spot x0 x1 h)) fI0)
theorem FI_X1_setWord_ok {l : Launch} {D : va_G} {dA : Nat → ClassId} {z : Nat} {sa : Nat → Nat} {Hz : Heap} (E : StrOK qLen qCh l D dA z sa Hz) : ∀ mi As h x h', FI_X1_setWord mi As h = some (x, h') → CalOK l D dA z sa Hz (MT mi) As h (some (.int x)) h' := (cxI_ok (fun As h x h2 e => by obtain ⟨_, _, rfl, e0⟩ := sI_inv e; obtain ⟨_, _, rfl, e1⟩ := sI_inv e0; obtain ⟨rfl, ez⟩ := sE_inv e1; exact c_X1_spot E ez) (fI0_ok E))
def I_X1_setWord_0 : List AI := [(.aload_n 0, 1, [], 0), (.getfield 9, 3, [0, 0, 2, 189], 0), (.iload_n 1, 1, [], 0), (.iload_n 2, 1, [], 0), (.invokestatic 34, 3, [1, 27, 2, 561], 0), (.iload_n 3, 1, [], 0), (.iastore, 1, [], 0), (.return_, 1, [], 0)]
theorem ok_X1_setWord_0 : vBL MT qLen qCh false q_X1_setWord.2.2.2.2.1 q_X1_setWord.2.2.2.2.2.1 q_X1_setWord.2.2.1 q_X1_setWord.1.cls q_X1_setWord.1.name q_X1_setWord.2.1 0 0 I_X1_setWord_0 = true := by decide +kernel
def p_X1_setWord (a0 : Nat) (x1 : Int32) (x2 : Int32) (x3 : Int32) (h : AH) : Option (AH) :=
  if (tg h a0).1 = 0 then ((p_X1_spot x1 x2 h).bind fun q101 =>
  if inB q101.2 (rR h a0 0) 100 q101.1 then (let h102 := wI q101.2 (rR h a0 0) q101.1.toNatClampNeg x3
  some h102) else none) else none
set_option maxRecDepth 100000 in
theorem e_X1_setWord_0 {l : Launch} {D : va_G} {dA : Nat → ClassId} {z : Nat} {sa : Nat → Nat} {Hz : Heap} (E : StrOK qLen qCh l D dA z sa Hz) {h0 fin : AH}  : ∀ (a0 : Nat) (x1 : Int32) (x2 : Int32) (x3 : Int32) (h : AH), p_X1_setWord a0 x1 x2 x3 h = some fin → GM l D dA z sa Hz q_X1_setWord h0 none fin 0 [(0, .ref a0), (1, .int x1), (2, .int x2), (3, .int x3)] [] h := by
  intro a0 x1 x2 x3 h hd
  exact step E (is := I_X1_setWord_0) (pc := 0) (K := k0) (FI := FI_X1_setWord) (FV := fV0) (FL := fL0) (rt := rtV) (ft := 0) (by exact hd) ok_X1_setWord_0 k0_ok (FI_X1_setWord_ok E) (fV0_ok E) (fL0_ok E) (rtV_ok rfl)
theorem c_X1_setWord {l : Launch} {D : va_G} {dA : Nat → ClassId} {z : Nat} {sa : Nat → Nat} {Hz : Heap} (E : StrOK qLen qCh l D dA z sa Hz) {a0 : Nat} {x1 : Int32} {x2 : Int32} {x3 : Int32} {h fin : AH} (hd : p_X1_setWord a0 x1 x2 x3 h = some fin) : CalOK l D dA z sa Hz q_X1_setWord [.ref a0, .int x1, .int x2, .int x3] h none fin := calOf (by decide +kernel) (Nat.le_of_ble_eq_true rfl) (e_X1_setWord_0 E a0 x1 x2 x3 h hd)
def FI_X6_addWord : Nat → List Value → AH → Option (Int32 × AH) := (cx 27 (fun As h => sI As fun x0 As => sI As fun x1 As => sE As (p_X1_spot x0 x1 h)) fI0)
theorem FI_X6_addWord_ok {l : Launch} {D : va_G} {dA : Nat → ClassId} {z : Nat} {sa : Nat → Nat} {Hz : Heap} (E : StrOK qLen qCh l D dA z sa Hz) : ∀ mi As h x h', FI_X6_addWord mi As h = some (x, h') → CalOK l D dA z sa Hz (MT mi) As h (some (.int x)) h' := (cxI_ok (fun As h x h2 e => by obtain ⟨_, _, rfl, e0⟩ := sI_inv e; obtain ⟨_, _, rfl, e1⟩ := sI_inv e0; obtain ⟨rfl, ez⟩ := sE_inv e1; exact c_X1_spot E ez) (fI0_ok E))
def FV_X6_addWord : Nat → List Value → AH → Option (AH) := (cx 30 (fun As h => sR As fun a0 As => sI As fun x1 As => sI As fun x2 As => sI As fun x3 As => sE As (p_X1_setWord a0 x1 x2 x3 h)) fV0)
theorem FV_X6_addWord_ok {l : Launch} {D : va_G} {dA : Nat → ClassId} {z : Nat} {sa : Nat → Nat} {Hz : Heap} (E : StrOK qLen qCh l D dA z sa Hz) : ∀ mi As h h', FV_X6_addWord mi As h = some h' → CalOK l D dA z sa Hz (MT mi) As h none h' := (cxV_ok (fun As h h2 e => by obtain ⟨_, _, rfl, e0⟩ := sR_inv e; obtain ⟨_, _, rfl, e1⟩ := sI_inv e0; obtain ⟨_, _, rfl, e2⟩ := sI_inv e1; obtain ⟨_, _, rfl, e3⟩ := sI_inv e2; obtain ⟨rfl, ez⟩ := sE_inv e3; exact c_X1_setWord E ez) (fV0_ok E))
def I_X6_addWord_0 : List AI := [(.aload_n 0, 1, [], 0), (.getfield 12, 3, [5, 0, 2, 210], 0), (.iload_n 1, 1, [], 0), (.iload_n 2, 1, [], 0), (.iload_n 3, 1, [], 0), (.invokevirtual 68, 3, [2, 30, 4, 0, 557], 0), (.aload_n 0, 1, [], 0), (.getfield 18, 3, [5, 3, 2, 218], 0), (.iload_n 1, 1, [], 0), (.iload_n 2, 1, [], 0), (.invokestatic 60, 3, [1, 27, 2, 546], 0), (.iconst 1, 1, [], 1), (.bastore, 1, [102], 0), (.aload_n 0, 1, [], 0), (.dup, 1, [], 0), (.getfield 48, 3, [5, 4, 0, 219], 0), (.iconst 1, 1, [], 1), (.iadd, 1, [], 0), (.putfield 48, 3, [5, 4, 0, 219], 0), (.return_, 1, [], 0)]
theorem ok_X6_addWord_0 : vBL MT qLen qCh false q_X6_addWord.2.2.2.2.1 q_X6_addWord.2.2.2.2.2.1 q_X6_addWord.2.2.1 q_X6_addWord.1.cls q_X6_addWord.1.name q_X6_addWord.2.1 0 0 I_X6_addWord_0 = true := by decide +kernel
def p_X6_addWord (a0 : Nat) (x1 : Int32) (x2 : Int32) (x3 : Int32) (h : AH) : Option (AH) :=
  if (tg h a0).1 = 5 then (if (tg h (rR h a0 0)).1 = 0 then ((p_X1_setWord (rR h a0 0) x1 x2 x3 h).bind fun h101 =>
  if (tg h101 a0).1 = 5 then ((p_X1_spot x1 x2 h101).bind fun q102 =>
  if inB q102.2 (rR h101 a0 3) 102 q102.1 then (let h103 := wI q102.2 (rR h101 a0 3) q102.1.toNatClampNeg (((1 : Int32)) &&& 1)
  if (tg h103 a0).1 = 5 then (if (tg h103 a0).1 = 5 then (let h104 := wI h103 a0 4 ((rI h103 a0 4) + ((1 : Int32)))
  some h104) else none) else none) else none) else none) else none) else none
set_option maxRecDepth 100000 in
theorem e_X6_addWord_0 {l : Launch} {D : va_G} {dA : Nat → ClassId} {z : Nat} {sa : Nat → Nat} {Hz : Heap} (E : StrOK qLen qCh l D dA z sa Hz) {h0 fin : AH}  : ∀ (a0 : Nat) (x1 : Int32) (x2 : Int32) (x3 : Int32) (h : AH), p_X6_addWord a0 x1 x2 x3 h = some fin → GM l D dA z sa Hz q_X6_addWord h0 none fin 0 [(0, .ref a0), (1, .int x1), (2, .int x2), (3, .int x3)] [] h := by
  intro a0 x1 x2 x3 h hd
  exact step E (is := I_X6_addWord_0) (pc := 0) (K := k0) (FI := FI_X6_addWord) (FV := FV_X6_addWord) (FL := fL0) (rt := rtV) (ft := 0) (by exact hd) ok_X6_addWord_0 k0_ok (FI_X6_addWord_ok E) (FV_X6_addWord_ok E) (fL0_ok E) (rtV_ok rfl)
theorem c_X6_addWord {l : Launch} {D : va_G} {dA : Nat → ClassId} {z : Nat} {sa : Nat → Nat} {Hz : Heap} (E : StrOK qLen qCh l D dA z sa Hz) {a0 : Nat} {x1 : Int32} {x2 : Int32} {x3 : Int32} {h fin : AH} (hd : p_X6_addWord a0 x1 x2 x3 h = some fin) : CalOK l D dA z sa Hz q_X6_addWord [.ref a0, .int x1, .int x2, .int x3] h none fin := calOf (by decide +kernel) (Nat.le_of_ble_eq_true rfl) (e_X6_addWord_0 E a0 x1 x2 x3 h hd)
def FI_X6_addDoubt : Nat → List Value → AH → Option (Int32 × AH) := (cx 27 (fun As h => sI As fun x0 As => sI As fun x1 As => sE As (p_X1_spot x0 x1 h)) fI0)
theorem FI_X6_addDoubt_ok {l : Launch} {D : va_G} {dA : Nat → ClassId} {z : Nat} {sa : Nat → Nat} {Hz : Heap} (E : StrOK qLen qCh l D dA z sa Hz) : ∀ mi As h x h', FI_X6_addDoubt mi As h = some (x, h') → CalOK l D dA z sa Hz (MT mi) As h (some (.int x)) h' := (cxI_ok (fun As h x h2 e => by obtain ⟨_, _, rfl, e0⟩ := sI_inv e; obtain ⟨_, _, rfl, e1⟩ := sI_inv e0; obtain ⟨rfl, ez⟩ := sE_inv e1; exact c_X1_spot E ez) (fI0_ok E))
def I_X6_addDoubt_42 : List AI := [(.return_, 1, [], 0)]
theorem ok_X6_addDoubt_42 : vBL MT qLen qCh false q_X6_addDoubt.2.2.2.2.1 q_X6_addDoubt.2.2.2.2.2.1 q_X6_addDoubt.2.2.1 q_X6_addDoubt.1.cls q_X6_addDoubt.1.name q_X6_addDoubt.2.1 0 42 I_X6_addDoubt_42 = true := by decide +kernel
def p_X6_addDoubt_42 (h : AH) : Option (AH) :=
  some h
set_option maxRecDepth 100000 in
theorem e_X6_addDoubt_42 {l : Launch} {D : va_G} {dA : Nat → ClassId} {z : Nat} {sa : Nat → Nat} {Hz : Heap} (E : StrOK qLen qCh l D dA z sa Hz) {h0 fin : AH}  : ∀  (h : AH), p_X6_addDoubt_42 h = some fin → GM l D dA z sa Hz q_X6_addDoubt h0 none fin 42 [] [] h := by
  intro h hd
  exact step E (is := I_X6_addDoubt_42) (pc := 42) (K := k0) (FI := FI_X6_addDoubt) (FV := fV0) (FL := fL0) (rt := rtV) (ft := 0) (by exact hd) ok_X6_addDoubt_42 k0_ok (FI_X6_addDoubt_ok E) (fV0_ok E) (fL0_ok E) (rtV_ok rfl)
def I_X6_addDoubt_0 : List AI := [(.aload_n 0, 1, [], 0), (.getfield 54, 3, [5, 9, 0, 229], 0), (.iconst 4, 1, [], 4), (.if_icmp .ge 37, 3, [42], 0), (.aload_n 0, 1, [], 0), (.getfield 26, 3, [5, 7, 2, 227], 0), (.aload_n 0, 1, [], 0), (.getfield 54, 3, [5, 9, 0, 229], 0), (.iload_n 1, 1, [], 0), (.iload_n 2, 1, [], 0), (.invokestatic 60, 3, [1, 27, 2, 546], 0), (.iastore, 1, [], 0), (.aload_n 0, 1, [], 0), (.getfield 29, 3, [5, 8, 2, 228], 0), (.aload_n 0, 1, [], 0), (.getfield 54, 3, [5, 9, 0, 229], 0), (.iload_n 3, 1, [], 0), (.iastore, 1, [], 0), (.aload_n 0, 1, [], 0), (.dup, 1, [], 0), (.getfield 54, 3, [5, 9, 0, 229], 0), (.iconst 1, 1, [], 1), (.iadd, 1, [], 0), (.putfield 54, 3, [5, 9, 0, 229], 0)]
theorem ok_X6_addDoubt_0 : vBL MT qLen qCh false q_X6_addDoubt.2.2.2.2.1 q_X6_addDoubt.2.2.2.2.2.1 q_X6_addDoubt.2.2.1 q_X6_addDoubt.1.cls q_X6_addDoubt.1.name q_X6_addDoubt.2.1 42 0 I_X6_addDoubt_0 = true := by decide +kernel
def p_X6_addDoubt (a0 : Nat) (x1 : Int32) (x2 : Int32) (x3 : Int32) (h : AH) : Option (AH) :=
  if (tg h a0).1 = 5 then (if (rI h a0 9) < ((4 : Int32)) then (if (tg h a0).1 = 5 then (if (tg h a0).1 = 5 then ((p_X1_spot x1 x2 h).bind fun q101 =>
  if inB q101.2 (rR h a0 7) 100 (rI h a0 9) then (let h102 := wI q101.2 (rR h a0 7) (rI h a0 9).toNatClampNeg q101.1
  if (tg h102 a0).1 = 5 then (if (tg h102 a0).1 = 5 then (if inB h102 (rR h102 a0 8) 100 (rI h102 a0 9) then (let h103 := wI h102 (rR h102 a0 8) (rI h102 a0 9).toNatClampNeg x3
  if (tg h103 a0).1 = 5 then (if (tg h103 a0).1 = 5 then (let h104 := wI h103 a0 9 ((rI h103 a0 9) + ((1 : Int32)))
  p_X6_addDoubt_42 h104) else none) else none) else none) else none) else none) else none) else none) else none)
  else
  p_X6_addDoubt_42 h) else none
set_option maxRecDepth 100000 in
theorem e_X6_addDoubt_0 {l : Launch} {D : va_G} {dA : Nat → ClassId} {z : Nat} {sa : Nat → Nat} {Hz : Heap} (E : StrOK qLen qCh l D dA z sa Hz) {h0 fin : AH}  : ∀ (a0 : Nat) (x1 : Int32) (x2 : Int32) (x3 : Int32) (h : AH), p_X6_addDoubt a0 x1 x2 x3 h = some fin → GM l D dA z sa Hz q_X6_addDoubt h0 none fin 0 [(0, .ref a0), (1, .int x1), (2, .int x2), (3, .int x3)] [] h := by
  intro a0 x1 x2 x3 h hd
  exact step E (is := I_X6_addDoubt_0) (pc := 0) (K := (kx 42 (fun la st h => sE st (p_X6_addDoubt_42 h)) k0)) (FI := FI_X6_addDoubt) (FV := fV0) (FL := fL0) (rt := rtV) (ft := 42) (by exact hd) ok_X6_addDoubt_0 (kx_ok (fun la st h e => by obtain ⟨rfl, ez⟩ := sE_inv e; exact gm_fewer (e_X6_addDoubt_42 E   h ez) mem_nil) k0_ok) (FI_X6_addDoubt_ok E) (fV0_ok E) (fL0_ok E) (rtV_ok rfl)
theorem c_X6_addDoubt {l : Launch} {D : va_G} {dA : Nat → ClassId} {z : Nat} {sa : Nat → Nat} {Hz : Heap} (E : StrOK qLen qCh l D dA z sa Hz) {a0 : Nat} {x1 : Int32} {x2 : Int32} {x3 : Int32} {h fin : AH} (hd : p_X6_addDoubt a0 x1 x2 x3 h = some fin) : CalOK l D dA z sa Hz q_X6_addDoubt [.ref a0, .int x1, .int x2, .int x3] h none fin := calOf (by decide +kernel) (Nat.le_of_ble_eq_true rfl) (e_X6_addDoubt_0 E a0 x1 x2 x3 h hd)
def FI_X5_readsWord : Nat → List Value → AH → Option (Int32 × AH) := (cx 18 (fun As h => sR As fun a0 As => sI As fun x1 As => sI As fun x2 As => sE As (p_X5_isWhole a0 x1 x2 h)) (cx 28 (fun As h => sR As fun a0 As => sI As fun x1 As => sI As fun x2 As => sE As (p_X6_toldWord a0 x1 x2 h)) (cx 29 (fun As h => sR As fun a0 As => sI As fun x1 As => sI As fun x2 As => sE As (p_X6_doubted a0 x1 x2 h)) (cx 17 (fun As h => sR As fun a0 As => sI As fun x1 As => sE As (p_X5_fails a0 x1 h)) fI0))))
theorem FI_X5_readsWord_ok {l : Launch} {D : va_G} {dA : Nat → ClassId} {z : Nat} {sa : Nat → Nat} {Hz : Heap} (E : StrOK qLen qCh l D dA z sa Hz) : ∀ mi As h x h', FI_X5_readsWord mi As h = some (x, h') → CalOK l D dA z sa Hz (MT mi) As h (some (.int x)) h' := (cxI_ok (fun As h x h2 e => by obtain ⟨_, _, rfl, e0⟩ := sR_inv e; obtain ⟨_, _, rfl, e1⟩ := sI_inv e0; obtain ⟨_, _, rfl, e2⟩ := sI_inv e1; obtain ⟨rfl, ez⟩ := sE_inv e2; exact c_X5_isWhole E ez) ((cxI_ok (fun As h x h2 e => by obtain ⟨_, _, rfl, e0⟩ := sR_inv e; obtain ⟨_, _, rfl, e1⟩ := sI_inv e0; obtain ⟨_, _, rfl, e2⟩ := sI_inv e1; obtain ⟨rfl, ez⟩ := sE_inv e2; exact c_X6_toldWord E ez) ((cxI_ok (fun As h x h2 e => by obtain ⟨_, _, rfl, e0⟩ := sR_inv e; obtain ⟨_, _, rfl, e1⟩ := sI_inv e0; obtain ⟨_, _, rfl, e2⟩ := sI_inv e1; obtain ⟨rfl, ez⟩ := sE_inv e2; exact c_X6_doubted E ez) ((cxI_ok (fun As h x h2 e => by obtain ⟨_, _, rfl, e0⟩ := sR_inv e; obtain ⟨_, _, rfl, e1⟩ := sI_inv e0; obtain ⟨rfl, ez⟩ := sE_inv e1; exact c_X5_fails E ez) (fI0_ok E))))))))
def FV_X5_readsWord : Nat → List Value → AH → Option (AH) := (cx 15 (fun As h => sR As fun a0 As => sE As (p_X5_advance a0 h)) (cx 31 (fun As h => sR As fun a0 As => sI As fun x1 As => sI As fun x2 As => sI As fun x3 As => sE As (p_X6_addWord a0 x1 x2 x3 h)) (cx 32 (fun As h => sR As fun a0 As => sI As fun x1 As => sI As fun x2 As => sI As fun x3 As => sE As (p_X6_addDoubt a0 x1 x2 x3 h)) fV0)))
theorem FV_X5_readsWord_ok {l : Launch} {D : va_G} {dA : Nat → ClassId} {z : Nat} {sa : Nat → Nat} {Hz : Heap} (E : StrOK qLen qCh l D dA z sa Hz) : ∀ mi As h h', FV_X5_readsWord mi As h = some h' → CalOK l D dA z sa Hz (MT mi) As h none h' := (cxV_ok (fun As h h2 e => by obtain ⟨_, _, rfl, e0⟩ := sR_inv e; obtain ⟨rfl, ez⟩ := sE_inv e0; exact c_X5_advance E ez) ((cxV_ok (fun As h h2 e => by obtain ⟨_, _, rfl, e0⟩ := sR_inv e; obtain ⟨_, _, rfl, e1⟩ := sI_inv e0; obtain ⟨_, _, rfl, e2⟩ := sI_inv e1; obtain ⟨_, _, rfl, e3⟩ := sI_inv e2; obtain ⟨rfl, ez⟩ := sE_inv e3; exact c_X6_addWord E ez) ((cxV_ok (fun As h h2 e => by obtain ⟨_, _, rfl, e0⟩ := sR_inv e; obtain ⟨_, _, rfl, e1⟩ := sI_inv e0; obtain ⟨_, _, rfl, e2⟩ := sI_inv e1; obtain ⟨_, _, rfl, e3⟩ := sI_inv e2; obtain ⟨rfl, ez⟩ := sE_inv e3; exact c_X6_addDoubt E ez) (fV0_ok E))))))
def I_X5_readsWord_118 : List AI := [(.aload_n 0, 1, [], 0), (.invokevirtual 36, 3, [2, 15, 1, 4, 419], 0), (.iconst 1, 1, [], 1), (.ireturn, 1, [], 0)]
theorem ok_X5_readsWord_118 : vBL MT qLen qCh false q_X5_readsWord.2.2.2.2.1 q_X5_readsWord.2.2.2.2.2.1 q_X5_readsWord.2.2.1 q_X5_readsWord.1.cls q_X5_readsWord.1.name q_X5_readsWord.2.1 0 118 I_X5_readsWord_118 = true := by decide +kernel
def p_X5_readsWord_118 (a0 : Nat) (h : AH) : Option (Int32 × AH) :=
  if (tg h a0).1 = 4 then ((p_X5_advance a0 h).bind fun h101 =>
  if ((1 : Int32)) &&& 1 = ((1 : Int32)) then some (((1 : Int32)), h101) else none) else none
set_option maxRecDepth 100000 in
theorem e_X5_readsWord_118 {l : Launch} {D : va_G} {dA : Nat → ClassId} {z : Nat} {sa : Nat → Nat} {Hz : Heap} (E : StrOK qLen qCh l D dA z sa Hz) {h0 fin : AH} {x : Int32}  : ∀ (a0 : Nat) (h : AH), p_X5_readsWord_118 a0 h = some (x, fin) → GM l D dA z sa Hz q_X5_readsWord h0 (some (.int x)) fin 118 [(0, .ref a0)] [] h := by
  intro a0 h hd
  exact step E (is := I_X5_readsWord_118) (pc := 118) (K := k0) (FI := FI_X5_readsWord) (FV := FV_X5_readsWord) (FL := fL0) (rt := rtZ) (ft := 0) (by exact hd) ok_X5_readsWord_118 k0_ok (FI_X5_readsWord_ok E) (FV_X5_readsWord_ok E) (fL0_ok E) (rtZ_ok rfl)
def I_X5_readsWord_107 : List AI := [(.aload_n 1, 1, [], 0), (.iload_n 3, 1, [], 0), (.iload 4, 2, [], 0), (.aload_n 0, 1, [], 0), (.getfield 63, 3, [4, 6, 0, 152], 0), (.invokevirtual 172, 3, [2, 32, 4, 5, 562], 0)]
theorem ok_X5_readsWord_107 : vBL MT qLen qCh false q_X5_readsWord.2.2.2.2.1 q_X5_readsWord.2.2.2.2.2.1 q_X5_readsWord.2.2.1 q_X5_readsWord.1.cls q_X5_readsWord.1.name q_X5_readsWord.2.1 118 107 I_X5_readsWord_107 = true := by decide +kernel
def p_X5_readsWord_107 (a0 : Nat) (a1 : Nat) (x3 : Int32) (x4 : Int32) (h : AH) : Option (Int32 × AH) :=
  if (tg h a0).1 = 4 then (if (tg h a1).1 = 5 then ((p_X6_addDoubt a1 x3 x4 (rI h a0 6) h).bind fun h102 =>
  p_X5_readsWord_118 a0 h102) else none) else none
set_option maxRecDepth 100000 in
theorem e_X5_readsWord_107 {l : Launch} {D : va_G} {dA : Nat → ClassId} {z : Nat} {sa : Nat → Nat} {Hz : Heap} (E : StrOK qLen qCh l D dA z sa Hz) {h0 fin : AH} {x : Int32}  : ∀ (a0 : Nat) (a1 : Nat) (x3 : Int32) (x4 : Int32) (h : AH), p_X5_readsWord_107 a0 a1 x3 x4 h = some (x, fin) → GM l D dA z sa Hz q_X5_readsWord h0 (some (.int x)) fin 107 [(0, .ref a0), (1, .ref a1), (3, .int x3), (4, .int x4)] [] h := by
  intro a0 a1 x3 x4 h hd
  exact step E (is := I_X5_readsWord_107) (pc := 107) (K := (kx 118 (fun la st h => gR la 0 fun a0 => sE st (p_X5_readsWord_118 a0 h)) k0)) (FI := FI_X5_readsWord) (FV := FV_X5_readsWord) (FL := fL0) (rt := rtZ) (ft := 118) (by exact hd) ok_X5_readsWord_107 (kx_ok (fun la st h e => by obtain ⟨a0, m_a0, e1⟩ := gR_inv e; obtain ⟨rfl, ez⟩ := sE_inv e1; exact gm_fewer (e_X5_readsWord_118 E  a0 h ez) (mem_cons m_a0 mem_nil)) k0_ok) (FI_X5_readsWord_ok E) (FV_X5_readsWord_ok E) (fL0_ok E) (rtZ_ok rfl)
def I_X5_readsWord_89 : List AI := [(.iload_n 2, 1, [], 0), (.ifCond .eq 17, 3, [107], 0), (.aload_n 1, 1, [], 0), (.iload_n 3, 1, [], 0), (.iload 4, 2, [], 0), (.aload_n 0, 1, [], 0), (.getfield 63, 3, [4, 6, 0, 152], 0), (.invokevirtual 168, 3, [2, 31, 4, 5, 553], 0), (.goto 14, 3, [118], 0)]
theorem ok_X5_readsWord_89 : vBL MT qLen qCh false q_X5_readsWord.2.2.2.2.1 q_X5_readsWord.2.2.2.2.2.1 q_X5_readsWord.2.2.1 q_X5_readsWord.1.cls q_X5_readsWord.1.name q_X5_readsWord.2.1 0 89 I_X5_readsWord_89 = true := by decide +kernel
def p_X5_readsWord_89 (a0 : Nat) (a1 : Nat) (x2 : Int32) (x3 : Int32) (x4 : Int32) (h : AH) : Option (Int32 × AH) :=
  if x2 = 0 then (if (tg h a0).1 = 4 then (if (tg h a1).1 = 5 then ((p_X6_addDoubt a1 x3 x4 (rI h a0 6) h).bind fun h103 =>
  p_X5_readsWord_118 a0 h103) else none) else none)
  else
  if (tg h a0).1 = 4 then (if (tg h a1).1 = 5 then ((p_X6_addWord a1 x3 x4 (rI h a0 6) h).bind fun h104 =>
  p_X5_readsWord_118 a0 h104) else none) else none
set_option maxRecDepth 100000 in
theorem e_X5_readsWord_89 {l : Launch} {D : va_G} {dA : Nat → ClassId} {z : Nat} {sa : Nat → Nat} {Hz : Heap} (E : StrOK qLen qCh l D dA z sa Hz) {h0 fin : AH} {x : Int32}  : ∀ (a0 : Nat) (a1 : Nat) (x2 : Int32) (x3 : Int32) (x4 : Int32) (h : AH), p_X5_readsWord_89 a0 a1 x2 x3 x4 h = some (x, fin) → GM l D dA z sa Hz q_X5_readsWord h0 (some (.int x)) fin 89 [(0, .ref a0), (1, .ref a1), (2, .int x2), (3, .int x3), (4, .int x4)] [] h := by
  intro a0 a1 x2 x3 x4 h hd
  exact step E (is := I_X5_readsWord_89) (pc := 89) (K := (kx 107 (fun la st h => gR la 0 fun a0 => gR la 1 fun a1 => gI la 3 fun x3 => gI la 4 fun x4 => sE st (p_X5_readsWord_107 a0 a1 x3 x4 h)) (kx 118 (fun la st h => gR la 0 fun a0 => sE st (p_X5_readsWord_118 a0 h)) k0))) (FI := FI_X5_readsWord) (FV := FV_X5_readsWord) (FL := fL0) (rt := rtZ) (ft := 0) (by exact hd) ok_X5_readsWord_89 (kx_ok (fun la st h e => by obtain ⟨a0, m_a0, e1⟩ := gR_inv e; obtain ⟨a1, m_a1, e2⟩ := gR_inv e1; obtain ⟨x3, m_x3, e3⟩ := gI_inv e2; obtain ⟨x4, m_x4, e4⟩ := gI_inv e3; obtain ⟨rfl, ez⟩ := sE_inv e4; exact gm_fewer (e_X5_readsWord_107 E  a0 a1 x3 x4 h ez) (mem_cons m_a0 (mem_cons m_a1 (mem_cons m_x3 (mem_cons m_x4 mem_nil))))) (kx_ok (fun la st h e => by obtain ⟨a0, m_a0, e1⟩ := gR_inv e; obtain ⟨rfl, ez⟩ := sE_inv e1; exact gm_fewer (e_X5_readsWord_118 E  a0 h ez) (mem_cons m_a0 mem_nil)) k0_ok)) (FI_X5_readsWord_ok E) (FV_X5_readsWord_ok E) (fL0_ok E) (rtZ_ok rfl)
def I_X5_readsWord_72 : List AI := [(.aload_n 0, 1, [], 0), (.invokevirtual 36, 3, [2, 15, 1, 4, 419], 0), (.aload_n 0, 1, [], 0), (.iconst 0, 1, [], 0), (.sipush 4095, 3, [], 4095), (.invokevirtual 133, 3, [1, 18, 3, 4, 499], 0), (.ifCond .ne 5, 3, [89], 0), (.iconst 0, 1, [], 0), (.ireturn, 1, [], 0)]
theorem ok_X5_readsWord_72 : vBL MT qLen qCh false q_X5_readsWord.2.2.2.2.1 q_X5_readsWord.2.2.2.2.2.1 q_X5_readsWord.2.2.1 q_X5_readsWord.1.cls q_X5_readsWord.1.name q_X5_readsWord.2.1 0 72 I_X5_readsWord_72 = true := by decide +kernel
def p_X5_readsWord_72 (a0 : Nat) (a1 : Nat) (x2 : Int32) (x3 : Int32) (x4 : Int32) (h : AH) : Option (Int32 × AH) :=
  if (tg h a0).1 = 4 then ((p_X5_advance a0 h).bind fun h105 =>
  if (tg h105 a0).1 = 4 then ((p_X5_isWhole a0 ((0 : Int32)) ((4095 : Int32)) h105).bind fun q106 =>
  if q106.1 = 0 then (if ((0 : Int32)) &&& 1 = ((0 : Int32)) then some (((0 : Int32)), q106.2) else none)
  else
  if x2 = 0 then (if (tg q106.2 a0).1 = 4 then (if (tg q106.2 a1).1 = 5 then ((p_X6_addDoubt a1 x3 x4 (rI q106.2 a0 6) q106.2).bind fun h107 =>
  p_X5_readsWord_118 a0 h107) else none) else none)
  else
  if (tg q106.2 a0).1 = 4 then (if (tg q106.2 a1).1 = 5 then ((p_X6_addWord a1 x3 x4 (rI q106.2 a0 6) q106.2).bind fun h108 =>
  p_X5_readsWord_118 a0 h108) else none) else none) else none) else none
set_option maxRecDepth 100000 in
theorem e_X5_readsWord_72 {l : Launch} {D : va_G} {dA : Nat → ClassId} {z : Nat} {sa : Nat → Nat} {Hz : Heap} (E : StrOK qLen qCh l D dA z sa Hz) {h0 fin : AH} {x : Int32}  : ∀ (a0 : Nat) (a1 : Nat) (x2 : Int32) (x3 : Int32) (x4 : Int32) (h : AH), p_X5_readsWord_72 a0 a1 x2 x3 x4 h = some (x, fin) → GM l D dA z sa Hz q_X5_readsWord h0 (some (.int x)) fin 72 [(0, .ref a0), (1, .ref a1), (2, .int x2), (3, .int x3), (4, .int x4)] [] h := by
  intro a0 a1 x2 x3 x4 h hd
  exact step E (is := I_X5_readsWord_72) (pc := 72) (K := (kx 89 (fun la st h => gR la 0 fun a0 => gR la 1 fun a1 => gI la 2 fun x2 => gI la 3 fun x3 => gI la 4 fun x4 => sE st (p_X5_readsWord_89 a0 a1 x2 x3 x4 h)) k0)) (FI := FI_X5_readsWord) (FV := FV_X5_readsWord) (FL := fL0) (rt := rtZ) (ft := 0) (by exact hd) ok_X5_readsWord_72 (kx_ok (fun la st h e => by obtain ⟨a0, m_a0, e1⟩ := gR_inv e; obtain ⟨a1, m_a1, e2⟩ := gR_inv e1; obtain ⟨x2, m_x2, e3⟩ := gI_inv e2; obtain ⟨x3, m_x3, e4⟩ := gI_inv e3; obtain ⟨x4, m_x4, e5⟩ := gI_inv e4; obtain ⟨rfl, ez⟩ := sE_inv e5; exact gm_fewer (e_X5_readsWord_89 E  a0 a1 x2 x3 x4 h ez) (mem_cons m_a0 (mem_cons m_a1 (mem_cons m_x2 (mem_cons m_x3 (mem_cons m_x4 mem_nil)))))) k0_ok) (FI_X5_readsWord_ok E) (FV_X5_readsWord_ok E) (fL0_ok E) (rtZ_ok rfl)
def I_X5_readsWord_66 : List AI := [(.aload_n 0, 1, [], 0), (.iconst 3, 1, [], 3), (.invokevirtual 46, 3, [1, 17, 2, 4, 494], 0), (.ireturn, 1, [], 0)]
theorem ok_X5_readsWord_66 : vBL MT qLen qCh false q_X5_readsWord.2.2.2.2.1 q_X5_readsWord.2.2.2.2.2.1 q_X5_readsWord.2.2.1 q_X5_readsWord.1.cls q_X5_readsWord.1.name q_X5_readsWord.2.1 0 66 I_X5_readsWord_66 = true := by decide +kernel
def p_X5_readsWord_66 (a0 : Nat) (h : AH) : Option (Int32 × AH) :=
  if (tg h a0).1 = 4 then ((p_X5_fails a0 ((3 : Int32)) h).bind fun q109 =>
  if q109.1 &&& 1 = q109.1 then some (q109.1, q109.2) else none) else none
set_option maxRecDepth 100000 in
theorem e_X5_readsWord_66 {l : Launch} {D : va_G} {dA : Nat → ClassId} {z : Nat} {sa : Nat → Nat} {Hz : Heap} (E : StrOK qLen qCh l D dA z sa Hz) {h0 fin : AH} {x : Int32}  : ∀ (a0 : Nat) (h : AH), p_X5_readsWord_66 a0 h = some (x, fin) → GM l D dA z sa Hz q_X5_readsWord h0 (some (.int x)) fin 66 [(0, .ref a0)] [] h := by
  intro a0 h hd
  exact step E (is := I_X5_readsWord_66) (pc := 66) (K := k0) (FI := FI_X5_readsWord) (FV := FV_X5_readsWord) (FL := fL0) (rt := rtZ) (ft := 0) (by exact hd) ok_X5_readsWord_66 k0_ok (FI_X5_readsWord_ok E) (FV_X5_readsWord_ok E) (fL0_ok E) (rtZ_ok rfl)
def I_X5_readsWord_56 : List AI := [(.aload_n 1, 1, [], 0), (.iload_n 3, 1, [], 0), (.iload 4, 2, [], 0), (.invokevirtual 165, 3, [1, 29, 3, 5, 549], 0), (.ifCond .eq 9, 3, [72], 0)]
theorem ok_X5_readsWord_56 : vBL MT qLen qCh false q_X5_readsWord.2.2.2.2.1 q_X5_readsWord.2.2.2.2.2.1 q_X5_readsWord.2.2.1 q_X5_readsWord.1.cls q_X5_readsWord.1.name q_X5_readsWord.2.1 66 56 I_X5_readsWord_56 = true := by decide +kernel
def p_X5_readsWord_56 (a0 : Nat) (a1 : Nat) (x2 : Int32) (x3 : Int32) (x4 : Int32) (h : AH) : Option (Int32 × AH) :=
  if (tg h a1).1 = 5 then ((p_X6_doubted a1 x3 x4 h).bind fun q110 =>
  if q110.1 = 0 then (p_X5_readsWord_72 a0 a1 x2 x3 x4 q110.2)
  else
  p_X5_readsWord_66 a0 q110.2) else none
set_option maxRecDepth 100000 in
theorem e_X5_readsWord_56 {l : Launch} {D : va_G} {dA : Nat → ClassId} {z : Nat} {sa : Nat → Nat} {Hz : Heap} (E : StrOK qLen qCh l D dA z sa Hz) {h0 fin : AH} {x : Int32}  : ∀ (a0 : Nat) (a1 : Nat) (x2 : Int32) (x3 : Int32) (x4 : Int32) (h : AH), p_X5_readsWord_56 a0 a1 x2 x3 x4 h = some (x, fin) → GM l D dA z sa Hz q_X5_readsWord h0 (some (.int x)) fin 56 [(0, .ref a0), (1, .ref a1), (2, .int x2), (3, .int x3), (4, .int x4)] [] h := by
  intro a0 a1 x2 x3 x4 h hd
  exact step E (is := I_X5_readsWord_56) (pc := 56) (K := (kx 72 (fun la st h => gR la 0 fun a0 => gR la 1 fun a1 => gI la 2 fun x2 => gI la 3 fun x3 => gI la 4 fun x4 => sE st (p_X5_readsWord_72 a0 a1 x2 x3 x4 h)) (kx 66 (fun la st h => gR la 0 fun a0 => sE st (p_X5_readsWord_66 a0 h)) k0))) (FI := FI_X5_readsWord) (FV := FV_X5_readsWord) (FL := fL0) (rt := rtZ) (ft := 66) (by exact hd) ok_X5_readsWord_56 (kx_ok (fun la st h e => by obtain ⟨a0, m_a0, e1⟩ := gR_inv e; obtain ⟨a1, m_a1, e2⟩ := gR_inv e1; obtain ⟨x2, m_x2, e3⟩ := gI_inv e2; obtain ⟨x3, m_x3, e4⟩ := gI_inv e3; obtain ⟨x4, m_x4, e5⟩ := gI_inv e4; obtain ⟨rfl, ez⟩ := sE_inv e5; exact gm_fewer (e_X5_readsWord_72 E  a0 a1 x2 x3 x4 h ez) (mem_cons m_a0 (mem_cons m_a1 (mem_cons m_x2 (mem_cons m_x3 (mem_cons m_x4 mem_nil)))))) (kx_ok (fun la st h e => by obtain ⟨a0, m_a0, e1⟩ := gR_inv e; obtain ⟨rfl, ez⟩ := sE_inv e1; exact gm_fewer (e_X5_readsWord_66 E  a0 h ez) (mem_cons m_a0 mem_nil)) k0_ok)) (FI_X5_readsWord_ok E) (FV_X5_readsWord_ok E) (fL0_ok E) (rtZ_ok rfl)
def I_X5_readsWord_33 : List AI := [(.aload_n 0, 1, [], 0), (.getfield 63, 3, [4, 6, 0, 152], 0), (.istore 4, 2, [], 0), (.iload_n 2, 1, [], 0), (.ifCond .eq 16, 3, [56], 0), (.aload_n 1, 1, [], 0), (.iload_n 3, 1, [], 0), (.iload 4, 2, [], 0), (.invokevirtual 162, 3, [1, 28, 3, 5, 542], 0), (.ifCond .eq 22, 3, [72], 0), (.goto 13, 3, [66], 0)]
theorem ok_X5_readsWord_33 : vBL MT qLen qCh false q_X5_readsWord.2.2.2.2.1 q_X5_readsWord.2.2.2.2.2.1 q_X5_readsWord.2.2.1 q_X5_readsWord.1.cls q_X5_readsWord.1.name q_X5_readsWord.2.1 0 33 I_X5_readsWord_33 = true := by decide +kernel
def p_X5_readsWord_33 (a0 : Nat) (a1 : Nat) (x2 : Int32) (x3 : Int32) (h : AH) : Option (Int32 × AH) :=
  if (tg h a0).1 = 4 then (let x111 := rI h a0 6
  if x2 = 0 then (if (tg h a1).1 = 5 then ((p_X6_doubted a1 x3 x111 h).bind fun q112 =>
  if q112.1 = 0 then (p_X5_readsWord_72 a0 a1 x2 x3 x111 q112.2)
  else
  p_X5_readsWord_66 a0 q112.2) else none)
  else
  if (tg h a1).1 = 5 then ((p_X6_toldWord a1 x3 x111 h).bind fun q113 =>
  if q113.1 = 0 then (p_X5_readsWord_72 a0 a1 x2 x3 x111 q113.2)
  else
  p_X5_readsWord_66 a0 q113.2) else none) else none
set_option maxRecDepth 100000 in
theorem e_X5_readsWord_33 {l : Launch} {D : va_G} {dA : Nat → ClassId} {z : Nat} {sa : Nat → Nat} {Hz : Heap} (E : StrOK qLen qCh l D dA z sa Hz) {h0 fin : AH} {x : Int32}  : ∀ (a0 : Nat) (a1 : Nat) (x2 : Int32) (x3 : Int32) (h : AH), p_X5_readsWord_33 a0 a1 x2 x3 h = some (x, fin) → GM l D dA z sa Hz q_X5_readsWord h0 (some (.int x)) fin 33 [(0, .ref a0), (1, .ref a1), (2, .int x2), (3, .int x3)] [] h := by
  intro a0 a1 x2 x3 h hd
  exact step E (is := I_X5_readsWord_33) (pc := 33) (K := (kx 56 (fun la st h => gR la 0 fun a0 => gR la 1 fun a1 => gI la 2 fun x2 => gI la 3 fun x3 => gI la 4 fun x4 => sE st (p_X5_readsWord_56 a0 a1 x2 x3 x4 h)) (kx 72 (fun la st h => gR la 0 fun a0 => gR la 1 fun a1 => gI la 2 fun x2 => gI la 3 fun x3 => gI la 4 fun x4 => sE st (p_X5_readsWord_72 a0 a1 x2 x3 x4 h)) (kx 66 (fun la st h => gR la 0 fun a0 => sE st (p_X5_readsWord_66 a0 h)) k0)))) (FI := FI_X5_readsWord) (FV := FV_X5_readsWord) (FL := fL0) (rt := rtZ) (ft := 0) (by exact hd) ok_X5_readsWord_33 (kx_ok (fun la st h e => by obtain ⟨a0, m_a0, e1⟩ := gR_inv e; obtain ⟨a1, m_a1, e2⟩ := gR_inv e1; obtain ⟨x2, m_x2, e3⟩ := gI_inv e2; obtain ⟨x3, m_x3, e4⟩ := gI_inv e3; obtain ⟨x4, m_x4, e5⟩ := gI_inv e4; obtain ⟨rfl, ez⟩ := sE_inv e5; exact gm_fewer (e_X5_readsWord_56 E  a0 a1 x2 x3 x4 h ez) (mem_cons m_a0 (mem_cons m_a1 (mem_cons m_x2 (mem_cons m_x3 (mem_cons m_x4 mem_nil)))))) (kx_ok (fun la st h e => by obtain ⟨a0, m_a0, e1⟩ := gR_inv e; obtain ⟨a1, m_a1, e2⟩ := gR_inv e1; obtain ⟨x2, m_x2, e3⟩ := gI_inv e2; obtain ⟨x3, m_x3, e4⟩ := gI_inv e3; obtain ⟨x4, m_x4, e5⟩ := gI_inv e4; obtain ⟨rfl, ez⟩ := sE_inv e5; exact gm_fewer (e_X5_readsWord_72 E  a0 a1 x2 x3 x4 h ez) (mem_cons m_a0 (mem_cons m_a1 (mem_cons m_x2 (mem_cons m_x3 (mem_cons m_x4 mem_nil)))))) (kx_ok (fun la st h e => by obtain ⟨a0, m_a0, e1⟩ := gR_inv e; obtain ⟨rfl, ez⟩ := sE_inv e1; exact gm_fewer (e_X5_readsWord_66 E  a0 h ez) (mem_cons m_a0 mem_nil)) k0_ok))) (FI_X5_readsWord_ok E) (FV_X5_readsWord_ok E) (fL0_ok E) (rtZ_ok rfl)
def I_X5_readsWord_12 : List AI := [(.aload_n 0, 1, [], 0), (.getfield 63, 3, [4, 6, 0, 152], 0), (.istore_n 3, 1, [], 0), (.aload_n 0, 1, [], 0), (.invokevirtual 36, 3, [2, 15, 1, 4, 419], 0), (.aload_n 0, 1, [], 0), (.iconst 0, 1, [], 0), (.bipush 7, 2, [], 7), (.invokevirtual 133, 3, [1, 18, 3, 4, 499], 0), (.ifCond .ne 5, 3, [33], 0), (.iconst 0, 1, [], 0), (.ireturn, 1, [], 0)]
theorem ok_X5_readsWord_12 : vBL MT qLen qCh false q_X5_readsWord.2.2.2.2.1 q_X5_readsWord.2.2.2.2.2.1 q_X5_readsWord.2.2.1 q_X5_readsWord.1.cls q_X5_readsWord.1.name q_X5_readsWord.2.1 0 12 I_X5_readsWord_12 = true := by decide +kernel
def p_X5_readsWord_12 (a0 : Nat) (a1 : Nat) (x2 : Int32) (h : AH) : Option (Int32 × AH) :=
  if (tg h a0).1 = 4 then (let x114 := rI h a0 6
  if (tg h a0).1 = 4 then ((p_X5_advance a0 h).bind fun h115 =>
  if (tg h115 a0).1 = 4 then ((p_X5_isWhole a0 ((0 : Int32)) ((7 : Int32)) h115).bind fun q116 =>
  if q116.1 = 0 then (if ((0 : Int32)) &&& 1 = ((0 : Int32)) then some (((0 : Int32)), q116.2) else none)
  else
  if (tg q116.2 a0).1 = 4 then (let x117 := rI q116.2 a0 6
  if x2 = 0 then (if (tg q116.2 a1).1 = 5 then ((p_X6_doubted a1 x114 x117 q116.2).bind fun q118 =>
  if q118.1 = 0 then (p_X5_readsWord_72 a0 a1 x2 x114 x117 q118.2)
  else
  p_X5_readsWord_66 a0 q118.2) else none)
  else
  if (tg q116.2 a1).1 = 5 then ((p_X6_toldWord a1 x114 x117 q116.2).bind fun q119 =>
  if q119.1 = 0 then (p_X5_readsWord_72 a0 a1 x2 x114 x117 q119.2)
  else
  p_X5_readsWord_66 a0 q119.2) else none) else none) else none) else none) else none
set_option maxRecDepth 100000 in
theorem e_X5_readsWord_12 {l : Launch} {D : va_G} {dA : Nat → ClassId} {z : Nat} {sa : Nat → Nat} {Hz : Heap} (E : StrOK qLen qCh l D dA z sa Hz) {h0 fin : AH} {x : Int32}  : ∀ (a0 : Nat) (a1 : Nat) (x2 : Int32) (h : AH), p_X5_readsWord_12 a0 a1 x2 h = some (x, fin) → GM l D dA z sa Hz q_X5_readsWord h0 (some (.int x)) fin 12 [(0, .ref a0), (1, .ref a1), (2, .int x2)] [] h := by
  intro a0 a1 x2 h hd
  exact step E (is := I_X5_readsWord_12) (pc := 12) (K := (kx 33 (fun la st h => gR la 0 fun a0 => gR la 1 fun a1 => gI la 2 fun x2 => gI la 3 fun x3 => sE st (p_X5_readsWord_33 a0 a1 x2 x3 h)) k0)) (FI := FI_X5_readsWord) (FV := FV_X5_readsWord) (FL := fL0) (rt := rtZ) (ft := 0) (by exact hd) ok_X5_readsWord_12 (kx_ok (fun la st h e => by obtain ⟨a0, m_a0, e1⟩ := gR_inv e; obtain ⟨a1, m_a1, e2⟩ := gR_inv e1; obtain ⟨x2, m_x2, e3⟩ := gI_inv e2; obtain ⟨x3, m_x3, e4⟩ := gI_inv e3; obtain ⟨rfl, ez⟩ := sE_inv e4; exact gm_fewer (e_X5_readsWord_33 E  a0 a1 x2 x3 h ez) (mem_cons m_a0 (mem_cons m_a1 (mem_cons m_x2 (mem_cons m_x3 mem_nil))))) k0_ok) (FI_X5_readsWord_ok E) (FV_X5_readsWord_ok E) (fL0_ok E) (rtZ_ok rfl)
def I_X5_readsWord_0 : List AI := [(.aload_n 0, 1, [], 0), (.iconst 0, 1, [], 0), (.bipush 15, 2, [], 15), (.invokevirtual 133, 3, [1, 18, 3, 4, 499], 0), (.ifCond .ne 5, 3, [12], 0), (.iconst 0, 1, [], 0), (.ireturn, 1, [], 0)]
theorem ok_X5_readsWord_0 : vBL MT qLen qCh false q_X5_readsWord.2.2.2.2.1 q_X5_readsWord.2.2.2.2.2.1 q_X5_readsWord.2.2.1 q_X5_readsWord.1.cls q_X5_readsWord.1.name q_X5_readsWord.2.1 0 0 I_X5_readsWord_0 = true := by decide +kernel
def p_X5_readsWord (a0 : Nat) (a1 : Nat) (x2 : Int32) (h : AH) : Option (Int32 × AH) :=
  if (tg h a0).1 = 4 then ((p_X5_isWhole a0 ((0 : Int32)) ((15 : Int32)) h).bind fun q120 =>
  if q120.1 = 0 then (if ((0 : Int32)) &&& 1 = ((0 : Int32)) then some (((0 : Int32)), q120.2) else none)
  else
  if (tg q120.2 a0).1 = 4 then (let x121 := rI q120.2 a0 6
  if (tg q120.2 a0).1 = 4 then ((p_X5_advance a0 q120.2).bind fun h122 =>
  if (tg h122 a0).1 = 4 then ((p_X5_isWhole a0 ((0 : Int32)) ((7 : Int32)) h122).bind fun q123 =>
  if q123.1 = 0 then (if ((0 : Int32)) &&& 1 = ((0 : Int32)) then some (((0 : Int32)), q123.2) else none)
  else
  if (tg q123.2 a0).1 = 4 then (let x124 := rI q123.2 a0 6
  if x2 = 0 then (if (tg q123.2 a1).1 = 5 then ((p_X6_doubted a1 x121 x124 q123.2).bind fun q125 =>
  if q125.1 = 0 then (p_X5_readsWord_72 a0 a1 x2 x121 x124 q125.2)
  else
  p_X5_readsWord_66 a0 q125.2) else none)
  else
  if (tg q123.2 a1).1 = 5 then ((p_X6_toldWord a1 x121 x124 q123.2).bind fun q126 =>
  if q126.1 = 0 then (p_X5_readsWord_72 a0 a1 x2 x121 x124 q126.2)
  else
  p_X5_readsWord_66 a0 q126.2) else none) else none) else none) else none) else none) else none
set_option maxRecDepth 100000 in
theorem e_X5_readsWord_0 {l : Launch} {D : va_G} {dA : Nat → ClassId} {z : Nat} {sa : Nat → Nat} {Hz : Heap} (E : StrOK qLen qCh l D dA z sa Hz) {h0 fin : AH} {x : Int32}  : ∀ (a0 : Nat) (a1 : Nat) (x2 : Int32) (h : AH), p_X5_readsWord a0 a1 x2 h = some (x, fin) → GM l D dA z sa Hz q_X5_readsWord h0 (some (.int x)) fin 0 [(0, .ref a0), (1, .ref a1), (2, .int x2)] [] h := by
  intro a0 a1 x2 h hd
  exact step E (is := I_X5_readsWord_0) (pc := 0) (K := (kx 12 (fun la st h => gR la 0 fun a0 => gR la 1 fun a1 => gI la 2 fun x2 => sE st (p_X5_readsWord_12 a0 a1 x2 h)) k0)) (FI := FI_X5_readsWord) (FV := FV_X5_readsWord) (FL := fL0) (rt := rtZ) (ft := 0) (by exact hd) ok_X5_readsWord_0 (kx_ok (fun la st h e => by obtain ⟨a0, m_a0, e1⟩ := gR_inv e; obtain ⟨a1, m_a1, e2⟩ := gR_inv e1; obtain ⟨x2, m_x2, e3⟩ := gI_inv e2; obtain ⟨rfl, ez⟩ := sE_inv e3; exact gm_fewer (e_X5_readsWord_12 E  a0 a1 x2 h ez) (mem_cons m_a0 (mem_cons m_a1 (mem_cons m_x2 mem_nil)))) k0_ok) (FI_X5_readsWord_ok E) (FV_X5_readsWord_ok E) (fL0_ok E) (rtZ_ok rfl)
theorem c_X5_readsWord {l : Launch} {D : va_G} {dA : Nat → ClassId} {z : Nat} {sa : Nat → Nat} {Hz : Heap} (E : StrOK qLen qCh l D dA z sa Hz) {a0 : Nat} {a1 : Nat} {x2 : Int32} {h fin : AH} {x : Int32} (hd : p_X5_readsWord a0 a1 x2 h = some (x, fin)) : CalOK l D dA z sa Hz q_X5_readsWord [.ref a0, .ref a1, .int x2] h (some (.int x)) fin := calOf (by decide +kernel) (Nat.le_of_ble_eq_true rfl) (e_X5_readsWord_0 E a0 a1 x2 h hd)
def FI_X5_modeNamed : Nat → List Value → AH → Option (Int32 × AH) := (cx 16 (fun As h => sR As fun a0 As => sT As fun t1 As => sE As (p_X5_isName a0 t1 h)) fI0)
theorem FI_X5_modeNamed_ok {l : Launch} {D : va_G} {dA : Nat → ClassId} {z : Nat} {sa : Nat → Nat} {Hz : Heap} (E : StrOK qLen qCh l D dA z sa Hz) : ∀ mi As h x h', FI_X5_modeNamed mi As h = some (x, h') → CalOK l D dA z sa Hz (MT mi) As h (some (.int x)) h' := (cxI_ok (fun As h x h2 e => by obtain ⟨_, _, rfl, e0⟩ := sR_inv e; obtain ⟨_, _, rfl, e1⟩ := sT_inv e0; obtain ⟨rfl, ez⟩ := sE_inv e1; exact c_X5_isName E ez) (fI0_ok E))
def I_X5_modeNamed_47 : List AI := [(.ireturn, 1, [], 0)]
theorem ok_X5_modeNamed_47 : vBL MT qLen qCh false q_X5_modeNamed.2.2.2.2.1 q_X5_modeNamed.2.2.2.2.2.1 q_X5_modeNamed.2.2.1 q_X5_modeNamed.1.cls q_X5_modeNamed.1.name q_X5_modeNamed.2.1 0 47 I_X5_modeNamed_47 = true := by decide +kernel
def p_X5_modeNamed_47 (y0 : Int32) (h : AH) : Option (Int32 × AH) :=
  some (y0, h)
set_option maxRecDepth 100000 in
theorem e_X5_modeNamed_47 {l : Launch} {D : va_G} {dA : Nat → ClassId} {z : Nat} {sa : Nat → Nat} {Hz : Heap} (E : StrOK qLen qCh l D dA z sa Hz) {h0 fin : AH} {x : Int32}  : ∀ (y0 : Int32) (h : AH), p_X5_modeNamed_47 y0 h = some (x, fin) → GM l D dA z sa Hz q_X5_modeNamed h0 (some (.int x)) fin 47 [] [.int y0] h := by
  intro y0 h hd
  exact step E (is := I_X5_modeNamed_47) (pc := 47) (K := k0) (FI := FI_X5_modeNamed) (FV := fV0) (FL := fL0) (rt := rtI) (ft := 0) (by exact hd) ok_X5_modeNamed_47 k0_ok (FI_X5_modeNamed_ok E) (fV0_ok E) (fL0_ok E) (rtI_ok rfl)
def I_X5_modeNamed_46 : List AI := [(.iconst (-1), 1, [], (-1))]
theorem ok_X5_modeNamed_46 : vBL MT qLen qCh false q_X5_modeNamed.2.2.2.2.1 q_X5_modeNamed.2.2.2.2.2.1 q_X5_modeNamed.2.2.1 q_X5_modeNamed.1.cls q_X5_modeNamed.1.name q_X5_modeNamed.2.1 47 46 I_X5_modeNamed_46 = true := by decide +kernel
def p_X5_modeNamed_46 (h : AH) : Option (Int32 × AH) :=
  p_X5_modeNamed_47 ((-1 : Int32)) h
set_option maxRecDepth 100000 in
theorem e_X5_modeNamed_46 {l : Launch} {D : va_G} {dA : Nat → ClassId} {z : Nat} {sa : Nat → Nat} {Hz : Heap} (E : StrOK qLen qCh l D dA z sa Hz) {h0 fin : AH} {x : Int32}  : ∀  (h : AH), p_X5_modeNamed_46 h = some (x, fin) → GM l D dA z sa Hz q_X5_modeNamed h0 (some (.int x)) fin 46 [] [] h := by
  intro h hd
  exact step E (is := I_X5_modeNamed_46) (pc := 46) (K := (kx 47 (fun la st h => sI st fun y0 st => sE st (p_X5_modeNamed_47 y0 h)) k0)) (FI := FI_X5_modeNamed) (FV := fV0) (FL := fL0) (rt := rtI) (ft := 47) (by exact hd) ok_X5_modeNamed_46 (kx_ok (fun la st h e => by obtain ⟨y0, _, rfl, e1⟩ := sI_inv e; obtain ⟨rfl, ez⟩ := sE_inv e1; exact gm_fewer (e_X5_modeNamed_47 E  y0 h ez) mem_nil) k0_ok) (FI_X5_modeNamed_ok E) (fV0_ok E) (fL0_ok E) (rtI_ok rfl)
def I_X5_modeNamed_33 : List AI := [(.aload_n 0, 1, [], 0), (.ldc 202, 2, [14, 0], 0), (.invokevirtual 77, 3, [1, 16, 2, 4, 438], 0), (.ifCond .eq 7, 3, [46], 0), (.iconst 3, 1, [], 3), (.goto 4, 3, [47], 0)]
theorem ok_X5_modeNamed_33 : vBL MT qLen qCh false q_X5_modeNamed.2.2.2.2.1 q_X5_modeNamed.2.2.2.2.2.1 q_X5_modeNamed.2.2.1 q_X5_modeNamed.1.cls q_X5_modeNamed.1.name q_X5_modeNamed.2.1 0 33 I_X5_modeNamed_33 = true := by decide +kernel
def p_X5_modeNamed_33 (a0 : Nat) (h : AH) : Option (Int32 × AH) :=
  if (tg h a0).1 = 4 then ((p_X5_isName a0 14 h).bind fun q101 =>
  if q101.1 = 0 then (p_X5_modeNamed_47 ((-1 : Int32)) q101.2)
  else
  p_X5_modeNamed_47 ((3 : Int32)) q101.2) else none
set_option maxRecDepth 100000 in
theorem e_X5_modeNamed_33 {l : Launch} {D : va_G} {dA : Nat → ClassId} {z : Nat} {sa : Nat → Nat} {Hz : Heap} (E : StrOK qLen qCh l D dA z sa Hz) {h0 fin : AH} {x : Int32}  : ∀ (a0 : Nat) (h : AH), p_X5_modeNamed_33 a0 h = some (x, fin) → GM l D dA z sa Hz q_X5_modeNamed h0 (some (.int x)) fin 33 [(0, .ref a0)] [] h := by
  intro a0 h hd
  exact step E (is := I_X5_modeNamed_33) (pc := 33) (K := (kx 46 (fun la st h => sE st (p_X5_modeNamed_46 h)) (kx 47 (fun la st h => sI st fun y0 st => sE st (p_X5_modeNamed_47 y0 h)) k0))) (FI := FI_X5_modeNamed) (FV := fV0) (FL := fL0) (rt := rtI) (ft := 0) (by exact hd) ok_X5_modeNamed_33 (kx_ok (fun la st h e => by obtain ⟨rfl, ez⟩ := sE_inv e; exact gm_fewer (e_X5_modeNamed_46 E   h ez) mem_nil) (kx_ok (fun la st h e => by obtain ⟨y0, _, rfl, e1⟩ := sI_inv e; obtain ⟨rfl, ez⟩ := sE_inv e1; exact gm_fewer (e_X5_modeNamed_47 E  y0 h ez) mem_nil) k0_ok)) (FI_X5_modeNamed_ok E) (fV0_ok E) (fL0_ok E) (rtI_ok rfl)
def I_X5_modeNamed_22 : List AI := [(.aload_n 0, 1, [], 0), (.ldc 200, 2, [13, 0], 0), (.invokevirtual 77, 3, [1, 16, 2, 4, 438], 0), (.ifCond .eq 5, 3, [33], 0), (.iconst 2, 1, [], 2), (.ireturn, 1, [], 0)]
theorem ok_X5_modeNamed_22 : vBL MT qLen qCh false q_X5_modeNamed.2.2.2.2.1 q_X5_modeNamed.2.2.2.2.2.1 q_X5_modeNamed.2.2.1 q_X5_modeNamed.1.cls q_X5_modeNamed.1.name q_X5_modeNamed.2.1 0 22 I_X5_modeNamed_22 = true := by decide +kernel
def p_X5_modeNamed_22 (a0 : Nat) (h : AH) : Option (Int32 × AH) :=
  if (tg h a0).1 = 4 then ((p_X5_isName a0 13 h).bind fun q102 =>
  if q102.1 = 0 then (if (tg q102.2 a0).1 = 4 then ((p_X5_isName a0 14 q102.2).bind fun q103 =>
  if q103.1 = 0 then (p_X5_modeNamed_47 ((-1 : Int32)) q103.2)
  else
  p_X5_modeNamed_47 ((3 : Int32)) q103.2) else none)
  else
  some (((2 : Int32)), q102.2)) else none
set_option maxRecDepth 100000 in
theorem e_X5_modeNamed_22 {l : Launch} {D : va_G} {dA : Nat → ClassId} {z : Nat} {sa : Nat → Nat} {Hz : Heap} (E : StrOK qLen qCh l D dA z sa Hz) {h0 fin : AH} {x : Int32}  : ∀ (a0 : Nat) (h : AH), p_X5_modeNamed_22 a0 h = some (x, fin) → GM l D dA z sa Hz q_X5_modeNamed h0 (some (.int x)) fin 22 [(0, .ref a0)] [] h := by
  intro a0 h hd
  exact step E (is := I_X5_modeNamed_22) (pc := 22) (K := (kx 33 (fun la st h => gR la 0 fun a0 => sE st (p_X5_modeNamed_33 a0 h)) k0)) (FI := FI_X5_modeNamed) (FV := fV0) (FL := fL0) (rt := rtI) (ft := 0) (by exact hd) ok_X5_modeNamed_22 (kx_ok (fun la st h e => by obtain ⟨a0, m_a0, e1⟩ := gR_inv e; obtain ⟨rfl, ez⟩ := sE_inv e1; exact gm_fewer (e_X5_modeNamed_33 E  a0 h ez) (mem_cons m_a0 mem_nil)) k0_ok) (FI_X5_modeNamed_ok E) (fV0_ok E) (fL0_ok E) (rtI_ok rfl)
def I_X5_modeNamed_11 : List AI := [(.aload_n 0, 1, [], 0), (.ldc 198, 2, [12, 0], 0), (.invokevirtual 77, 3, [1, 16, 2, 4, 438], 0), (.ifCond .eq 5, 3, [22], 0), (.iconst 1, 1, [], 1), (.ireturn, 1, [], 0)]
theorem ok_X5_modeNamed_11 : vBL MT qLen qCh false q_X5_modeNamed.2.2.2.2.1 q_X5_modeNamed.2.2.2.2.2.1 q_X5_modeNamed.2.2.1 q_X5_modeNamed.1.cls q_X5_modeNamed.1.name q_X5_modeNamed.2.1 0 11 I_X5_modeNamed_11 = true := by decide +kernel
def p_X5_modeNamed_11 (a0 : Nat) (h : AH) : Option (Int32 × AH) :=
  if (tg h a0).1 = 4 then ((p_X5_isName a0 12 h).bind fun q104 =>
  if q104.1 = 0 then (if (tg q104.2 a0).1 = 4 then ((p_X5_isName a0 13 q104.2).bind fun q105 =>
  if q105.1 = 0 then (if (tg q105.2 a0).1 = 4 then ((p_X5_isName a0 14 q105.2).bind fun q106 =>
  if q106.1 = 0 then (p_X5_modeNamed_47 ((-1 : Int32)) q106.2)
  else
  p_X5_modeNamed_47 ((3 : Int32)) q106.2) else none)
  else
  some (((2 : Int32)), q105.2)) else none)
  else
  some (((1 : Int32)), q104.2)) else none
set_option maxRecDepth 100000 in
theorem e_X5_modeNamed_11 {l : Launch} {D : va_G} {dA : Nat → ClassId} {z : Nat} {sa : Nat → Nat} {Hz : Heap} (E : StrOK qLen qCh l D dA z sa Hz) {h0 fin : AH} {x : Int32}  : ∀ (a0 : Nat) (h : AH), p_X5_modeNamed_11 a0 h = some (x, fin) → GM l D dA z sa Hz q_X5_modeNamed h0 (some (.int x)) fin 11 [(0, .ref a0)] [] h := by
  intro a0 h hd
  exact step E (is := I_X5_modeNamed_11) (pc := 11) (K := (kx 22 (fun la st h => gR la 0 fun a0 => sE st (p_X5_modeNamed_22 a0 h)) k0)) (FI := FI_X5_modeNamed) (FV := fV0) (FL := fL0) (rt := rtI) (ft := 0) (by exact hd) ok_X5_modeNamed_11 (kx_ok (fun la st h e => by obtain ⟨a0, m_a0, e1⟩ := gR_inv e; obtain ⟨rfl, ez⟩ := sE_inv e1; exact gm_fewer (e_X5_modeNamed_22 E  a0 h ez) (mem_cons m_a0 mem_nil)) k0_ok) (FI_X5_modeNamed_ok E) (fV0_ok E) (fL0_ok E) (rtI_ok rfl)
def I_X5_modeNamed_0 : List AI := [(.aload_n 0, 1, [], 0), (.ldc 196, 2, [11, 0], 0), (.invokevirtual 77, 3, [1, 16, 2, 4, 438], 0), (.ifCond .eq 5, 3, [11], 0), (.iconst 0, 1, [], 0), (.ireturn, 1, [], 0)]
theorem ok_X5_modeNamed_0 : vBL MT qLen qCh false q_X5_modeNamed.2.2.2.2.1 q_X5_modeNamed.2.2.2.2.2.1 q_X5_modeNamed.2.2.1 q_X5_modeNamed.1.cls q_X5_modeNamed.1.name q_X5_modeNamed.2.1 0 0 I_X5_modeNamed_0 = true := by decide +kernel
def p_X5_modeNamed (a0 : Nat) (h : AH) : Option (Int32 × AH) :=
  if (tg h a0).1 = 4 then ((p_X5_isName a0 11 h).bind fun q107 =>
  if q107.1 = 0 then (if (tg q107.2 a0).1 = 4 then ((p_X5_isName a0 12 q107.2).bind fun q108 =>
  if q108.1 = 0 then (if (tg q108.2 a0).1 = 4 then ((p_X5_isName a0 13 q108.2).bind fun q109 =>
  if q109.1 = 0 then (if (tg q109.2 a0).1 = 4 then ((p_X5_isName a0 14 q109.2).bind fun q110 =>
  if q110.1 = 0 then (p_X5_modeNamed_47 ((-1 : Int32)) q110.2)
  else
  p_X5_modeNamed_47 ((3 : Int32)) q110.2) else none)
  else
  some (((2 : Int32)), q109.2)) else none)
  else
  some (((1 : Int32)), q108.2)) else none)
  else
  some (((0 : Int32)), q107.2)) else none
set_option maxRecDepth 100000 in
theorem e_X5_modeNamed_0 {l : Launch} {D : va_G} {dA : Nat → ClassId} {z : Nat} {sa : Nat → Nat} {Hz : Heap} (E : StrOK qLen qCh l D dA z sa Hz) {h0 fin : AH} {x : Int32}  : ∀ (a0 : Nat) (h : AH), p_X5_modeNamed a0 h = some (x, fin) → GM l D dA z sa Hz q_X5_modeNamed h0 (some (.int x)) fin 0 [(0, .ref a0)] [] h := by
  intro a0 h hd
  exact step E (is := I_X5_modeNamed_0) (pc := 0) (K := (kx 11 (fun la st h => gR la 0 fun a0 => sE st (p_X5_modeNamed_11 a0 h)) k0)) (FI := FI_X5_modeNamed) (FV := fV0) (FL := fL0) (rt := rtI) (ft := 0) (by exact hd) ok_X5_modeNamed_0 (kx_ok (fun la st h e => by obtain ⟨a0, m_a0, e1⟩ := gR_inv e; obtain ⟨rfl, ez⟩ := sE_inv e1; exact gm_fewer (e_X5_modeNamed_11 E  a0 h ez) (mem_cons m_a0 mem_nil)) k0_ok) (FI_X5_modeNamed_ok E) (fV0_ok E) (fL0_ok E) (rtI_ok rfl)
theorem c_X5_modeNamed {l : Launch} {D : va_G} {dA : Nat → ClassId} {z : Nat} {sa : Nat → Nat} {Hz : Heap} (E : StrOK qLen qCh l D dA z sa Hz) {a0 : Nat} {h fin : AH} {x : Int32} (hd : p_X5_modeNamed a0 h = some (x, fin)) : CalOK l D dA z sa Hz q_X5_modeNamed [.ref a0] h (some (.int x)) fin := calOf (by decide +kernel) (Nat.le_of_ble_eq_true rfl) (e_X5_modeNamed_0 E a0 h hd)
def FI_X5_isWay : Nat → List Value → AH → Option (Int32 × AH) := (cx 18 (fun As h => sR As fun a0 As => sI As fun x1 As => sI As fun x2 As => sE As (p_X5_isWhole a0 x1 x2 h)) (cx 34 (fun As h => sR As fun a0 As => sE As (p_X5_modeNamed a0 h)) (cx 17 (fun As h => sR As fun a0 As => sI As fun x1 As => sE As (p_X5_fails a0 x1 h)) fI0)))
theorem FI_X5_isWay_ok {l : Launch} {D : va_G} {dA : Nat → ClassId} {z : Nat} {sa : Nat → Nat} {Hz : Heap} (E : StrOK qLen qCh l D dA z sa Hz) : ∀ mi As h x h', FI_X5_isWay mi As h = some (x, h') → CalOK l D dA z sa Hz (MT mi) As h (some (.int x)) h' := (cxI_ok (fun As h x h2 e => by obtain ⟨_, _, rfl, e0⟩ := sR_inv e; obtain ⟨_, _, rfl, e1⟩ := sI_inv e0; obtain ⟨_, _, rfl, e2⟩ := sI_inv e1; obtain ⟨rfl, ez⟩ := sE_inv e2; exact c_X5_isWhole E ez) ((cxI_ok (fun As h x h2 e => by obtain ⟨_, _, rfl, e0⟩ := sR_inv e; obtain ⟨rfl, ez⟩ := sE_inv e0; exact c_X5_modeNamed E ez) ((cxI_ok (fun As h x h2 e => by obtain ⟨_, _, rfl, e0⟩ := sR_inv e; obtain ⟨_, _, rfl, e1⟩ := sI_inv e0; obtain ⟨rfl, ez⟩ := sE_inv e1; exact c_X5_fails E ez) (fI0_ok E))))))
def FV_X5_isWay : Nat → List Value → AH → Option (AH) := (cx 15 (fun As h => sR As fun a0 As => sE As (p_X5_advance a0 h)) fV0)
theorem FV_X5_isWay_ok {l : Launch} {D : va_G} {dA : Nat → ClassId} {z : Nat} {sa : Nat → Nat} {Hz : Heap} (E : StrOK qLen qCh l D dA z sa Hz) : ∀ mi As h h', FV_X5_isWay mi As h = some h' → CalOK l D dA z sa Hz (MT mi) As h none h' := (cxV_ok (fun As h h2 e => by obtain ⟨_, _, rfl, e0⟩ := sR_inv e; obtain ⟨rfl, ez⟩ := sE_inv e0; exact c_X5_advance E ez) (fV0_ok E))
def I_X5_isWay_36 : List AI := [(.aload_n 0, 1, [], 0), (.iload_n 1, 1, [], 0), (.iconst 4, 1, [], 4), (.imul, 1, [], 0), (.iload_n 2, 1, [], 0), (.iadd, 1, [], 0), (.putfield 63, 3, [4, 6, 0, 152], 0), (.iconst 1, 1, [], 1), (.ireturn, 1, [], 0)]
theorem ok_X5_isWay_36 : vBL MT qLen qCh false q_X5_isWay.2.2.2.2.1 q_X5_isWay.2.2.2.2.2.1 q_X5_isWay.2.2.1 q_X5_isWay.1.cls q_X5_isWay.1.name q_X5_isWay.2.1 0 36 I_X5_isWay_36 = true := by decide +kernel
def p_X5_isWay_36 (a0 : Nat) (x1 : Int32) (x2 : Int32) (h : AH) : Option (Int32 × AH) :=
  if (tg h a0).1 = 4 then (let h101 := wI h a0 6 ((x1 * ((4 : Int32))) + x2)
  if ((1 : Int32)) &&& 1 = ((1 : Int32)) then some (((1 : Int32)), h101) else none) else none
set_option maxRecDepth 100000 in
theorem e_X5_isWay_36 {l : Launch} {D : va_G} {dA : Nat → ClassId} {z : Nat} {sa : Nat → Nat} {Hz : Heap} (E : StrOK qLen qCh l D dA z sa Hz) {h0 fin : AH} {x : Int32}  : ∀ (a0 : Nat) (x1 : Int32) (x2 : Int32) (h : AH), p_X5_isWay_36 a0 x1 x2 h = some (x, fin) → GM l D dA z sa Hz q_X5_isWay h0 (some (.int x)) fin 36 [(0, .ref a0), (1, .int x1), (2, .int x2)] [] h := by
  intro a0 x1 x2 h hd
  exact step E (is := I_X5_isWay_36) (pc := 36) (K := k0) (FI := FI_X5_isWay) (FV := FV_X5_isWay) (FL := fL0) (rt := rtZ) (ft := 0) (by exact hd) ok_X5_isWay_36 k0_ok (FI_X5_isWay_ok E) (FV_X5_isWay_ok E) (fL0_ok E) (rtZ_ok rfl)
def I_X5_isWay_12 : List AI := [(.aload_n 0, 1, [], 0), (.getfield 63, 3, [4, 6, 0, 152], 0), (.istore_n 1, 1, [], 0), (.aload_n 0, 1, [], 0), (.invokevirtual 36, 3, [2, 15, 1, 4, 419], 0), (.aload_n 0, 1, [], 0), (.invokevirtual 175, 3, [1, 34, 1, 4, 574], 0), (.istore_n 2, 1, [], 0), (.iload_n 2, 1, [], 0), (.ifCond .ge 9, 3, [36], 0), (.aload_n 0, 1, [], 0), (.iconst 1, 1, [], 1), (.invokevirtual 46, 3, [1, 17, 2, 4, 494], 0), (.ireturn, 1, [], 0)]
theorem ok_X5_isWay_12 : vBL MT qLen qCh false q_X5_isWay.2.2.2.2.1 q_X5_isWay.2.2.2.2.2.1 q_X5_isWay.2.2.1 q_X5_isWay.1.cls q_X5_isWay.1.name q_X5_isWay.2.1 0 12 I_X5_isWay_12 = true := by decide +kernel
def p_X5_isWay_12 (a0 : Nat) (h : AH) : Option (Int32 × AH) :=
  if (tg h a0).1 = 4 then (let x102 := rI h a0 6
  if (tg h a0).1 = 4 then ((p_X5_advance a0 h).bind fun h103 =>
  if (tg h103 a0).1 = 4 then ((p_X5_modeNamed a0 h103).bind fun q104 =>
  if q104.1 < 0 then (if (tg q104.2 a0).1 = 4 then ((p_X5_fails a0 ((1 : Int32)) q104.2).bind fun q106 =>
  if q106.1 &&& 1 = q106.1 then some (q106.1, q106.2) else none) else none)
  else
  if (tg q104.2 a0).1 = 4 then (let h105 := wI q104.2 a0 6 ((x102 * ((4 : Int32))) + q104.1)
  if ((1 : Int32)) &&& 1 = ((1 : Int32)) then some (((1 : Int32)), h105) else none) else none) else none) else none) else none
set_option maxRecDepth 100000 in
theorem e_X5_isWay_12 {l : Launch} {D : va_G} {dA : Nat → ClassId} {z : Nat} {sa : Nat → Nat} {Hz : Heap} (E : StrOK qLen qCh l D dA z sa Hz) {h0 fin : AH} {x : Int32}  : ∀ (a0 : Nat) (h : AH), p_X5_isWay_12 a0 h = some (x, fin) → GM l D dA z sa Hz q_X5_isWay h0 (some (.int x)) fin 12 [(0, .ref a0)] [] h := by
  intro a0 h hd
  exact step E (is := I_X5_isWay_12) (pc := 12) (K := (kx 36 (fun la st h => gR la 0 fun a0 => gI la 1 fun x1 => gI la 2 fun x2 => sE st (p_X5_isWay_36 a0 x1 x2 h)) k0)) (FI := FI_X5_isWay) (FV := FV_X5_isWay) (FL := fL0) (rt := rtZ) (ft := 0) (by exact hd) ok_X5_isWay_12 (kx_ok (fun la st h e => by obtain ⟨a0, m_a0, e1⟩ := gR_inv e; obtain ⟨x1, m_x1, e2⟩ := gI_inv e1; obtain ⟨x2, m_x2, e3⟩ := gI_inv e2; obtain ⟨rfl, ez⟩ := sE_inv e3; exact gm_fewer (e_X5_isWay_36 E  a0 x1 x2 h ez) (mem_cons m_a0 (mem_cons m_x1 (mem_cons m_x2 mem_nil)))) k0_ok) (FI_X5_isWay_ok E) (FV_X5_isWay_ok E) (fL0_ok E) (rtZ_ok rfl)
def I_X5_isWay_0 : List AI := [(.aload_n 0, 1, [], 0), (.iconst 0, 1, [], 0), (.bipush 63, 2, [], 63), (.invokevirtual 133, 3, [1, 18, 3, 4, 499], 0), (.ifCond .ne 5, 3, [12], 0), (.iconst 0, 1, [], 0), (.ireturn, 1, [], 0)]
theorem ok_X5_isWay_0 : vBL MT qLen qCh false q_X5_isWay.2.2.2.2.1 q_X5_isWay.2.2.2.2.2.1 q_X5_isWay.2.2.1 q_X5_isWay.1.cls q_X5_isWay.1.name q_X5_isWay.2.1 0 0 I_X5_isWay_0 = true := by decide +kernel
def p_X5_isWay (a0 : Nat) (h : AH) : Option (Int32 × AH) :=
  if (tg h a0).1 = 4 then ((p_X5_isWhole a0 ((0 : Int32)) ((63 : Int32)) h).bind fun q107 =>
  if q107.1 = 0 then (if ((0 : Int32)) &&& 1 = ((0 : Int32)) then some (((0 : Int32)), q107.2) else none)
  else
  if (tg q107.2 a0).1 = 4 then (let x108 := rI q107.2 a0 6
  if (tg q107.2 a0).1 = 4 then ((p_X5_advance a0 q107.2).bind fun h109 =>
  if (tg h109 a0).1 = 4 then ((p_X5_modeNamed a0 h109).bind fun q110 =>
  if q110.1 < 0 then (if (tg q110.2 a0).1 = 4 then ((p_X5_fails a0 ((1 : Int32)) q110.2).bind fun q112 =>
  if q112.1 &&& 1 = q112.1 then some (q112.1, q112.2) else none) else none)
  else
  if (tg q110.2 a0).1 = 4 then (let h111 := wI q110.2 a0 6 ((x108 * ((4 : Int32))) + q110.1)
  if ((1 : Int32)) &&& 1 = ((1 : Int32)) then some (((1 : Int32)), h111) else none) else none) else none) else none) else none) else none
set_option maxRecDepth 100000 in
theorem e_X5_isWay_0 {l : Launch} {D : va_G} {dA : Nat → ClassId} {z : Nat} {sa : Nat → Nat} {Hz : Heap} (E : StrOK qLen qCh l D dA z sa Hz) {h0 fin : AH} {x : Int32}  : ∀ (a0 : Nat) (h : AH), p_X5_isWay a0 h = some (x, fin) → GM l D dA z sa Hz q_X5_isWay h0 (some (.int x)) fin 0 [(0, .ref a0)] [] h := by
  intro a0 h hd
  exact step E (is := I_X5_isWay_0) (pc := 0) (K := (kx 12 (fun la st h => gR la 0 fun a0 => sE st (p_X5_isWay_12 a0 h)) k0)) (FI := FI_X5_isWay) (FV := FV_X5_isWay) (FL := fL0) (rt := rtZ) (ft := 0) (by exact hd) ok_X5_isWay_0 (kx_ok (fun la st h e => by obtain ⟨a0, m_a0, e1⟩ := gR_inv e; obtain ⟨rfl, ez⟩ := sE_inv e1; exact gm_fewer (e_X5_isWay_12 E  a0 h ez) (mem_cons m_a0 mem_nil)) k0_ok) (FI_X5_isWay_ok E) (FV_X5_isWay_ok E) (fL0_ok E) (rtZ_ok rfl)
theorem c_X5_isWay {l : Launch} {D : va_G} {dA : Nat → ClassId} {z : Nat} {sa : Nat → Nat} {Hz : Heap} (E : StrOK qLen qCh l D dA z sa Hz) {a0 : Nat} {h fin : AH} {x : Int32} (hd : p_X5_isWay a0 h = some (x, fin)) : CalOK l D dA z sa Hz q_X5_isWay [.ref a0] h (some (.int x)) fin := calOf (by decide +kernel) (Nat.le_of_ble_eq_true rfl) (e_X5_isWay_0 E a0 h hd)
def I_X6_addStep_29 : List AI := [(.return_, 1, [], 0)]
theorem ok_X6_addStep_29 : vBL MT qLen qCh false q_X6_addStep.2.2.2.2.1 q_X6_addStep.2.2.2.2.2.1 q_X6_addStep.2.2.1 q_X6_addStep.1.cls q_X6_addStep.1.name q_X6_addStep.2.1 0 29 I_X6_addStep_29 = true := by decide +kernel
def p_X6_addStep_29 (h : AH) : Option (AH) :=
  some h
set_option maxRecDepth 100000 in
theorem e_X6_addStep_29 {l : Launch} {D : va_G} {dA : Nat → ClassId} {z : Nat} {sa : Nat → Nat} {Hz : Heap} (E : StrOK qLen qCh l D dA z sa Hz) {h0 fin : AH}  : ∀  (h : AH), p_X6_addStep_29 h = some fin → GM l D dA z sa Hz q_X6_addStep h0 none fin 29 [] [] h := by
  intro h hd
  exact step E (is := I_X6_addStep_29) (pc := 29) (K := k0) (FI := fI0) (FV := fV0) (FL := fL0) (rt := rtV) (ft := 0) (by exact hd) ok_X6_addStep_29 k0_ok (fI0_ok E) (fV0_ok E) (fL0_ok E) (rtV_ok rfl)
def I_X6_addStep_0 : List AI := [(.aload_n 0, 1, [], 0), (.getfield 51, 3, [5, 6, 0, 224], 0), (.bipush 10, 2, [], 10), (.if_icmp .ge 23, 3, [29], 0), (.aload_n 0, 1, [], 0), (.getfield 22, 3, [5, 5, 2, 222], 0), (.aload_n 0, 1, [], 0), (.getfield 51, 3, [5, 6, 0, 224], 0), (.iload_n 1, 1, [], 0), (.iastore, 1, [], 0), (.aload_n 0, 1, [], 0), (.dup, 1, [], 0), (.getfield 51, 3, [5, 6, 0, 224], 0), (.iconst 1, 1, [], 1), (.iadd, 1, [], 0), (.putfield 51, 3, [5, 6, 0, 224], 0)]
theorem ok_X6_addStep_0 : vBL MT qLen qCh false q_X6_addStep.2.2.2.2.1 q_X6_addStep.2.2.2.2.2.1 q_X6_addStep.2.2.1 q_X6_addStep.1.cls q_X6_addStep.1.name q_X6_addStep.2.1 29 0 I_X6_addStep_0 = true := by decide +kernel
def p_X6_addStep (a0 : Nat) (x1 : Int32) (h : AH) : Option (AH) :=
  if (tg h a0).1 = 5 then (if (rI h a0 6) < ((10 : Int32)) then (if (tg h a0).1 = 5 then (if (tg h a0).1 = 5 then (if inB h (rR h a0 5) 100 (rI h a0 6) then (let h101 := wI h (rR h a0 5) (rI h a0 6).toNatClampNeg x1
  if (tg h101 a0).1 = 5 then (if (tg h101 a0).1 = 5 then (let h102 := wI h101 a0 6 ((rI h101 a0 6) + ((1 : Int32)))
  p_X6_addStep_29 h102) else none) else none) else none) else none) else none)
  else
  p_X6_addStep_29 h) else none
set_option maxRecDepth 100000 in
theorem e_X6_addStep_0 {l : Launch} {D : va_G} {dA : Nat → ClassId} {z : Nat} {sa : Nat → Nat} {Hz : Heap} (E : StrOK qLen qCh l D dA z sa Hz) {h0 fin : AH}  : ∀ (a0 : Nat) (x1 : Int32) (h : AH), p_X6_addStep a0 x1 h = some fin → GM l D dA z sa Hz q_X6_addStep h0 none fin 0 [(0, .ref a0), (1, .int x1)] [] h := by
  intro a0 x1 h hd
  exact step E (is := I_X6_addStep_0) (pc := 0) (K := (kx 29 (fun la st h => sE st (p_X6_addStep_29 h)) k0)) (FI := fI0) (FV := fV0) (FL := fL0) (rt := rtV) (ft := 29) (by exact hd) ok_X6_addStep_0 (kx_ok (fun la st h e => by obtain ⟨rfl, ez⟩ := sE_inv e; exact gm_fewer (e_X6_addStep_29 E   h ez) mem_nil) k0_ok) (fI0_ok E) (fV0_ok E) (fL0_ok E) (rtV_ok rfl)
theorem c_X6_addStep {l : Launch} {D : va_G} {dA : Nat → ClassId} {z : Nat} {sa : Nat → Nat} {Hz : Heap} (E : StrOK qLen qCh l D dA z sa Hz) {a0 : Nat} {x1 : Int32} {h fin : AH} (hd : p_X6_addStep a0 x1 h = some fin) : CalOK l D dA z sa Hz q_X6_addStep [.ref a0, .int x1] h none fin := calOf (by decide +kernel) (Nat.le_of_ble_eq_true rfl) (e_X6_addStep_0 E a0 x1 h hd)
def FI_X5_readsRun : Nat → List Value → AH → Option (Int32 × AH) := (cx 35 (fun As h => sR As fun a0 As => sE As (p_X5_isWay a0 h)) fI0)
theorem FI_X5_readsRun_ok {l : Launch} {D : va_G} {dA : Nat → ClassId} {z : Nat} {sa : Nat → Nat} {Hz : Heap} (E : StrOK qLen qCh l D dA z sa Hz) : ∀ mi As h x h', FI_X5_readsRun mi As h = some (x, h') → CalOK l D dA z sa Hz (MT mi) As h (some (.int x)) h' := (cxI_ok (fun As h x h2 e => by obtain ⟨_, _, rfl, e0⟩ := sR_inv e; obtain ⟨rfl, ez⟩ := sE_inv e0; exact c_X5_isWay E ez) (fI0_ok E))
def FV_X5_readsRun : Nat → List Value → AH → Option (AH) := (cx 36 (fun As h => sR As fun a0 As => sI As fun x1 As => sE As (p_X6_addStep a0 x1 h)) (cx 15 (fun As h => sR As fun a0 As => sE As (p_X5_advance a0 h)) fV0))
theorem FV_X5_readsRun_ok {l : Launch} {D : va_G} {dA : Nat → ClassId} {z : Nat} {sa : Nat → Nat} {Hz : Heap} (E : StrOK qLen qCh l D dA z sa Hz) : ∀ mi As h h', FV_X5_readsRun mi As h = some h' → CalOK l D dA z sa Hz (MT mi) As h none h' := (cxV_ok (fun As h h2 e => by obtain ⟨_, _, rfl, e0⟩ := sR_inv e; obtain ⟨_, _, rfl, e1⟩ := sI_inv e0; obtain ⟨rfl, ez⟩ := sE_inv e1; exact c_X6_addStep E ez) ((cxV_ok (fun As h h2 e => by obtain ⟨_, _, rfl, e0⟩ := sR_inv e; obtain ⟨rfl, ez⟩ := sE_inv e0; exact c_X5_advance E ez) (fV0_ok E))))
def I_X5_readsRun_9 : List AI := [(.aload_n 1, 1, [], 0), (.aload_n 0, 1, [], 0), (.getfield 63, 3, [4, 6, 0, 152], 0), (.invokevirtual 182, 3, [2, 36, 2, 5, 582], 0), (.aload_n 0, 1, [], 0), (.invokevirtual 36, 3, [2, 15, 1, 4, 419], 0), (.iconst 1, 1, [], 1), (.ireturn, 1, [], 0)]
theorem ok_X5_readsRun_9 : vBL MT qLen qCh false q_X5_readsRun.2.2.2.2.1 q_X5_readsRun.2.2.2.2.2.1 q_X5_readsRun.2.2.1 q_X5_readsRun.1.cls q_X5_readsRun.1.name q_X5_readsRun.2.1 0 9 I_X5_readsRun_9 = true := by decide +kernel
def p_X5_readsRun_9 (a0 : Nat) (a1 : Nat) (h : AH) : Option (Int32 × AH) :=
  if (tg h a0).1 = 4 then (if (tg h a1).1 = 5 then ((p_X6_addStep a1 (rI h a0 6) h).bind fun h101 =>
  if (tg h101 a0).1 = 4 then ((p_X5_advance a0 h101).bind fun h102 =>
  if ((1 : Int32)) &&& 1 = ((1 : Int32)) then some (((1 : Int32)), h102) else none) else none) else none) else none
set_option maxRecDepth 100000 in
theorem e_X5_readsRun_9 {l : Launch} {D : va_G} {dA : Nat → ClassId} {z : Nat} {sa : Nat → Nat} {Hz : Heap} (E : StrOK qLen qCh l D dA z sa Hz) {h0 fin : AH} {x : Int32}  : ∀ (a0 : Nat) (a1 : Nat) (h : AH), p_X5_readsRun_9 a0 a1 h = some (x, fin) → GM l D dA z sa Hz q_X5_readsRun h0 (some (.int x)) fin 9 [(0, .ref a0), (1, .ref a1)] [] h := by
  intro a0 a1 h hd
  exact step E (is := I_X5_readsRun_9) (pc := 9) (K := k0) (FI := FI_X5_readsRun) (FV := FV_X5_readsRun) (FL := fL0) (rt := rtZ) (ft := 0) (by exact hd) ok_X5_readsRun_9 k0_ok (FI_X5_readsRun_ok E) (FV_X5_readsRun_ok E) (fL0_ok E) (rtZ_ok rfl)
def I_X5_readsRun_0 : List AI := [(.aload_n 0, 1, [], 0), (.invokevirtual 178, 3, [1, 35, 1, 4, 570], 0), (.ifCond .ne 5, 3, [9], 0), (.iconst 0, 1, [], 0), (.ireturn, 1, [], 0)]
theorem ok_X5_readsRun_0 : vBL MT qLen qCh false q_X5_readsRun.2.2.2.2.1 q_X5_readsRun.2.2.2.2.2.1 q_X5_readsRun.2.2.1 q_X5_readsRun.1.cls q_X5_readsRun.1.name q_X5_readsRun.2.1 0 0 I_X5_readsRun_0 = true := by decide +kernel
def p_X5_readsRun (a0 : Nat) (a1 : Nat) (h : AH) : Option (Int32 × AH) :=
  if (tg h a0).1 = 4 then ((p_X5_isWay a0 h).bind fun q103 =>
  if q103.1 = 0 then (if ((0 : Int32)) &&& 1 = ((0 : Int32)) then some (((0 : Int32)), q103.2) else none)
  else
  if (tg q103.2 a0).1 = 4 then (if (tg q103.2 a1).1 = 5 then ((p_X6_addStep a1 (rI q103.2 a0 6) q103.2).bind fun h104 =>
  if (tg h104 a0).1 = 4 then ((p_X5_advance a0 h104).bind fun h105 =>
  if ((1 : Int32)) &&& 1 = ((1 : Int32)) then some (((1 : Int32)), h105) else none) else none) else none) else none) else none
set_option maxRecDepth 100000 in
theorem e_X5_readsRun_0 {l : Launch} {D : va_G} {dA : Nat → ClassId} {z : Nat} {sa : Nat → Nat} {Hz : Heap} (E : StrOK qLen qCh l D dA z sa Hz) {h0 fin : AH} {x : Int32}  : ∀ (a0 : Nat) (a1 : Nat) (h : AH), p_X5_readsRun a0 a1 h = some (x, fin) → GM l D dA z sa Hz q_X5_readsRun h0 (some (.int x)) fin 0 [(0, .ref a0), (1, .ref a1)] [] h := by
  intro a0 a1 h hd
  exact step E (is := I_X5_readsRun_0) (pc := 0) (K := (kx 9 (fun la st h => gR la 0 fun a0 => gR la 1 fun a1 => sE st (p_X5_readsRun_9 a0 a1 h)) k0)) (FI := FI_X5_readsRun) (FV := FV_X5_readsRun) (FL := fL0) (rt := rtZ) (ft := 0) (by exact hd) ok_X5_readsRun_0 (kx_ok (fun la st h e => by obtain ⟨a0, m_a0, e1⟩ := gR_inv e; obtain ⟨a1, m_a1, e2⟩ := gR_inv e1; obtain ⟨rfl, ez⟩ := sE_inv e2; exact gm_fewer (e_X5_readsRun_9 E  a0 a1 h ez) (mem_cons m_a0 (mem_cons m_a1 mem_nil))) k0_ok) (FI_X5_readsRun_ok E) (FV_X5_readsRun_ok E) (fL0_ok E) (rtZ_ok rfl)
theorem c_X5_readsRun {l : Launch} {D : va_G} {dA : Nat → ClassId} {z : Nat} {sa : Nat → Nat} {Hz : Heap} (E : StrOK qLen qCh l D dA z sa Hz) {a0 : Nat} {a1 : Nat} {h fin : AH} {x : Int32} (hd : p_X5_readsRun a0 a1 h = some (x, fin)) : CalOK l D dA z sa Hz q_X5_readsRun [.ref a0, .ref a1] h (some (.int x)) fin := calOf (by decide +kernel) (Nat.le_of_ble_eq_true rfl) (e_X5_readsRun_0 E a0 a1 h hd)
def I_X6_sighted_34 : List AI := [(.iconst 0, 1, [], 0), (.ireturn, 1, [], 0)]
theorem ok_X6_sighted_34 : vBL MT qLen qCh false q_X6_sighted.2.2.2.2.1 q_X6_sighted.2.2.2.2.2.1 q_X6_sighted.2.2.1 q_X6_sighted.1.cls q_X6_sighted.1.name q_X6_sighted.2.1 0 34 I_X6_sighted_34 = true := by decide +kernel
def p_X6_sighted_34 (h : AH) : Option (Int32 × AH) :=
  if ((0 : Int32)) &&& 1 = ((0 : Int32)) then some (((0 : Int32)), h) else none
set_option maxRecDepth 100000 in
theorem e_X6_sighted_34 {l : Launch} {D : va_G} {dA : Nat → ClassId} {z : Nat} {sa : Nat → Nat} {Hz : Heap} (E : StrOK qLen qCh l D dA z sa Hz) {h0 fin : AH} {x : Int32}  : ∀  (h : AH), p_X6_sighted_34 h = some (x, fin) → GM l D dA z sa Hz q_X6_sighted h0 (some (.int x)) fin 34 [] [] h := by
  intro h hd
  exact step E (is := I_X6_sighted_34) (pc := 34) (K := k0) (FI := fI0) (FV := fV0) (FL := fL0) (rt := rtZ) (ft := 0) (by exact hd) ok_X6_sighted_34 k0_ok (fI0_ok E) (fV0_ok E) (fL0_ok E) (rtZ_ok rfl)
def I_X6_sighted_28 : List AI := [(.iinc 2 1, 3, [], 1), (.goto (-29), 3, [2], 0)]
theorem ok_X6_sighted_28 : vBL MT qLen qCh false q_X6_sighted.2.2.2.2.1 q_X6_sighted.2.2.2.2.2.1 q_X6_sighted.2.2.1 q_X6_sighted.1.cls q_X6_sighted.1.name q_X6_sighted.2.1 0 28 I_X6_sighted_28 = true := by decide +kernel
def p_X6_sighted_28 (k2 : Nat → Int32 → Int32 → AH → Option (Int32 × AH)) (a0 : Nat) (x1 : Int32) (x2 : Int32) (h : AH) : Option (Int32 × AH) :=
  k2 a0 x1 (x2 + (1 : Int32)) h
set_option maxRecDepth 100000 in
theorem e_X6_sighted_28 {l : Launch} {D : va_G} {dA : Nat → ClassId} {z : Nat} {sa : Nat → Nat} {Hz : Heap} (E : StrOK qLen qCh l D dA z sa Hz) {h0 fin : AH} {x : Int32}  {k2 : Nat → Int32 → Int32 → AH → Option (Int32 × AH)} (hk2 : ∀ (a0 : Nat) (x1 : Int32) (x2 : Int32) (h : AH), k2 a0 x1 x2 h = some (x, fin) → GM l D dA z sa Hz q_X6_sighted h0 (some (.int x)) fin 2 [(0, .ref a0), (1, .int x1), (2, .int x2)] [] h) : ∀ (a0 : Nat) (x1 : Int32) (x2 : Int32) (h : AH), p_X6_sighted_28 k2 a0 x1 x2 h = some (x, fin) → GM l D dA z sa Hz q_X6_sighted h0 (some (.int x)) fin 28 [(0, .ref a0), (1, .int x1), (2, .int x2)] [] h := by
  intro a0 x1 x2 h hd
  exact step E (is := I_X6_sighted_28) (pc := 28) (K := (kx 2 (fun la st h => gR la 0 fun a0 => gI la 1 fun x1 => gI la 2 fun x2 => sE st (k2 a0 x1 x2 h)) k0)) (FI := fI0) (FV := fV0) (FL := fL0) (rt := rtZ) (ft := 0) (by exact hd) ok_X6_sighted_28 (kx_ok (fun la st h e => by obtain ⟨a0, m_a0, e1⟩ := gR_inv e; obtain ⟨x1, m_x1, e2⟩ := gI_inv e1; obtain ⟨x2, m_x2, e3⟩ := gI_inv e2; obtain ⟨rfl, ez⟩ := sE_inv e3; exact gm_fewer (hk2 a0 x1 x2 h ez) (mem_cons m_a0 (mem_cons m_x1 (mem_cons m_x2 mem_nil)))) k0_ok) (fI0_ok E) (fV0_ok E) (fL0_ok E) (rtZ_ok rfl)
def I_X6_sighted_2 : List AI := [(.iload_n 2, 1, [], 0), (.aload_n 0, 1, [], 0), (.getfield 57, 3, [5, 12, 0, 234], 0), (.if_icmp .ge 27, 3, [34], 0), (.iload_n 2, 1, [], 0), (.bipush 6, 2, [], 6), (.if_icmp .ge 21, 3, [34], 0), (.aload_n 0, 1, [], 0), (.getfield 32, 3, [5, 10, 2, 232], 0), (.iload_n 2, 1, [], 0), (.iaload, 1, [], 0), (.iload_n 1, 1, [], 0), (.if_icmp .ne 5, 3, [28], 0), (.iconst 1, 1, [], 1), (.ireturn, 1, [], 0)]
theorem ok_X6_sighted_2 : vBL MT qLen qCh false q_X6_sighted.2.2.2.2.1 q_X6_sighted.2.2.2.2.2.1 q_X6_sighted.2.2.1 q_X6_sighted.1.cls q_X6_sighted.1.name q_X6_sighted.2.1 0 2 I_X6_sighted_2 = true := by decide +kernel
def p_X6_sighted_2 : Nat → Nat → Int32 → Int32 → AH → Option (Int32 × AH)
  | 0, _, _, _, _ => none
  | n + 1, a0, x1, x2, h => if (tg h a0).1 = 5 then (if x2 < (rI h a0 12) then (if x2 < ((6 : Int32)) then (if (tg h a0).1 = 5 then (if inB h (rR h a0 10) 100 x2 then (if (rI h (rR h a0 10) x2.toNatClampNeg) = x1 then (if ((1 : Int32)) &&& 1 = ((1 : Int32)) then some (((1 : Int32)), h) else none)
    else
    p_X6_sighted_2 n a0 x1 (x2 + (1 : Int32)) h) else none) else none)
    else
    p_X6_sighted_34 h)
    else
    p_X6_sighted_34 h) else none
set_option maxRecDepth 100000 in
theorem e_X6_sighted_2 {l : Launch} {D : va_G} {dA : Nat → ClassId} {z : Nat} {sa : Nat → Nat} {Hz : Heap} (E : StrOK qLen qCh l D dA z sa Hz) {h0 fin : AH} {x : Int32}  : ∀ (n : Nat) (a0 : Nat) (x1 : Int32) (x2 : Int32) (h : AH), p_X6_sighted_2 n a0 x1 x2 h = some (x, fin) → GM l D dA z sa Hz q_X6_sighted h0 (some (.int x)) fin 2 [(0, .ref a0), (1, .int x1), (2, .int x2)] [] h := by
  intro n
  induction n with
  | zero => intro a0 x1 x2 h hd; exact nomatch hd
  | succ n ih =>
    intro a0 x1 x2 h hd
    exact step E (is := I_X6_sighted_2) (pc := 2) (K := (kx 34 (fun la st h => sE st (p_X6_sighted_34 h)) (kx 28 (fun la st h => gR la 0 fun a0 => gI la 1 fun x1 => gI la 2 fun x2 => sE st (p_X6_sighted_28 (p_X6_sighted_2 n) a0 x1 x2 h)) k0))) (FI := fI0) (FV := fV0) (FL := fL0) (rt := rtZ) (ft := 0) (by exact hd) ok_X6_sighted_2 (kx_ok (fun la st h e => by obtain ⟨rfl, ez⟩ := sE_inv e; exact gm_fewer (e_X6_sighted_34 E   h ez) mem_nil) (kx_ok (fun la st h e => by obtain ⟨a0, m_a0, e1⟩ := gR_inv e; obtain ⟨x1, m_x1, e2⟩ := gI_inv e1; obtain ⟨x2, m_x2, e3⟩ := gI_inv e2; obtain ⟨rfl, ez⟩ := sE_inv e3; exact gm_fewer (e_X6_sighted_28 E ih a0 x1 x2 h ez) (mem_cons m_a0 (mem_cons m_x1 (mem_cons m_x2 mem_nil)))) k0_ok)) (fI0_ok E) (fV0_ok E) (fL0_ok E) (rtZ_ok rfl)
def I_X6_sighted_0 : List AI := [(.iconst 0, 1, [], 0), (.istore_n 2, 1, [], 0)]
theorem ok_X6_sighted_0 : vBL MT qLen qCh false q_X6_sighted.2.2.2.2.1 q_X6_sighted.2.2.2.2.2.1 q_X6_sighted.2.2.1 q_X6_sighted.1.cls q_X6_sighted.1.name q_X6_sighted.2.1 2 0 I_X6_sighted_0 = true := by decide +kernel
def p_X6_sighted (a0 : Nat) (x1 : Int32) (h : AH) : Option (Int32 × AH) :=
  p_X6_sighted_2 FU a0 x1 ((0 : Int32)) h
set_option maxRecDepth 100000 in
theorem e_X6_sighted_0 {l : Launch} {D : va_G} {dA : Nat → ClassId} {z : Nat} {sa : Nat → Nat} {Hz : Heap} (E : StrOK qLen qCh l D dA z sa Hz) {h0 fin : AH} {x : Int32}  : ∀ (a0 : Nat) (x1 : Int32) (h : AH), p_X6_sighted a0 x1 h = some (x, fin) → GM l D dA z sa Hz q_X6_sighted h0 (some (.int x)) fin 0 [(0, .ref a0), (1, .int x1)] [] h := by
  intro a0 x1 h hd
  exact step E (is := I_X6_sighted_0) (pc := 0) (K := (kx 2 (fun la st h => gR la 0 fun a0 => gI la 1 fun x1 => gI la 2 fun x2 => sE st (p_X6_sighted_2 FU a0 x1 x2 h)) k0)) (FI := fI0) (FV := fV0) (FL := fL0) (rt := rtZ) (ft := 2) (by exact hd) ok_X6_sighted_0 (kx_ok (fun la st h e => by obtain ⟨a0, m_a0, e1⟩ := gR_inv e; obtain ⟨x1, m_x1, e2⟩ := gI_inv e1; obtain ⟨x2, m_x2, e3⟩ := gI_inv e2; obtain ⟨rfl, ez⟩ := sE_inv e3; exact gm_fewer (e_X6_sighted_2 E  FU a0 x1 x2 h ez) (mem_cons m_a0 (mem_cons m_x1 (mem_cons m_x2 mem_nil)))) k0_ok) (fI0_ok E) (fV0_ok E) (fL0_ok E) (rtZ_ok rfl)
theorem c_X6_sighted {l : Launch} {D : va_G} {dA : Nat → ClassId} {z : Nat} {sa : Nat → Nat} {Hz : Heap} (E : StrOK qLen qCh l D dA z sa Hz) {a0 : Nat} {x1 : Int32} {h fin : AH} {x : Int32} (hd : p_X6_sighted a0 x1 h = some (x, fin)) : CalOK l D dA z sa Hz q_X6_sighted [.ref a0, .int x1] h (some (.int x)) fin := calOf (by decide +kernel) (Nat.le_of_ble_eq_true rfl) (e_X6_sighted_0 E a0 x1 h hd)
def FI_X5_howNamed : Nat → List Value → AH → Option (Int32 × AH) := (cx 16 (fun As h => sR As fun a0 As => sT As fun t1 As => sE As (p_X5_isName a0 t1 h)) fI0)
theorem FI_X5_howNamed_ok {l : Launch} {D : va_G} {dA : Nat → ClassId} {z : Nat} {sa : Nat → Nat} {Hz : Heap} (E : StrOK qLen qCh l D dA z sa Hz) : ∀ mi As h x h', FI_X5_howNamed mi As h = some (x, h') → CalOK l D dA z sa Hz (MT mi) As h (some (.int x)) h' := (cxI_ok (fun As h x h2 e => by obtain ⟨_, _, rfl, e0⟩ := sR_inv e; obtain ⟨_, _, rfl, e1⟩ := sT_inv e0; obtain ⟨rfl, ez⟩ := sE_inv e1; exact c_X5_isName E ez) (fI0_ok E))
def I_X5_howNamed_50 : List AI := [(.ireturn, 1, [], 0)]
theorem ok_X5_howNamed_50 : vBL MT qLen qCh false q_X5_howNamed.2.2.2.2.1 q_X5_howNamed.2.2.2.2.2.1 q_X5_howNamed.2.2.1 q_X5_howNamed.1.cls q_X5_howNamed.1.name q_X5_howNamed.2.1 0 50 I_X5_howNamed_50 = true := by decide +kernel
def p_X5_howNamed_50 (y0 : Int32) (h : AH) : Option (Int32 × AH) :=
  some (y0, h)
set_option maxRecDepth 100000 in
theorem e_X5_howNamed_50 {l : Launch} {D : va_G} {dA : Nat → ClassId} {z : Nat} {sa : Nat → Nat} {Hz : Heap} (E : StrOK qLen qCh l D dA z sa Hz) {h0 fin : AH} {x : Int32}  : ∀ (y0 : Int32) (h : AH), p_X5_howNamed_50 y0 h = some (x, fin) → GM l D dA z sa Hz q_X5_howNamed h0 (some (.int x)) fin 50 [] [.int y0] h := by
  intro y0 h hd
  exact step E (is := I_X5_howNamed_50) (pc := 50) (K := k0) (FI := FI_X5_howNamed) (FV := fV0) (FL := fL0) (rt := rtI) (ft := 0) (by exact hd) ok_X5_howNamed_50 k0_ok (FI_X5_howNamed_ok E) (fV0_ok E) (fL0_ok E) (rtI_ok rfl)
def I_X5_howNamed_49 : List AI := [(.iconst 1, 1, [], 1)]
theorem ok_X5_howNamed_49 : vBL MT qLen qCh false q_X5_howNamed.2.2.2.2.1 q_X5_howNamed.2.2.2.2.2.1 q_X5_howNamed.2.2.1 q_X5_howNamed.1.cls q_X5_howNamed.1.name q_X5_howNamed.2.1 50 49 I_X5_howNamed_49 = true := by decide +kernel
def p_X5_howNamed_49 (h : AH) : Option (Int32 × AH) :=
  p_X5_howNamed_50 ((1 : Int32)) h
set_option maxRecDepth 100000 in
theorem e_X5_howNamed_49 {l : Launch} {D : va_G} {dA : Nat → ClassId} {z : Nat} {sa : Nat → Nat} {Hz : Heap} (E : StrOK qLen qCh l D dA z sa Hz) {h0 fin : AH} {x : Int32}  : ∀  (h : AH), p_X5_howNamed_49 h = some (x, fin) → GM l D dA z sa Hz q_X5_howNamed h0 (some (.int x)) fin 49 [] [] h := by
  intro h hd
  exact step E (is := I_X5_howNamed_49) (pc := 49) (K := (kx 50 (fun la st h => sI st fun y0 st => sE st (p_X5_howNamed_50 y0 h)) k0)) (FI := FI_X5_howNamed) (FV := fV0) (FL := fL0) (rt := rtI) (ft := 50) (by exact hd) ok_X5_howNamed_49 (kx_ok (fun la st h e => by obtain ⟨y0, _, rfl, e1⟩ := sI_inv e; obtain ⟨rfl, ez⟩ := sE_inv e1; exact gm_fewer (e_X5_howNamed_50 E  y0 h ez) mem_nil) k0_ok) (FI_X5_howNamed_ok E) (fV0_ok E) (fL0_ok E) (rtI_ok rfl)
def I_X5_howNamed_35 : List AI := [(.aload_n 0, 1, [], 0), (.ldc 210, 2, [18, 0], 0), (.invokevirtual 77, 3, [1, 16, 2, 4, 438], 0), (.ifCond .eq 8, 3, [49], 0), (.bipush (-4), 2, [], (-4)), (.goto 4, 3, [50], 0)]
theorem ok_X5_howNamed_35 : vBL MT qLen qCh false q_X5_howNamed.2.2.2.2.1 q_X5_howNamed.2.2.2.2.2.1 q_X5_howNamed.2.2.1 q_X5_howNamed.1.cls q_X5_howNamed.1.name q_X5_howNamed.2.1 0 35 I_X5_howNamed_35 = true := by decide +kernel
def p_X5_howNamed_35 (a0 : Nat) (h : AH) : Option (Int32 × AH) :=
  if (tg h a0).1 = 4 then ((p_X5_isName a0 18 h).bind fun q101 =>
  if q101.1 = 0 then (p_X5_howNamed_50 ((1 : Int32)) q101.2)
  else
  p_X5_howNamed_50 ((-4 : Int32)) q101.2) else none
set_option maxRecDepth 100000 in
theorem e_X5_howNamed_35 {l : Launch} {D : va_G} {dA : Nat → ClassId} {z : Nat} {sa : Nat → Nat} {Hz : Heap} (E : StrOK qLen qCh l D dA z sa Hz) {h0 fin : AH} {x : Int32}  : ∀ (a0 : Nat) (h : AH), p_X5_howNamed_35 a0 h = some (x, fin) → GM l D dA z sa Hz q_X5_howNamed h0 (some (.int x)) fin 35 [(0, .ref a0)] [] h := by
  intro a0 h hd
  exact step E (is := I_X5_howNamed_35) (pc := 35) (K := (kx 49 (fun la st h => sE st (p_X5_howNamed_49 h)) (kx 50 (fun la st h => sI st fun y0 st => sE st (p_X5_howNamed_50 y0 h)) k0))) (FI := FI_X5_howNamed) (FV := fV0) (FL := fL0) (rt := rtI) (ft := 0) (by exact hd) ok_X5_howNamed_35 (kx_ok (fun la st h e => by obtain ⟨rfl, ez⟩ := sE_inv e; exact gm_fewer (e_X5_howNamed_49 E   h ez) mem_nil) (kx_ok (fun la st h e => by obtain ⟨y0, _, rfl, e1⟩ := sI_inv e; obtain ⟨rfl, ez⟩ := sE_inv e1; exact gm_fewer (e_X5_howNamed_50 E  y0 h ez) mem_nil) k0_ok)) (FI_X5_howNamed_ok E) (fV0_ok E) (fL0_ok E) (rtI_ok rfl)
def I_X5_howNamed_23 : List AI := [(.aload_n 0, 1, [], 0), (.ldc 208, 2, [17, 0], 0), (.invokevirtual 77, 3, [1, 16, 2, 4, 438], 0), (.ifCond .eq 6, 3, [35], 0), (.bipush (-3), 2, [], (-3)), (.ireturn, 1, [], 0)]
theorem ok_X5_howNamed_23 : vBL MT qLen qCh false q_X5_howNamed.2.2.2.2.1 q_X5_howNamed.2.2.2.2.2.1 q_X5_howNamed.2.2.1 q_X5_howNamed.1.cls q_X5_howNamed.1.name q_X5_howNamed.2.1 0 23 I_X5_howNamed_23 = true := by decide +kernel
def p_X5_howNamed_23 (a0 : Nat) (h : AH) : Option (Int32 × AH) :=
  if (tg h a0).1 = 4 then ((p_X5_isName a0 17 h).bind fun q102 =>
  if q102.1 = 0 then (if (tg q102.2 a0).1 = 4 then ((p_X5_isName a0 18 q102.2).bind fun q103 =>
  if q103.1 = 0 then (p_X5_howNamed_50 ((1 : Int32)) q103.2)
  else
  p_X5_howNamed_50 ((-4 : Int32)) q103.2) else none)
  else
  some (((-3 : Int32)), q102.2)) else none
set_option maxRecDepth 100000 in
theorem e_X5_howNamed_23 {l : Launch} {D : va_G} {dA : Nat → ClassId} {z : Nat} {sa : Nat → Nat} {Hz : Heap} (E : StrOK qLen qCh l D dA z sa Hz) {h0 fin : AH} {x : Int32}  : ∀ (a0 : Nat) (h : AH), p_X5_howNamed_23 a0 h = some (x, fin) → GM l D dA z sa Hz q_X5_howNamed h0 (some (.int x)) fin 23 [(0, .ref a0)] [] h := by
  intro a0 h hd
  exact step E (is := I_X5_howNamed_23) (pc := 23) (K := (kx 35 (fun la st h => gR la 0 fun a0 => sE st (p_X5_howNamed_35 a0 h)) k0)) (FI := FI_X5_howNamed) (FV := fV0) (FL := fL0) (rt := rtI) (ft := 0) (by exact hd) ok_X5_howNamed_23 (kx_ok (fun la st h e => by obtain ⟨a0, m_a0, e1⟩ := gR_inv e; obtain ⟨rfl, ez⟩ := sE_inv e1; exact gm_fewer (e_X5_howNamed_35 E  a0 h ez) (mem_cons m_a0 mem_nil)) k0_ok) (FI_X5_howNamed_ok E) (fV0_ok E) (fL0_ok E) (rtI_ok rfl)
def I_X5_howNamed_11 : List AI := [(.aload_n 0, 1, [], 0), (.ldc 206, 2, [16, 0], 0), (.invokevirtual 77, 3, [1, 16, 2, 4, 438], 0), (.ifCond .eq 6, 3, [23], 0), (.bipush (-2), 2, [], (-2)), (.ireturn, 1, [], 0)]
theorem ok_X5_howNamed_11 : vBL MT qLen qCh false q_X5_howNamed.2.2.2.2.1 q_X5_howNamed.2.2.2.2.2.1 q_X5_howNamed.2.2.1 q_X5_howNamed.1.cls q_X5_howNamed.1.name q_X5_howNamed.2.1 0 11 I_X5_howNamed_11 = true := by decide +kernel
def p_X5_howNamed_11 (a0 : Nat) (h : AH) : Option (Int32 × AH) :=
  if (tg h a0).1 = 4 then ((p_X5_isName a0 16 h).bind fun q104 =>
  if q104.1 = 0 then (if (tg q104.2 a0).1 = 4 then ((p_X5_isName a0 17 q104.2).bind fun q105 =>
  if q105.1 = 0 then (if (tg q105.2 a0).1 = 4 then ((p_X5_isName a0 18 q105.2).bind fun q106 =>
  if q106.1 = 0 then (p_X5_howNamed_50 ((1 : Int32)) q106.2)
  else
  p_X5_howNamed_50 ((-4 : Int32)) q106.2) else none)
  else
  some (((-3 : Int32)), q105.2)) else none)
  else
  some (((-2 : Int32)), q104.2)) else none
set_option maxRecDepth 100000 in
theorem e_X5_howNamed_11 {l : Launch} {D : va_G} {dA : Nat → ClassId} {z : Nat} {sa : Nat → Nat} {Hz : Heap} (E : StrOK qLen qCh l D dA z sa Hz) {h0 fin : AH} {x : Int32}  : ∀ (a0 : Nat) (h : AH), p_X5_howNamed_11 a0 h = some (x, fin) → GM l D dA z sa Hz q_X5_howNamed h0 (some (.int x)) fin 11 [(0, .ref a0)] [] h := by
  intro a0 h hd
  exact step E (is := I_X5_howNamed_11) (pc := 11) (K := (kx 23 (fun la st h => gR la 0 fun a0 => sE st (p_X5_howNamed_23 a0 h)) k0)) (FI := FI_X5_howNamed) (FV := fV0) (FL := fL0) (rt := rtI) (ft := 0) (by exact hd) ok_X5_howNamed_11 (kx_ok (fun la st h e => by obtain ⟨a0, m_a0, e1⟩ := gR_inv e; obtain ⟨rfl, ez⟩ := sE_inv e1; exact gm_fewer (e_X5_howNamed_23 E  a0 h ez) (mem_cons m_a0 mem_nil)) k0_ok) (FI_X5_howNamed_ok E) (fV0_ok E) (fL0_ok E) (rtI_ok rfl)
def I_X5_howNamed_0 : List AI := [(.aload_n 0, 1, [], 0), (.ldc 204, 2, [15, 0], 0), (.invokevirtual 77, 3, [1, 16, 2, 4, 438], 0), (.ifCond .eq 5, 3, [11], 0), (.iconst 0, 1, [], 0), (.ireturn, 1, [], 0)]
theorem ok_X5_howNamed_0 : vBL MT qLen qCh false q_X5_howNamed.2.2.2.2.1 q_X5_howNamed.2.2.2.2.2.1 q_X5_howNamed.2.2.1 q_X5_howNamed.1.cls q_X5_howNamed.1.name q_X5_howNamed.2.1 0 0 I_X5_howNamed_0 = true := by decide +kernel
def p_X5_howNamed (a0 : Nat) (h : AH) : Option (Int32 × AH) :=
  if (tg h a0).1 = 4 then ((p_X5_isName a0 15 h).bind fun q107 =>
  if q107.1 = 0 then (if (tg q107.2 a0).1 = 4 then ((p_X5_isName a0 16 q107.2).bind fun q108 =>
  if q108.1 = 0 then (if (tg q108.2 a0).1 = 4 then ((p_X5_isName a0 17 q108.2).bind fun q109 =>
  if q109.1 = 0 then (if (tg q109.2 a0).1 = 4 then ((p_X5_isName a0 18 q109.2).bind fun q110 =>
  if q110.1 = 0 then (p_X5_howNamed_50 ((1 : Int32)) q110.2)
  else
  p_X5_howNamed_50 ((-4 : Int32)) q110.2) else none)
  else
  some (((-3 : Int32)), q109.2)) else none)
  else
  some (((-2 : Int32)), q108.2)) else none)
  else
  some (((0 : Int32)), q107.2)) else none
set_option maxRecDepth 100000 in
theorem e_X5_howNamed_0 {l : Launch} {D : va_G} {dA : Nat → ClassId} {z : Nat} {sa : Nat → Nat} {Hz : Heap} (E : StrOK qLen qCh l D dA z sa Hz) {h0 fin : AH} {x : Int32}  : ∀ (a0 : Nat) (h : AH), p_X5_howNamed a0 h = some (x, fin) → GM l D dA z sa Hz q_X5_howNamed h0 (some (.int x)) fin 0 [(0, .ref a0)] [] h := by
  intro a0 h hd
  exact step E (is := I_X5_howNamed_0) (pc := 0) (K := (kx 11 (fun la st h => gR la 0 fun a0 => sE st (p_X5_howNamed_11 a0 h)) k0)) (FI := FI_X5_howNamed) (FV := fV0) (FL := fL0) (rt := rtI) (ft := 0) (by exact hd) ok_X5_howNamed_0 (kx_ok (fun la st h e => by obtain ⟨a0, m_a0, e1⟩ := gR_inv e; obtain ⟨rfl, ez⟩ := sE_inv e1; exact gm_fewer (e_X5_howNamed_11 E  a0 h ez) (mem_cons m_a0 mem_nil)) k0_ok) (FI_X5_howNamed_ok E) (fV0_ok E) (fL0_ok E) (rtI_ok rfl)
theorem c_X5_howNamed {l : Launch} {D : va_G} {dA : Nat → ClassId} {z : Nat} {sa : Nat → Nat} {Hz : Heap} (E : StrOK qLen qCh l D dA z sa Hz) {a0 : Nat} {h fin : AH} {x : Int32} (hd : p_X5_howNamed a0 h = some (x, fin)) : CalOK l D dA z sa Hz q_X5_howNamed [.ref a0] h (some (.int x)) fin := calOf (by decide +kernel) (Nat.le_of_ble_eq_true rfl) (e_X5_howNamed_0 E a0 h hd)
def I_X6_addSight_39 : List AI := [(.return_, 1, [], 0)]
theorem ok_X6_addSight_39 : vBL MT qLen qCh false q_X6_addSight.2.2.2.2.1 q_X6_addSight.2.2.2.2.2.1 q_X6_addSight.2.2.1 q_X6_addSight.1.cls q_X6_addSight.1.name q_X6_addSight.2.1 0 39 I_X6_addSight_39 = true := by decide +kernel
def p_X6_addSight_39 (h : AH) : Option (AH) :=
  some h
set_option maxRecDepth 100000 in
theorem e_X6_addSight_39 {l : Launch} {D : va_G} {dA : Nat → ClassId} {z : Nat} {sa : Nat → Nat} {Hz : Heap} (E : StrOK qLen qCh l D dA z sa Hz) {h0 fin : AH}  : ∀  (h : AH), p_X6_addSight_39 h = some fin → GM l D dA z sa Hz q_X6_addSight h0 none fin 39 [] [] h := by
  intro h hd
  exact step E (is := I_X6_addSight_39) (pc := 39) (K := k0) (FI := fI0) (FV := fV0) (FL := fL0) (rt := rtV) (ft := 0) (by exact hd) ok_X6_addSight_39 k0_ok (fI0_ok E) (fV0_ok E) (fL0_ok E) (rtV_ok rfl)
def I_X6_addSight_0 : List AI := [(.aload_n 0, 1, [], 0), (.getfield 57, 3, [5, 12, 0, 234], 0), (.bipush 6, 2, [], 6), (.if_icmp .ge 33, 3, [39], 0), (.aload_n 0, 1, [], 0), (.getfield 32, 3, [5, 10, 2, 232], 0), (.aload_n 0, 1, [], 0), (.getfield 57, 3, [5, 12, 0, 234], 0), (.iload_n 1, 1, [], 0), (.iastore, 1, [], 0), (.aload_n 0, 1, [], 0), (.getfield 35, 3, [5, 11, 2, 233], 0), (.aload_n 0, 1, [], 0), (.getfield 57, 3, [5, 12, 0, 234], 0), (.iload_n 2, 1, [], 0), (.iastore, 1, [], 0), (.aload_n 0, 1, [], 0), (.dup, 1, [], 0), (.getfield 57, 3, [5, 12, 0, 234], 0), (.iconst 1, 1, [], 1), (.iadd, 1, [], 0), (.putfield 57, 3, [5, 12, 0, 234], 0)]
theorem ok_X6_addSight_0 : vBL MT qLen qCh false q_X6_addSight.2.2.2.2.1 q_X6_addSight.2.2.2.2.2.1 q_X6_addSight.2.2.1 q_X6_addSight.1.cls q_X6_addSight.1.name q_X6_addSight.2.1 39 0 I_X6_addSight_0 = true := by decide +kernel
def p_X6_addSight (a0 : Nat) (x1 : Int32) (x2 : Int32) (h : AH) : Option (AH) :=
  if (tg h a0).1 = 5 then (if (rI h a0 12) < ((6 : Int32)) then (if (tg h a0).1 = 5 then (if (tg h a0).1 = 5 then (if inB h (rR h a0 10) 100 (rI h a0 12) then (let h101 := wI h (rR h a0 10) (rI h a0 12).toNatClampNeg x1
  if (tg h101 a0).1 = 5 then (if (tg h101 a0).1 = 5 then (if inB h101 (rR h101 a0 11) 100 (rI h101 a0 12) then (let h102 := wI h101 (rR h101 a0 11) (rI h101 a0 12).toNatClampNeg x2
  if (tg h102 a0).1 = 5 then (if (tg h102 a0).1 = 5 then (let h103 := wI h102 a0 12 ((rI h102 a0 12) + ((1 : Int32)))
  p_X6_addSight_39 h103) else none) else none) else none) else none) else none) else none) else none) else none)
  else
  p_X6_addSight_39 h) else none
set_option maxRecDepth 100000 in
theorem e_X6_addSight_0 {l : Launch} {D : va_G} {dA : Nat → ClassId} {z : Nat} {sa : Nat → Nat} {Hz : Heap} (E : StrOK qLen qCh l D dA z sa Hz) {h0 fin : AH}  : ∀ (a0 : Nat) (x1 : Int32) (x2 : Int32) (h : AH), p_X6_addSight a0 x1 x2 h = some fin → GM l D dA z sa Hz q_X6_addSight h0 none fin 0 [(0, .ref a0), (1, .int x1), (2, .int x2)] [] h := by
  intro a0 x1 x2 h hd
  exact step E (is := I_X6_addSight_0) (pc := 0) (K := (kx 39 (fun la st h => sE st (p_X6_addSight_39 h)) k0)) (FI := fI0) (FV := fV0) (FL := fL0) (rt := rtV) (ft := 39) (by exact hd) ok_X6_addSight_0 (kx_ok (fun la st h e => by obtain ⟨rfl, ez⟩ := sE_inv e; exact gm_fewer (e_X6_addSight_39 E   h ez) mem_nil) k0_ok) (fI0_ok E) (fV0_ok E) (fL0_ok E) (rtV_ok rfl)
theorem c_X6_addSight {l : Launch} {D : va_G} {dA : Nat → ClassId} {z : Nat} {sa : Nat → Nat} {Hz : Heap} (E : StrOK qLen qCh l D dA z sa Hz) {a0 : Nat} {x1 : Int32} {x2 : Int32} {h fin : AH} (hd : p_X6_addSight a0 x1 x2 h = some fin) : CalOK l D dA z sa Hz q_X6_addSight [.ref a0, .int x1, .int x2] h none fin := calOf (by decide +kernel) (Nat.le_of_ble_eq_true rfl) (e_X6_addSight_0 E a0 x1 x2 h hd)
def FI_X5_readsSaw : Nat → List Value → AH → Option (Int32 × AH) := (cx 35 (fun As h => sR As fun a0 As => sE As (p_X5_isWay a0 h)) (cx 38 (fun As h => sR As fun a0 As => sI As fun x1 As => sE As (p_X6_sighted a0 x1 h)) (cx 17 (fun As h => sR As fun a0 As => sI As fun x1 As => sE As (p_X5_fails a0 x1 h)) (cx 39 (fun As h => sR As fun a0 As => sE As (p_X5_howNamed a0 h)) fI0))))
theorem FI_X5_readsSaw_ok {l : Launch} {D : va_G} {dA : Nat → ClassId} {z : Nat} {sa : Nat → Nat} {Hz : Heap} (E : StrOK qLen qCh l D dA z sa Hz) : ∀ mi As h x h', FI_X5_readsSaw mi As h = some (x, h') → CalOK l D dA z sa Hz (MT mi) As h (some (.int x)) h' := (cxI_ok (fun As h x h2 e => by obtain ⟨_, _, rfl, e0⟩ := sR_inv e; obtain ⟨rfl, ez⟩ := sE_inv e0; exact c_X5_isWay E ez) ((cxI_ok (fun As h x h2 e => by obtain ⟨_, _, rfl, e0⟩ := sR_inv e; obtain ⟨_, _, rfl, e1⟩ := sI_inv e0; obtain ⟨rfl, ez⟩ := sE_inv e1; exact c_X6_sighted E ez) ((cxI_ok (fun As h x h2 e => by obtain ⟨_, _, rfl, e0⟩ := sR_inv e; obtain ⟨_, _, rfl, e1⟩ := sI_inv e0; obtain ⟨rfl, ez⟩ := sE_inv e1; exact c_X5_fails E ez) ((cxI_ok (fun As h x h2 e => by obtain ⟨_, _, rfl, e0⟩ := sR_inv e; obtain ⟨rfl, ez⟩ := sE_inv e0; exact c_X5_howNamed E ez) (fI0_ok E))))))))
def FV_X5_readsSaw : Nat → List Value → AH → Option (AH) := (cx 15 (fun As h => sR As fun a0 As => sE As (p_X5_advance a0 h)) (cx 40 (fun As h => sR As fun a0 As => sI As fun x1 As => sI As fun x2 As => sE As (p_X6_addSight a0 x1 x2 h)) fV0))
theorem FV_X5_readsSaw_ok {l : Launch} {D : va_G} {dA : Nat → ClassId} {z : Nat} {sa : Nat → Nat} {Hz : Heap} (E : StrOK qLen qCh l D dA z sa Hz) : ∀ mi As h h', FV_X5_readsSaw mi As h = some h' → CalOK l D dA z sa Hz (MT mi) As h none h' := (cxV_ok (fun As h h2 e => by obtain ⟨_, _, rfl, e0⟩ := sR_inv e; obtain ⟨rfl, ez⟩ := sE_inv e0; exact c_X5_advance E ez) ((cxV_ok (fun As h h2 e => by obtain ⟨_, _, rfl, e0⟩ := sR_inv e; obtain ⟨_, _, rfl, e1⟩ := sI_inv e0; obtain ⟨_, _, rfl, e2⟩ := sI_inv e1; obtain ⟨rfl, ez⟩ := sE_inv e2; exact c_X6_addSight E ez) (fV0_ok E))))
def I_X5_readsSaw_47 : List AI := [(.aload_n 1, 1, [], 0), (.iload_n 2, 1, [], 0), (.iload_n 3, 1, [], 0), (.invokevirtual 192, 3, [2, 40, 3, 5, 602], 0), (.aload_n 0, 1, [], 0), (.invokevirtual 36, 3, [2, 15, 1, 4, 419], 0), (.iconst 1, 1, [], 1), (.ireturn, 1, [], 0)]
theorem ok_X5_readsSaw_47 : vBL MT qLen qCh false q_X5_readsSaw.2.2.2.2.1 q_X5_readsSaw.2.2.2.2.2.1 q_X5_readsSaw.2.2.1 q_X5_readsSaw.1.cls q_X5_readsSaw.1.name q_X5_readsSaw.2.1 0 47 I_X5_readsSaw_47 = true := by decide +kernel
def p_X5_readsSaw_47 (a0 : Nat) (a1 : Nat) (x2 : Int32) (x3 : Int32) (h : AH) : Option (Int32 × AH) :=
  if (tg h a1).1 = 5 then ((p_X6_addSight a1 x2 x3 h).bind fun h101 =>
  if (tg h101 a0).1 = 4 then ((p_X5_advance a0 h101).bind fun h102 =>
  if ((1 : Int32)) &&& 1 = ((1 : Int32)) then some (((1 : Int32)), h102) else none) else none) else none
set_option maxRecDepth 100000 in
theorem e_X5_readsSaw_47 {l : Launch} {D : va_G} {dA : Nat → ClassId} {z : Nat} {sa : Nat → Nat} {Hz : Heap} (E : StrOK qLen qCh l D dA z sa Hz) {h0 fin : AH} {x : Int32}  : ∀ (a0 : Nat) (a1 : Nat) (x2 : Int32) (x3 : Int32) (h : AH), p_X5_readsSaw_47 a0 a1 x2 x3 h = some (x, fin) → GM l D dA z sa Hz q_X5_readsSaw h0 (some (.int x)) fin 47 [(0, .ref a0), (1, .ref a1), (2, .int x2), (3, .int x3)] [] h := by
  intro a0 a1 x2 x3 h hd
  exact step E (is := I_X5_readsSaw_47) (pc := 47) (K := k0) (FI := FI_X5_readsSaw) (FV := FV_X5_readsSaw) (FL := fL0) (rt := rtZ) (ft := 0) (by exact hd) ok_X5_readsSaw_47 k0_ok (FI_X5_readsSaw_ok E) (FV_X5_readsSaw_ok E) (fL0_ok E) (rtZ_ok rfl)
def I_X5_readsSaw_28 : List AI := [(.aload_n 0, 1, [], 0), (.invokevirtual 36, 3, [2, 15, 1, 4, 419], 0), (.aload_n 0, 1, [], 0), (.invokevirtual 189, 3, [1, 39, 1, 4, 594], 0), (.istore_n 3, 1, [], 0), (.iload_n 3, 1, [], 0), (.ifCond .le 9, 3, [47], 0), (.aload_n 0, 1, [], 0), (.iconst 1, 1, [], 1), (.invokevirtual 46, 3, [1, 17, 2, 4, 494], 0), (.ireturn, 1, [], 0)]
theorem ok_X5_readsSaw_28 : vBL MT qLen qCh false q_X5_readsSaw.2.2.2.2.1 q_X5_readsSaw.2.2.2.2.2.1 q_X5_readsSaw.2.2.1 q_X5_readsSaw.1.cls q_X5_readsSaw.1.name q_X5_readsSaw.2.1 0 28 I_X5_readsSaw_28 = true := by decide +kernel
def p_X5_readsSaw_28 (a0 : Nat) (a1 : Nat) (x2 : Int32) (h : AH) : Option (Int32 × AH) :=
  if (tg h a0).1 = 4 then ((p_X5_advance a0 h).bind fun h103 =>
  if (tg h103 a0).1 = 4 then ((p_X5_howNamed a0 h103).bind fun q104 =>
  if 0 < q104.1 then (if (tg q104.2 a0).1 = 4 then ((p_X5_fails a0 ((1 : Int32)) q104.2).bind fun q107 =>
  if q107.1 &&& 1 = q107.1 then some (q107.1, q107.2) else none) else none)
  else
  if (tg q104.2 a1).1 = 5 then ((p_X6_addSight a1 x2 q104.1 q104.2).bind fun h105 =>
  if (tg h105 a0).1 = 4 then ((p_X5_advance a0 h105).bind fun h106 =>
  if ((1 : Int32)) &&& 1 = ((1 : Int32)) then some (((1 : Int32)), h106) else none) else none) else none) else none) else none
set_option maxRecDepth 100000 in
theorem e_X5_readsSaw_28 {l : Launch} {D : va_G} {dA : Nat → ClassId} {z : Nat} {sa : Nat → Nat} {Hz : Heap} (E : StrOK qLen qCh l D dA z sa Hz) {h0 fin : AH} {x : Int32}  : ∀ (a0 : Nat) (a1 : Nat) (x2 : Int32) (h : AH), p_X5_readsSaw_28 a0 a1 x2 h = some (x, fin) → GM l D dA z sa Hz q_X5_readsSaw h0 (some (.int x)) fin 28 [(0, .ref a0), (1, .ref a1), (2, .int x2)] [] h := by
  intro a0 a1 x2 h hd
  exact step E (is := I_X5_readsSaw_28) (pc := 28) (K := (kx 47 (fun la st h => gR la 0 fun a0 => gR la 1 fun a1 => gI la 2 fun x2 => gI la 3 fun x3 => sE st (p_X5_readsSaw_47 a0 a1 x2 x3 h)) k0)) (FI := FI_X5_readsSaw) (FV := FV_X5_readsSaw) (FL := fL0) (rt := rtZ) (ft := 0) (by exact hd) ok_X5_readsSaw_28 (kx_ok (fun la st h e => by obtain ⟨a0, m_a0, e1⟩ := gR_inv e; obtain ⟨a1, m_a1, e2⟩ := gR_inv e1; obtain ⟨x2, m_x2, e3⟩ := gI_inv e2; obtain ⟨x3, m_x3, e4⟩ := gI_inv e3; obtain ⟨rfl, ez⟩ := sE_inv e4; exact gm_fewer (e_X5_readsSaw_47 E  a0 a1 x2 x3 h ez) (mem_cons m_a0 (mem_cons m_a1 (mem_cons m_x2 (mem_cons m_x3 mem_nil))))) k0_ok) (FI_X5_readsSaw_ok E) (FV_X5_readsSaw_ok E) (fL0_ok E) (rtZ_ok rfl)
def I_X5_readsSaw_9 : List AI := [(.aload_n 0, 1, [], 0), (.getfield 63, 3, [4, 6, 0, 152], 0), (.istore_n 2, 1, [], 0), (.aload_n 1, 1, [], 0), (.iload_n 2, 1, [], 0), (.invokevirtual 186, 3, [1, 38, 2, 5, 590], 0), (.ifCond .eq 9, 3, [28], 0), (.aload_n 0, 1, [], 0), (.iconst 3, 1, [], 3), (.invokevirtual 46, 3, [1, 17, 2, 4, 494], 0), (.ireturn, 1, [], 0)]
theorem ok_X5_readsSaw_9 : vBL MT qLen qCh false q_X5_readsSaw.2.2.2.2.1 q_X5_readsSaw.2.2.2.2.2.1 q_X5_readsSaw.2.2.1 q_X5_readsSaw.1.cls q_X5_readsSaw.1.name q_X5_readsSaw.2.1 0 9 I_X5_readsSaw_9 = true := by decide +kernel
def p_X5_readsSaw_9 (a0 : Nat) (a1 : Nat) (h : AH) : Option (Int32 × AH) :=
  if (tg h a0).1 = 4 then (let x108 := rI h a0 6
  if (tg h a1).1 = 5 then ((p_X6_sighted a1 x108 h).bind fun q109 =>
  if q109.1 = 0 then (if (tg q109.2 a0).1 = 4 then ((p_X5_advance a0 q109.2).bind fun h110 =>
  if (tg h110 a0).1 = 4 then ((p_X5_howNamed a0 h110).bind fun q111 =>
  if 0 < q111.1 then (if (tg q111.2 a0).1 = 4 then ((p_X5_fails a0 ((1 : Int32)) q111.2).bind fun q114 =>
  if q114.1 &&& 1 = q114.1 then some (q114.1, q114.2) else none) else none)
  else
  if (tg q111.2 a1).1 = 5 then ((p_X6_addSight a1 x108 q111.1 q111.2).bind fun h112 =>
  if (tg h112 a0).1 = 4 then ((p_X5_advance a0 h112).bind fun h113 =>
  if ((1 : Int32)) &&& 1 = ((1 : Int32)) then some (((1 : Int32)), h113) else none) else none) else none) else none) else none)
  else
  if (tg q109.2 a0).1 = 4 then ((p_X5_fails a0 ((3 : Int32)) q109.2).bind fun q115 =>
  if q115.1 &&& 1 = q115.1 then some (q115.1, q115.2) else none) else none) else none) else none
set_option maxRecDepth 100000 in
theorem e_X5_readsSaw_9 {l : Launch} {D : va_G} {dA : Nat → ClassId} {z : Nat} {sa : Nat → Nat} {Hz : Heap} (E : StrOK qLen qCh l D dA z sa Hz) {h0 fin : AH} {x : Int32}  : ∀ (a0 : Nat) (a1 : Nat) (h : AH), p_X5_readsSaw_9 a0 a1 h = some (x, fin) → GM l D dA z sa Hz q_X5_readsSaw h0 (some (.int x)) fin 9 [(0, .ref a0), (1, .ref a1)] [] h := by
  intro a0 a1 h hd
  exact step E (is := I_X5_readsSaw_9) (pc := 9) (K := (kx 28 (fun la st h => gR la 0 fun a0 => gR la 1 fun a1 => gI la 2 fun x2 => sE st (p_X5_readsSaw_28 a0 a1 x2 h)) k0)) (FI := FI_X5_readsSaw) (FV := FV_X5_readsSaw) (FL := fL0) (rt := rtZ) (ft := 0) (by exact hd) ok_X5_readsSaw_9 (kx_ok (fun la st h e => by obtain ⟨a0, m_a0, e1⟩ := gR_inv e; obtain ⟨a1, m_a1, e2⟩ := gR_inv e1; obtain ⟨x2, m_x2, e3⟩ := gI_inv e2; obtain ⟨rfl, ez⟩ := sE_inv e3; exact gm_fewer (e_X5_readsSaw_28 E  a0 a1 x2 h ez) (mem_cons m_a0 (mem_cons m_a1 (mem_cons m_x2 mem_nil)))) k0_ok) (FI_X5_readsSaw_ok E) (FV_X5_readsSaw_ok E) (fL0_ok E) (rtZ_ok rfl)
def I_X5_readsSaw_0 : List AI := [(.aload_n 0, 1, [], 0), (.invokevirtual 178, 3, [1, 35, 1, 4, 570], 0), (.ifCond .ne 5, 3, [9], 0), (.iconst 0, 1, [], 0), (.ireturn, 1, [], 0)]
theorem ok_X5_readsSaw_0 : vBL MT qLen qCh false q_X5_readsSaw.2.2.2.2.1 q_X5_readsSaw.2.2.2.2.2.1 q_X5_readsSaw.2.2.1 q_X5_readsSaw.1.cls q_X5_readsSaw.1.name q_X5_readsSaw.2.1 0 0 I_X5_readsSaw_0 = true := by decide +kernel
def p_X5_readsSaw (a0 : Nat) (a1 : Nat) (h : AH) : Option (Int32 × AH) :=
  if (tg h a0).1 = 4 then ((p_X5_isWay a0 h).bind fun q116 =>
  if q116.1 = 0 then (if ((0 : Int32)) &&& 1 = ((0 : Int32)) then some (((0 : Int32)), q116.2) else none)
  else
  if (tg q116.2 a0).1 = 4 then (let x117 := rI q116.2 a0 6
  if (tg q116.2 a1).1 = 5 then ((p_X6_sighted a1 x117 q116.2).bind fun q118 =>
  if q118.1 = 0 then (if (tg q118.2 a0).1 = 4 then ((p_X5_advance a0 q118.2).bind fun h119 =>
  if (tg h119 a0).1 = 4 then ((p_X5_howNamed a0 h119).bind fun q120 =>
  if 0 < q120.1 then (if (tg q120.2 a0).1 = 4 then ((p_X5_fails a0 ((1 : Int32)) q120.2).bind fun q123 =>
  if q123.1 &&& 1 = q123.1 then some (q123.1, q123.2) else none) else none)
  else
  if (tg q120.2 a1).1 = 5 then ((p_X6_addSight a1 x117 q120.1 q120.2).bind fun h121 =>
  if (tg h121 a0).1 = 4 then ((p_X5_advance a0 h121).bind fun h122 =>
  if ((1 : Int32)) &&& 1 = ((1 : Int32)) then some (((1 : Int32)), h122) else none) else none) else none) else none) else none)
  else
  if (tg q118.2 a0).1 = 4 then ((p_X5_fails a0 ((3 : Int32)) q118.2).bind fun q124 =>
  if q124.1 &&& 1 = q124.1 then some (q124.1, q124.2) else none) else none) else none) else none) else none
set_option maxRecDepth 100000 in
theorem e_X5_readsSaw_0 {l : Launch} {D : va_G} {dA : Nat → ClassId} {z : Nat} {sa : Nat → Nat} {Hz : Heap} (E : StrOK qLen qCh l D dA z sa Hz) {h0 fin : AH} {x : Int32}  : ∀ (a0 : Nat) (a1 : Nat) (h : AH), p_X5_readsSaw a0 a1 h = some (x, fin) → GM l D dA z sa Hz q_X5_readsSaw h0 (some (.int x)) fin 0 [(0, .ref a0), (1, .ref a1)] [] h := by
  intro a0 a1 h hd
  exact step E (is := I_X5_readsSaw_0) (pc := 0) (K := (kx 9 (fun la st h => gR la 0 fun a0 => gR la 1 fun a1 => sE st (p_X5_readsSaw_9 a0 a1 h)) k0)) (FI := FI_X5_readsSaw) (FV := FV_X5_readsSaw) (FL := fL0) (rt := rtZ) (ft := 0) (by exact hd) ok_X5_readsSaw_0 (kx_ok (fun la st h e => by obtain ⟨a0, m_a0, e1⟩ := gR_inv e; obtain ⟨a1, m_a1, e2⟩ := gR_inv e1; obtain ⟨rfl, ez⟩ := sE_inv e2; exact gm_fewer (e_X5_readsSaw_9 E  a0 a1 h ez) (mem_cons m_a0 (mem_cons m_a1 mem_nil))) k0_ok) (FI_X5_readsSaw_ok E) (FV_X5_readsSaw_ok E) (fL0_ok E) (rtZ_ok rfl)
theorem c_X5_readsSaw {l : Launch} {D : va_G} {dA : Nat → ClassId} {z : Nat} {sa : Nat → Nat} {Hz : Heap} (E : StrOK qLen qCh l D dA z sa Hz) {a0 : Nat} {a1 : Nat} {h fin : AH} {x : Int32} (hd : p_X5_readsSaw a0 a1 h = some (x, fin)) : CalOK l D dA z sa Hz q_X5_readsSaw [.ref a0, .ref a1] h (some (.int x)) fin := calOf (by decide +kernel) (Nat.le_of_ble_eq_true rfl) (e_X5_readsSaw_0 E a0 a1 h hd)
def FI_X5_readsLine : Nat → List Value → AH → Option (Int32 × AH) := (cx 16 (fun As h => sR As fun a0 As => sT As fun t1 As => sE As (p_X5_isName a0 t1 h)) (cx 19 (fun As h => sR As fun a0 As => sR As fun a1 As => sE As (p_X5_readsMachine a0 a1 h)) (cx 20 (fun As h => sR As fun a0 As => sE As (p_X5_lineSort a0 h)) (cx 17 (fun As h => sR As fun a0 As => sI As fun x1 As => sE As (p_X5_fails a0 x1 h)) (cx 21 (fun As h => sR As fun a0 As => sI As fun x1 As => sE As (p_X5_isFull a0 x1 h)) (cx 26 (fun As h => sR As fun a0 As => sR As fun a1 As => sE As (p_X5_readsHost a0 a1 h)) (cx 33 (fun As h => sR As fun a0 As => sR As fun a1 As => sI As fun x2 As => sE As (p_X5_readsWord a0 a1 x2 h)) (cx 37 (fun As h => sR As fun a0 As => sR As fun a1 As => sE As (p_X5_readsRun a0 a1 h)) (cx 41 (fun As h => sR As fun a0 As => sR As fun a1 As => sE As (p_X5_readsSaw a0 a1 h)) fI0)))))))))
theorem FI_X5_readsLine_ok {l : Launch} {D : va_G} {dA : Nat → ClassId} {z : Nat} {sa : Nat → Nat} {Hz : Heap} (E : StrOK qLen qCh l D dA z sa Hz) : ∀ mi As h x h', FI_X5_readsLine mi As h = some (x, h') → CalOK l D dA z sa Hz (MT mi) As h (some (.int x)) h' := (cxI_ok (fun As h x h2 e => by obtain ⟨_, _, rfl, e0⟩ := sR_inv e; obtain ⟨_, _, rfl, e1⟩ := sT_inv e0; obtain ⟨rfl, ez⟩ := sE_inv e1; exact c_X5_isName E ez) ((cxI_ok (fun As h x h2 e => by obtain ⟨_, _, rfl, e0⟩ := sR_inv e; obtain ⟨_, _, rfl, e1⟩ := sR_inv e0; obtain ⟨rfl, ez⟩ := sE_inv e1; exact c_X5_readsMachine E ez) ((cxI_ok (fun As h x h2 e => by obtain ⟨_, _, rfl, e0⟩ := sR_inv e; obtain ⟨rfl, ez⟩ := sE_inv e0; exact c_X5_lineSort E ez) ((cxI_ok (fun As h x h2 e => by obtain ⟨_, _, rfl, e0⟩ := sR_inv e; obtain ⟨_, _, rfl, e1⟩ := sI_inv e0; obtain ⟨rfl, ez⟩ := sE_inv e1; exact c_X5_fails E ez) ((cxI_ok (fun As h x h2 e => by obtain ⟨_, _, rfl, e0⟩ := sR_inv e; obtain ⟨_, _, rfl, e1⟩ := sI_inv e0; obtain ⟨rfl, ez⟩ := sE_inv e1; exact c_X5_isFull E ez) ((cxI_ok (fun As h x h2 e => by obtain ⟨_, _, rfl, e0⟩ := sR_inv e; obtain ⟨_, _, rfl, e1⟩ := sR_inv e0; obtain ⟨rfl, ez⟩ := sE_inv e1; exact c_X5_readsHost E ez) ((cxI_ok (fun As h x h2 e => by obtain ⟨_, _, rfl, e0⟩ := sR_inv e; obtain ⟨_, _, rfl, e1⟩ := sR_inv e0; obtain ⟨_, _, rfl, e2⟩ := sI_inv e1; obtain ⟨rfl, ez⟩ := sE_inv e2; exact c_X5_readsWord E ez) ((cxI_ok (fun As h x h2 e => by obtain ⟨_, _, rfl, e0⟩ := sR_inv e; obtain ⟨_, _, rfl, e1⟩ := sR_inv e0; obtain ⟨rfl, ez⟩ := sE_inv e1; exact c_X5_readsRun E ez) ((cxI_ok (fun As h x h2 e => by obtain ⟨_, _, rfl, e0⟩ := sR_inv e; obtain ⟨_, _, rfl, e1⟩ := sR_inv e0; obtain ⟨rfl, ez⟩ := sE_inv e1; exact c_X5_readsSaw E ez) (fI0_ok E))))))))))))))))))
def FV_X5_readsLine : Nat → List Value → AH → Option (AH) := (cx 15 (fun As h => sR As fun a0 As => sE As (p_X5_advance a0 h)) fV0)
theorem FV_X5_readsLine_ok {l : Launch} {D : va_G} {dA : Nat → ClassId} {z : Nat} {sa : Nat → Nat} {Hz : Heap} (E : StrOK qLen qCh l D dA z sa Hz) : ∀ mi As h h', FV_X5_readsLine mi As h = some h' → CalOK l D dA z sa Hz (MT mi) As h none h' := (cxV_ok (fun As h h2 e => by obtain ⟨_, _, rfl, e0⟩ := sR_inv e; obtain ⟨rfl, ez⟩ := sE_inv e0; exact c_X5_advance E ez) (fV0_ok E))
def I_X5_readsLine_118 : List AI := [(.aload_n 0, 1, [], 0), (.aload_n 1, 1, [], 0), (.invokevirtual 104, 3, [1, 41, 2, 4, 586], 0), (.ireturn, 1, [], 0)]
theorem ok_X5_readsLine_118 : vBL MT qLen qCh false q_X5_readsLine.2.2.2.2.1 q_X5_readsLine.2.2.2.2.2.1 q_X5_readsLine.2.2.1 q_X5_readsLine.1.cls q_X5_readsLine.1.name q_X5_readsLine.2.1 0 118 I_X5_readsLine_118 = true := by decide +kernel
def p_X5_readsLine_118 (a0 : Nat) (a1 : Nat) (h : AH) : Option (Int32 × AH) :=
  if (tg h a0).1 = 4 then ((p_X5_readsSaw a0 a1 h).bind fun q101 =>
  if q101.1 &&& 1 = q101.1 then some (q101.1, q101.2) else none) else none
set_option maxRecDepth 100000 in
theorem e_X5_readsLine_118 {l : Launch} {D : va_G} {dA : Nat → ClassId} {z : Nat} {sa : Nat → Nat} {Hz : Heap} (E : StrOK qLen qCh l D dA z sa Hz) {h0 fin : AH} {x : Int32}  : ∀ (a0 : Nat) (a1 : Nat) (h : AH), p_X5_readsLine_118 a0 a1 h = some (x, fin) → GM l D dA z sa Hz q_X5_readsLine h0 (some (.int x)) fin 118 [(0, .ref a0), (1, .ref a1)] [] h := by
  intro a0 a1 h hd
  exact step E (is := I_X5_readsLine_118) (pc := 118) (K := k0) (FI := FI_X5_readsLine) (FV := FV_X5_readsLine) (FL := fL0) (rt := rtZ) (ft := 0) (by exact hd) ok_X5_readsLine_118 k0_ok (FI_X5_readsLine_ok E) (FV_X5_readsLine_ok E) (fL0_ok E) (rtZ_ok rfl)
def I_X5_readsLine_92 : List AI := [(.aload_n 0, 1, [], 0), (.aload_n 1, 1, [], 0), (.invokevirtual 94, 3, [1, 26, 2, 4, 516], 0), (.ireturn, 1, [], 0)]
theorem ok_X5_readsLine_92 : vBL MT qLen qCh false q_X5_readsLine.2.2.2.2.1 q_X5_readsLine.2.2.2.2.2.1 q_X5_readsLine.2.2.1 q_X5_readsLine.1.cls q_X5_readsLine.1.name q_X5_readsLine.2.1 0 92 I_X5_readsLine_92 = true := by decide +kernel
def p_X5_readsLine_92 (a0 : Nat) (a1 : Nat) (h : AH) : Option (Int32 × AH) :=
  if (tg h a0).1 = 4 then ((p_X5_readsHost a0 a1 h).bind fun q102 =>
  if q102.1 &&& 1 = q102.1 then some (q102.1, q102.2) else none) else none
set_option maxRecDepth 100000 in
theorem e_X5_readsLine_92 {l : Launch} {D : va_G} {dA : Nat → ClassId} {z : Nat} {sa : Nat → Nat} {Hz : Heap} (E : StrOK qLen qCh l D dA z sa Hz) {h0 fin : AH} {x : Int32}  : ∀ (a0 : Nat) (a1 : Nat) (h : AH), p_X5_readsLine_92 a0 a1 h = some (x, fin) → GM l D dA z sa Hz q_X5_readsLine h0 (some (.int x)) fin 92 [(0, .ref a0), (1, .ref a1)] [] h := by
  intro a0 a1 h hd
  exact step E (is := I_X5_readsLine_92) (pc := 92) (K := k0) (FI := FI_X5_readsLine) (FV := FV_X5_readsLine) (FL := fL0) (rt := rtZ) (ft := 0) (by exact hd) ok_X5_readsLine_92 k0_ok (FI_X5_readsLine_ok E) (FV_X5_readsLine_ok E) (fL0_ok E) (rtZ_ok rfl)
def I_X5_readsLine_98 : List AI := [(.aload_n 0, 1, [], 0), (.aload_n 1, 1, [], 0), (.iconst 1, 1, [], 1), (.invokevirtual 97, 3, [1, 33, 3, 4, 538], 0), (.ireturn, 1, [], 0)]
theorem ok_X5_readsLine_98 : vBL MT qLen qCh false q_X5_readsLine.2.2.2.2.1 q_X5_readsLine.2.2.2.2.2.1 q_X5_readsLine.2.2.1 q_X5_readsLine.1.cls q_X5_readsLine.1.name q_X5_readsLine.2.1 0 98 I_X5_readsLine_98 = true := by decide +kernel
def p_X5_readsLine_98 (a0 : Nat) (a1 : Nat) (h : AH) : Option (Int32 × AH) :=
  if (tg h a0).1 = 4 then ((p_X5_readsWord a0 a1 ((1 : Int32)) h).bind fun q103 =>
  if q103.1 &&& 1 = q103.1 then some (q103.1, q103.2) else none) else none
set_option maxRecDepth 100000 in
theorem e_X5_readsLine_98 {l : Launch} {D : va_G} {dA : Nat → ClassId} {z : Nat} {sa : Nat → Nat} {Hz : Heap} (E : StrOK qLen qCh l D dA z sa Hz) {h0 fin : AH} {x : Int32}  : ∀ (a0 : Nat) (a1 : Nat) (h : AH), p_X5_readsLine_98 a0 a1 h = some (x, fin) → GM l D dA z sa Hz q_X5_readsLine h0 (some (.int x)) fin 98 [(0, .ref a0), (1, .ref a1)] [] h := by
  intro a0 a1 h hd
  exact step E (is := I_X5_readsLine_98) (pc := 98) (K := k0) (FI := FI_X5_readsLine) (FV := FV_X5_readsLine) (FL := fL0) (rt := rtZ) (ft := 0) (by exact hd) ok_X5_readsLine_98 k0_ok (FI_X5_readsLine_ok E) (FV_X5_readsLine_ok E) (fL0_ok E) (rtZ_ok rfl)
def I_X5_readsLine_105 : List AI := [(.aload_n 0, 1, [], 0), (.aload_n 1, 1, [], 0), (.invokevirtual 101, 3, [1, 37, 2, 4, 566], 0), (.ireturn, 1, [], 0)]
theorem ok_X5_readsLine_105 : vBL MT qLen qCh false q_X5_readsLine.2.2.2.2.1 q_X5_readsLine.2.2.2.2.2.1 q_X5_readsLine.2.2.1 q_X5_readsLine.1.cls q_X5_readsLine.1.name q_X5_readsLine.2.1 0 105 I_X5_readsLine_105 = true := by decide +kernel
def p_X5_readsLine_105 (a0 : Nat) (a1 : Nat) (h : AH) : Option (Int32 × AH) :=
  if (tg h a0).1 = 4 then ((p_X5_readsRun a0 a1 h).bind fun q104 =>
  if q104.1 &&& 1 = q104.1 then some (q104.1, q104.2) else none) else none
set_option maxRecDepth 100000 in
theorem e_X5_readsLine_105 {l : Launch} {D : va_G} {dA : Nat → ClassId} {z : Nat} {sa : Nat → Nat} {Hz : Heap} (E : StrOK qLen qCh l D dA z sa Hz) {h0 fin : AH} {x : Int32}  : ∀ (a0 : Nat) (a1 : Nat) (h : AH), p_X5_readsLine_105 a0 a1 h = some (x, fin) → GM l D dA z sa Hz q_X5_readsLine h0 (some (.int x)) fin 105 [(0, .ref a0), (1, .ref a1)] [] h := by
  intro a0 a1 h hd
  exact step E (is := I_X5_readsLine_105) (pc := 105) (K := k0) (FI := FI_X5_readsLine) (FV := FV_X5_readsLine) (FL := fL0) (rt := rtZ) (ft := 0) (by exact hd) ok_X5_readsLine_105 k0_ok (FI_X5_readsLine_ok E) (FV_X5_readsLine_ok E) (fL0_ok E) (rtZ_ok rfl)
def I_X5_readsLine_111 : List AI := [(.aload_n 0, 1, [], 0), (.aload_n 1, 1, [], 0), (.iconst 0, 1, [], 0), (.invokevirtual 97, 3, [1, 33, 3, 4, 538], 0), (.ireturn, 1, [], 0)]
theorem ok_X5_readsLine_111 : vBL MT qLen qCh false q_X5_readsLine.2.2.2.2.1 q_X5_readsLine.2.2.2.2.2.1 q_X5_readsLine.2.2.1 q_X5_readsLine.1.cls q_X5_readsLine.1.name q_X5_readsLine.2.1 0 111 I_X5_readsLine_111 = true := by decide +kernel
def p_X5_readsLine_111 (a0 : Nat) (a1 : Nat) (h : AH) : Option (Int32 × AH) :=
  if (tg h a0).1 = 4 then ((p_X5_readsWord a0 a1 ((0 : Int32)) h).bind fun q105 =>
  if q105.1 &&& 1 = q105.1 then some (q105.1, q105.2) else none) else none
set_option maxRecDepth 100000 in
theorem e_X5_readsLine_111 {l : Launch} {D : va_G} {dA : Nat → ClassId} {z : Nat} {sa : Nat → Nat} {Hz : Heap} (E : StrOK qLen qCh l D dA z sa Hz) {h0 fin : AH} {x : Int32}  : ∀ (a0 : Nat) (a1 : Nat) (h : AH), p_X5_readsLine_111 a0 a1 h = some (x, fin) → GM l D dA z sa Hz q_X5_readsLine h0 (some (.int x)) fin 111 [(0, .ref a0), (1, .ref a1)] [] h := by
  intro a0 a1 h hd
  exact step E (is := I_X5_readsLine_111) (pc := 111) (K := k0) (FI := FI_X5_readsLine) (FV := FV_X5_readsLine) (FL := fL0) (rt := rtZ) (ft := 0) (by exact hd) ok_X5_readsLine_111 k0_ok (FI_X5_readsLine_ok E) (FV_X5_readsLine_ok E) (fL0_ok E) (rtZ_ok rfl)
def I_X5_readsLine_58 : List AI := [(.aload_n 0, 1, [], 0), (.invokevirtual 36, 3, [2, 15, 1, 4, 419], 0), (.iload_n 2, 1, [], 0), (.tableswitch 55 1 4 #[29, 35, 42, 48], 29, [118, 92, 98, 105, 111], 0)]
theorem ok_X5_readsLine_58 : vBL MT qLen qCh false q_X5_readsLine.2.2.2.2.1 q_X5_readsLine.2.2.2.2.2.1 q_X5_readsLine.2.2.1 q_X5_readsLine.1.cls q_X5_readsLine.1.name q_X5_readsLine.2.1 0 58 I_X5_readsLine_58 = true := by decide +kernel
def p_X5_readsLine_58 (a0 : Nat) (a1 : Nat) (x2 : Int32) (h : AH) : Option (Int32 × AH) :=
  if (tg h a0).1 = 4 then ((p_X5_advance a0 h).bind fun h106 =>
  if swT 1 4 [118, 92, 98, 105, 111] x2 = 118 then (if (tg h106 a0).1 = 4 then ((p_X5_readsSaw a0 a1 h106).bind fun q111 =>
  if q111.1 &&& 1 = q111.1 then some (q111.1, q111.2) else none) else none)
  else
  if swT 1 4 [118, 92, 98, 105, 111] x2 = 92 then (if (tg h106 a0).1 = 4 then ((p_X5_readsHost a0 a1 h106).bind fun q110 =>
  if q110.1 &&& 1 = q110.1 then some (q110.1, q110.2) else none) else none)
  else
  if swT 1 4 [118, 92, 98, 105, 111] x2 = 98 then (if (tg h106 a0).1 = 4 then ((p_X5_readsWord a0 a1 ((1 : Int32)) h106).bind fun q109 =>
  if q109.1 &&& 1 = q109.1 then some (q109.1, q109.2) else none) else none)
  else
  if swT 1 4 [118, 92, 98, 105, 111] x2 = 105 then (if (tg h106 a0).1 = 4 then ((p_X5_readsRun a0 a1 h106).bind fun q108 =>
  if q108.1 &&& 1 = q108.1 then some (q108.1, q108.2) else none) else none)
  else
  if swT 1 4 [118, 92, 98, 105, 111] x2 = 111 then (if (tg h106 a0).1 = 4 then ((p_X5_readsWord a0 a1 ((0 : Int32)) h106).bind fun q107 =>
  if q107.1 &&& 1 = q107.1 then some (q107.1, q107.2) else none) else none)
  else
  none) else none
set_option maxRecDepth 100000 in
theorem e_X5_readsLine_58 {l : Launch} {D : va_G} {dA : Nat → ClassId} {z : Nat} {sa : Nat → Nat} {Hz : Heap} (E : StrOK qLen qCh l D dA z sa Hz) {h0 fin : AH} {x : Int32}  : ∀ (a0 : Nat) (a1 : Nat) (x2 : Int32) (h : AH), p_X5_readsLine_58 a0 a1 x2 h = some (x, fin) → GM l D dA z sa Hz q_X5_readsLine h0 (some (.int x)) fin 58 [(0, .ref a0), (1, .ref a1), (2, .int x2)] [] h := by
  intro a0 a1 x2 h hd
  exact step E (is := I_X5_readsLine_58) (pc := 58) (K := (kx 118 (fun la st h => gR la 0 fun a0 => gR la 1 fun a1 => sE st (p_X5_readsLine_118 a0 a1 h)) (kx 92 (fun la st h => gR la 0 fun a0 => gR la 1 fun a1 => sE st (p_X5_readsLine_92 a0 a1 h)) (kx 98 (fun la st h => gR la 0 fun a0 => gR la 1 fun a1 => sE st (p_X5_readsLine_98 a0 a1 h)) (kx 105 (fun la st h => gR la 0 fun a0 => gR la 1 fun a1 => sE st (p_X5_readsLine_105 a0 a1 h)) (kx 111 (fun la st h => gR la 0 fun a0 => gR la 1 fun a1 => sE st (p_X5_readsLine_111 a0 a1 h)) k0)))))) (FI := FI_X5_readsLine) (FV := FV_X5_readsLine) (FL := fL0) (rt := rtZ) (ft := 0) (by exact hd) ok_X5_readsLine_58 (kx_ok (fun la st h e => by obtain ⟨a0, m_a0, e1⟩ := gR_inv e; obtain ⟨a1, m_a1, e2⟩ := gR_inv e1; obtain ⟨rfl, ez⟩ := sE_inv e2; exact gm_fewer (e_X5_readsLine_118 E  a0 a1 h ez) (mem_cons m_a0 (mem_cons m_a1 mem_nil))) (kx_ok (fun la st h e => by obtain ⟨a0, m_a0, e1⟩ := gR_inv e; obtain ⟨a1, m_a1, e2⟩ := gR_inv e1; obtain ⟨rfl, ez⟩ := sE_inv e2; exact gm_fewer (e_X5_readsLine_92 E  a0 a1 h ez) (mem_cons m_a0 (mem_cons m_a1 mem_nil))) (kx_ok (fun la st h e => by obtain ⟨a0, m_a0, e1⟩ := gR_inv e; obtain ⟨a1, m_a1, e2⟩ := gR_inv e1; obtain ⟨rfl, ez⟩ := sE_inv e2; exact gm_fewer (e_X5_readsLine_98 E  a0 a1 h ez) (mem_cons m_a0 (mem_cons m_a1 mem_nil))) (kx_ok (fun la st h e => by obtain ⟨a0, m_a0, e1⟩ := gR_inv e; obtain ⟨a1, m_a1, e2⟩ := gR_inv e1; obtain ⟨rfl, ez⟩ := sE_inv e2; exact gm_fewer (e_X5_readsLine_105 E  a0 a1 h ez) (mem_cons m_a0 (mem_cons m_a1 mem_nil))) (kx_ok (fun la st h e => by obtain ⟨a0, m_a0, e1⟩ := gR_inv e; obtain ⟨a1, m_a1, e2⟩ := gR_inv e1; obtain ⟨rfl, ez⟩ := sE_inv e2; exact gm_fewer (e_X5_readsLine_111 E  a0 a1 h ez) (mem_cons m_a0 (mem_cons m_a1 mem_nil))) k0_ok))))) (FI_X5_readsLine_ok E) (FV_X5_readsLine_ok E) (fL0_ok E) (rtZ_ok rfl)
def I_X5_readsLine_44 : List AI := [(.aload_n 1, 1, [], 0), (.iload_n 2, 1, [], 0), (.invokestatic 90, 3, [1, 21, 2, 513], 0), (.ifCond .eq 9, 3, [58], 0), (.aload_n 0, 1, [], 0), (.iconst 5, 1, [], 5), (.invokevirtual 46, 3, [1, 17, 2, 4, 494], 0), (.ireturn, 1, [], 0)]
theorem ok_X5_readsLine_44 : vBL MT qLen qCh false q_X5_readsLine.2.2.2.2.1 q_X5_readsLine.2.2.2.2.2.1 q_X5_readsLine.2.2.1 q_X5_readsLine.1.cls q_X5_readsLine.1.name q_X5_readsLine.2.1 0 44 I_X5_readsLine_44 = true := by decide +kernel
def p_X5_readsLine_44 (a0 : Nat) (a1 : Nat) (x2 : Int32) (h : AH) : Option (Int32 × AH) :=
  (p_X5_isFull a1 x2 h).bind fun q112 =>
  if q112.1 = 0 then (if (tg q112.2 a0).1 = 4 then ((p_X5_advance a0 q112.2).bind fun h113 =>
  if swT 1 4 [118, 92, 98, 105, 111] x2 = 118 then (if (tg h113 a0).1 = 4 then ((p_X5_readsSaw a0 a1 h113).bind fun q118 =>
  if q118.1 &&& 1 = q118.1 then some (q118.1, q118.2) else none) else none)
  else
  if swT 1 4 [118, 92, 98, 105, 111] x2 = 92 then (if (tg h113 a0).1 = 4 then ((p_X5_readsHost a0 a1 h113).bind fun q117 =>
  if q117.1 &&& 1 = q117.1 then some (q117.1, q117.2) else none) else none)
  else
  if swT 1 4 [118, 92, 98, 105, 111] x2 = 98 then (if (tg h113 a0).1 = 4 then ((p_X5_readsWord a0 a1 ((1 : Int32)) h113).bind fun q116 =>
  if q116.1 &&& 1 = q116.1 then some (q116.1, q116.2) else none) else none)
  else
  if swT 1 4 [118, 92, 98, 105, 111] x2 = 105 then (if (tg h113 a0).1 = 4 then ((p_X5_readsRun a0 a1 h113).bind fun q115 =>
  if q115.1 &&& 1 = q115.1 then some (q115.1, q115.2) else none) else none)
  else
  if swT 1 4 [118, 92, 98, 105, 111] x2 = 111 then (if (tg h113 a0).1 = 4 then ((p_X5_readsWord a0 a1 ((0 : Int32)) h113).bind fun q114 =>
  if q114.1 &&& 1 = q114.1 then some (q114.1, q114.2) else none) else none)
  else
  none) else none)
  else
  if (tg q112.2 a0).1 = 4 then ((p_X5_fails a0 ((5 : Int32)) q112.2).bind fun q119 =>
  if q119.1 &&& 1 = q119.1 then some (q119.1, q119.2) else none) else none
set_option maxRecDepth 100000 in
theorem e_X5_readsLine_44 {l : Launch} {D : va_G} {dA : Nat → ClassId} {z : Nat} {sa : Nat → Nat} {Hz : Heap} (E : StrOK qLen qCh l D dA z sa Hz) {h0 fin : AH} {x : Int32}  : ∀ (a0 : Nat) (a1 : Nat) (x2 : Int32) (h : AH), p_X5_readsLine_44 a0 a1 x2 h = some (x, fin) → GM l D dA z sa Hz q_X5_readsLine h0 (some (.int x)) fin 44 [(0, .ref a0), (1, .ref a1), (2, .int x2)] [] h := by
  intro a0 a1 x2 h hd
  exact step E (is := I_X5_readsLine_44) (pc := 44) (K := (kx 58 (fun la st h => gR la 0 fun a0 => gR la 1 fun a1 => gI la 2 fun x2 => sE st (p_X5_readsLine_58 a0 a1 x2 h)) k0)) (FI := FI_X5_readsLine) (FV := FV_X5_readsLine) (FL := fL0) (rt := rtZ) (ft := 0) (by exact hd) ok_X5_readsLine_44 (kx_ok (fun la st h e => by obtain ⟨a0, m_a0, e1⟩ := gR_inv e; obtain ⟨a1, m_a1, e2⟩ := gR_inv e1; obtain ⟨x2, m_x2, e3⟩ := gI_inv e2; obtain ⟨rfl, ez⟩ := sE_inv e3; exact gm_fewer (e_X5_readsLine_58 E  a0 a1 x2 h ez) (mem_cons m_a0 (mem_cons m_a1 (mem_cons m_x2 mem_nil)))) k0_ok) (FI_X5_readsLine_ok E) (FV_X5_readsLine_ok E) (fL0_ok E) (rtZ_ok rfl)
def I_X5_readsLine_30 : List AI := [(.aload_n 1, 1, [], 0), (.getfield 87, 3, [5, 1, 0, 215], 0), (.ifCond .ne 10, 3, [44], 0), (.aload_n 0, 1, [], 0), (.bipush 6, 2, [], 6), (.invokevirtual 46, 3, [1, 17, 2, 4, 494], 0), (.ireturn, 1, [], 0)]
theorem ok_X5_readsLine_30 : vBL MT qLen qCh false q_X5_readsLine.2.2.2.2.1 q_X5_readsLine.2.2.2.2.2.1 q_X5_readsLine.2.2.1 q_X5_readsLine.1.cls q_X5_readsLine.1.name q_X5_readsLine.2.1 0 30 I_X5_readsLine_30 = true := by decide +kernel
def p_X5_readsLine_30 (a0 : Nat) (a1 : Nat) (x2 : Int32) (h : AH) : Option (Int32 × AH) :=
  if (tg h a1).1 = 5 then (if (rI h a1 1) = 0 then (if (tg h a0).1 = 4 then ((p_X5_fails a0 ((6 : Int32)) h).bind fun q128 =>
  if q128.1 &&& 1 = q128.1 then some (q128.1, q128.2) else none) else none)
  else
  (p_X5_isFull a1 x2 h).bind fun q120 =>
  if q120.1 = 0 then (if (tg q120.2 a0).1 = 4 then ((p_X5_advance a0 q120.2).bind fun h121 =>
  if swT 1 4 [118, 92, 98, 105, 111] x2 = 118 then (if (tg h121 a0).1 = 4 then ((p_X5_readsSaw a0 a1 h121).bind fun q126 =>
  if q126.1 &&& 1 = q126.1 then some (q126.1, q126.2) else none) else none)
  else
  if swT 1 4 [118, 92, 98, 105, 111] x2 = 92 then (if (tg h121 a0).1 = 4 then ((p_X5_readsHost a0 a1 h121).bind fun q125 =>
  if q125.1 &&& 1 = q125.1 then some (q125.1, q125.2) else none) else none)
  else
  if swT 1 4 [118, 92, 98, 105, 111] x2 = 98 then (if (tg h121 a0).1 = 4 then ((p_X5_readsWord a0 a1 ((1 : Int32)) h121).bind fun q124 =>
  if q124.1 &&& 1 = q124.1 then some (q124.1, q124.2) else none) else none)
  else
  if swT 1 4 [118, 92, 98, 105, 111] x2 = 105 then (if (tg h121 a0).1 = 4 then ((p_X5_readsRun a0 a1 h121).bind fun q123 =>
  if q123.1 &&& 1 = q123.1 then some (q123.1, q123.2) else none) else none)
  else
  if swT 1 4 [118, 92, 98, 105, 111] x2 = 111 then (if (tg h121 a0).1 = 4 then ((p_X5_readsWord a0 a1 ((0 : Int32)) h121).bind fun q122 =>
  if q122.1 &&& 1 = q122.1 then some (q122.1, q122.2) else none) else none)
  else
  none) else none)
  else
  if (tg q120.2 a0).1 = 4 then ((p_X5_fails a0 ((5 : Int32)) q120.2).bind fun q127 =>
  if q127.1 &&& 1 = q127.1 then some (q127.1, q127.2) else none) else none) else none
set_option maxRecDepth 100000 in
theorem e_X5_readsLine_30 {l : Launch} {D : va_G} {dA : Nat → ClassId} {z : Nat} {sa : Nat → Nat} {Hz : Heap} (E : StrOK qLen qCh l D dA z sa Hz) {h0 fin : AH} {x : Int32}  : ∀ (a0 : Nat) (a1 : Nat) (x2 : Int32) (h : AH), p_X5_readsLine_30 a0 a1 x2 h = some (x, fin) → GM l D dA z sa Hz q_X5_readsLine h0 (some (.int x)) fin 30 [(0, .ref a0), (1, .ref a1), (2, .int x2)] [] h := by
  intro a0 a1 x2 h hd
  exact step E (is := I_X5_readsLine_30) (pc := 30) (K := (kx 44 (fun la st h => gR la 0 fun a0 => gR la 1 fun a1 => gI la 2 fun x2 => sE st (p_X5_readsLine_44 a0 a1 x2 h)) k0)) (FI := FI_X5_readsLine) (FV := FV_X5_readsLine) (FL := fL0) (rt := rtZ) (ft := 0) (by exact hd) ok_X5_readsLine_30 (kx_ok (fun la st h e => by obtain ⟨a0, m_a0, e1⟩ := gR_inv e; obtain ⟨a1, m_a1, e2⟩ := gR_inv e1; obtain ⟨x2, m_x2, e3⟩ := gI_inv e2; obtain ⟨rfl, ez⟩ := sE_inv e3; exact gm_fewer (e_X5_readsLine_44 E  a0 a1 x2 h ez) (mem_cons m_a0 (mem_cons m_a1 (mem_cons m_x2 mem_nil)))) k0_ok) (FI_X5_readsLine_ok E) (FV_X5_readsLine_ok E) (fL0_ok E) (rtZ_ok rfl)
def I_X5_readsLine_15 : List AI := [(.aload_n 0, 1, [], 0), (.invokevirtual 84, 3, [1, 20, 1, 4, 504], 0), (.istore_n 2, 1, [], 0), (.iload_n 2, 1, [], 0), (.ifCond .ne 9, 3, [30], 0), (.aload_n 0, 1, [], 0), (.iconst 1, 1, [], 1), (.invokevirtual 46, 3, [1, 17, 2, 4, 494], 0), (.ireturn, 1, [], 0)]
theorem ok_X5_readsLine_15 : vBL MT qLen qCh false q_X5_readsLine.2.2.2.2.1 q_X5_readsLine.2.2.2.2.2.1 q_X5_readsLine.2.2.1 q_X5_readsLine.1.cls q_X5_readsLine.1.name q_X5_readsLine.2.1 0 15 I_X5_readsLine_15 = true := by decide +kernel
def p_X5_readsLine_15 (a0 : Nat) (a1 : Nat) (h : AH) : Option (Int32 × AH) :=
  if (tg h a0).1 = 4 then ((p_X5_lineSort a0 h).bind fun q129 =>
  if q129.1 = 0 then (if (tg q129.2 a0).1 = 4 then ((p_X5_fails a0 ((1 : Int32)) q129.2).bind fun q139 =>
  if q139.1 &&& 1 = q139.1 then some (q139.1, q139.2) else none) else none)
  else
  if (tg q129.2 a1).1 = 5 then (if (rI q129.2 a1 1) = 0 then (if (tg q129.2 a0).1 = 4 then ((p_X5_fails a0 ((6 : Int32)) q129.2).bind fun q138 =>
  if q138.1 &&& 1 = q138.1 then some (q138.1, q138.2) else none) else none)
  else
  (p_X5_isFull a1 q129.1 q129.2).bind fun q130 =>
  if q130.1 = 0 then (if (tg q130.2 a0).1 = 4 then ((p_X5_advance a0 q130.2).bind fun h131 =>
  if swT 1 4 [118, 92, 98, 105, 111] q129.1 = 118 then (if (tg h131 a0).1 = 4 then ((p_X5_readsSaw a0 a1 h131).bind fun q136 =>
  if q136.1 &&& 1 = q136.1 then some (q136.1, q136.2) else none) else none)
  else
  if swT 1 4 [118, 92, 98, 105, 111] q129.1 = 92 then (if (tg h131 a0).1 = 4 then ((p_X5_readsHost a0 a1 h131).bind fun q135 =>
  if q135.1 &&& 1 = q135.1 then some (q135.1, q135.2) else none) else none)
  else
  if swT 1 4 [118, 92, 98, 105, 111] q129.1 = 98 then (if (tg h131 a0).1 = 4 then ((p_X5_readsWord a0 a1 ((1 : Int32)) h131).bind fun q134 =>
  if q134.1 &&& 1 = q134.1 then some (q134.1, q134.2) else none) else none)
  else
  if swT 1 4 [118, 92, 98, 105, 111] q129.1 = 105 then (if (tg h131 a0).1 = 4 then ((p_X5_readsRun a0 a1 h131).bind fun q133 =>
  if q133.1 &&& 1 = q133.1 then some (q133.1, q133.2) else none) else none)
  else
  if swT 1 4 [118, 92, 98, 105, 111] q129.1 = 111 then (if (tg h131 a0).1 = 4 then ((p_X5_readsWord a0 a1 ((0 : Int32)) h131).bind fun q132 =>
  if q132.1 &&& 1 = q132.1 then some (q132.1, q132.2) else none) else none)
  else
  none) else none)
  else
  if (tg q130.2 a0).1 = 4 then ((p_X5_fails a0 ((5 : Int32)) q130.2).bind fun q137 =>
  if q137.1 &&& 1 = q137.1 then some (q137.1, q137.2) else none) else none) else none) else none
set_option maxRecDepth 100000 in
theorem e_X5_readsLine_15 {l : Launch} {D : va_G} {dA : Nat → ClassId} {z : Nat} {sa : Nat → Nat} {Hz : Heap} (E : StrOK qLen qCh l D dA z sa Hz) {h0 fin : AH} {x : Int32}  : ∀ (a0 : Nat) (a1 : Nat) (h : AH), p_X5_readsLine_15 a0 a1 h = some (x, fin) → GM l D dA z sa Hz q_X5_readsLine h0 (some (.int x)) fin 15 [(0, .ref a0), (1, .ref a1)] [] h := by
  intro a0 a1 h hd
  exact step E (is := I_X5_readsLine_15) (pc := 15) (K := (kx 30 (fun la st h => gR la 0 fun a0 => gR la 1 fun a1 => gI la 2 fun x2 => sE st (p_X5_readsLine_30 a0 a1 x2 h)) k0)) (FI := FI_X5_readsLine) (FV := FV_X5_readsLine) (FL := fL0) (rt := rtZ) (ft := 0) (by exact hd) ok_X5_readsLine_15 (kx_ok (fun la st h e => by obtain ⟨a0, m_a0, e1⟩ := gR_inv e; obtain ⟨a1, m_a1, e2⟩ := gR_inv e1; obtain ⟨x2, m_x2, e3⟩ := gI_inv e2; obtain ⟨rfl, ez⟩ := sE_inv e3; exact gm_fewer (e_X5_readsLine_30 E  a0 a1 x2 h ez) (mem_cons m_a0 (mem_cons m_a1 (mem_cons m_x2 mem_nil)))) k0_ok) (FI_X5_readsLine_ok E) (FV_X5_readsLine_ok E) (fL0_ok E) (rtZ_ok rfl)
def I_X5_readsLine_0 : List AI := [(.aload_n 0, 1, [], 0), (.ldc 75, 2, [1, 0], 0), (.invokevirtual 77, 3, [1, 16, 2, 4, 438], 0), (.ifCond .eq 9, 3, [15], 0), (.aload_n 0, 1, [], 0), (.aload_n 1, 1, [], 0), (.invokevirtual 81, 3, [1, 19, 2, 4, 490], 0), (.ireturn, 1, [], 0)]
theorem ok_X5_readsLine_0 : vBL MT qLen qCh false q_X5_readsLine.2.2.2.2.1 q_X5_readsLine.2.2.2.2.2.1 q_X5_readsLine.2.2.1 q_X5_readsLine.1.cls q_X5_readsLine.1.name q_X5_readsLine.2.1 0 0 I_X5_readsLine_0 = true := by decide +kernel
def p_X5_readsLine (a0 : Nat) (a1 : Nat) (h : AH) : Option (Int32 × AH) :=
  if (tg h a0).1 = 4 then ((p_X5_isName a0 1 h).bind fun q140 =>
  if q140.1 = 0 then (if (tg q140.2 a0).1 = 4 then ((p_X5_lineSort a0 q140.2).bind fun q141 =>
  if q141.1 = 0 then (if (tg q141.2 a0).1 = 4 then ((p_X5_fails a0 ((1 : Int32)) q141.2).bind fun q151 =>
  if q151.1 &&& 1 = q151.1 then some (q151.1, q151.2) else none) else none)
  else
  if (tg q141.2 a1).1 = 5 then (if (rI q141.2 a1 1) = 0 then (if (tg q141.2 a0).1 = 4 then ((p_X5_fails a0 ((6 : Int32)) q141.2).bind fun q150 =>
  if q150.1 &&& 1 = q150.1 then some (q150.1, q150.2) else none) else none)
  else
  (p_X5_isFull a1 q141.1 q141.2).bind fun q142 =>
  if q142.1 = 0 then (if (tg q142.2 a0).1 = 4 then ((p_X5_advance a0 q142.2).bind fun h143 =>
  if swT 1 4 [118, 92, 98, 105, 111] q141.1 = 118 then (if (tg h143 a0).1 = 4 then ((p_X5_readsSaw a0 a1 h143).bind fun q148 =>
  if q148.1 &&& 1 = q148.1 then some (q148.1, q148.2) else none) else none)
  else
  if swT 1 4 [118, 92, 98, 105, 111] q141.1 = 92 then (if (tg h143 a0).1 = 4 then ((p_X5_readsHost a0 a1 h143).bind fun q147 =>
  if q147.1 &&& 1 = q147.1 then some (q147.1, q147.2) else none) else none)
  else
  if swT 1 4 [118, 92, 98, 105, 111] q141.1 = 98 then (if (tg h143 a0).1 = 4 then ((p_X5_readsWord a0 a1 ((1 : Int32)) h143).bind fun q146 =>
  if q146.1 &&& 1 = q146.1 then some (q146.1, q146.2) else none) else none)
  else
  if swT 1 4 [118, 92, 98, 105, 111] q141.1 = 105 then (if (tg h143 a0).1 = 4 then ((p_X5_readsRun a0 a1 h143).bind fun q145 =>
  if q145.1 &&& 1 = q145.1 then some (q145.1, q145.2) else none) else none)
  else
  if swT 1 4 [118, 92, 98, 105, 111] q141.1 = 111 then (if (tg h143 a0).1 = 4 then ((p_X5_readsWord a0 a1 ((0 : Int32)) h143).bind fun q144 =>
  if q144.1 &&& 1 = q144.1 then some (q144.1, q144.2) else none) else none)
  else
  none) else none)
  else
  if (tg q142.2 a0).1 = 4 then ((p_X5_fails a0 ((5 : Int32)) q142.2).bind fun q149 =>
  if q149.1 &&& 1 = q149.1 then some (q149.1, q149.2) else none) else none) else none) else none)
  else
  if (tg q140.2 a0).1 = 4 then ((p_X5_readsMachine a0 a1 q140.2).bind fun q152 =>
  if q152.1 &&& 1 = q152.1 then some (q152.1, q152.2) else none) else none) else none
set_option maxRecDepth 100000 in
theorem e_X5_readsLine_0 {l : Launch} {D : va_G} {dA : Nat → ClassId} {z : Nat} {sa : Nat → Nat} {Hz : Heap} (E : StrOK qLen qCh l D dA z sa Hz) {h0 fin : AH} {x : Int32}  : ∀ (a0 : Nat) (a1 : Nat) (h : AH), p_X5_readsLine a0 a1 h = some (x, fin) → GM l D dA z sa Hz q_X5_readsLine h0 (some (.int x)) fin 0 [(0, .ref a0), (1, .ref a1)] [] h := by
  intro a0 a1 h hd
  exact step E (is := I_X5_readsLine_0) (pc := 0) (K := (kx 15 (fun la st h => gR la 0 fun a0 => gR la 1 fun a1 => sE st (p_X5_readsLine_15 a0 a1 h)) k0)) (FI := FI_X5_readsLine) (FV := FV_X5_readsLine) (FL := fL0) (rt := rtZ) (ft := 0) (by exact hd) ok_X5_readsLine_0 (kx_ok (fun la st h e => by obtain ⟨a0, m_a0, e1⟩ := gR_inv e; obtain ⟨a1, m_a1, e2⟩ := gR_inv e1; obtain ⟨rfl, ez⟩ := sE_inv e2; exact gm_fewer (e_X5_readsLine_15 E  a0 a1 h ez) (mem_cons m_a0 (mem_cons m_a1 mem_nil))) k0_ok) (FI_X5_readsLine_ok E) (FV_X5_readsLine_ok E) (fL0_ok E) (rtZ_ok rfl)
theorem c_X5_readsLine {l : Launch} {D : va_G} {dA : Nat → ClassId} {z : Nat} {sa : Nat → Nat} {Hz : Heap} (E : StrOK qLen qCh l D dA z sa Hz) {a0 : Nat} {a1 : Nat} {h fin : AH} {x : Int32} (hd : p_X5_readsLine a0 a1 h = some (x, fin)) : CalOK l D dA z sa Hz q_X5_readsLine [.ref a0, .ref a1] h (some (.int x)) fin := calOf (by decide +kernel) (Nat.le_of_ble_eq_true rfl) (e_X5_readsLine_0 E a0 a1 h hd)
def FI_X5_reads : Nat → List Value → AH → Option (Int32 × AH) := (cx 42 (fun As h => sR As fun a0 As => sR As fun a1 As => sE As (p_X5_readsLine a0 a1 h)) (cx 17 (fun As h => sR As fun a0 As => sI As fun x1 As => sE As (p_X5_fails a0 x1 h)) fI0))
theorem FI_X5_reads_ok {l : Launch} {D : va_G} {dA : Nat → ClassId} {z : Nat} {sa : Nat → Nat} {Hz : Heap} (E : StrOK qLen qCh l D dA z sa Hz) : ∀ mi As h x h', FI_X5_reads mi As h = some (x, h') → CalOK l D dA z sa Hz (MT mi) As h (some (.int x)) h' := (cxI_ok (fun As h x h2 e => by obtain ⟨_, _, rfl, e0⟩ := sR_inv e; obtain ⟨_, _, rfl, e1⟩ := sR_inv e0; obtain ⟨rfl, ez⟩ := sE_inv e1; exact c_X5_readsLine E ez) ((cxI_ok (fun As h x h2 e => by obtain ⟨_, _, rfl, e0⟩ := sR_inv e; obtain ⟨_, _, rfl, e1⟩ := sI_inv e0; obtain ⟨rfl, ez⟩ := sE_inv e1; exact c_X5_fails E ez) (fI0_ok E))))
def FV_X5_reads : Nat → List Value → AH → Option (AH) := (cx 11 (fun As h => sR As fun a0 As => sE As (p_X6_empty a0 h)) (cx 15 (fun As h => sR As fun a0 As => sE As (p_X5_advance a0 h)) fV0))
theorem FV_X5_reads_ok {l : Launch} {D : va_G} {dA : Nat → ClassId} {z : Nat} {sa : Nat → Nat} {Hz : Heap} (E : StrOK qLen qCh l D dA z sa Hz) : ∀ mi As h h', FV_X5_reads mi As h = some h' → CalOK l D dA z sa Hz (MT mi) As h none h' := (cxV_ok (fun As h h2 e => by obtain ⟨_, _, rfl, e0⟩ := sR_inv e; obtain ⟨rfl, ez⟩ := sE_inv e0; exact c_X6_empty E ez) ((cxV_ok (fun As h h2 e => by obtain ⟨_, _, rfl, e0⟩ := sR_inv e; obtain ⟨rfl, ez⟩ := sE_inv e0; exact c_X5_advance E ez) (fV0_ok E))))
def I_X5_reads_85 : List AI := [(.aload_n 0, 1, [], 0), (.iconst 1, 1, [], 1), (.invokevirtual 46, 3, [1, 17, 2, 4, 494], 0), (.ireturn, 1, [], 0)]
theorem ok_X5_reads_85 : vBL MT qLen qCh false q_X5_reads.2.2.2.2.1 q_X5_reads.2.2.2.2.2.1 q_X5_reads.2.2.1 q_X5_reads.1.cls q_X5_reads.1.name q_X5_reads.2.1 0 85 I_X5_reads_85 = true := by decide +kernel
def p_X5_reads_85 (a0 : Nat) (h : AH) : Option (Int32 × AH) :=
  if (tg h a0).1 = 4 then ((p_X5_fails a0 ((1 : Int32)) h).bind fun q101 =>
  if q101.1 &&& 1 = q101.1 then some (q101.1, q101.2) else none) else none
set_option maxRecDepth 100000 in
theorem e_X5_reads_85 {l : Launch} {D : va_G} {dA : Nat → ClassId} {z : Nat} {sa : Nat → Nat} {Hz : Heap} (E : StrOK qLen qCh l D dA z sa Hz) {h0 fin : AH} {x : Int32}  : ∀ (a0 : Nat) (h : AH), p_X5_reads_85 a0 h = some (x, fin) → GM l D dA z sa Hz q_X5_reads h0 (some (.int x)) fin 85 [(0, .ref a0)] [] h := by
  intro a0 h hd
  exact step E (is := I_X5_reads_85) (pc := 85) (K := k0) (FI := FI_X5_reads) (FV := FV_X5_reads) (FL := fL0) (rt := rtZ) (ft := 0) (by exact hd) ok_X5_reads_85 k0_ok (FI_X5_reads_ok E) (FV_X5_reads_ok E) (fL0_ok E) (rtZ_ok rfl)
def I_X5_reads_75 : List AI := [(.aload_n 0, 1, [], 0), (.invokevirtual 36, 3, [2, 15, 1, 4, 419], 0), (.iinc 3 1, 3, [], 1), (.goto (-47), 3, [35], 0)]
theorem ok_X5_reads_75 : vBL MT qLen qCh false q_X5_reads.2.2.2.2.1 q_X5_reads.2.2.2.2.2.1 q_X5_reads.2.2.1 q_X5_reads.1.cls q_X5_reads.1.name q_X5_reads.2.1 0 75 I_X5_reads_75 = true := by decide +kernel
def p_X5_reads_75 (k35 : Nat → Nat → Int32 → AH → Option (Int32 × AH)) (a0 : Nat) (a2 : Nat) (x3 : Int32) (h : AH) : Option (Int32 × AH) :=
  if (tg h a0).1 = 4 then ((p_X5_advance a0 h).bind fun h102 =>
  k35 a0 a2 (x3 + (1 : Int32)) h102) else none
set_option maxRecDepth 100000 in
theorem e_X5_reads_75 {l : Launch} {D : va_G} {dA : Nat → ClassId} {z : Nat} {sa : Nat → Nat} {Hz : Heap} (E : StrOK qLen qCh l D dA z sa Hz) {h0 fin : AH} {x : Int32}  {k35 : Nat → Nat → Int32 → AH → Option (Int32 × AH)} (hk35 : ∀ (a0 : Nat) (a2 : Nat) (x3 : Int32) (h : AH), k35 a0 a2 x3 h = some (x, fin) → GM l D dA z sa Hz q_X5_reads h0 (some (.int x)) fin 35 [(0, .ref a0), (2, .ref a2), (3, .int x3)] [] h) : ∀ (a0 : Nat) (a2 : Nat) (x3 : Int32) (h : AH), p_X5_reads_75 k35 a0 a2 x3 h = some (x, fin) → GM l D dA z sa Hz q_X5_reads h0 (some (.int x)) fin 75 [(0, .ref a0), (2, .ref a2), (3, .int x3)] [] h := by
  intro a0 a2 x3 h hd
  exact step E (is := I_X5_reads_75) (pc := 75) (K := (kx 35 (fun la st h => gR la 0 fun a0 => gR la 2 fun a2 => gI la 3 fun x3 => sE st (k35 a0 a2 x3 h)) k0)) (FI := FI_X5_reads) (FV := FV_X5_reads) (FL := fL0) (rt := rtZ) (ft := 0) (by exact hd) ok_X5_reads_75 (kx_ok (fun la st h e => by obtain ⟨a0, m_a0, e1⟩ := gR_inv e; obtain ⟨a2, m_a2, e2⟩ := gR_inv e1; obtain ⟨x3, m_x3, e3⟩ := gI_inv e2; obtain ⟨rfl, ez⟩ := sE_inv e3; exact gm_fewer (hk35 a0 a2 x3 h ez) (mem_cons m_a0 (mem_cons m_a2 (mem_cons m_x3 mem_nil)))) k0_ok) (FI_X5_reads_ok E) (FV_X5_reads_ok E) (fL0_ok E) (rtZ_ok rfl)
def I_X5_reads_61 : List AI := [(.aload_n 0, 1, [], 0), (.getfield 43, 3, [4, 3, 0, 149], 0), (.iconst 3, 1, [], 3), (.if_icmp .eq 9, 3, [75], 0), (.aload_n 0, 1, [], 0), (.iconst 1, 1, [], 1), (.invokevirtual 46, 3, [1, 17, 2, 4, 494], 0), (.ireturn, 1, [], 0)]
theorem ok_X5_reads_61 : vBL MT qLen qCh false q_X5_reads.2.2.2.2.1 q_X5_reads.2.2.2.2.2.1 q_X5_reads.2.2.1 q_X5_reads.1.cls q_X5_reads.1.name q_X5_reads.2.1 0 61 I_X5_reads_61 = true := by decide +kernel
def p_X5_reads_61 (k35 : Nat → Nat → Int32 → AH → Option (Int32 × AH)) (a0 : Nat) (a2 : Nat) (x3 : Int32) (h : AH) : Option (Int32 × AH) :=
  if (tg h a0).1 = 4 then (if (rI h a0 3) = ((3 : Int32)) then (if (tg h a0).1 = 4 then ((p_X5_advance a0 h).bind fun h103 =>
  k35 a0 a2 (x3 + (1 : Int32)) h103) else none)
  else
  if (tg h a0).1 = 4 then ((p_X5_fails a0 ((1 : Int32)) h).bind fun q104 =>
  if q104.1 &&& 1 = q104.1 then some (q104.1, q104.2) else none) else none) else none
set_option maxRecDepth 100000 in
theorem e_X5_reads_61 {l : Launch} {D : va_G} {dA : Nat → ClassId} {z : Nat} {sa : Nat → Nat} {Hz : Heap} (E : StrOK qLen qCh l D dA z sa Hz) {h0 fin : AH} {x : Int32}  {k35 : Nat → Nat → Int32 → AH → Option (Int32 × AH)} (hk35 : ∀ (a0 : Nat) (a2 : Nat) (x3 : Int32) (h : AH), k35 a0 a2 x3 h = some (x, fin) → GM l D dA z sa Hz q_X5_reads h0 (some (.int x)) fin 35 [(0, .ref a0), (2, .ref a2), (3, .int x3)] [] h) : ∀ (a0 : Nat) (a2 : Nat) (x3 : Int32) (h : AH), p_X5_reads_61 k35 a0 a2 x3 h = some (x, fin) → GM l D dA z sa Hz q_X5_reads h0 (some (.int x)) fin 61 [(0, .ref a0), (2, .ref a2), (3, .int x3)] [] h := by
  intro a0 a2 x3 h hd
  exact step E (is := I_X5_reads_61) (pc := 61) (K := (kx 75 (fun la st h => gR la 0 fun a0 => gR la 2 fun a2 => gI la 3 fun x3 => sE st (p_X5_reads_75 k35 a0 a2 x3 h)) k0)) (FI := FI_X5_reads) (FV := FV_X5_reads) (FL := fL0) (rt := rtZ) (ft := 0) (by exact hd) ok_X5_reads_61 (kx_ok (fun la st h e => by obtain ⟨a0, m_a0, e1⟩ := gR_inv e; obtain ⟨a2, m_a2, e2⟩ := gR_inv e1; obtain ⟨x3, m_x3, e3⟩ := gI_inv e2; obtain ⟨rfl, ez⟩ := sE_inv e3; exact gm_fewer (e_X5_reads_75 E hk35 a0 a2 x3 h ez) (mem_cons m_a0 (mem_cons m_a2 (mem_cons m_x3 mem_nil)))) k0_ok) (FI_X5_reads_ok E) (FV_X5_reads_ok E) (fL0_ok E) (rtZ_ok rfl)
def I_X5_reads_52 : List AI := [(.aload_n 0, 1, [], 0), (.getfield 43, 3, [4, 3, 0, 149], 0), (.ifCond .ne 5, 3, [61], 0), (.iconst 1, 1, [], 1), (.ireturn, 1, [], 0)]
theorem ok_X5_reads_52 : vBL MT qLen qCh false q_X5_reads.2.2.2.2.1 q_X5_reads.2.2.2.2.2.1 q_X5_reads.2.2.1 q_X5_reads.1.cls q_X5_reads.1.name q_X5_reads.2.1 0 52 I_X5_reads_52 = true := by decide +kernel
def p_X5_reads_52 (k35 : Nat → Nat → Int32 → AH → Option (Int32 × AH)) (a0 : Nat) (a2 : Nat) (x3 : Int32) (h : AH) : Option (Int32 × AH) :=
  if (tg h a0).1 = 4 then (if (rI h a0 3) = 0 then (if ((1 : Int32)) &&& 1 = ((1 : Int32)) then some (((1 : Int32)), h) else none)
  else
  if (tg h a0).1 = 4 then (if (rI h a0 3) = ((3 : Int32)) then (if (tg h a0).1 = 4 then ((p_X5_advance a0 h).bind fun h105 =>
  k35 a0 a2 (x3 + (1 : Int32)) h105) else none)
  else
  if (tg h a0).1 = 4 then ((p_X5_fails a0 ((1 : Int32)) h).bind fun q106 =>
  if q106.1 &&& 1 = q106.1 then some (q106.1, q106.2) else none) else none) else none) else none
set_option maxRecDepth 100000 in
theorem e_X5_reads_52 {l : Launch} {D : va_G} {dA : Nat → ClassId} {z : Nat} {sa : Nat → Nat} {Hz : Heap} (E : StrOK qLen qCh l D dA z sa Hz) {h0 fin : AH} {x : Int32}  {k35 : Nat → Nat → Int32 → AH → Option (Int32 × AH)} (hk35 : ∀ (a0 : Nat) (a2 : Nat) (x3 : Int32) (h : AH), k35 a0 a2 x3 h = some (x, fin) → GM l D dA z sa Hz q_X5_reads h0 (some (.int x)) fin 35 [(0, .ref a0), (2, .ref a2), (3, .int x3)] [] h) : ∀ (a0 : Nat) (a2 : Nat) (x3 : Int32) (h : AH), p_X5_reads_52 k35 a0 a2 x3 h = some (x, fin) → GM l D dA z sa Hz q_X5_reads h0 (some (.int x)) fin 52 [(0, .ref a0), (2, .ref a2), (3, .int x3)] [] h := by
  intro a0 a2 x3 h hd
  exact step E (is := I_X5_reads_52) (pc := 52) (K := (kx 61 (fun la st h => gR la 0 fun a0 => gR la 2 fun a2 => gI la 3 fun x3 => sE st (p_X5_reads_61 k35 a0 a2 x3 h)) k0)) (FI := FI_X5_reads) (FV := FV_X5_reads) (FL := fL0) (rt := rtZ) (ft := 0) (by exact hd) ok_X5_reads_52 (kx_ok (fun la st h e => by obtain ⟨a0, m_a0, e1⟩ := gR_inv e; obtain ⟨a2, m_a2, e2⟩ := gR_inv e1; obtain ⟨x3, m_x3, e3⟩ := gI_inv e2; obtain ⟨rfl, ez⟩ := sE_inv e3; exact gm_fewer (e_X5_reads_61 E hk35 a0 a2 x3 h ez) (mem_cons m_a0 (mem_cons m_a2 (mem_cons m_x3 mem_nil)))) k0_ok) (FI_X5_reads_ok E) (FV_X5_reads_ok E) (fL0_ok E) (rtZ_ok rfl)
def I_X5_reads_35 : List AI := [(.iload_n 3, 1, [], 0), (.sipush 900, 3, [], 900), (.if_icmp .gt 46, 3, [85], 0), (.aload_n 0, 1, [], 0), (.aload_n 2, 1, [], 0), (.invokevirtual 39, 3, [1, 42, 2, 4, 433], 0), (.ifCond .ne 5, 3, [52], 0), (.iconst 0, 1, [], 0), (.ireturn, 1, [], 0)]
theorem ok_X5_reads_35 : vBL MT qLen qCh false q_X5_reads.2.2.2.2.1 q_X5_reads.2.2.2.2.2.1 q_X5_reads.2.2.1 q_X5_reads.1.cls q_X5_reads.1.name q_X5_reads.2.1 0 35 I_X5_reads_35 = true := by decide +kernel
def p_X5_reads_35 : Nat → Nat → Nat → Int32 → AH → Option (Int32 × AH)
  | 0, _, _, _, _ => none
  | n + 1, a0, a2, x3, h => if ((900 : Int32)) < x3 then (if (tg h a0).1 = 4 then ((p_X5_fails a0 ((1 : Int32)) h).bind fun q107 =>
    if q107.1 &&& 1 = q107.1 then some (q107.1, q107.2) else none) else none)
    else
    if (tg h a0).1 = 4 then ((p_X5_readsLine a0 a2 h).bind fun q108 =>
    if q108.1 = 0 then (if ((0 : Int32)) &&& 1 = ((0 : Int32)) then some (((0 : Int32)), q108.2) else none)
    else
    if (tg q108.2 a0).1 = 4 then (if (rI q108.2 a0 3) = 0 then (if ((1 : Int32)) &&& 1 = ((1 : Int32)) then some (((1 : Int32)), q108.2) else none)
    else
    if (tg q108.2 a0).1 = 4 then (if (rI q108.2 a0 3) = ((3 : Int32)) then (if (tg q108.2 a0).1 = 4 then ((p_X5_advance a0 q108.2).bind fun h109 =>
    p_X5_reads_35 n a0 a2 (x3 + (1 : Int32)) h109) else none)
    else
    if (tg q108.2 a0).1 = 4 then ((p_X5_fails a0 ((1 : Int32)) q108.2).bind fun q110 =>
    if q110.1 &&& 1 = q110.1 then some (q110.1, q110.2) else none) else none) else none) else none) else none
set_option maxRecDepth 100000 in
theorem e_X5_reads_35 {l : Launch} {D : va_G} {dA : Nat → ClassId} {z : Nat} {sa : Nat → Nat} {Hz : Heap} (E : StrOK qLen qCh l D dA z sa Hz) {h0 fin : AH} {x : Int32}  : ∀ (n : Nat) (a0 : Nat) (a2 : Nat) (x3 : Int32) (h : AH), p_X5_reads_35 n a0 a2 x3 h = some (x, fin) → GM l D dA z sa Hz q_X5_reads h0 (some (.int x)) fin 35 [(0, .ref a0), (2, .ref a2), (3, .int x3)] [] h := by
  intro n
  induction n with
  | zero => intro a0 a2 x3 h hd; exact nomatch hd
  | succ n ih =>
    intro a0 a2 x3 h hd
    exact step E (is := I_X5_reads_35) (pc := 35) (K := (kx 85 (fun la st h => gR la 0 fun a0 => sE st (p_X5_reads_85 a0 h)) (kx 52 (fun la st h => gR la 0 fun a0 => gR la 2 fun a2 => gI la 3 fun x3 => sE st (p_X5_reads_52 (p_X5_reads_35 n) a0 a2 x3 h)) k0))) (FI := FI_X5_reads) (FV := FV_X5_reads) (FL := fL0) (rt := rtZ) (ft := 0) (by exact hd) ok_X5_reads_35 (kx_ok (fun la st h e => by obtain ⟨a0, m_a0, e1⟩ := gR_inv e; obtain ⟨rfl, ez⟩ := sE_inv e1; exact gm_fewer (e_X5_reads_85 E  a0 h ez) (mem_cons m_a0 mem_nil)) (kx_ok (fun la st h e => by obtain ⟨a0, m_a0, e1⟩ := gR_inv e; obtain ⟨a2, m_a2, e2⟩ := gR_inv e1; obtain ⟨x3, m_x3, e3⟩ := gI_inv e2; obtain ⟨rfl, ez⟩ := sE_inv e3; exact gm_fewer (e_X5_reads_52 E ih a0 a2 x3 h ez) (mem_cons m_a0 (mem_cons m_a2 (mem_cons m_x3 mem_nil)))) k0_ok)) (FI_X5_reads_ok E) (FV_X5_reads_ok E) (fL0_ok E) (rtZ_ok rfl)
def I_X5_reads_0 : List AI := [(.aload_n 0, 1, [], 0), (.iload_n 1, 1, [], 0), (.putfield 19, 3, [4, 2, 0, 148], 0), (.aload_n 0, 1, [], 0), (.iconst 0, 1, [], 0), (.putfield 15, 3, [4, 1, 0, 147], 0), (.aload_n 0, 1, [], 0), (.iconst 0, 1, [], 0), (.putfield 22, 3, [4, 7, 0, 153], 0), (.aload_n 0, 1, [], 0), (.iconst 0, 1, [], 0), (.putfield 25, 3, [4, 8, 0, 155], 0), (.aload_n 0, 1, [], 0), (.iconst 0, 1, [], 0), (.putfield 28, 3, [4, 5, 0, 151], 0), (.aload_n 2, 1, [], 0), (.invokevirtual 31, 3, [2, 11, 1, 5, 411], 0), (.aload_n 0, 1, [], 0), (.invokevirtual 36, 3, [2, 15, 1, 4, 419], 0), (.iconst 0, 1, [], 0), (.istore_n 3, 1, [], 0)]
theorem ok_X5_reads_0 : vBL MT qLen qCh false q_X5_reads.2.2.2.2.1 q_X5_reads.2.2.2.2.2.1 q_X5_reads.2.2.1 q_X5_reads.1.cls q_X5_reads.1.name q_X5_reads.2.1 35 0 I_X5_reads_0 = true := by decide +kernel
def p_X5_reads (a0 : Nat) (x1 : Int32) (a2 : Nat) (h : AH) : Option (Int32 × AH) :=
  if (tg h a0).1 = 4 then (let h111 := wI h a0 2 x1
  if (tg h111 a0).1 = 4 then (let h112 := wI h111 a0 1 ((0 : Int32))
  if (tg h112 a0).1 = 4 then (let h113 := wI h112 a0 7 ((0 : Int32))
  if (tg h113 a0).1 = 4 then (let h114 := wI h113 a0 8 ((0 : Int32))
  if (tg h114 a0).1 = 4 then (let h115 := wI h114 a0 5 ((0 : Int32))
  if (tg h115 a2).1 = 5 then ((p_X6_empty a2 h115).bind fun h116 =>
  if (tg h116 a0).1 = 4 then ((p_X5_advance a0 h116).bind fun h117 =>
  p_X5_reads_35 FU a0 a2 ((0 : Int32)) h117) else none) else none) else none) else none) else none) else none) else none
set_option maxRecDepth 100000 in
theorem e_X5_reads_0 {l : Launch} {D : va_G} {dA : Nat → ClassId} {z : Nat} {sa : Nat → Nat} {Hz : Heap} (E : StrOK qLen qCh l D dA z sa Hz) {h0 fin : AH} {x : Int32}  : ∀ (a0 : Nat) (x1 : Int32) (a2 : Nat) (h : AH), p_X5_reads a0 x1 a2 h = some (x, fin) → GM l D dA z sa Hz q_X5_reads h0 (some (.int x)) fin 0 [(0, .ref a0), (1, .int x1), (2, .ref a2)] [] h := by
  intro a0 x1 a2 h hd
  exact step E (is := I_X5_reads_0) (pc := 0) (K := (kx 35 (fun la st h => gR la 0 fun a0 => gR la 2 fun a2 => gI la 3 fun x3 => sE st (p_X5_reads_35 FU a0 a2 x3 h)) k0)) (FI := FI_X5_reads) (FV := FV_X5_reads) (FL := fL0) (rt := rtZ) (ft := 35) (by exact hd) ok_X5_reads_0 (kx_ok (fun la st h e => by obtain ⟨a0, m_a0, e1⟩ := gR_inv e; obtain ⟨a2, m_a2, e2⟩ := gR_inv e1; obtain ⟨x3, m_x3, e3⟩ := gI_inv e2; obtain ⟨rfl, ez⟩ := sE_inv e3; exact gm_fewer (e_X5_reads_35 E  FU a0 a2 x3 h ez) (mem_cons m_a0 (mem_cons m_a2 (mem_cons m_x3 mem_nil)))) k0_ok) (FI_X5_reads_ok E) (FV_X5_reads_ok E) (fL0_ok E) (rtZ_ok rfl)
theorem c_X5_reads {l : Launch} {D : va_G} {dA : Nat → ClassId} {z : Nat} {sa : Nat → Nat} {Hz : Heap} (E : StrOK qLen qCh l D dA z sa Hz) {a0 : Nat} {x1 : Int32} {a2 : Nat} {h fin : AH} {x : Int32} (hd : p_X5_reads a0 x1 a2 h = some (x, fin)) : CalOK l D dA z sa Hz q_X5_reads [.ref a0, .int x1, .ref a2] h (some (.int x)) fin := calOf (by decide +kernel) (Nat.le_of_ble_eq_true rfl) (e_X5_reads_0 E a0 x1 a2 h hd)
def I_X1_copyFrom_0 : List AI := [(.aload_n 1, 1, [], 0), (.getfield 9, 3, [0, 0, 2, 189], 0), (.iconst 0, 1, [], 0), (.aload_n 0, 1, [], 0), (.getfield 9, 3, [0, 0, 2, 189], 0), (.iconst 0, 1, [], 0), (.sipush 128, 3, [], 128), (.invokestatic 28, 3, [4, 618], 0), (.aload_n 1, 1, [], 0), (.getfield 15, 3, [0, 1, 2, 190], 0), (.iconst 0, 1, [], 0), (.aload_n 0, 1, [], 0), (.getfield 15, 3, [0, 1, 2, 190], 0), (.iconst 0, 1, [], 0), (.bipush 16, 2, [], 16), (.invokestatic 28, 3, [4, 618], 0), (.aload_n 0, 1, [], 0), (.aload_n 1, 1, [], 0), (.getfield 18, 3, [0, 2, 0, 191], 0), (.putfield 18, 3, [0, 2, 0, 191], 0), (.aload_n 0, 1, [], 0), (.aload_n 1, 1, [], 0), (.getfield 22, 3, [0, 3, 0, 192], 0), (.putfield 22, 3, [0, 3, 0, 192], 0), (.aload_n 0, 1, [], 0), (.aload_n 1, 1, [], 0), (.getfield 25, 3, [0, 4, 0, 194], 0), (.putfield 25, 3, [0, 4, 0, 194], 0), (.return_, 1, [], 0)]
theorem ok_X1_copyFrom_0 : vBL MT qLen qCh false q_X1_copyFrom.2.2.2.2.1 q_X1_copyFrom.2.2.2.2.2.1 q_X1_copyFrom.2.2.1 q_X1_copyFrom.1.cls q_X1_copyFrom.1.name q_X1_copyFrom.2.1 0 0 I_X1_copyFrom_0 = true := by decide +kernel
def p_X1_copyFrom (a0 : Nat) (a1 : Nat) (h : AH) : Option (AH) :=
  if (tg h a1).1 = 0 then (if (tg h a0).1 = 0 then (if ((tg h (rR h a1 0)).1 = 100 ∧ (tg h (rR h a0 0)).1 = 100) ∧ (¬ ((0 : Int32)) < 0 ∧ ¬ ((0 : Int32)) < 0 ∧ ¬ ((128 : Int32)) < 0) ∧ ((0 : Int32)).toNatClampNeg + ((128 : Int32)).toNatClampNeg ≤ (tg h (rR h a1 0)).2 ∧ ((0 : Int32)).toNatClampNeg + ((128 : Int32)).toNatClampNeg ≤ (tg h (rR h a0 0)).2 then (let h101 := cpI h (rR h a1 0) ((0 : Int32)).toNatClampNeg (rR h a0 0) ((0 : Int32)).toNatClampNeg ((128 : Int32)).toNatClampNeg
  if (tg h101 a1).1 = 0 then (if (tg h101 a0).1 = 0 then (if ((tg h101 (rR h101 a1 1)).1 = 100 ∧ (tg h101 (rR h101 a0 1)).1 = 100) ∧ (¬ ((0 : Int32)) < 0 ∧ ¬ ((0 : Int32)) < 0 ∧ ¬ ((16 : Int32)) < 0) ∧ ((0 : Int32)).toNatClampNeg + ((16 : Int32)).toNatClampNeg ≤ (tg h101 (rR h101 a1 1)).2 ∧ ((0 : Int32)).toNatClampNeg + ((16 : Int32)).toNatClampNeg ≤ (tg h101 (rR h101 a0 1)).2 then (let h102 := cpI h101 (rR h101 a1 1) ((0 : Int32)).toNatClampNeg (rR h101 a0 1) ((0 : Int32)).toNatClampNeg ((16 : Int32)).toNatClampNeg
  if (tg h102 a1).1 = 0 then (if (tg h102 a0).1 = 0 then (let h103 := wI h102 a0 2 (rI h102 a1 2)
  if (tg h103 a1).1 = 0 then (if (tg h103 a0).1 = 0 then (let h104 := wI h103 a0 3 (rI h103 a1 3)
  if (tg h104 a1).1 = 0 then (if (tg h104 a0).1 = 0 then (let h105 := wI h104 a0 4 (rI h104 a1 4)
  some h105) else none) else none) else none) else none) else none) else none) else none) else none) else none) else none) else none) else none
set_option maxRecDepth 100000 in
theorem e_X1_copyFrom_0 {l : Launch} {D : va_G} {dA : Nat → ClassId} {z : Nat} {sa : Nat → Nat} {Hz : Heap} (E : StrOK qLen qCh l D dA z sa Hz) {h0 fin : AH}  : ∀ (a0 : Nat) (a1 : Nat) (h : AH), p_X1_copyFrom a0 a1 h = some fin → GM l D dA z sa Hz q_X1_copyFrom h0 none fin 0 [(0, .ref a0), (1, .ref a1)] [] h := by
  intro a0 a1 h hd
  exact step E (is := I_X1_copyFrom_0) (pc := 0) (K := k0) (FI := fI0) (FV := fV0) (FL := fL0) (rt := rtV) (ft := 0) (by exact hd) ok_X1_copyFrom_0 k0_ok (fI0_ok E) (fV0_ok E) (fL0_ok E) (rtV_ok rfl)
theorem c_X1_copyFrom {l : Launch} {D : va_G} {dA : Nat → ClassId} {z : Nat} {sa : Nat → Nat} {Hz : Heap} (E : StrOK qLen qCh l D dA z sa Hz) {a0 : Nat} {a1 : Nat} {h fin : AH} (hd : p_X1_copyFrom a0 a1 h = some fin) : CalOK l D dA z sa Hz q_X1_copyFrom [.ref a0, .ref a1] h none fin := calOf (by decide +kernel) (Nat.le_of_ble_eq_true rfl) (e_X1_copyFrom_0 E a0 a1 h hd)
def I_X3_vacate_76 : List AI := [(.return_, 1, [], 0)]
theorem ok_X3_vacate_76 : vBL MT qLen qCh false q_X3_vacate.2.2.2.2.1 q_X3_vacate.2.2.2.2.2.1 q_X3_vacate.2.2.1 q_X3_vacate.1.cls q_X3_vacate.1.name q_X3_vacate.2.1 0 76 I_X3_vacate_76 = true := by decide +kernel
def p_X3_vacate_76 (h : AH) : Option (AH) :=
  some h
set_option maxRecDepth 100000 in
theorem e_X3_vacate_76 {l : Launch} {D : va_G} {dA : Nat → ClassId} {z : Nat} {sa : Nat → Nat} {Hz : Heap} (E : StrOK qLen qCh l D dA z sa Hz) {h0 fin : AH}  : ∀  (h : AH), p_X3_vacate_76 h = some fin → GM l D dA z sa Hz q_X3_vacate h0 none fin 76 [] [] h := by
  intro h hd
  exact step E (is := I_X3_vacate_76) (pc := 76) (K := k0) (FI := fI0) (FV := fV0) (FL := fL0) (rt := rtV) (ft := 0) (by exact hd) ok_X3_vacate_76 k0_ok (fI0_ok E) (fV0_ok E) (fL0_ok E) (rtV_ok rfl)
def I_X3_vacate_70 : List AI := [(.iinc 2 1, 3, [], 1), (.goto (-25), 3, [48], 0)]
theorem ok_X3_vacate_70 : vBL MT qLen qCh false q_X3_vacate.2.2.2.2.1 q_X3_vacate.2.2.2.2.2.1 q_X3_vacate.2.2.1 q_X3_vacate.1.cls q_X3_vacate.1.name q_X3_vacate.2.1 0 70 I_X3_vacate_70 = true := by decide +kernel
def p_X3_vacate_70 (k48 : Nat → Int32 → Int32 → AH → Option (AH)) (a0 : Nat) (x1 : Int32) (x2 : Int32) (h : AH) : Option (AH) :=
  k48 a0 x1 (x2 + (1 : Int32)) h
set_option maxRecDepth 100000 in
theorem e_X3_vacate_70 {l : Launch} {D : va_G} {dA : Nat → ClassId} {z : Nat} {sa : Nat → Nat} {Hz : Heap} (E : StrOK qLen qCh l D dA z sa Hz) {h0 fin : AH}  {k48 : Nat → Int32 → Int32 → AH → Option (AH)} (hk48 : ∀ (a0 : Nat) (x1 : Int32) (x2 : Int32) (h : AH), k48 a0 x1 x2 h = some fin → GM l D dA z sa Hz q_X3_vacate h0 none fin 48 [(0, .ref a0), (1, .int x1), (2, .int x2)] [] h) : ∀ (a0 : Nat) (x1 : Int32) (x2 : Int32) (h : AH), p_X3_vacate_70 k48 a0 x1 x2 h = some fin → GM l D dA z sa Hz q_X3_vacate h0 none fin 70 [(0, .ref a0), (1, .int x1), (2, .int x2)] [] h := by
  intro a0 x1 x2 h hd
  exact step E (is := I_X3_vacate_70) (pc := 70) (K := (kx 48 (fun la st h => gR la 0 fun a0 => gI la 1 fun x1 => gI la 2 fun x2 => sE st (k48 a0 x1 x2 h)) k0)) (FI := fI0) (FV := fV0) (FL := fL0) (rt := rtV) (ft := 0) (by exact hd) ok_X3_vacate_70 (kx_ok (fun la st h e => by obtain ⟨a0, m_a0, e1⟩ := gR_inv e; obtain ⟨x1, m_x1, e2⟩ := gI_inv e1; obtain ⟨x2, m_x2, e3⟩ := gI_inv e2; obtain ⟨rfl, ez⟩ := sE_inv e3; exact gm_fewer (hk48 a0 x1 x2 h ez) (mem_cons m_a0 (mem_cons m_x1 (mem_cons m_x2 mem_nil)))) k0_ok) (fI0_ok E) (fV0_ok E) (fL0_ok E) (rtV_ok rfl)
def I_X3_vacate_48 : List AI := [(.iload_n 2, 1, [], 0), (.bipush 64, 2, [], 64), (.if_icmp .ge 25, 3, [76], 0), (.iload_n 2, 1, [], 0), (.bipush 8, 2, [], 8), (.idiv, 1, [], 0), (.iload_n 1, 1, [], 0), (.if_icmp .ne 11, 3, [70], 0), (.aload_n 0, 1, [], 0), (.getfield 21, 3, [2, 3, 2, 288], 0), (.iload_n 2, 1, [], 0), (.bipush (-2), 2, [], (-2)), (.iastore, 1, [], 0)]
theorem ok_X3_vacate_48 : vBL MT qLen qCh false q_X3_vacate.2.2.2.2.1 q_X3_vacate.2.2.2.2.2.1 q_X3_vacate.2.2.1 q_X3_vacate.1.cls q_X3_vacate.1.name q_X3_vacate.2.1 70 48 I_X3_vacate_48 = true := by decide +kernel
def p_X3_vacate_48 : Nat → Nat → Int32 → Int32 → AH → Option (AH)
  | 0, _, _, _, _ => none
  | n + 1, a0, x1, x2, h => if x2 < ((64 : Int32)) then (if ((8 : Int32)) = 0 then none else
    if (x2 / ((8 : Int32))) = x1 then (if (tg h a0).1 = 2 then (if inB h (rR h a0 3) 100 x2 then (let h101 := wI h (rR h a0 3) x2.toNatClampNeg ((-2 : Int32))
    p_X3_vacate_70 (p_X3_vacate_48 n) a0 x1 x2 h101) else none) else none)
    else
    p_X3_vacate_70 (p_X3_vacate_48 n) a0 x1 x2 h)
    else
    some h
set_option maxRecDepth 100000 in
theorem e_X3_vacate_48 {l : Launch} {D : va_G} {dA : Nat → ClassId} {z : Nat} {sa : Nat → Nat} {Hz : Heap} (E : StrOK qLen qCh l D dA z sa Hz) {h0 fin : AH}  : ∀ (n : Nat) (a0 : Nat) (x1 : Int32) (x2 : Int32) (h : AH), p_X3_vacate_48 n a0 x1 x2 h = some fin → GM l D dA z sa Hz q_X3_vacate h0 none fin 48 [(0, .ref a0), (1, .int x1), (2, .int x2)] [] h := by
  intro n
  induction n with
  | zero => intro a0 x1 x2 h hd; exact nomatch hd
  | succ n ih =>
    intro a0 x1 x2 h hd
    exact step E (is := I_X3_vacate_48) (pc := 48) (K := (kx 76 (fun la st h => sE st (p_X3_vacate_76 h)) (kx 70 (fun la st h => gR la 0 fun a0 => gI la 1 fun x1 => gI la 2 fun x2 => sE st (p_X3_vacate_70 (p_X3_vacate_48 n) a0 x1 x2 h)) k0))) (FI := fI0) (FV := fV0) (FL := fL0) (rt := rtV) (ft := 70) (by exact hd) ok_X3_vacate_48 (kx_ok (fun la st h e => by obtain ⟨rfl, ez⟩ := sE_inv e; exact gm_fewer (e_X3_vacate_76 E   h ez) mem_nil) (kx_ok (fun la st h e => by obtain ⟨a0, m_a0, e1⟩ := gR_inv e; obtain ⟨x1, m_x1, e2⟩ := gI_inv e1; obtain ⟨x2, m_x2, e3⟩ := gI_inv e2; obtain ⟨rfl, ez⟩ := sE_inv e3; exact gm_fewer (e_X3_vacate_70 E ih a0 x1 x2 h ez) (mem_cons m_a0 (mem_cons m_x1 (mem_cons m_x2 mem_nil)))) k0_ok)) (fI0_ok E) (fV0_ok E) (fL0_ok E) (rtV_ok rfl)
def I_X3_vacate_0 : List AI := [(.aload_n 0, 1, [], 0), (.getfield 9, 3, [2, 0, 2, 285], 0), (.iload_n 1, 1, [], 0), (.bipush 7, 2, [], 7), (.iand, 1, [], 0), (.bipush (-2), 2, [], (-2)), (.iastore, 1, [], 0), (.aload_n 0, 1, [], 0), (.getfield 15, 3, [2, 1, 2, 286], 0), (.iload_n 1, 1, [], 0), (.bipush 7, 2, [], 7), (.iand, 1, [], 0), (.bipush (-2), 2, [], (-2)), (.iastore, 1, [], 0), (.aload_n 0, 1, [], 0), (.getfield 18, 3, [2, 2, 2, 287], 0), (.iload_n 1, 1, [], 0), (.bipush 7, 2, [], 7), (.iand, 1, [], 0), (.iconst 0, 1, [], 0), (.iastore, 1, [], 0), (.aload_n 0, 1, [], 0), (.dup, 1, [], 0), (.getfield 41, 3, [2, 4, 0, 289], 0), (.iconst 1, 1, [], 1), (.iload_n 1, 1, [], 0), (.ishl, 1, [], 0), (.iconst (-1), 1, [], (-1)), (.ixor, 1, [], 0), (.iand, 1, [], 0), (.putfield 41, 3, [2, 4, 0, 289], 0), (.iconst 0, 1, [], 0), (.istore_n 2, 1, [], 0)]
theorem ok_X3_vacate_0 : vBL MT qLen qCh false q_X3_vacate.2.2.2.2.1 q_X3_vacate.2.2.2.2.2.1 q_X3_vacate.2.2.1 q_X3_vacate.1.cls q_X3_vacate.1.name q_X3_vacate.2.1 48 0 I_X3_vacate_0 = true := by decide +kernel
def p_X3_vacate (a0 : Nat) (x1 : Int32) (h : AH) : Option (AH) :=
  if (tg h a0).1 = 2 then (if inB h (rR h a0 0) 100 (x1 &&& ((7 : Int32))) then (let h102 := wI h (rR h a0 0) (x1 &&& ((7 : Int32))).toNatClampNeg ((-2 : Int32))
  if (tg h102 a0).1 = 2 then (if inB h102 (rR h102 a0 1) 100 (x1 &&& ((7 : Int32))) then (let h103 := wI h102 (rR h102 a0 1) (x1 &&& ((7 : Int32))).toNatClampNeg ((-2 : Int32))
  if (tg h103 a0).1 = 2 then (if inB h103 (rR h103 a0 2) 100 (x1 &&& ((7 : Int32))) then (let h104 := wI h103 (rR h103 a0 2) (x1 &&& ((7 : Int32))).toNatClampNeg ((0 : Int32))
  if (tg h104 a0).1 = 2 then (if (tg h104 a0).1 = 2 then (let h105 := wI h104 a0 4 ((rI h104 a0 4) &&& ((((1 : Int32)) <<< (x1 &&& 31)) ^^^ ((-1 : Int32))))
  p_X3_vacate_48 FU a0 x1 ((0 : Int32)) h105) else none) else none) else none) else none) else none) else none) else none) else none
set_option maxRecDepth 100000 in
theorem e_X3_vacate_0 {l : Launch} {D : va_G} {dA : Nat → ClassId} {z : Nat} {sa : Nat → Nat} {Hz : Heap} (E : StrOK qLen qCh l D dA z sa Hz) {h0 fin : AH}  : ∀ (a0 : Nat) (x1 : Int32) (h : AH), p_X3_vacate a0 x1 h = some fin → GM l D dA z sa Hz q_X3_vacate h0 none fin 0 [(0, .ref a0), (1, .int x1)] [] h := by
  intro a0 x1 h hd
  exact step E (is := I_X3_vacate_0) (pc := 0) (K := (kx 48 (fun la st h => gR la 0 fun a0 => gI la 1 fun x1 => gI la 2 fun x2 => sE st (p_X3_vacate_48 FU a0 x1 x2 h)) k0)) (FI := fI0) (FV := fV0) (FL := fL0) (rt := rtV) (ft := 48) (by exact hd) ok_X3_vacate_0 (kx_ok (fun la st h e => by obtain ⟨a0, m_a0, e1⟩ := gR_inv e; obtain ⟨x1, m_x1, e2⟩ := gI_inv e1; obtain ⟨x2, m_x2, e3⟩ := gI_inv e2; obtain ⟨rfl, ez⟩ := sE_inv e3; exact gm_fewer (e_X3_vacate_48 E  FU a0 x1 x2 h ez) (mem_cons m_a0 (mem_cons m_x1 (mem_cons m_x2 mem_nil)))) k0_ok) (fI0_ok E) (fV0_ok E) (fL0_ok E) (rtV_ok rfl)
theorem c_X3_vacate {l : Launch} {D : va_G} {dA : Nat → ClassId} {z : Nat} {sa : Nat → Nat} {Hz : Heap} (E : StrOK qLen qCh l D dA z sa Hz) {a0 : Nat} {x1 : Int32} {h fin : AH} (hd : p_X3_vacate a0 x1 h = some fin) : CalOK l D dA z sa Hz q_X3_vacate [.ref a0, .int x1] h none fin := calOf (by decide +kernel) (Nat.le_of_ble_eq_true rfl) (e_X3_vacate_0 E a0 x1 h hd)
def FV_X3_startWith : Nat → List Value → AH → Option (AH) := (cx 45 (fun As h => sR As fun a0 As => sI As fun x1 As => sE As (p_X3_vacate a0 x1 h)) fV0)
theorem FV_X3_startWith_ok {l : Launch} {D : va_G} {dA : Nat → ClassId} {z : Nat} {sa : Nat → Nat} {Hz : Heap} (E : StrOK qLen qCh l D dA z sa Hz) : ∀ mi As h h', FV_X3_startWith mi As h = some h' → CalOK l D dA z sa Hz (MT mi) As h none h' := (cxV_ok (fun As h h2 e => by obtain ⟨_, _, rfl, e0⟩ := sR_inv e; obtain ⟨_, _, rfl, e1⟩ := sI_inv e0; obtain ⟨rfl, ez⟩ := sE_inv e1; exact c_X3_vacate E ez) (fV0_ok E))
def I_X3_startWith_29 : List AI := [(.return_, 1, [], 0)]
theorem ok_X3_startWith_29 : vBL MT qLen qCh false q_X3_startWith.2.2.2.2.1 q_X3_startWith.2.2.2.2.2.1 q_X3_startWith.2.2.1 q_X3_startWith.1.cls q_X3_startWith.1.name q_X3_startWith.2.1 0 29 I_X3_startWith_29 = true := by decide +kernel
def p_X3_startWith_29 (h : AH) : Option (AH) :=
  some h
set_option maxRecDepth 100000 in
theorem e_X3_startWith_29 {l : Launch} {D : va_G} {dA : Nat → ClassId} {z : Nat} {sa : Nat → Nat} {Hz : Heap} (E : StrOK qLen qCh l D dA z sa Hz) {h0 fin : AH}  : ∀  (h : AH), p_X3_startWith_29 h = some fin → GM l D dA z sa Hz q_X3_startWith h0 none fin 29 [] [] h := by
  intro h hd
  exact step E (is := I_X3_startWith_29) (pc := 29) (K := k0) (FI := fI0) (FV := FV_X3_startWith) (FL := fL0) (rt := rtV) (ft := 0) (by exact hd) ok_X3_startWith_29 k0_ok (fI0_ok E) (FV_X3_startWith_ok E) (fL0_ok E) (rtV_ok rfl)
def I_X3_startWith_12 : List AI := [(.iload_n 2, 1, [], 0), (.bipush 8, 2, [], 8), (.if_icmp .ge 14, 3, [29], 0), (.aload_n 0, 1, [], 0), (.iload_n 2, 1, [], 0), (.invokevirtual 31, 3, [2, 45, 2, 2, 625], 0), (.iinc 2 1, 3, [], 1), (.goto (-14), 3, [12], 0)]
theorem ok_X3_startWith_12 : vBL MT qLen qCh false q_X3_startWith.2.2.2.2.1 q_X3_startWith.2.2.2.2.2.1 q_X3_startWith.2.2.1 q_X3_startWith.1.cls q_X3_startWith.1.name q_X3_startWith.2.1 0 12 I_X3_startWith_12 = true := by decide +kernel
def p_X3_startWith_12 : Nat → Nat → Int32 → AH → Option (AH)
  | 0, _, _, _ => none
  | n + 1, a0, x2, h => if x2 < ((8 : Int32)) then (if (tg h a0).1 = 2 then ((p_X3_vacate a0 x2 h).bind fun h101 =>
    p_X3_startWith_12 n a0 (x2 + (1 : Int32)) h101) else none)
    else
    some h
set_option maxRecDepth 100000 in
theorem e_X3_startWith_12 {l : Launch} {D : va_G} {dA : Nat → ClassId} {z : Nat} {sa : Nat → Nat} {Hz : Heap} (E : StrOK qLen qCh l D dA z sa Hz) {h0 fin : AH}  : ∀ (n : Nat) (a0 : Nat) (x2 : Int32) (h : AH), p_X3_startWith_12 n a0 x2 h = some fin → GM l D dA z sa Hz q_X3_startWith h0 none fin 12 [(0, .ref a0), (2, .int x2)] [] h := by
  intro n
  induction n with
  | zero => intro a0 x2 h hd; exact nomatch hd
  | succ n ih =>
    intro a0 x2 h hd
    exact step E (is := I_X3_startWith_12) (pc := 12) (K := (kx 29 (fun la st h => sE st (p_X3_startWith_29 h)) (kx 12 (fun la st h => gR la 0 fun a0 => gI la 2 fun x2 => sE st (p_X3_startWith_12 n a0 x2 h)) k0))) (FI := fI0) (FV := FV_X3_startWith) (FL := fL0) (rt := rtV) (ft := 0) (by exact hd) ok_X3_startWith_12 (kx_ok (fun la st h e => by obtain ⟨rfl, ez⟩ := sE_inv e; exact gm_fewer (e_X3_startWith_29 E   h ez) mem_nil) (kx_ok (fun la st h e => by obtain ⟨a0, m_a0, e1⟩ := gR_inv e; obtain ⟨x2, m_x2, e2⟩ := gI_inv e1; obtain ⟨rfl, ez⟩ := sE_inv e2; exact gm_fewer (ih a0 x2 h ez) (mem_cons m_a0 (mem_cons m_x2 mem_nil))) k0_ok)) (fI0_ok E) (FV_X3_startWith_ok E) (fL0_ok E) (rtV_ok rfl)
def I_X3_startWith_0 : List AI := [(.aload_n 0, 1, [], 0), (.iload_n 1, 1, [], 0), (.putfield 24, 3, [2, 5, 0, 292], 0), (.aload_n 0, 1, [], 0), (.iconst 0, 1, [], 0), (.putfield 28, 3, [2, 6, 0, 293], 0), (.iconst 0, 1, [], 0), (.istore_n 2, 1, [], 0)]
theorem ok_X3_startWith_0 : vBL MT qLen qCh false q_X3_startWith.2.2.2.2.1 q_X3_startWith.2.2.2.2.2.1 q_X3_startWith.2.2.1 q_X3_startWith.1.cls q_X3_startWith.1.name q_X3_startWith.2.1 12 0 I_X3_startWith_0 = true := by decide +kernel
def p_X3_startWith (a0 : Nat) (x1 : Int32) (h : AH) : Option (AH) :=
  if (tg h a0).1 = 2 then (let h102 := wI h a0 5 x1
  if (tg h102 a0).1 = 2 then (let h103 := wI h102 a0 6 ((0 : Int32))
  p_X3_startWith_12 FU a0 ((0 : Int32)) h103) else none) else none
set_option maxRecDepth 100000 in
theorem e_X3_startWith_0 {l : Launch} {D : va_G} {dA : Nat → ClassId} {z : Nat} {sa : Nat → Nat} {Hz : Heap} (E : StrOK qLen qCh l D dA z sa Hz) {h0 fin : AH}  : ∀ (a0 : Nat) (x1 : Int32) (h : AH), p_X3_startWith a0 x1 h = some fin → GM l D dA z sa Hz q_X3_startWith h0 none fin 0 [(0, .ref a0), (1, .int x1)] [] h := by
  intro a0 x1 h hd
  exact step E (is := I_X3_startWith_0) (pc := 0) (K := (kx 12 (fun la st h => gR la 0 fun a0 => gI la 2 fun x2 => sE st (p_X3_startWith_12 FU a0 x2 h)) k0)) (FI := fI0) (FV := FV_X3_startWith) (FL := fL0) (rt := rtV) (ft := 12) (by exact hd) ok_X3_startWith_0 (kx_ok (fun la st h e => by obtain ⟨a0, m_a0, e1⟩ := gR_inv e; obtain ⟨x2, m_x2, e2⟩ := gI_inv e1; obtain ⟨rfl, ez⟩ := sE_inv e2; exact gm_fewer (e_X3_startWith_12 E  FU a0 x2 h ez) (mem_cons m_a0 (mem_cons m_x2 mem_nil))) k0_ok) (fI0_ok E) (FV_X3_startWith_ok E) (fL0_ok E) (rtV_ok rfl)
theorem c_X3_startWith {l : Launch} {D : va_G} {dA : Nat → ClassId} {z : Nat} {sa : Nat → Nat} {Hz : Heap} (E : StrOK qLen qCh l D dA z sa Hz) {a0 : Nat} {x1 : Int32} {h fin : AH} (hd : p_X3_startWith a0 x1 h = some fin) : CalOK l D dA z sa Hz q_X3_startWith [.ref a0, .int x1] h none fin := calOf (by decide +kernel) (Nat.le_of_ble_eq_true rfl) (e_X3_startWith_0 E a0 x1 h hd)
def I_X2_clearCounts_0 : List AI := [(.aload_n 0, 1, [], 0), (.iconst 0, 1, [], 0), (.putfield 46, 3, [1, 3, 0, 324], 0), (.aload_n 0, 1, [], 0), (.iconst 0, 1, [], 0), (.putfield 50, 3, [1, 4, 0, 326], 0), (.aload_n 0, 1, [], 0), (.iconst 0, 1, [], 0), (.putfield 53, 3, [1, 5, 0, 328], 0), (.aload_n 0, 1, [], 0), (.iconst 0, 1, [], 0), (.putfield 56, 3, [1, 6, 0, 330], 0), (.aload_n 0, 1, [], 0), (.iconst 0, 1, [], 0), (.putfield 59, 3, [1, 7, 0, 332], 0), (.return_, 1, [], 0)]
theorem ok_X2_clearCounts_0 : vBL MT qLen qCh false q_X2_clearCounts.2.2.2.2.1 q_X2_clearCounts.2.2.2.2.2.1 q_X2_clearCounts.2.2.1 q_X2_clearCounts.1.cls q_X2_clearCounts.1.name q_X2_clearCounts.2.1 0 0 I_X2_clearCounts_0 = true := by decide +kernel
def p_X2_clearCounts (a0 : Nat) (h : AH) : Option (AH) :=
  if (tg h a0).1 = 1 then (let h101 := wI h a0 3 ((0 : Int32))
  if (tg h101 a0).1 = 1 then (let h102 := wI h101 a0 4 ((0 : Int32))
  if (tg h102 a0).1 = 1 then (let h103 := wI h102 a0 5 ((0 : Int32))
  if (tg h103 a0).1 = 1 then (let h104 := wI h103 a0 6 ((0 : Int32))
  if (tg h104 a0).1 = 1 then (let h105 := wI h104 a0 7 ((0 : Int32))
  some h105) else none) else none) else none) else none) else none
set_option maxRecDepth 100000 in
theorem e_X2_clearCounts_0 {l : Launch} {D : va_G} {dA : Nat → ClassId} {z : Nat} {sa : Nat → Nat} {Hz : Heap} (E : StrOK qLen qCh l D dA z sa Hz) {h0 fin : AH}  : ∀ (a0 : Nat) (h : AH), p_X2_clearCounts a0 h = some fin → GM l D dA z sa Hz q_X2_clearCounts h0 none fin 0 [(0, .ref a0)] [] h := by
  intro a0 h hd
  exact step E (is := I_X2_clearCounts_0) (pc := 0) (K := k0) (FI := fI0) (FV := fV0) (FL := fL0) (rt := rtV) (ft := 0) (by exact hd) ok_X2_clearCounts_0 k0_ok (fI0_ok E) (fV0_ok E) (fL0_ok E) (rtV_ok rfl)
theorem c_X2_clearCounts {l : Launch} {D : va_G} {dA : Nat → ClassId} {z : Nat} {sa : Nat → Nat} {Hz : Heap} (E : StrOK qLen qCh l D dA z sa Hz) {a0 : Nat} {h fin : AH} (hd : p_X2_clearCounts a0 h = some fin) : CalOK l D dA z sa Hz q_X2_clearCounts [.ref a0] h none fin := calOf (by decide +kernel) (Nat.le_of_ble_eq_true rfl) (e_X2_clearCounts_0 E a0 h hd)
def FV_X2_startAnew : Nat → List Value → AH → Option (AH) := (cx 44 (fun As h => sR As fun a0 As => sR As fun a1 As => sE As (p_X1_copyFrom a0 a1 h)) (cx 46 (fun As h => sR As fun a0 As => sI As fun x1 As => sE As (p_X3_startWith a0 x1 h)) (cx 47 (fun As h => sR As fun a0 As => sE As (p_X2_clearCounts a0 h)) fV0)))
theorem FV_X2_startAnew_ok {l : Launch} {D : va_G} {dA : Nat → ClassId} {z : Nat} {sa : Nat → Nat} {Hz : Heap} (E : StrOK qLen qCh l D dA z sa Hz) : ∀ mi As h h', FV_X2_startAnew mi As h = some h' → CalOK l D dA z sa Hz (MT mi) As h none h' := (cxV_ok (fun As h h2 e => by obtain ⟨_, _, rfl, e0⟩ := sR_inv e; obtain ⟨_, _, rfl, e1⟩ := sR_inv e0; obtain ⟨rfl, ez⟩ := sE_inv e1; exact c_X1_copyFrom E ez) ((cxV_ok (fun As h h2 e => by obtain ⟨_, _, rfl, e0⟩ := sR_inv e; obtain ⟨_, _, rfl, e1⟩ := sI_inv e0; obtain ⟨rfl, ez⟩ := sE_inv e1; exact c_X3_startWith E ez) ((cxV_ok (fun As h h2 e => by obtain ⟨_, _, rfl, e0⟩ := sR_inv e; obtain ⟨rfl, ez⟩ := sE_inv e0; exact c_X2_clearCounts E ez) (fV0_ok E))))))
def I_X2_startAnew_0 : List AI := [(.aload_n 0, 1, [], 0), (.getfield 22, 3, [1, 1, 2, 320], 0), (.aload_n 1, 1, [], 0), (.invokevirtual 28, 3, [2, 44, 2, 0, 614], 0), (.aload_n 0, 1, [], 0), (.getfield 27, 3, [1, 2, 2, 322], 0), (.iload_n 2, 1, [], 0), (.invokevirtual 34, 3, [2, 46, 2, 2, 621], 0), (.aload_n 0, 1, [], 0), (.invokevirtual 40, 3, [2, 47, 1, 1, 629], 0), (.return_, 1, [], 0)]
theorem ok_X2_startAnew_0 : vBL MT qLen qCh false q_X2_startAnew.2.2.2.2.1 q_X2_startAnew.2.2.2.2.2.1 q_X2_startAnew.2.2.1 q_X2_startAnew.1.cls q_X2_startAnew.1.name q_X2_startAnew.2.1 0 0 I_X2_startAnew_0 = true := by decide +kernel
def p_X2_startAnew (a0 : Nat) (a1 : Nat) (x2 : Int32) (h : AH) : Option (AH) :=
  if (tg h a0).1 = 1 then (if (tg h (rR h a0 1)).1 = 0 then ((p_X1_copyFrom (rR h a0 1) a1 h).bind fun h101 =>
  if (tg h101 a0).1 = 1 then (if (tg h101 (rR h101 a0 2)).1 = 2 then ((p_X3_startWith (rR h101 a0 2) x2 h101).bind fun h102 =>
  if (tg h102 a0).1 = 1 then ((p_X2_clearCounts a0 h102).bind fun h103 =>
  some h103) else none) else none) else none) else none) else none
set_option maxRecDepth 100000 in
theorem e_X2_startAnew_0 {l : Launch} {D : va_G} {dA : Nat → ClassId} {z : Nat} {sa : Nat → Nat} {Hz : Heap} (E : StrOK qLen qCh l D dA z sa Hz) {h0 fin : AH}  : ∀ (a0 : Nat) (a1 : Nat) (x2 : Int32) (h : AH), p_X2_startAnew a0 a1 x2 h = some fin → GM l D dA z sa Hz q_X2_startAnew h0 none fin 0 [(0, .ref a0), (1, .ref a1), (2, .int x2)] [] h := by
  intro a0 a1 x2 h hd
  exact step E (is := I_X2_startAnew_0) (pc := 0) (K := k0) (FI := fI0) (FV := FV_X2_startAnew) (FL := fL0) (rt := rtV) (ft := 0) (by exact hd) ok_X2_startAnew_0 k0_ok (fI0_ok E) (FV_X2_startAnew_ok E) (fL0_ok E) (rtV_ok rfl)
theorem c_X2_startAnew {l : Launch} {D : va_G} {dA : Nat → ClassId} {z : Nat} {sa : Nat → Nat} {Hz : Heap} (E : StrOK qLen qCh l D dA z sa Hz) {a0 : Nat} {a1 : Nat} {x2 : Int32} {h fin : AH} (hd : p_X2_startAnew a0 a1 x2 h = some fin) : CalOK l D dA z sa Hz q_X2_startAnew [.ref a0, .ref a1, .int x2] h none fin := calOf (by decide +kernel) (Nat.le_of_ble_eq_true rfl) (e_X2_startAnew_0 E a0 a1 x2 h hd)
def FV_X7_begin : Nat → List Value → AH → Option (AH) := (cx 48 (fun As h => sR As fun a0 As => sR As fun a1 As => sI As fun x2 As => sE As (p_X2_startAnew a0 a1 x2 h)) fV0)
theorem FV_X7_begin_ok {l : Launch} {D : va_G} {dA : Nat → ClassId} {z : Nat} {sa : Nat → Nat} {Hz : Heap} (E : StrOK qLen qCh l D dA z sa Hz) : ∀ mi As h h', FV_X7_begin mi As h = some h' → CalOK l D dA z sa Hz (MT mi) As h none h' := (cxV_ok (fun As h h2 e => by obtain ⟨_, _, rfl, e0⟩ := sR_inv e; obtain ⟨_, _, rfl, e1⟩ := sR_inv e0; obtain ⟨_, _, rfl, e2⟩ := sI_inv e1; obtain ⟨rfl, ez⟩ := sE_inv e2; exact c_X2_startAnew E ez) (fV0_ok E))
def I_X7_begin_0 : List AI := [(.aload_n 0, 1, [], 0), (.iconst 1, 1, [], 1), (.putfield 107, 3, [6, 3, 3, 357], 0), (.aload_n 0, 1, [], 0), (.getfield 29, 3, [6, 4, 2, 358], 0), (.aload_n 0, 1, [], 0), (.getfield 19, 3, [6, 1, 2, 355], 0), (.getfield 258, 3, [5, 0, 2, 212], 0), (.aload_n 0, 1, [], 0), (.getfield 19, 3, [6, 1, 2, 355], 0), (.getfield 65, 3, [5, 1, 0, 214], 0), (.invokevirtual 354, 3, [2, 48, 3, 1, 610], 0), (.aload_n 0, 1, [], 0), (.iconst 0, 1, [], 0), (.putfield 320, 3, [6, 8, 0, 362], 0), (.aload_n 0, 1, [], 0), (.iconst 0, 1, [], 0), (.putfield 329, 3, [6, 10, 0, 364], 0), (.return_, 1, [], 0)]
theorem ok_X7_begin_0 : vBL MT qLen qCh false q_X7_begin.2.2.2.2.1 q_X7_begin.2.2.2.2.2.1 q_X7_begin.2.2.1 q_X7_begin.1.cls q_X7_begin.1.name q_X7_begin.2.1 0 0 I_X7_begin_0 = true := by decide +kernel
def p_X7_begin (a0 : Nat) (h : AH) : Option (AH) :=
  if (tg h a0).1 = 6 then (if ((1 : Int32)) &&& 1 = ((1 : Int32)) then (let h101 := wI h a0 3 ((1 : Int32))
  if (tg h101 a0).1 = 6 then (if (tg h101 a0).1 = 6 then (if (tg h101 (rR h101 a0 1)).1 = 5 then (if (tg h101 a0).1 = 6 then (if (tg h101 (rR h101 a0 1)).1 = 5 then (if (tg h101 (rR h101 a0 4)).1 = 1 then ((p_X2_startAnew (rR h101 a0 4) (rR h101 (rR h101 a0 1) 0) (rI h101 (rR h101 a0 1) 1) h101).bind fun h102 =>
  if (tg h102 a0).1 = 6 then (let h103 := wI h102 a0 8 ((0 : Int32))
  if (tg h103 a0).1 = 6 then (let h104 := wI h103 a0 10 ((0 : Int32))
  some h104) else none) else none) else none) else none) else none) else none) else none) else none) else none) else none
set_option maxRecDepth 100000 in
theorem e_X7_begin_0 {l : Launch} {D : va_G} {dA : Nat → ClassId} {z : Nat} {sa : Nat → Nat} {Hz : Heap} (E : StrOK qLen qCh l D dA z sa Hz) {h0 fin : AH}  : ∀ (a0 : Nat) (h : AH), p_X7_begin a0 h = some fin → GM l D dA z sa Hz q_X7_begin h0 none fin 0 [(0, .ref a0)] [] h := by
  intro a0 h hd
  exact step E (is := I_X7_begin_0) (pc := 0) (K := k0) (FI := fI0) (FV := FV_X7_begin) (FL := fL0) (rt := rtV) (ft := 0) (by exact hd) ok_X7_begin_0 k0_ok (fI0_ok E) (FV_X7_begin_ok E) (fL0_ok E) (rtV_ok rfl)
theorem c_X7_begin {l : Launch} {D : va_G} {dA : Nat → ClassId} {z : Nat} {sa : Nat → Nat} {Hz : Heap} (E : StrOK qLen qCh l D dA z sa Hz) {a0 : Nat} {h fin : AH} (hd : p_X7_begin a0 h = some fin) : CalOK l D dA z sa Hz q_X7_begin [.ref a0] h none fin := calOf (by decide +kernel) (Nat.le_of_ble_eq_true rfl) (e_X7_begin_0 E a0 h hd)
