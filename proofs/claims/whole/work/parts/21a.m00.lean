/-! ===== methods 0 to 2 ===== -/
def I_X5_init_0 : List AI := [(.aload_n 0, 1, [], 0), (.invokespecial 3, 3, [0, 144], 0), (.aload_n 0, 1, [], 0), (.sipush 900, 3, [], 900), (.newarray .byte, 2, [101], 0), (.putfield 9, 3, [4, 0, 2, 145], 0), (.return_, 1, [], 0)]
theorem ok_X5_init_0 : vBL MT qLen qCh false q_X5_init.2.2.2.2.1 q_X5_init.2.2.2.2.2.1 q_X5_init.2.2.1 q_X5_init.1.cls q_X5_init.1.name q_X5_init.2.1 0 0 I_X5_init_0 = true := by decide +kernel
def p_X5_init (a0 : Nat) (h : AH) : Option (AH) :=
  if a0 = 0 then none else
  if ((900 : Int32)) < 0 ∨ 100000 < ((900 : Int32)).toNatClampNeg then none else
  let h101 := al h 101 ((900 : Int32)).toNatClampNeg
  if (tg h101 a0).1 = 4 then (let h102 := wR h101 a0 0 (nx h)
  some h102) else none
set_option maxRecDepth 100000 in
theorem e_X5_init_0 {l : Launch} {D : va_G} {dA : Nat → ClassId} {z : Nat} {sa : Nat → Nat} {Hz : Heap} (E : StrOK qLen qCh l D dA z sa Hz) {h0 fin : AH}  : ∀ (a0 : Nat) (h : AH), p_X5_init a0 h = some fin → GM l D dA z sa Hz q_X5_init h0 none fin 0 [(0, .ref a0)] [] h := by
  intro a0 h hd
  exact step E (is := I_X5_init_0) (pc := 0) (K := k0) (FI := fI0) (FV := fV0) (FL := fL0) (rt := rtV) (ft := 0) (by exact hd) ok_X5_init_0 k0_ok (fI0_ok E) (fV0_ok E) (fL0_ok E) (rtV_ok rfl)
theorem c_X5_init {l : Launch} {D : va_G} {dA : Nat → ClassId} {z : Nat} {sa : Nat → Nat} {Hz : Heap} (E : StrOK qLen qCh l D dA z sa Hz) {a0 : Nat} {h fin : AH} (hd : p_X5_init a0 h = some fin) : CalOK l D dA z sa Hz q_X5_init [.ref a0] h none fin := calOf (by decide +kernel) (Nat.le_of_ble_eq_true rfl) (e_X5_init_0 E a0 h hd)
def I_X1_init_0 : List AI := [(.aload_n 0, 1, [], 0), (.invokespecial 3, 3, [0, 188], 0), (.aload_n 0, 1, [], 0), (.sipush 128, 3, [], 128), (.newarray .int, 2, [100], 0), (.putfield 9, 3, [0, 0, 2, 189], 0), (.aload_n 0, 1, [], 0), (.bipush 16, 2, [], 16), (.newarray .int, 2, [100], 0), (.putfield 15, 3, [0, 1, 2, 190], 0), (.return_, 1, [], 0)]
theorem ok_X1_init_0 : vBL MT qLen qCh false q_X1_init.2.2.2.2.1 q_X1_init.2.2.2.2.2.1 q_X1_init.2.2.1 q_X1_init.1.cls q_X1_init.1.name q_X1_init.2.1 0 0 I_X1_init_0 = true := by decide +kernel
def p_X1_init (a0 : Nat) (h : AH) : Option (AH) :=
  if a0 = 0 then none else
  if ((128 : Int32)) < 0 ∨ 100000 < ((128 : Int32)).toNatClampNeg then none else
  let h101 := al h 100 ((128 : Int32)).toNatClampNeg
  if (tg h101 a0).1 = 0 then (let h102 := wR h101 a0 0 (nx h)
  if ((16 : Int32)) < 0 ∨ 100000 < ((16 : Int32)).toNatClampNeg then none else
  let h103 := al h102 100 ((16 : Int32)).toNatClampNeg
  if (tg h103 a0).1 = 0 then (let h104 := wR h103 a0 1 (nx h102)
  some h104) else none) else none
set_option maxRecDepth 100000 in
theorem e_X1_init_0 {l : Launch} {D : va_G} {dA : Nat → ClassId} {z : Nat} {sa : Nat → Nat} {Hz : Heap} (E : StrOK qLen qCh l D dA z sa Hz) {h0 fin : AH}  : ∀ (a0 : Nat) (h : AH), p_X1_init a0 h = some fin → GM l D dA z sa Hz q_X1_init h0 none fin 0 [(0, .ref a0)] [] h := by
  intro a0 h hd
  exact step E (is := I_X1_init_0) (pc := 0) (K := k0) (FI := fI0) (FV := fV0) (FL := fL0) (rt := rtV) (ft := 0) (by exact hd) ok_X1_init_0 k0_ok (fI0_ok E) (fV0_ok E) (fL0_ok E) (rtV_ok rfl)
theorem c_X1_init {l : Launch} {D : va_G} {dA : Nat → ClassId} {z : Nat} {sa : Nat → Nat} {Hz : Heap} (E : StrOK qLen qCh l D dA z sa Hz) {a0 : Nat} {h fin : AH} (hd : p_X1_init a0 h = some fin) : CalOK l D dA z sa Hz q_X1_init [.ref a0] h none fin := calOf (by decide +kernel) (Nat.le_of_ble_eq_true rfl) (e_X1_init_0 E a0 h hd)
def FV_X6_init : Nat → List Value → AH → Option (AH) := (cx 1 (fun As h => sR As fun a0 As => sE As (p_X1_init a0 h)) fV0)
theorem FV_X6_init_ok {l : Launch} {D : va_G} {dA : Nat → ClassId} {z : Nat} {sa : Nat → Nat} {Hz : Heap} (E : StrOK qLen qCh l D dA z sa Hz) : ∀ mi As h h', FV_X6_init mi As h = some h' → CalOK l D dA z sa Hz (MT mi) As h none h' := (cxV_ok (fun As h h2 e => by obtain ⟨_, _, rfl, e0⟩ := sR_inv e; obtain ⟨rfl, ez⟩ := sE_inv e0; exact c_X1_init E ez) (fV0_ok E))
def I_X6_init_0 : List AI := [(.aload_n 0, 1, [], 0), (.invokespecial 3, 3, [0, 182], 0), (.aload_n 0, 1, [], 0), (.new 9, 3, [0, 5, 183], 0), (.dup, 1, [], 0), (.invokespecial 11, 3, [2, 1, 1, 185], 0), (.putfield 12, 3, [5, 0, 2, 210], 0), (.aload_n 0, 1, [], 0), (.sipush 128, 3, [], 128), (.newarray .boolean, 2, [102], 0), (.putfield 18, 3, [5, 3, 2, 218], 0), (.aload_n 0, 1, [], 0), (.bipush 10, 2, [], 10), (.newarray .int, 2, [100], 0), (.putfield 22, 3, [5, 5, 2, 222], 0), (.aload_n 0, 1, [], 0), (.iconst 4, 1, [], 4), (.newarray .int, 2, [100], 0), (.putfield 26, 3, [5, 7, 2, 227], 0), (.aload_n 0, 1, [], 0), (.iconst 4, 1, [], 4), (.newarray .int, 2, [100], 0), (.putfield 29, 3, [5, 8, 2, 228], 0), (.aload_n 0, 1, [], 0), (.bipush 6, 2, [], 6), (.newarray .int, 2, [100], 0), (.putfield 32, 3, [5, 10, 2, 232], 0), (.aload_n 0, 1, [], 0), (.bipush 6, 2, [], 6), (.newarray .int, 2, [100], 0), (.putfield 35, 3, [5, 11, 2, 233], 0), (.return_, 1, [], 0)]
theorem ok_X6_init_0 : vBL MT qLen qCh false q_X6_init.2.2.2.2.1 q_X6_init.2.2.2.2.2.1 q_X6_init.2.2.1 q_X6_init.1.cls q_X6_init.1.name q_X6_init.2.1 0 0 I_X6_init_0 = true := by decide +kernel
def p_X6_init (a0 : Nat) (h : AH) : Option (AH) :=
  if a0 = 0 then none else
  let h101 := al h 0 5
  if (nx h) = 0 then none else
  (p_X1_init (nx h) h101).bind fun h102 =>
  if (tg h102 a0).1 = 5 then (let h103 := wR h102 a0 0 (nx h)
  if ((128 : Int32)) < 0 ∨ 100000 < ((128 : Int32)).toNatClampNeg then none else
  let h104 := al h103 102 ((128 : Int32)).toNatClampNeg
  if (tg h104 a0).1 = 5 then (let h105 := wR h104 a0 3 (nx h103)
  if ((10 : Int32)) < 0 ∨ 100000 < ((10 : Int32)).toNatClampNeg then none else
  let h106 := al h105 100 ((10 : Int32)).toNatClampNeg
  if (tg h106 a0).1 = 5 then (let h107 := wR h106 a0 5 (nx h105)
  if ((4 : Int32)) < 0 ∨ 100000 < ((4 : Int32)).toNatClampNeg then none else
  let h108 := al h107 100 ((4 : Int32)).toNatClampNeg
  if (tg h108 a0).1 = 5 then (let h109 := wR h108 a0 7 (nx h107)
  if ((4 : Int32)) < 0 ∨ 100000 < ((4 : Int32)).toNatClampNeg then none else
  let h110 := al h109 100 ((4 : Int32)).toNatClampNeg
  if (tg h110 a0).1 = 5 then (let h111 := wR h110 a0 8 (nx h109)
  if ((6 : Int32)) < 0 ∨ 100000 < ((6 : Int32)).toNatClampNeg then none else
  let h112 := al h111 100 ((6 : Int32)).toNatClampNeg
  if (tg h112 a0).1 = 5 then (let h113 := wR h112 a0 10 (nx h111)
  if ((6 : Int32)) < 0 ∨ 100000 < ((6 : Int32)).toNatClampNeg then none else
  let h114 := al h113 100 ((6 : Int32)).toNatClampNeg
  if (tg h114 a0).1 = 5 then (let h115 := wR h114 a0 11 (nx h113)
  some h115) else none) else none) else none) else none) else none) else none) else none
set_option maxRecDepth 100000 in
theorem e_X6_init_0 {l : Launch} {D : va_G} {dA : Nat → ClassId} {z : Nat} {sa : Nat → Nat} {Hz : Heap} (E : StrOK qLen qCh l D dA z sa Hz) {h0 fin : AH}  : ∀ (a0 : Nat) (h : AH), p_X6_init a0 h = some fin → GM l D dA z sa Hz q_X6_init h0 none fin 0 [(0, .ref a0)] [] h := by
  intro a0 h hd
  exact step E (is := I_X6_init_0) (pc := 0) (K := k0) (FI := fI0) (FV := FV_X6_init) (FL := fL0) (rt := rtV) (ft := 0) (by exact hd) ok_X6_init_0 k0_ok (fI0_ok E) (FV_X6_init_ok E) (fL0_ok E) (rtV_ok rfl)
theorem c_X6_init {l : Launch} {D : va_G} {dA : Nat → ClassId} {z : Nat} {sa : Nat → Nat} {Hz : Heap} (E : StrOK qLen qCh l D dA z sa Hz) {a0 : Nat} {h fin : AH} (hd : p_X6_init a0 h = some fin) : CalOK l D dA z sa Hz q_X6_init [.ref a0] h none fin := calOf (by decide +kernel) (Nat.le_of_ble_eq_true rfl) (e_X6_init_0 E a0 h hd)
