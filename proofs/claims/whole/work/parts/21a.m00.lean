/-! ===== methods 0 to 24 ===== -/
def I_X5_init_0 : List AI := [(.aload_n 0, 1, [], 0), (.invokespecial 3, 3, [0, 144], 0), (.aload_n 0, 1, [], 0), (.sipush 900, 3, [], 900), (.newarray .byte, 2, [101], 0), (.putfield 9, 3, [4, 0, 2, 145], 0), (.return_, 1, [], 0)]
theorem ok_X5_init_0 : vBL MT qLen qCh false q_X5_init.2.2.2.2.1 q_X5_init.2.2.2.2.2.1 q_X5_init.2.2.1 q_X5_init.1.cls q_X5_init.1.name q_X5_init.2.1 0 0 I_X5_init_0 = true := by decide +kernel
def p_X5_init (a0 : Nat) (h : AH) : Option (AH) :=
  if a0 = 0 then none else
  if ((900 : Int32)) < 0 ∨ 100000 < ((900 : Int32)).toNatClampNeg then none else
  let h101 := al h 101 ((900 : Int32)).toNatClampNeg
  if (tg h101 a0).1 = 4 then (let h102 := wR h101 a0 0 (nx h)
  some h102) else none
set_option maxRecDepth 100000 in
theorem e_X5_init_0 {l : Launch} {D : va_G} {dA : Nat → ClassId} {z : Nat} {sa : Nat → Nat} {Hz : Heap} (E : StrOK qLen qCh l D dA z sa Hz) {h0 fin : AH}  : ∀ (a0 : Nat) (h : AH), p_X5_init a0 h = some fin → GM l D dA z sa Hz q_X5_init h0 none fin 0 [(0, .ref a0)] [] h := by
  intro a0 h hd
  exact step E (is := I_X5_init_0) (pc := 0) (K := k0) (FI := fI0) (FV := fV0) (FL := fL0) (rt := rtV) (ft := 0) (by exact hd) ok_X5_init_0 k0_ok (fI0_ok E) (fV0_ok E) (fL0_ok E) (rtV_ok rfl)
theorem c_X5_init {l : Launch} {D : va_G} {dA : Nat → ClassId} {z : Nat} {sa : Nat → Nat} {Hz : Heap} (E : StrOK qLen qCh l D dA z sa Hz) {a0 : Nat} {h fin : AH} (hd : p_X5_init a0 h = some fin) : CalOK l D dA z sa Hz q_X5_init [.ref a0] h none fin := calOf (by decide +kernel) (Nat.le_of_ble_eq_true rfl) (e_X5_init_0 E a0 h hd)
def I_X1_init_0 : List AI := [(.aload_n 0, 1, [], 0), (.invokespecial 3, 3, [0, 188], 0), (.aload_n 0, 1, [], 0), (.sipush 128, 3, [], 128), (.newarray .int, 2, [100], 0), (.putfield 9, 3, [0, 0, 2, 189], 0), (.aload_n 0, 1, [], 0), (.bipush 16, 2, [], 16), (.newarray .int, 2, [100], 0), (.putfield 15, 3, [0, 1, 2, 190], 0), (.return_, 1, [], 0)]
theorem ok_X1_init_0 : vBL MT qLen qCh false q_X1_init.2.2.2.2.1 q_X1_init.2.2.2.2.2.1 q_X1_init.2.2.1 q_X1_init.1.cls q_X1_init.1.name q_X1_init.2.1 0 0 I_X1_init_0 = true := by decide +kernel
def p_X1_init (a0 : Nat) (h : AH) : Option (AH) :=
  if a0 = 0 then none else
  if ((128 : Int32)) < 0 ∨ 100000 < ((128 : Int32)).toNatClampNeg then none else
  let h101 := al h 100 ((128 : Int32)).toNatClampNeg
  if (tg h101 a0).1 = 0 then (let h102 := wR h101 a0 0 (nx h)
  if ((16 : Int32)) < 0 ∨ 100000 < ((16 : Int32)).toNatClampNeg then none else
  let h103 := al h102 100 ((16 : Int32)).toNatClampNeg
  if (tg h103 a0).1 = 0 then (let h104 := wR h103 a0 1 (nx h102)
  some h104) else none) else none
set_option maxRecDepth 100000 in
theorem e_X1_init_0 {l : Launch} {D : va_G} {dA : Nat → ClassId} {z : Nat} {sa : Nat → Nat} {Hz : Heap} (E : StrOK qLen qCh l D dA z sa Hz) {h0 fin : AH}  : ∀ (a0 : Nat) (h : AH), p_X1_init a0 h = some fin → GM l D dA z sa Hz q_X1_init h0 none fin 0 [(0, .ref a0)] [] h := by
  intro a0 h hd
  exact step E (is := I_X1_init_0) (pc := 0) (K := k0) (FI := fI0) (FV := fV0) (FL := fL0) (rt := rtV) (ft := 0) (by exact hd) ok_X1_init_0 k0_ok (fI0_ok E) (fV0_ok E) (fL0_ok E) (rtV_ok rfl)
theorem c_X1_init {l : Launch} {D : va_G} {dA : Nat → ClassId} {z : Nat} {sa : Nat → Nat} {Hz : Heap} (E : StrOK qLen qCh l D dA z sa Hz) {a0 : Nat} {h fin : AH} (hd : p_X1_init a0 h = some fin) : CalOK l D dA z sa Hz q_X1_init [.ref a0] h none fin := calOf (by decide +kernel) (Nat.le_of_ble_eq_true rfl) (e_X1_init_0 E a0 h hd)
def FV_X6_init : Nat → List Value → AH → Option (AH) := (cx 1 (fun As h => sR As fun a0 As => sE As (p_X1_init a0 h)) fV0)
theorem FV_X6_init_ok {l : Launch} {D : va_G} {dA : Nat → ClassId} {z : Nat} {sa : Nat → Nat} {Hz : Heap} (E : StrOK qLen qCh l D dA z sa Hz) : ∀ mi As h h', FV_X6_init mi As h = some h' → CalOK l D dA z sa Hz (MT mi) As h none h' := (cxV_ok (fun As h h2 e => by obtain ⟨_, _, rfl, e0⟩ := sR_inv e; obtain ⟨rfl, ez⟩ := sE_inv e0; exact c_X1_init E ez) (fV0_ok E))
def I_X6_init_0 : List AI := [(.aload_n 0, 1, [], 0), (.invokespecial 3, 3, [0, 182], 0), (.aload_n 0, 1, [], 0), (.new 9, 3, [0, 5, 183], 0), (.dup, 1, [], 0), (.invokespecial 11, 3, [2, 1, 1, 185], 0), (.putfield 12, 3, [5, 0, 2, 210], 0), (.aload_n 0, 1, [], 0), (.sipush 128, 3, [], 128), (.newarray .boolean, 2, [102], 0), (.putfield 18, 3, [5, 3, 2, 218], 0), (.aload_n 0, 1, [], 0), (.bipush 10, 2, [], 10), (.newarray .int, 2, [100], 0), (.putfield 22, 3, [5, 5, 2, 222], 0), (.aload_n 0, 1, [], 0), (.iconst 4, 1, [], 4), (.newarray .int, 2, [100], 0), (.putfield 26, 3, [5, 7, 2, 227], 0), (.aload_n 0, 1, [], 0), (.iconst 4, 1, [], 4), (.newarray .int, 2, [100], 0), (.putfield 29, 3, [5, 8, 2, 228], 0), (.aload_n 0, 1, [], 0), (.bipush 6, 2, [], 6), (.newarray .int, 2, [100], 0), (.putfield 32, 3, [5, 10, 2, 232], 0), (.aload_n 0, 1, [], 0), (.bipush 6, 2, [], 6), (.newarray .int, 2, [100], 0), (.putfield 35, 3, [5, 11, 2, 233], 0), (.return_, 1, [], 0)]
theorem ok_X6_init_0 : vBL MT qLen qCh false q_X6_init.2.2.2.2.1 q_X6_init.2.2.2.2.2.1 q_X6_init.2.2.1 q_X6_init.1.cls q_X6_init.1.name q_X6_init.2.1 0 0 I_X6_init_0 = true := by decide +kernel
def p_X6_init (a0 : Nat) (h : AH) : Option (AH) :=
  if a0 = 0 then none else
  let h101 := al h 0 5
  if (nx h) = 0 then none else
  (p_X1_init (nx h) h101).bind fun h102 =>
  if (tg h102 a0).1 = 5 then (let h103 := wR h102 a0 0 (nx h)
  if ((128 : Int32)) < 0 ∨ 100000 < ((128 : Int32)).toNatClampNeg then none else
  let h104 := al h103 102 ((128 : Int32)).toNatClampNeg
  if (tg h104 a0).1 = 5 then (let h105 := wR h104 a0 3 (nx h103)
  if ((10 : Int32)) < 0 ∨ 100000 < ((10 : Int32)).toNatClampNeg then none else
  let h106 := al h105 100 ((10 : Int32)).toNatClampNeg
  if (tg h106 a0).1 = 5 then (let h107 := wR h106 a0 5 (nx h105)
  if ((4 : Int32)) < 0 ∨ 100000 < ((4 : Int32)).toNatClampNeg then none else
  let h108 := al h107 100 ((4 : Int32)).toNatClampNeg
  if (tg h108 a0).1 = 5 then (let h109 := wR h108 a0 7 (nx h107)
  if ((4 : Int32)) < 0 ∨ 100000 < ((4 : Int32)).toNatClampNeg then none else
  let h110 := al h109 100 ((4 : Int32)).toNatClampNeg
  if (tg h110 a0).1 = 5 then (let h111 := wR h110 a0 8 (nx h109)
  if ((6 : Int32)) < 0 ∨ 100000 < ((6 : Int32)).toNatClampNeg then none else
  let h112 := al h111 100 ((6 : Int32)).toNatClampNeg
  if (tg h112 a0).1 = 5 then (let h113 := wR h112 a0 10 (nx h111)
  if ((6 : Int32)) < 0 ∨ 100000 < ((6 : Int32)).toNatClampNeg then none else
  let h114 := al h113 100 ((6 : Int32)).toNatClampNeg
  if (tg h114 a0).1 = 5 then (let h115 := wR h114 a0 11 (nx h113)
  some h115) else none) else none) else none) else none) else none) else none) else none
set_option maxRecDepth 100000 in
theorem e_X6_init_0 {l : Launch} {D : va_G} {dA : Nat → ClassId} {z : Nat} {sa : Nat → Nat} {Hz : Heap} (E : StrOK qLen qCh l D dA z sa Hz) {h0 fin : AH}  : ∀ (a0 : Nat) (h : AH), p_X6_init a0 h = some fin → GM l D dA z sa Hz q_X6_init h0 none fin 0 [(0, .ref a0)] [] h := by
  intro a0 h hd
  exact step E (is := I_X6_init_0) (pc := 0) (K := k0) (FI := fI0) (FV := FV_X6_init) (FL := fL0) (rt := rtV) (ft := 0) (by exact hd) ok_X6_init_0 k0_ok (fI0_ok E) (FV_X6_init_ok E) (fL0_ok E) (rtV_ok rfl)
theorem c_X6_init {l : Launch} {D : va_G} {dA : Nat → ClassId} {z : Nat} {sa : Nat → Nat} {Hz : Heap} (E : StrOK qLen qCh l D dA z sa Hz) {a0 : Nat} {h fin : AH} (hd : p_X6_init a0 h = some fin) : CalOK l D dA z sa Hz q_X6_init [.ref a0] h none fin := calOf (by decide +kernel) (Nat.le_of_ble_eq_true rfl) (e_X6_init_0 E a0 h hd)
def I_X3_init_0 : List AI := [(.aload_n 0, 1, [], 0), (.invokespecial 3, 3, [0, 284], 0), (.aload_n 0, 1, [], 0), (.bipush 8, 2, [], 8), (.newarray .int, 2, [100], 0), (.putfield 9, 3, [2, 0, 2, 285], 0), (.aload_n 0, 1, [], 0), (.bipush 8, 2, [], 8), (.newarray .int, 2, [100], 0), (.putfield 15, 3, [2, 1, 2, 286], 0), (.aload_n 0, 1, [], 0), (.bipush 8, 2, [], 8), (.newarray .int, 2, [100], 0), (.putfield 18, 3, [2, 2, 2, 287], 0), (.aload_n 0, 1, [], 0), (.bipush 64, 2, [], 64), (.newarray .int, 2, [100], 0), (.putfield 21, 3, [2, 3, 2, 288], 0), (.return_, 1, [], 0)]
theorem ok_X3_init_0 : vBL MT qLen qCh false q_X3_init.2.2.2.2.1 q_X3_init.2.2.2.2.2.1 q_X3_init.2.2.1 q_X3_init.1.cls q_X3_init.1.name q_X3_init.2.1 0 0 I_X3_init_0 = true := by decide +kernel
def p_X3_init (a0 : Nat) (h : AH) : Option (AH) :=
  if a0 = 0 then none else
  if ((8 : Int32)) < 0 ∨ 100000 < ((8 : Int32)).toNatClampNeg then none else
  let h101 := al h 100 ((8 : Int32)).toNatClampNeg
  if (tg h101 a0).1 = 2 then (let h102 := wR h101 a0 0 (nx h)
  if ((8 : Int32)) < 0 ∨ 100000 < ((8 : Int32)).toNatClampNeg then none else
  let h103 := al h102 100 ((8 : Int32)).toNatClampNeg
  if (tg h103 a0).1 = 2 then (let h104 := wR h103 a0 1 (nx h102)
  if ((8 : Int32)) < 0 ∨ 100000 < ((8 : Int32)).toNatClampNeg then none else
  let h105 := al h104 100 ((8 : Int32)).toNatClampNeg
  if (tg h105 a0).1 = 2 then (let h106 := wR h105 a0 2 (nx h104)
  if ((64 : Int32)) < 0 ∨ 100000 < ((64 : Int32)).toNatClampNeg then none else
  let h107 := al h106 100 ((64 : Int32)).toNatClampNeg
  if (tg h107 a0).1 = 2 then (let h108 := wR h107 a0 3 (nx h106)
  some h108) else none) else none) else none) else none
set_option maxRecDepth 100000 in
theorem e_X3_init_0 {l : Launch} {D : va_G} {dA : Nat → ClassId} {z : Nat} {sa : Nat → Nat} {Hz : Heap} (E : StrOK qLen qCh l D dA z sa Hz) {h0 fin : AH}  : ∀ (a0 : Nat) (h : AH), p_X3_init a0 h = some fin → GM l D dA z sa Hz q_X3_init h0 none fin 0 [(0, .ref a0)] [] h := by
  intro a0 h hd
  exact step E (is := I_X3_init_0) (pc := 0) (K := k0) (FI := fI0) (FV := fV0) (FL := fL0) (rt := rtV) (ft := 0) (by exact hd) ok_X3_init_0 k0_ok (fI0_ok E) (fV0_ok E) (fL0_ok E) (rtV_ok rfl)
theorem c_X3_init {l : Launch} {D : va_G} {dA : Nat → ClassId} {z : Nat} {sa : Nat → Nat} {Hz : Heap} (E : StrOK qLen qCh l D dA z sa Hz) {a0 : Nat} {h fin : AH} (hd : p_X3_init a0 h = some fin) : CalOK l D dA z sa Hz q_X3_init [.ref a0] h none fin := calOf (by decide +kernel) (Nat.le_of_ble_eq_true rfl) (e_X3_init_0 E a0 h hd)
def FV_X4_init : Nat → List Value → AH → Option (AH) := (cx 1 (fun As h => sR As fun a0 As => sE As (p_X1_init a0 h)) (cx 3 (fun As h => sR As fun a0 As => sE As (p_X3_init a0 h)) fV0))
theorem FV_X4_init_ok {l : Launch} {D : va_G} {dA : Nat → ClassId} {z : Nat} {sa : Nat → Nat} {Hz : Heap} (E : StrOK qLen qCh l D dA z sa Hz) : ∀ mi As h h', FV_X4_init mi As h = some h' → CalOK l D dA z sa Hz (MT mi) As h none h' := (cxV_ok (fun As h h2 e => by obtain ⟨_, _, rfl, e0⟩ := sR_inv e; obtain ⟨rfl, ez⟩ := sE_inv e0; exact c_X1_init E ez) ((cxV_ok (fun As h h2 e => by obtain ⟨_, _, rfl, e0⟩ := sR_inv e; obtain ⟨rfl, ez⟩ := sE_inv e0; exact c_X3_init E ez) (fV0_ok E))))
def I_X4_init_0 : List AI := [(.aload_n 0, 1, [], 0), (.invokespecial 1, 3, [0, 276], 0), (.aload_n 0, 1, [], 0), (.new 7, 3, [0, 5, 277], 0), (.dup, 1, [], 0), (.invokespecial 9, 3, [2, 1, 1, 278], 0), (.putfield 10, 3, [3, 0, 2, 309], 0), (.aload_n 0, 1, [], 0), (.new 16, 3, [2, 7, 279], 0), (.dup, 1, [], 0), (.invokespecial 18, 3, [2, 3, 1, 281], 0), (.putfield 19, 3, [3, 1, 2, 311], 0), (.return_, 1, [], 0)]
theorem ok_X4_init_0 : vBL MT qLen qCh false q_X4_init.2.2.2.2.1 q_X4_init.2.2.2.2.2.1 q_X4_init.2.2.1 q_X4_init.1.cls q_X4_init.1.name q_X4_init.2.1 0 0 I_X4_init_0 = true := by decide +kernel
def p_X4_init (a0 : Nat) (h : AH) : Option (AH) :=
  if a0 = 0 then none else
  let h101 := al h 0 5
  if (nx h) = 0 then none else
  (p_X1_init (nx h) h101).bind fun h102 =>
  if (tg h102 a0).1 = 3 then (let h103 := wR h102 a0 0 (nx h)
  let h104 := al h103 2 7
  if (nx h103) = 0 then none else
  (p_X3_init (nx h103) h104).bind fun h105 =>
  if (tg h105 a0).1 = 3 then (let h106 := wR h105 a0 1 (nx h103)
  some h106) else none) else none
set_option maxRecDepth 100000 in
theorem e_X4_init_0 {l : Launch} {D : va_G} {dA : Nat → ClassId} {z : Nat} {sa : Nat → Nat} {Hz : Heap} (E : StrOK qLen qCh l D dA z sa Hz) {h0 fin : AH}  : ∀ (a0 : Nat) (h : AH), p_X4_init a0 h = some fin → GM l D dA z sa Hz q_X4_init h0 none fin 0 [(0, .ref a0)] [] h := by
  intro a0 h hd
  exact step E (is := I_X4_init_0) (pc := 0) (K := k0) (FI := fI0) (FV := FV_X4_init) (FL := fL0) (rt := rtV) (ft := 0) (by exact hd) ok_X4_init_0 k0_ok (fI0_ok E) (FV_X4_init_ok E) (fL0_ok E) (rtV_ok rfl)
theorem c_X4_init {l : Launch} {D : va_G} {dA : Nat → ClassId} {z : Nat} {sa : Nat → Nat} {Hz : Heap} (E : StrOK qLen qCh l D dA z sa Hz) {a0 : Nat} {h fin : AH} (hd : p_X4_init a0 h = some fin) : CalOK l D dA z sa Hz q_X4_init [.ref a0] h none fin := calOf (by decide +kernel) (Nat.le_of_ble_eq_true rfl) (e_X4_init_0 E a0 h hd)
def FV_X2_init : Nat → List Value → AH → Option (AH) := (cx 4 (fun As h => sR As fun a0 As => sE As (p_X4_init a0 h)) fV0)
theorem FV_X2_init_ok {l : Launch} {D : va_G} {dA : Nat → ClassId} {z : Nat} {sa : Nat → Nat} {Hz : Heap} (E : StrOK qLen qCh l D dA z sa Hz) : ∀ mi As h h', FV_X2_init mi As h = some h' → CalOK l D dA z sa Hz (MT mi) As h none h' := (cxV_ok (fun As h h2 e => by obtain ⟨_, _, rfl, e0⟩ := sR_inv e; obtain ⟨rfl, ez⟩ := sE_inv e0; exact c_X4_init E ez) (fV0_ok E))
def I_X2_init_0 : List AI := [(.aload_n 0, 1, [], 0), (.invokespecial 3, 3, [0, 270], 0), (.aload_n 0, 1, [], 0), (.new 9, 3, [3, 2, 271], 0), (.dup, 1, [], 0), (.invokespecial 11, 3, [2, 4, 1, 273], 0), (.putfield 12, 3, [1, 0, 2, 318], 0), (.aload_n 0, 1, [], 0), (.aload_n 0, 1, [], 0), (.getfield 12, 3, [1, 0, 2, 318], 0), (.getfield 18, 3, [3, 0, 2, 310], 0), (.putfield 22, 3, [1, 1, 2, 320], 0), (.aload_n 0, 1, [], 0), (.aload_n 0, 1, [], 0), (.getfield 12, 3, [1, 0, 2, 318], 0), (.getfield 23, 3, [3, 1, 2, 312], 0), (.putfield 27, 3, [1, 2, 2, 322], 0), (.return_, 1, [], 0)]
theorem ok_X2_init_0 : vBL MT qLen qCh false q_X2_init.2.2.2.2.1 q_X2_init.2.2.2.2.2.1 q_X2_init.2.2.1 q_X2_init.1.cls q_X2_init.1.name q_X2_init.2.1 0 0 I_X2_init_0 = true := by decide +kernel
def p_X2_init (a0 : Nat) (h : AH) : Option (AH) :=
  if a0 = 0 then none else
  let h101 := al h 3 2
  if (nx h) = 0 then none else
  (p_X4_init (nx h) h101).bind fun h102 =>
  if (tg h102 a0).1 = 1 then (let h103 := wR h102 a0 0 (nx h)
  if (tg h103 a0).1 = 1 then (if (tg h103 (rR h103 a0 0)).1 = 3 then (if (tg h103 a0).1 = 1 then (let h104 := wR h103 a0 1 (rR h103 (rR h103 a0 0) 0)
  if (tg h104 a0).1 = 1 then (if (tg h104 (rR h104 a0 0)).1 = 3 then (if (tg h104 a0).1 = 1 then (let h105 := wR h104 a0 2 (rR h104 (rR h104 a0 0) 1)
  some h105) else none) else none) else none) else none) else none) else none) else none
set_option maxRecDepth 100000 in
theorem e_X2_init_0 {l : Launch} {D : va_G} {dA : Nat → ClassId} {z : Nat} {sa : Nat → Nat} {Hz : Heap} (E : StrOK qLen qCh l D dA z sa Hz) {h0 fin : AH}  : ∀ (a0 : Nat) (h : AH), p_X2_init a0 h = some fin → GM l D dA z sa Hz q_X2_init h0 none fin 0 [(0, .ref a0)] [] h := by
  intro a0 h hd
  exact step E (is := I_X2_init_0) (pc := 0) (K := k0) (FI := fI0) (FV := FV_X2_init) (FL := fL0) (rt := rtV) (ft := 0) (by exact hd) ok_X2_init_0 k0_ok (fI0_ok E) (FV_X2_init_ok E) (fL0_ok E) (rtV_ok rfl)
theorem c_X2_init {l : Launch} {D : va_G} {dA : Nat → ClassId} {z : Nat} {sa : Nat → Nat} {Hz : Heap} (E : StrOK qLen qCh l D dA z sa Hz) {a0 : Nat} {h fin : AH} (hd : p_X2_init a0 h = some fin) : CalOK l D dA z sa Hz q_X2_init [.ref a0] h none fin := calOf (by decide +kernel) (Nat.le_of_ble_eq_true rfl) (e_X2_init_0 E a0 h hd)
def FV_X7_init : Nat → List Value → AH → Option (AH) := (cx 0 (fun As h => sR As fun a0 As => sE As (p_X5_init a0 h)) (cx 2 (fun As h => sR As fun a0 As => sE As (p_X6_init a0 h)) (cx 5 (fun As h => sR As fun a0 As => sE As (p_X2_init a0 h)) (cx 4 (fun As h => sR As fun a0 As => sE As (p_X4_init a0 h)) fV0))))
theorem FV_X7_init_ok {l : Launch} {D : va_G} {dA : Nat → ClassId} {z : Nat} {sa : Nat → Nat} {Hz : Heap} (E : StrOK qLen qCh l D dA z sa Hz) : ∀ mi As h h', FV_X7_init mi As h = some h' → CalOK l D dA z sa Hz (MT mi) As h none h' := (cxV_ok (fun As h h2 e => by obtain ⟨_, _, rfl, e0⟩ := sR_inv e; obtain ⟨rfl, ez⟩ := sE_inv e0; exact c_X5_init E ez) ((cxV_ok (fun As h h2 e => by obtain ⟨_, _, rfl, e0⟩ := sR_inv e; obtain ⟨rfl, ez⟩ := sE_inv e0; exact c_X6_init E ez) ((cxV_ok (fun As h h2 e => by obtain ⟨_, _, rfl, e0⟩ := sR_inv e; obtain ⟨rfl, ez⟩ := sE_inv e0; exact c_X2_init E ez) ((cxV_ok (fun As h h2 e => by obtain ⟨_, _, rfl, e0⟩ := sR_inv e; obtain ⟨rfl, ez⟩ := sE_inv e0; exact c_X4_init E ez) (fV0_ok E))))))))
def I_X7_init_129 : List AI := [(.return_, 1, [], 0)]
theorem ok_X7_init_129 : vBL MT qLen qCh false q_X7_init.2.2.2.2.1 q_X7_init.2.2.2.2.2.1 q_X7_init.2.2.1 q_X7_init.1.cls q_X7_init.1.name q_X7_init.2.1 0 129 I_X7_init_129 = true := by decide +kernel
def p_X7_init_129 (h : AH) : Option (AH) :=
  some h
set_option maxRecDepth 100000 in
theorem e_X7_init_129 {l : Launch} {D : va_G} {dA : Nat → ClassId} {z : Nat} {sa : Nat → Nat} {Hz : Heap} (E : StrOK qLen qCh l D dA z sa Hz) {h0 fin : AH}  : ∀  (h : AH), p_X7_init_129 h = some fin → GM l D dA z sa Hz q_X7_init h0 none fin 129 [] [] h := by
  intro h hd
  exact step E (is := I_X7_init_129) (pc := 129) (K := k0) (FI := fI0) (FV := FV_X7_init) (FL := fL0) (rt := rtV) (ft := 0) (by exact hd) ok_X7_init_129 k0_ok (fI0_ok E) (FV_X7_init_ok E) (fL0_ok E) (rtV_ok rfl)
def I_X7_init_105 : List AI := [(.iload_n 1, 1, [], 0), (.iconst 3, 1, [], 3), (.if_icmp .ge 22, 3, [129], 0), (.aload_n 0, 1, [], 0), (.getfield 42, 3, [6, 9, 2, 363], 0), (.iload_n 1, 1, [], 0), (.new 36, 3, [3, 2, 351], 0), (.dup, 1, [], 0), (.invokespecial 45, 3, [2, 4, 1, 353], 0), (.aastore, 1, [3], 0), (.iinc 1 1, 3, [], 1), (.goto (-21), 3, [105], 0)]
theorem ok_X7_init_105 : vBL MT qLen qCh false q_X7_init.2.2.2.2.1 q_X7_init.2.2.2.2.2.1 q_X7_init.2.2.1 q_X7_init.1.cls q_X7_init.1.name q_X7_init.2.1 0 105 I_X7_init_105 = true := by decide +kernel
def p_X7_init_105 : Nat → Nat → Int32 → AH → Option (AH)
  | 0, _, _, _ => none
  | n + 1, a0, x1, h => if x1 < ((3 : Int32)) then (if (tg h a0).1 = 6 then (let h101 := al h 3 2
    if (nx h) = 0 then none else
    (p_X4_init (nx h) h101).bind fun h102 =>
    if inB h102 (rR h a0 9) 104 x1 ∧ (tg h102 (nx h)).1 = 3 then (let h103 := wR h102 (rR h a0 9) x1.toNatClampNeg (nx h)
    p_X7_init_105 n a0 (x1 + (1 : Int32)) h103) else none) else none)
    else
    some h
set_option maxRecDepth 100000 in
theorem e_X7_init_105 {l : Launch} {D : va_G} {dA : Nat → ClassId} {z : Nat} {sa : Nat → Nat} {Hz : Heap} (E : StrOK qLen qCh l D dA z sa Hz) {h0 fin : AH}  : ∀ (n : Nat) (a0 : Nat) (x1 : Int32) (h : AH), p_X7_init_105 n a0 x1 h = some fin → GM l D dA z sa Hz q_X7_init h0 none fin 105 [(0, .ref a0), (1, .int x1)] [] h := by
  intro n
  induction n with
  | zero => intro a0 x1 h hd; exact nomatch hd
  | succ n ih =>
    intro a0 x1 h hd
    exact step E (is := I_X7_init_105) (pc := 105) (K := (kx 129 (fun la st h => sE st (p_X7_init_129 h)) (kx 105 (fun la st h => gR la 0 fun a0 => gI la 1 fun x1 => sE st (p_X7_init_105 n a0 x1 h)) k0))) (FI := fI0) (FV := FV_X7_init) (FL := fL0) (rt := rtV) (ft := 0) (by exact hd) ok_X7_init_105 (kx_ok (fun la st h e => by obtain ⟨rfl, ez⟩ := sE_inv e; exact gm_fewer (e_X7_init_129 E   h ez) mem_nil) (kx_ok (fun la st h e => by obtain ⟨a0, m_a0, e1⟩ := gR_inv e; obtain ⟨x1, m_x1, e2⟩ := gI_inv e1; obtain ⟨rfl, ez⟩ := sE_inv e2; exact gm_fewer (ih a0 x1 h ez) (mem_cons m_a0 (mem_cons m_x1 mem_nil))) k0_ok)) (fI0_ok E) (FV_X7_init_ok E) (fL0_ok E) (rtV_ok rfl)
def I_X7_init_103 : List AI := [(.iconst 0, 1, [], 0), (.istore_n 1, 1, [], 0)]
theorem ok_X7_init_103 : vBL MT qLen qCh false q_X7_init.2.2.2.2.1 q_X7_init.2.2.2.2.2.1 q_X7_init.2.2.1 q_X7_init.1.cls q_X7_init.1.name q_X7_init.2.1 105 103 I_X7_init_103 = true := by decide +kernel
def p_X7_init_103 (a0 : Nat) (h : AH) : Option (AH) :=
  p_X7_init_105 FU a0 ((0 : Int32)) h
set_option maxRecDepth 100000 in
theorem e_X7_init_103 {l : Launch} {D : va_G} {dA : Nat → ClassId} {z : Nat} {sa : Nat → Nat} {Hz : Heap} (E : StrOK qLen qCh l D dA z sa Hz) {h0 fin : AH}  : ∀ (a0 : Nat) (h : AH), p_X7_init_103 a0 h = some fin → GM l D dA z sa Hz q_X7_init h0 none fin 103 [(0, .ref a0)] [] h := by
  intro a0 h hd
  exact step E (is := I_X7_init_103) (pc := 103) (K := (kx 105 (fun la st h => gR la 0 fun a0 => gI la 1 fun x1 => sE st (p_X7_init_105 FU a0 x1 h)) k0)) (FI := fI0) (FV := FV_X7_init) (FL := fL0) (rt := rtV) (ft := 105) (by exact hd) ok_X7_init_103 (kx_ok (fun la st h e => by obtain ⟨a0, m_a0, e1⟩ := gR_inv e; obtain ⟨x1, m_x1, e2⟩ := gI_inv e1; obtain ⟨rfl, ez⟩ := sE_inv e2; exact gm_fewer (e_X7_init_105 E  FU a0 x1 h ez) (mem_cons m_a0 (mem_cons m_x1 mem_nil))) k0_ok) (fI0_ok E) (FV_X7_init_ok E) (fL0_ok E) (rtV_ok rfl)
def I_X7_init_78 : List AI := [(.iload_n 1, 1, [], 0), (.bipush 16, 2, [], 16), (.if_icmp .ge 22, 3, [103], 0), (.aload_n 0, 1, [], 0), (.getfield 38, 3, [6, 6, 2, 360], 0), (.iload_n 1, 1, [], 0), (.new 36, 3, [3, 2, 351], 0), (.dup, 1, [], 0), (.invokespecial 45, 3, [2, 4, 1, 353], 0), (.aastore, 1, [3], 0), (.iinc 1 1, 3, [], 1), (.goto (-22), 3, [78], 0)]
theorem ok_X7_init_78 : vBL MT qLen qCh false q_X7_init.2.2.2.2.1 q_X7_init.2.2.2.2.2.1 q_X7_init.2.2.1 q_X7_init.1.cls q_X7_init.1.name q_X7_init.2.1 0 78 I_X7_init_78 = true := by decide +kernel
def p_X7_init_78 : Nat → Nat → Int32 → AH → Option (AH)
  | 0, _, _, _ => none
  | n + 1, a0, x1, h => if x1 < ((16 : Int32)) then (if (tg h a0).1 = 6 then (let h104 := al h 3 2
    if (nx h) = 0 then none else
    (p_X4_init (nx h) h104).bind fun h105 =>
    if inB h105 (rR h a0 6) 104 x1 ∧ (tg h105 (nx h)).1 = 3 then (let h106 := wR h105 (rR h a0 6) x1.toNatClampNeg (nx h)
    p_X7_init_78 n a0 (x1 + (1 : Int32)) h106) else none) else none)
    else
    p_X7_init_105 FU a0 ((0 : Int32)) h
set_option maxRecDepth 100000 in
theorem e_X7_init_78 {l : Launch} {D : va_G} {dA : Nat → ClassId} {z : Nat} {sa : Nat → Nat} {Hz : Heap} (E : StrOK qLen qCh l D dA z sa Hz) {h0 fin : AH}  : ∀ (n : Nat) (a0 : Nat) (x1 : Int32) (h : AH), p_X7_init_78 n a0 x1 h = some fin → GM l D dA z sa Hz q_X7_init h0 none fin 78 [(0, .ref a0), (1, .int x1)] [] h := by
  intro n
  induction n with
  | zero => intro a0 x1 h hd; exact nomatch hd
  | succ n ih =>
    intro a0 x1 h hd
    exact step E (is := I_X7_init_78) (pc := 78) (K := (kx 103 (fun la st h => gR la 0 fun a0 => sE st (p_X7_init_103 a0 h)) (kx 78 (fun la st h => gR la 0 fun a0 => gI la 1 fun x1 => sE st (p_X7_init_78 n a0 x1 h)) k0))) (FI := fI0) (FV := FV_X7_init) (FL := fL0) (rt := rtV) (ft := 0) (by exact hd) ok_X7_init_78 (kx_ok (fun la st h e => by obtain ⟨a0, m_a0, e1⟩ := gR_inv e; obtain ⟨rfl, ez⟩ := sE_inv e1; exact gm_fewer (e_X7_init_103 E  a0 h ez) (mem_cons m_a0 mem_nil)) (kx_ok (fun la st h e => by obtain ⟨a0, m_a0, e1⟩ := gR_inv e; obtain ⟨x1, m_x1, e2⟩ := gI_inv e1; obtain ⟨rfl, ez⟩ := sE_inv e2; exact gm_fewer (ih a0 x1 h ez) (mem_cons m_a0 (mem_cons m_x1 mem_nil))) k0_ok)) (fI0_ok E) (FV_X7_init_ok E) (fL0_ok E) (rtV_ok rfl)
def I_X7_init_0 : List AI := [(.aload_n 0, 1, [], 0), (.invokespecial 1, 3, [0, 136], 0), (.aload_n 0, 1, [], 0), (.new 7, 3, [4, 9, 139], 0), (.dup, 1, [], 0), (.invokespecial 9, 3, [2, 0, 1, 141], 0), (.putfield 10, 3, [6, 0, 2, 354], 0), (.aload_n 0, 1, [], 0), (.new 16, 3, [5, 13, 177], 0), (.dup, 1, [], 0), (.invokespecial 18, 3, [2, 2, 1, 179], 0), (.putfield 19, 3, [6, 1, 2, 355], 0), (.aload_n 0, 1, [], 0), (.new 16, 3, [5, 13, 177], 0), (.dup, 1, [], 0), (.invokespecial 18, 3, [2, 2, 1, 179], 0), (.putfield 23, 3, [6, 2, 2, 356], 0), (.aload_n 0, 1, [], 0), (.new 26, 3, [1, 8, 265], 0), (.dup, 1, [], 0), (.invokespecial 28, 3, [2, 5, 1, 267], 0), (.putfield 29, 3, [6, 4, 2, 358], 0), (.aload_n 0, 1, [], 0), (.new 26, 3, [1, 8, 265], 0), (.dup, 1, [], 0), (.invokespecial 28, 3, [2, 5, 1, 267], 0), (.putfield 33, 3, [6, 5, 2, 359], 0), (.aload_n 0, 1, [], 0), (.bipush 16, 2, [], 16), (.anewarray 36, 3, [351], 0), (.putfield 38, 3, [6, 6, 2, 360], 0), (.aload_n 0, 1, [], 0), (.iconst 3, 1, [], 3), (.anewarray 36, 3, [351], 0), (.putfield 42, 3, [6, 9, 2, 363], 0), (.iconst 0, 1, [], 0), (.istore_n 1, 1, [], 0)]
theorem ok_X7_init_0 : vBL MT qLen qCh false q_X7_init.2.2.2.2.1 q_X7_init.2.2.2.2.2.1 q_X7_init.2.2.1 q_X7_init.1.cls q_X7_init.1.name q_X7_init.2.1 78 0 I_X7_init_0 = true := by decide +kernel
def p_X7_init (a0 : Nat) (h : AH) : Option (AH) :=
  if a0 = 0 then none else
  let h107 := al h 4 9
  if (nx h) = 0 then none else
  (p_X5_init (nx h) h107).bind fun h108 =>
  if (tg h108 a0).1 = 6 then (let h109 := wR h108 a0 0 (nx h)
  let h110 := al h109 5 13
  if (nx h109) = 0 then none else
  (p_X6_init (nx h109) h110).bind fun h111 =>
  if (tg h111 a0).1 = 6 then (let h112 := wR h111 a0 1 (nx h109)
  let h113 := al h112 5 13
  if (nx h112) = 0 then none else
  (p_X6_init (nx h112) h113).bind fun h114 =>
  if (tg h114 a0).1 = 6 then (let h115 := wR h114 a0 2 (nx h112)
  let h116 := al h115 1 8
  if (nx h115) = 0 then none else
  (p_X2_init (nx h115) h116).bind fun h117 =>
  if (tg h117 a0).1 = 6 then (let h118 := wR h117 a0 4 (nx h115)
  let h119 := al h118 1 8
  if (nx h118) = 0 then none else
  (p_X2_init (nx h118) h119).bind fun h120 =>
  if (tg h120 a0).1 = 6 then (let h121 := wR h120 a0 5 (nx h118)
  if ((16 : Int32)) < 0 ∨ 100000 < ((16 : Int32)).toNatClampNeg then none else
  let h122 := al h121 104 ((16 : Int32)).toNatClampNeg
  if (tg h122 a0).1 = 6 then (let h123 := wR h122 a0 6 (nx h121)
  if ((3 : Int32)) < 0 ∨ 100000 < ((3 : Int32)).toNatClampNeg then none else
  let h124 := al h123 104 ((3 : Int32)).toNatClampNeg
  if (tg h124 a0).1 = 6 then (let h125 := wR h124 a0 9 (nx h123)
  p_X7_init_78 FU a0 ((0 : Int32)) h125) else none) else none) else none) else none) else none) else none) else none
set_option maxRecDepth 100000 in
theorem e_X7_init_0 {l : Launch} {D : va_G} {dA : Nat → ClassId} {z : Nat} {sa : Nat → Nat} {Hz : Heap} (E : StrOK qLen qCh l D dA z sa Hz) {h0 fin : AH}  : ∀ (a0 : Nat) (h : AH), p_X7_init a0 h = some fin → GM l D dA z sa Hz q_X7_init h0 none fin 0 [(0, .ref a0)] [] h := by
  intro a0 h hd
  exact step E (is := I_X7_init_0) (pc := 0) (K := (kx 78 (fun la st h => gR la 0 fun a0 => gI la 1 fun x1 => sE st (p_X7_init_78 FU a0 x1 h)) k0)) (FI := fI0) (FV := FV_X7_init) (FL := fL0) (rt := rtV) (ft := 78) (by exact hd) ok_X7_init_0 (kx_ok (fun la st h e => by obtain ⟨a0, m_a0, e1⟩ := gR_inv e; obtain ⟨x1, m_x1, e2⟩ := gI_inv e1; obtain ⟨rfl, ez⟩ := sE_inv e2; exact gm_fewer (e_X7_init_78 E  FU a0 x1 h ez) (mem_cons m_a0 (mem_cons m_x1 mem_nil))) k0_ok) (fI0_ok E) (FV_X7_init_ok E) (fL0_ok E) (rtV_ok rfl)
theorem c_X7_init {l : Launch} {D : va_G} {dA : Nat → ClassId} {z : Nat} {sa : Nat → Nat} {Hz : Heap} (E : StrOK qLen qCh l D dA z sa Hz) {a0 : Nat} {h fin : AH} (hd : p_X7_init a0 h = some fin) : CalOK l D dA z sa Hz q_X7_init [.ref a0] h none fin := calOf (by decide +kernel) (Nat.le_of_ble_eq_true rfl) (e_X7_init_0 E a0 h hd)
def I_X5_append_46 : List AI := [(.return_, 1, [], 0)]
theorem ok_X5_append_46 : vBL MT qLen qCh false q_X5_append.2.2.2.2.1 q_X5_append.2.2.2.2.2.1 q_X5_append.2.2.1 q_X5_append.1.cls q_X5_append.1.name q_X5_append.2.1 0 46 I_X5_append_46 = true := by decide +kernel
def p_X5_append_46 (h : AH) : Option (AH) :=
  some h
set_option maxRecDepth 100000 in
theorem e_X5_append_46 {l : Launch} {D : va_G} {dA : Nat → ClassId} {z : Nat} {sa : Nat → Nat} {Hz : Heap} (E : StrOK qLen qCh l D dA z sa Hz) {h0 fin : AH}  : ∀  (h : AH), p_X5_append_46 h = some fin → GM l D dA z sa Hz q_X5_append h0 none fin 46 [] [] h := by
  intro h hd
  exact step E (is := I_X5_append_46) (pc := 46) (K := k0) (FI := fI0) (FV := fV0) (FL := fL0) (rt := rtV) (ft := 0) (by exact hd) ok_X5_append_46 k0_ok (fI0_ok E) (fV0_ok E) (fL0_ok E) (rtV_ok rfl)
def I_X5_append_40 : List AI := [(.iinc 2 (-8), 3, [], (-8)), (.goto (-40), 3, [3], 0)]
theorem ok_X5_append_40 : vBL MT qLen qCh false q_X5_append.2.2.2.2.1 q_X5_append.2.2.2.2.2.1 q_X5_append.2.2.1 q_X5_append.1.cls q_X5_append.1.name q_X5_append.2.1 0 40 I_X5_append_40 = true := by decide +kernel
def p_X5_append_40 (k3 : Nat → Int32 → Int32 → AH → Option (AH)) (a0 : Nat) (x1 : Int32) (x2 : Int32) (h : AH) : Option (AH) :=
  k3 a0 x1 (x2 + (-8 : Int32)) h
set_option maxRecDepth 100000 in
theorem e_X5_append_40 {l : Launch} {D : va_G} {dA : Nat → ClassId} {z : Nat} {sa : Nat → Nat} {Hz : Heap} (E : StrOK qLen qCh l D dA z sa Hz) {h0 fin : AH}  {k3 : Nat → Int32 → Int32 → AH → Option (AH)} (hk3 : ∀ (a0 : Nat) (x1 : Int32) (x2 : Int32) (h : AH), k3 a0 x1 x2 h = some fin → GM l D dA z sa Hz q_X5_append h0 none fin 3 [(0, .ref a0), (1, .int x1), (2, .int x2)] [] h) : ∀ (a0 : Nat) (x1 : Int32) (x2 : Int32) (h : AH), p_X5_append_40 k3 a0 x1 x2 h = some fin → GM l D dA z sa Hz q_X5_append h0 none fin 40 [(0, .ref a0), (1, .int x1), (2, .int x2)] [] h := by
  intro a0 x1 x2 h hd
  exact step E (is := I_X5_append_40) (pc := 40) (K := (kx 3 (fun la st h => gR la 0 fun a0 => gI la 1 fun x1 => gI la 2 fun x2 => sE st (k3 a0 x1 x2 h)) k0)) (FI := fI0) (FV := fV0) (FL := fL0) (rt := rtV) (ft := 0) (by exact hd) ok_X5_append_40 (kx_ok (fun la st h e => by obtain ⟨a0, m_a0, e1⟩ := gR_inv e; obtain ⟨x1, m_x1, e2⟩ := gI_inv e1; obtain ⟨x2, m_x2, e3⟩ := gI_inv e2; obtain ⟨rfl, ez⟩ := sE_inv e3; exact gm_fewer (hk3 a0 x1 x2 h ez) (mem_cons m_a0 (mem_cons m_x1 (mem_cons m_x2 mem_nil)))) k0_ok) (fI0_ok E) (fV0_ok E) (fL0_ok E) (rtV_ok rfl)
def I_X5_append_3 : List AI := [(.iload_n 2, 1, [], 0), (.ifCond .lt 42, 3, [46], 0), (.aload_n 0, 1, [], 0), (.getfield 15, 3, [4, 1, 0, 147], 0), (.sipush 900, 3, [], 900), (.if_icmp .ge 26, 3, [40], 0), (.aload_n 0, 1, [], 0), (.getfield 9, 3, [4, 0, 2, 145], 0), (.aload_n 0, 1, [], 0), (.getfield 15, 3, [4, 1, 0, 147], 0), (.iload_n 1, 1, [], 0), (.iload_n 2, 1, [], 0), (.ishr, 1, [], 0), (.i2b, 1, [], 0), (.bastore, 1, [101], 0), (.aload_n 0, 1, [], 0), (.dup, 1, [], 0), (.getfield 15, 3, [4, 1, 0, 147], 0), (.iconst 1, 1, [], 1), (.iadd, 1, [], 0), (.putfield 15, 3, [4, 1, 0, 147], 0)]
theorem ok_X5_append_3 : vBL MT qLen qCh false q_X5_append.2.2.2.2.1 q_X5_append.2.2.2.2.2.1 q_X5_append.2.2.1 q_X5_append.1.cls q_X5_append.1.name q_X5_append.2.1 40 3 I_X5_append_3 = true := by decide +kernel
def p_X5_append_3 : Nat → Nat → Int32 → Int32 → AH → Option (AH)
  | 0, _, _, _, _ => none
  | n + 1, a0, x1, x2, h => if x2 < 0 then (some h)
    else
    if (tg h a0).1 = 4 then (if (rI h a0 1) < ((900 : Int32)) then (if (tg h a0).1 = 4 then (if (tg h a0).1 = 4 then (if inB h (rR h a0 0) 101 (rI h a0 1) then (let h101 := wI h (rR h a0 0) (rI h a0 1).toNatClampNeg (((x1 >>> (x2 &&& 31)).toInt8.toInt32).toInt8.toInt32)
    if (tg h101 a0).1 = 4 then (if (tg h101 a0).1 = 4 then (let h102 := wI h101 a0 1 ((rI h101 a0 1) + ((1 : Int32)))
    p_X5_append_40 (p_X5_append_3 n) a0 x1 x2 h102) else none) else none) else none) else none) else none)
    else
    p_X5_append_40 (p_X5_append_3 n) a0 x1 x2 h) else none
set_option maxRecDepth 100000 in
theorem e_X5_append_3 {l : Launch} {D : va_G} {dA : Nat → ClassId} {z : Nat} {sa : Nat → Nat} {Hz : Heap} (E : StrOK qLen qCh l D dA z sa Hz) {h0 fin : AH}  : ∀ (n : Nat) (a0 : Nat) (x1 : Int32) (x2 : Int32) (h : AH), p_X5_append_3 n a0 x1 x2 h = some fin → GM l D dA z sa Hz q_X5_append h0 none fin 3 [(0, .ref a0), (1, .int x1), (2, .int x2)] [] h := by
  intro n
  induction n with
  | zero => intro a0 x1 x2 h hd; exact nomatch hd
  | succ n ih =>
    intro a0 x1 x2 h hd
    exact step E (is := I_X5_append_3) (pc := 3) (K := (kx 46 (fun la st h => sE st (p_X5_append_46 h)) (kx 40 (fun la st h => gR la 0 fun a0 => gI la 1 fun x1 => gI la 2 fun x2 => sE st (p_X5_append_40 (p_X5_append_3 n) a0 x1 x2 h)) k0))) (FI := fI0) (FV := fV0) (FL := fL0) (rt := rtV) (ft := 40) (by exact hd) ok_X5_append_3 (kx_ok (fun la st h e => by obtain ⟨rfl, ez⟩ := sE_inv e; exact gm_fewer (e_X5_append_46 E   h ez) mem_nil) (kx_ok (fun la st h e => by obtain ⟨a0, m_a0, e1⟩ := gR_inv e; obtain ⟨x1, m_x1, e2⟩ := gI_inv e1; obtain ⟨x2, m_x2, e3⟩ := gI_inv e2; obtain ⟨rfl, ez⟩ := sE_inv e3; exact gm_fewer (e_X5_append_40 E ih a0 x1 x2 h ez) (mem_cons m_a0 (mem_cons m_x1 (mem_cons m_x2 mem_nil)))) k0_ok)) (fI0_ok E) (fV0_ok E) (fL0_ok E) (rtV_ok rfl)
def I_X5_append_0 : List AI := [(.bipush 24, 2, [], 24), (.istore_n 2, 1, [], 0)]
theorem ok_X5_append_0 : vBL MT qLen qCh false q_X5_append.2.2.2.2.1 q_X5_append.2.2.2.2.2.1 q_X5_append.2.2.1 q_X5_append.1.cls q_X5_append.1.name q_X5_append.2.1 3 0 I_X5_append_0 = true := by decide +kernel
def p_X5_append (a0 : Nat) (x1 : Int32) (h : AH) : Option (AH) :=
  p_X5_append_3 FU a0 x1 ((24 : Int32)) h
set_option maxRecDepth 100000 in
theorem e_X5_append_0 {l : Launch} {D : va_G} {dA : Nat → ClassId} {z : Nat} {sa : Nat → Nat} {Hz : Heap} (E : StrOK qLen qCh l D dA z sa Hz) {h0 fin : AH}  : ∀ (a0 : Nat) (x1 : Int32) (h : AH), p_X5_append a0 x1 h = some fin → GM l D dA z sa Hz q_X5_append h0 none fin 0 [(0, .ref a0), (1, .int x1)] [] h := by
  intro a0 x1 h hd
  exact step E (is := I_X5_append_0) (pc := 0) (K := (kx 3 (fun la st h => gR la 0 fun a0 => gI la 1 fun x1 => gI la 2 fun x2 => sE st (p_X5_append_3 FU a0 x1 x2 h)) k0)) (FI := fI0) (FV := fV0) (FL := fL0) (rt := rtV) (ft := 3) (by exact hd) ok_X5_append_0 (kx_ok (fun la st h e => by obtain ⟨a0, m_a0, e1⟩ := gR_inv e; obtain ⟨x1, m_x1, e2⟩ := gI_inv e1; obtain ⟨x2, m_x2, e3⟩ := gI_inv e2; obtain ⟨rfl, ez⟩ := sE_inv e3; exact gm_fewer (e_X5_append_3 E  FU a0 x1 x2 h ez) (mem_cons m_a0 (mem_cons m_x1 (mem_cons m_x2 mem_nil)))) k0_ok) (fI0_ok E) (fV0_ok E) (fL0_ok E) (rtV_ok rfl)
theorem c_X5_append {l : Launch} {D : va_G} {dA : Nat → ClassId} {z : Nat} {sa : Nat → Nat} {Hz : Heap} (E : StrOK qLen qCh l D dA z sa Hz) {a0 : Nat} {x1 : Int32} {h fin : AH} (hd : p_X5_append a0 x1 h = some fin) : CalOK l D dA z sa Hz q_X5_append [.ref a0, .int x1] h none fin := calOf (by decide +kernel) (Nat.le_of_ble_eq_true rfl) (e_X5_append_0 E a0 x1 h hd)
def FV_X7_feed : Nat → List Value → AH → Option (AH) := (cx 7 (fun As h => sR As fun a0 As => sI As fun x1 As => sE As (p_X5_append a0 x1 h)) fV0)
theorem FV_X7_feed_ok {l : Launch} {D : va_G} {dA : Nat → ClassId} {z : Nat} {sa : Nat → Nat} {Hz : Heap} (E : StrOK qLen qCh l D dA z sa Hz) : ∀ mi As h h', FV_X7_feed mi As h = some h' → CalOK l D dA z sa Hz (MT mi) As h none h' := (cxV_ok (fun As h h2 e => by obtain ⟨_, _, rfl, e0⟩ := sR_inv e; obtain ⟨_, _, rfl, e1⟩ := sI_inv e0; obtain ⟨rfl, ez⟩ := sE_inv e1; exact c_X5_append E ez) (fV0_ok E))
def I_X7_feed_18 : List AI := [(.aload_n 0, 1, [], 0), (.getfield 10, 3, [6, 0, 2, 354], 0), (.iload_n 1, 1, [], 0), (.invokevirtual 50, 3, [2, 7, 2, 4, 395], 0), (.aload_n 0, 1, [], 0), (.getfield 10, 3, [6, 0, 2, 354], 0), (.iload_n 2, 1, [], 0), (.invokevirtual 50, 3, [2, 7, 2, 4, 395], 0), (.aload_n 0, 1, [], 0), (.getfield 10, 3, [6, 0, 2, 354], 0), (.iload_n 3, 1, [], 0), (.invokevirtual 50, 3, [2, 7, 2, 4, 395], 0), (.aload_n 0, 1, [], 0), (.getfield 10, 3, [6, 0, 2, 354], 0), (.iload 4, 2, [], 0), (.invokevirtual 50, 3, [2, 7, 2, 4, 395], 0), (.aload_n 0, 1, [], 0), (.getfield 10, 3, [6, 0, 2, 354], 0), (.iload 5, 2, [], 0), (.invokevirtual 50, 3, [2, 7, 2, 4, 395], 0), (.aload_n 0, 1, [], 0), (.getfield 10, 3, [6, 0, 2, 354], 0), (.getfield 46, 3, [4, 1, 0, 146], 0), (.ireturn, 1, [], 0)]
theorem ok_X7_feed_18 : vBL MT qLen qCh false q_X7_feed.2.2.2.2.1 q_X7_feed.2.2.2.2.2.1 q_X7_feed.2.2.1 q_X7_feed.1.cls q_X7_feed.1.name q_X7_feed.2.1 0 18 I_X7_feed_18 = true := by decide +kernel
def p_X7_feed_18 (a0 : Nat) (x1 : Int32) (x2 : Int32) (x3 : Int32) (x4 : Int32) (x5 : Int32) (h : AH) : Option (Int32 × AH) :=
  if (tg h a0).1 = 6 then (if (tg h (rR h a0 0)).1 = 4 then ((p_X5_append (rR h a0 0) x1 h).bind fun h101 =>
  if (tg h101 a0).1 = 6 then (if (tg h101 (rR h101 a0 0)).1 = 4 then ((p_X5_append (rR h101 a0 0) x2 h101).bind fun h102 =>
  if (tg h102 a0).1 = 6 then (if (tg h102 (rR h102 a0 0)).1 = 4 then ((p_X5_append (rR h102 a0 0) x3 h102).bind fun h103 =>
  if (tg h103 a0).1 = 6 then (if (tg h103 (rR h103 a0 0)).1 = 4 then ((p_X5_append (rR h103 a0 0) x4 h103).bind fun h104 =>
  if (tg h104 a0).1 = 6 then (if (tg h104 (rR h104 a0 0)).1 = 4 then ((p_X5_append (rR h104 a0 0) x5 h104).bind fun h105 =>
  if (tg h105 a0).1 = 6 then (if (tg h105 (rR h105 a0 0)).1 = 4 then (some ((rI h105 (rR h105 a0 0) 1), h105)) else none) else none) else none) else none) else none) else none) else none) else none) else none) else none) else none) else none
set_option maxRecDepth 100000 in
theorem e_X7_feed_18 {l : Launch} {D : va_G} {dA : Nat → ClassId} {z : Nat} {sa : Nat → Nat} {Hz : Heap} (E : StrOK qLen qCh l D dA z sa Hz) {h0 fin : AH} {x : Int32}  : ∀ (a0 : Nat) (x1 : Int32) (x2 : Int32) (x3 : Int32) (x4 : Int32) (x5 : Int32) (h : AH), p_X7_feed_18 a0 x1 x2 x3 x4 x5 h = some (x, fin) → GM l D dA z sa Hz q_X7_feed h0 (some (.int x)) fin 18 [(0, .ref a0), (1, .int x1), (2, .int x2), (3, .int x3), (4, .int x4), (5, .int x5)] [] h := by
  intro a0 x1 x2 x3 x4 x5 h hd
  exact step E (is := I_X7_feed_18) (pc := 18) (K := k0) (FI := fI0) (FV := FV_X7_feed) (FL := fL0) (rt := rtI) (ft := 0) (by exact hd) ok_X7_feed_18 k0_ok (fI0_ok E) (FV_X7_feed_ok E) (fL0_ok E) (rtI_ok rfl)
def I_X7_feed_0 : List AI := [(.aload_n 0, 1, [], 0), (.getfield 10, 3, [6, 0, 2, 354], 0), (.getfield 46, 3, [4, 1, 0, 146], 0), (.bipush 20, 2, [], 20), (.iadd, 1, [], 0), (.sipush 900, 3, [], 900), (.if_icmp .le 5, 3, [18], 0), (.iconst (-1), 1, [], (-1)), (.ireturn, 1, [], 0)]
theorem ok_X7_feed_0 : vBL MT qLen qCh false q_X7_feed.2.2.2.2.1 q_X7_feed.2.2.2.2.2.1 q_X7_feed.2.2.1 q_X7_feed.1.cls q_X7_feed.1.name q_X7_feed.2.1 0 0 I_X7_feed_0 = true := by decide +kernel
def p_X7_feed (a0 : Nat) (x1 : Int32) (x2 : Int32) (x3 : Int32) (x4 : Int32) (x5 : Int32) (h : AH) : Option (Int32 × AH) :=
  if (tg h a0).1 = 6 then (if (tg h (rR h a0 0)).1 = 4 then (if ((900 : Int32)) < ((rI h (rR h a0 0) 1) + ((20 : Int32))) then (some (((-1 : Int32)), h))
  else
  if (tg h a0).1 = 6 then (if (tg h (rR h a0 0)).1 = 4 then ((p_X5_append (rR h a0 0) x1 h).bind fun h106 =>
  if (tg h106 a0).1 = 6 then (if (tg h106 (rR h106 a0 0)).1 = 4 then ((p_X5_append (rR h106 a0 0) x2 h106).bind fun h107 =>
  if (tg h107 a0).1 = 6 then (if (tg h107 (rR h107 a0 0)).1 = 4 then ((p_X5_append (rR h107 a0 0) x3 h107).bind fun h108 =>
  if (tg h108 a0).1 = 6 then (if (tg h108 (rR h108 a0 0)).1 = 4 then ((p_X5_append (rR h108 a0 0) x4 h108).bind fun h109 =>
  if (tg h109 a0).1 = 6 then (if (tg h109 (rR h109 a0 0)).1 = 4 then ((p_X5_append (rR h109 a0 0) x5 h109).bind fun h110 =>
  if (tg h110 a0).1 = 6 then (if (tg h110 (rR h110 a0 0)).1 = 4 then (some ((rI h110 (rR h110 a0 0) 1), h110)) else none) else none) else none) else none) else none) else none) else none) else none) else none) else none) else none) else none) else none) else none
set_option maxRecDepth 100000 in
theorem e_X7_feed_0 {l : Launch} {D : va_G} {dA : Nat → ClassId} {z : Nat} {sa : Nat → Nat} {Hz : Heap} (E : StrOK qLen qCh l D dA z sa Hz) {h0 fin : AH} {x : Int32}  : ∀ (a0 : Nat) (x1 : Int32) (x2 : Int32) (x3 : Int32) (x4 : Int32) (x5 : Int32) (h : AH), p_X7_feed a0 x1 x2 x3 x4 x5 h = some (x, fin) → GM l D dA z sa Hz q_X7_feed h0 (some (.int x)) fin 0 [(0, .ref a0), (1, .int x1), (2, .int x2), (3, .int x3), (4, .int x4), (5, .int x5)] [] h := by
  intro a0 x1 x2 x3 x4 x5 h hd
  exact step E (is := I_X7_feed_0) (pc := 0) (K := (kx 18 (fun la st h => gR la 0 fun a0 => gI la 1 fun x1 => gI la 2 fun x2 => gI la 3 fun x3 => gI la 4 fun x4 => gI la 5 fun x5 => sE st (p_X7_feed_18 a0 x1 x2 x3 x4 x5 h)) k0)) (FI := fI0) (FV := FV_X7_feed) (FL := fL0) (rt := rtI) (ft := 0) (by exact hd) ok_X7_feed_0 (kx_ok (fun la st h e => by obtain ⟨a0, m_a0, e1⟩ := gR_inv e; obtain ⟨x1, m_x1, e2⟩ := gI_inv e1; obtain ⟨x2, m_x2, e3⟩ := gI_inv e2; obtain ⟨x3, m_x3, e4⟩ := gI_inv e3; obtain ⟨x4, m_x4, e5⟩ := gI_inv e4; obtain ⟨x5, m_x5, e6⟩ := gI_inv e5; obtain ⟨rfl, ez⟩ := sE_inv e6; exact gm_fewer (e_X7_feed_18 E  a0 x1 x2 x3 x4 x5 h ez) (mem_cons m_a0 (mem_cons m_x1 (mem_cons m_x2 (mem_cons m_x3 (mem_cons m_x4 (mem_cons m_x5 mem_nil))))))) k0_ok) (fI0_ok E) (FV_X7_feed_ok E) (fL0_ok E) (rtI_ok rfl)
theorem c_X7_feed {l : Launch} {D : va_G} {dA : Nat → ClassId} {z : Nat} {sa : Nat → Nat} {Hz : Heap} (E : StrOK qLen qCh l D dA z sa Hz) {a0 : Nat} {x1 : Int32} {x2 : Int32} {x3 : Int32} {x4 : Int32} {x5 : Int32} {h fin : AH} {x : Int32} (hd : p_X7_feed a0 x1 x2 x3 x4 x5 h = some (x, fin)) : CalOK l D dA z sa Hz q_X7_feed [.ref a0, .int x1, .int x2, .int x3, .int x4, .int x5] h (some (.int x)) fin := calOf (by decide +kernel) (Nat.le_of_ble_eq_true rfl) (e_X7_feed_0 E a0 x1 x2 x3 x4 x5 h hd)
def I_X7_refuse_0 : List AI := [(.aload_n 0, 1, [], 0), (.iload_n 1, 1, [], 0), (.putfield 74, 3, [6, 11, 0, 365], 0), (.iconst (-1), 1, [], (-1)), (.ireturn, 1, [], 0)]
theorem ok_X7_refuse_0 : vBL MT qLen qCh false q_X7_refuse.2.2.2.2.1 q_X7_refuse.2.2.2.2.2.1 q_X7_refuse.2.2.1 q_X7_refuse.1.cls q_X7_refuse.1.name q_X7_refuse.2.1 0 0 I_X7_refuse_0 = true := by decide +kernel
def p_X7_refuse (a0 : Nat) (x1 : Int32) (h : AH) : Option (Int32 × AH) :=
  if (tg h a0).1 = 6 then (let h101 := wI h a0 11 x1
  some (((-1 : Int32)), h101)) else none
set_option maxRecDepth 100000 in
theorem e_X7_refuse_0 {l : Launch} {D : va_G} {dA : Nat → ClassId} {z : Nat} {sa : Nat → Nat} {Hz : Heap} (E : StrOK qLen qCh l D dA z sa Hz) {h0 fin : AH} {x : Int32}  : ∀ (a0 : Nat) (x1 : Int32) (h : AH), p_X7_refuse a0 x1 h = some (x, fin) → GM l D dA z sa Hz q_X7_refuse h0 (some (.int x)) fin 0 [(0, .ref a0), (1, .int x1)] [] h := by
  intro a0 x1 h hd
  exact step E (is := I_X7_refuse_0) (pc := 0) (K := k0) (FI := fI0) (FV := fV0) (FL := fL0) (rt := rtI) (ft := 0) (by exact hd) ok_X7_refuse_0 k0_ok (fI0_ok E) (fV0_ok E) (fL0_ok E) (rtI_ok rfl)
theorem c_X7_refuse {l : Launch} {D : va_G} {dA : Nat → ClassId} {z : Nat} {sa : Nat → Nat} {Hz : Heap} (E : StrOK qLen qCh l D dA z sa Hz) {a0 : Nat} {x1 : Int32} {h fin : AH} {x : Int32} (hd : p_X7_refuse a0 x1 h = some (x, fin)) : CalOK l D dA z sa Hz q_X7_refuse [.ref a0, .int x1] h (some (.int x)) fin := calOf (by decide +kernel) (Nat.le_of_ble_eq_true rfl) (e_X7_refuse_0 E a0 x1 h hd)
def I_X1_empty_44 : List AI := [(.aload_n 0, 1, [], 0), (.iconst 0, 1, [], 0), (.putfield 18, 3, [0, 2, 0, 191], 0), (.aload_n 0, 1, [], 0), (.iconst 0, 1, [], 0), (.putfield 22, 3, [0, 3, 0, 192], 0), (.aload_n 0, 1, [], 0), (.iconst 0, 1, [], 0), (.putfield 25, 3, [0, 4, 0, 194], 0), (.return_, 1, [], 0)]
theorem ok_X1_empty_44 : vBL MT qLen qCh false q_X1_empty.2.2.2.2.1 q_X1_empty.2.2.2.2.2.1 q_X1_empty.2.2.1 q_X1_empty.1.cls q_X1_empty.1.name q_X1_empty.2.1 0 44 I_X1_empty_44 = true := by decide +kernel
def p_X1_empty_44 (a0 : Nat) (h : AH) : Option (AH) :=
  if (tg h a0).1 = 0 then (let h101 := wI h a0 2 ((0 : Int32))
  if (tg h101 a0).1 = 0 then (let h102 := wI h101 a0 3 ((0 : Int32))
  if (tg h102 a0).1 = 0 then (let h103 := wI h102 a0 4 ((0 : Int32))
  some h103) else none) else none) else none
set_option maxRecDepth 100000 in
theorem e_X1_empty_44 {l : Launch} {D : va_G} {dA : Nat → ClassId} {z : Nat} {sa : Nat → Nat} {Hz : Heap} (E : StrOK qLen qCh l D dA z sa Hz) {h0 fin : AH}  : ∀ (a0 : Nat) (h : AH), p_X1_empty_44 a0 h = some fin → GM l D dA z sa Hz q_X1_empty h0 none fin 44 [(0, .ref a0)] [] h := by
  intro a0 h hd
  exact step E (is := I_X1_empty_44) (pc := 44) (K := k0) (FI := fI0) (FV := fV0) (FL := fL0) (rt := rtV) (ft := 0) (by exact hd) ok_X1_empty_44 k0_ok (fI0_ok E) (fV0_ok E) (fL0_ok E) (rtV_ok rfl)
def I_X1_empty_24 : List AI := [(.iload_n 1, 1, [], 0), (.bipush 16, 2, [], 16), (.if_icmp .ge 17, 3, [44], 0), (.aload_n 0, 1, [], 0), (.getfield 15, 3, [0, 1, 2, 190], 0), (.iload_n 1, 1, [], 0), (.bipush (-2), 2, [], (-2)), (.iastore, 1, [], 0), (.iinc 1 1, 3, [], 1), (.goto (-17), 3, [24], 0)]
theorem ok_X1_empty_24 : vBL MT qLen qCh false q_X1_empty.2.2.2.2.1 q_X1_empty.2.2.2.2.2.1 q_X1_empty.2.2.1 q_X1_empty.1.cls q_X1_empty.1.name q_X1_empty.2.1 0 24 I_X1_empty_24 = true := by decide +kernel
def p_X1_empty_24 : Nat → Nat → Int32 → AH → Option (AH)
  | 0, _, _, _ => none
  | n + 1, a0, x1, h => if x1 < ((16 : Int32)) then (if (tg h a0).1 = 0 then (if inB h (rR h a0 1) 100 x1 then (let h107 := wI h (rR h a0 1) x1.toNatClampNeg ((-2 : Int32))
    p_X1_empty_24 n a0 (x1 + (1 : Int32)) h107) else none) else none)
    else
    if (tg h a0).1 = 0 then (let h104 := wI h a0 2 ((0 : Int32))
    if (tg h104 a0).1 = 0 then (let h105 := wI h104 a0 3 ((0 : Int32))
    if (tg h105 a0).1 = 0 then (let h106 := wI h105 a0 4 ((0 : Int32))
    some h106) else none) else none) else none
set_option maxRecDepth 100000 in
theorem e_X1_empty_24 {l : Launch} {D : va_G} {dA : Nat → ClassId} {z : Nat} {sa : Nat → Nat} {Hz : Heap} (E : StrOK qLen qCh l D dA z sa Hz) {h0 fin : AH}  : ∀ (n : Nat) (a0 : Nat) (x1 : Int32) (h : AH), p_X1_empty_24 n a0 x1 h = some fin → GM l D dA z sa Hz q_X1_empty h0 none fin 24 [(0, .ref a0), (1, .int x1)] [] h := by
  intro n
  induction n with
  | zero => intro a0 x1 h hd; exact nomatch hd
  | succ n ih =>
    intro a0 x1 h hd
    exact step E (is := I_X1_empty_24) (pc := 24) (K := (kx 44 (fun la st h => gR la 0 fun a0 => sE st (p_X1_empty_44 a0 h)) (kx 24 (fun la st h => gR la 0 fun a0 => gI la 1 fun x1 => sE st (p_X1_empty_24 n a0 x1 h)) k0))) (FI := fI0) (FV := fV0) (FL := fL0) (rt := rtV) (ft := 0) (by exact hd) ok_X1_empty_24 (kx_ok (fun la st h e => by obtain ⟨a0, m_a0, e1⟩ := gR_inv e; obtain ⟨rfl, ez⟩ := sE_inv e1; exact gm_fewer (e_X1_empty_44 E  a0 h ez) (mem_cons m_a0 mem_nil)) (kx_ok (fun la st h e => by obtain ⟨a0, m_a0, e1⟩ := gR_inv e; obtain ⟨x1, m_x1, e2⟩ := gI_inv e1; obtain ⟨rfl, ez⟩ := sE_inv e2; exact gm_fewer (ih a0 x1 h ez) (mem_cons m_a0 (mem_cons m_x1 mem_nil))) k0_ok)) (fI0_ok E) (fV0_ok E) (fL0_ok E) (rtV_ok rfl)
def I_X1_empty_22 : List AI := [(.iconst 0, 1, [], 0), (.istore_n 1, 1, [], 0)]
theorem ok_X1_empty_22 : vBL MT qLen qCh false q_X1_empty.2.2.2.2.1 q_X1_empty.2.2.2.2.2.1 q_X1_empty.2.2.1 q_X1_empty.1.cls q_X1_empty.1.name q_X1_empty.2.1 24 22 I_X1_empty_22 = true := by decide +kernel
def p_X1_empty_22 (a0 : Nat) (h : AH) : Option (AH) :=
  p_X1_empty_24 FU a0 ((0 : Int32)) h
set_option maxRecDepth 100000 in
theorem e_X1_empty_22 {l : Launch} {D : va_G} {dA : Nat → ClassId} {z : Nat} {sa : Nat → Nat} {Hz : Heap} (E : StrOK qLen qCh l D dA z sa Hz) {h0 fin : AH}  : ∀ (a0 : Nat) (h : AH), p_X1_empty_22 a0 h = some fin → GM l D dA z sa Hz q_X1_empty h0 none fin 22 [(0, .ref a0)] [] h := by
  intro a0 h hd
  exact step E (is := I_X1_empty_22) (pc := 22) (K := (kx 24 (fun la st h => gR la 0 fun a0 => gI la 1 fun x1 => sE st (p_X1_empty_24 FU a0 x1 h)) k0)) (FI := fI0) (FV := fV0) (FL := fL0) (rt := rtV) (ft := 24) (by exact hd) ok_X1_empty_22 (kx_ok (fun la st h e => by obtain ⟨a0, m_a0, e1⟩ := gR_inv e; obtain ⟨x1, m_x1, e2⟩ := gI_inv e1; obtain ⟨rfl, ez⟩ := sE_inv e2; exact gm_fewer (e_X1_empty_24 E  FU a0 x1 h ez) (mem_cons m_a0 (mem_cons m_x1 mem_nil))) k0_ok) (fI0_ok E) (fV0_ok E) (fL0_ok E) (rtV_ok rfl)
def I_X1_empty_2 : List AI := [(.iload_n 1, 1, [], 0), (.sipush 128, 3, [], 128), (.if_icmp .ge 16, 3, [22], 0), (.aload_n 0, 1, [], 0), (.getfield 9, 3, [0, 0, 2, 189], 0), (.iload_n 1, 1, [], 0), (.iconst 0, 1, [], 0), (.iastore, 1, [], 0), (.iinc 1 1, 3, [], 1), (.goto (-17), 3, [2], 0)]
theorem ok_X1_empty_2 : vBL MT qLen qCh false q_X1_empty.2.2.2.2.1 q_X1_empty.2.2.2.2.2.1 q_X1_empty.2.2.1 q_X1_empty.1.cls q_X1_empty.1.name q_X1_empty.2.1 0 2 I_X1_empty_2 = true := by decide +kernel
def p_X1_empty_2 : Nat → Nat → Int32 → AH → Option (AH)
  | 0, _, _, _ => none
  | n + 1, a0, x1, h => if x1 < ((128 : Int32)) then (if (tg h a0).1 = 0 then (if inB h (rR h a0 0) 100 x1 then (let h108 := wI h (rR h a0 0) x1.toNatClampNeg ((0 : Int32))
    p_X1_empty_2 n a0 (x1 + (1 : Int32)) h108) else none) else none)
    else
    p_X1_empty_24 FU a0 ((0 : Int32)) h
set_option maxRecDepth 100000 in
theorem e_X1_empty_2 {l : Launch} {D : va_G} {dA : Nat → ClassId} {z : Nat} {sa : Nat → Nat} {Hz : Heap} (E : StrOK qLen qCh l D dA z sa Hz) {h0 fin : AH}  : ∀ (n : Nat) (a0 : Nat) (x1 : Int32) (h : AH), p_X1_empty_2 n a0 x1 h = some fin → GM l D dA z sa Hz q_X1_empty h0 none fin 2 [(0, .ref a0), (1, .int x1)] [] h := by
  intro n
  induction n with
  | zero => intro a0 x1 h hd; exact nomatch hd
  | succ n ih =>
    intro a0 x1 h hd
    exact step E (is := I_X1_empty_2) (pc := 2) (K := (kx 22 (fun la st h => gR la 0 fun a0 => sE st (p_X1_empty_22 a0 h)) (kx 2 (fun la st h => gR la 0 fun a0 => gI la 1 fun x1 => sE st (p_X1_empty_2 n a0 x1 h)) k0))) (FI := fI0) (FV := fV0) (FL := fL0) (rt := rtV) (ft := 0) (by exact hd) ok_X1_empty_2 (kx_ok (fun la st h e => by obtain ⟨a0, m_a0, e1⟩ := gR_inv e; obtain ⟨rfl, ez⟩ := sE_inv e1; exact gm_fewer (e_X1_empty_22 E  a0 h ez) (mem_cons m_a0 mem_nil)) (kx_ok (fun la st h e => by obtain ⟨a0, m_a0, e1⟩ := gR_inv e; obtain ⟨x1, m_x1, e2⟩ := gI_inv e1; obtain ⟨rfl, ez⟩ := sE_inv e2; exact gm_fewer (ih a0 x1 h ez) (mem_cons m_a0 (mem_cons m_x1 mem_nil))) k0_ok)) (fI0_ok E) (fV0_ok E) (fL0_ok E) (rtV_ok rfl)
def I_X1_empty_0 : List AI := [(.iconst 0, 1, [], 0), (.istore_n 1, 1, [], 0)]
theorem ok_X1_empty_0 : vBL MT qLen qCh false q_X1_empty.2.2.2.2.1 q_X1_empty.2.2.2.2.2.1 q_X1_empty.2.2.1 q_X1_empty.1.cls q_X1_empty.1.name q_X1_empty.2.1 2 0 I_X1_empty_0 = true := by decide +kernel
def p_X1_empty (a0 : Nat) (h : AH) : Option (AH) :=
  p_X1_empty_2 FU a0 ((0 : Int32)) h
set_option maxRecDepth 100000 in
theorem e_X1_empty_0 {l : Launch} {D : va_G} {dA : Nat → ClassId} {z : Nat} {sa : Nat → Nat} {Hz : Heap} (E : StrOK qLen qCh l D dA z sa Hz) {h0 fin : AH}  : ∀ (a0 : Nat) (h : AH), p_X1_empty a0 h = some fin → GM l D dA z sa Hz q_X1_empty h0 none fin 0 [(0, .ref a0)] [] h := by
  intro a0 h hd
  exact step E (is := I_X1_empty_0) (pc := 0) (K := (kx 2 (fun la st h => gR la 0 fun a0 => gI la 1 fun x1 => sE st (p_X1_empty_2 FU a0 x1 h)) k0)) (FI := fI0) (FV := fV0) (FL := fL0) (rt := rtV) (ft := 2) (by exact hd) ok_X1_empty_0 (kx_ok (fun la st h e => by obtain ⟨a0, m_a0, e1⟩ := gR_inv e; obtain ⟨x1, m_x1, e2⟩ := gI_inv e1; obtain ⟨rfl, ez⟩ := sE_inv e2; exact gm_fewer (e_X1_empty_2 E  FU a0 x1 h ez) (mem_cons m_a0 (mem_cons m_x1 mem_nil))) k0_ok) (fI0_ok E) (fV0_ok E) (fL0_ok E) (rtV_ok rfl)
theorem c_X1_empty {l : Launch} {D : va_G} {dA : Nat → ClassId} {z : Nat} {sa : Nat → Nat} {Hz : Heap} (E : StrOK qLen qCh l D dA z sa Hz) {a0 : Nat} {h fin : AH} (hd : p_X1_empty a0 h = some fin) : CalOK l D dA z sa Hz q_X1_empty [.ref a0] h none fin := calOf (by decide +kernel) (Nat.le_of_ble_eq_true rfl) (e_X1_empty_0 E a0 h hd)
def FV_X6_empty : Nat → List Value → AH → Option (AH) := (cx 10 (fun As h => sR As fun a0 As => sE As (p_X1_empty a0 h)) fV0)
theorem FV_X6_empty_ok {l : Launch} {D : va_G} {dA : Nat → ClassId} {z : Nat} {sa : Nat → Nat} {Hz : Heap} (E : StrOK qLen qCh l D dA z sa Hz) : ∀ mi As h h', FV_X6_empty mi As h = some h' → CalOK l D dA z sa Hz (MT mi) As h none h' := (cxV_ok (fun As h h2 e => by obtain ⟨_, _, rfl, e0⟩ := sR_inv e; obtain ⟨rfl, ez⟩ := sE_inv e0; exact c_X1_empty E ez) (fV0_ok E))
def I_X6_empty_39 : List AI := [(.aload_n 0, 1, [], 0), (.iconst 0, 1, [], 0), (.putfield 48, 3, [5, 4, 0, 219], 0), (.aload_n 0, 1, [], 0), (.iconst 0, 1, [], 0), (.putfield 51, 3, [5, 6, 0, 224], 0), (.aload_n 0, 1, [], 0), (.iconst 0, 1, [], 0), (.putfield 54, 3, [5, 9, 0, 229], 0), (.aload_n 0, 1, [], 0), (.iconst 0, 1, [], 0), (.putfield 57, 3, [5, 12, 0, 234], 0), (.return_, 1, [], 0)]
theorem ok_X6_empty_39 : vBL MT qLen qCh false q_X6_empty.2.2.2.2.1 q_X6_empty.2.2.2.2.2.1 q_X6_empty.2.2.1 q_X6_empty.1.cls q_X6_empty.1.name q_X6_empty.2.1 0 39 I_X6_empty_39 = true := by decide +kernel
def p_X6_empty_39 (a0 : Nat) (h : AH) : Option (AH) :=
  if (tg h a0).1 = 5 then (let h101 := wI h a0 4 ((0 : Int32))
  if (tg h101 a0).1 = 5 then (let h102 := wI h101 a0 6 ((0 : Int32))
  if (tg h102 a0).1 = 5 then (let h103 := wI h102 a0 9 ((0 : Int32))
  if (tg h103 a0).1 = 5 then (let h104 := wI h103 a0 12 ((0 : Int32))
  some h104) else none) else none) else none) else none
set_option maxRecDepth 100000 in
theorem e_X6_empty_39 {l : Launch} {D : va_G} {dA : Nat → ClassId} {z : Nat} {sa : Nat → Nat} {Hz : Heap} (E : StrOK qLen qCh l D dA z sa Hz) {h0 fin : AH}  : ∀ (a0 : Nat) (h : AH), p_X6_empty_39 a0 h = some fin → GM l D dA z sa Hz q_X6_empty h0 none fin 39 [(0, .ref a0)] [] h := by
  intro a0 h hd
  exact step E (is := I_X6_empty_39) (pc := 39) (K := k0) (FI := fI0) (FV := FV_X6_empty) (FL := fL0) (rt := rtV) (ft := 0) (by exact hd) ok_X6_empty_39 k0_ok (fI0_ok E) (FV_X6_empty_ok E) (fL0_ok E) (rtV_ok rfl)
def I_X6_empty_19 : List AI := [(.iload_n 1, 1, [], 0), (.sipush 128, 3, [], 128), (.if_icmp .ge 16, 3, [39], 0), (.aload_n 0, 1, [], 0), (.getfield 18, 3, [5, 3, 2, 218], 0), (.iload_n 1, 1, [], 0), (.iconst 0, 1, [], 0), (.bastore, 1, [102], 0), (.iinc 1 1, 3, [], 1), (.goto (-17), 3, [19], 0)]
theorem ok_X6_empty_19 : vBL MT qLen qCh false q_X6_empty.2.2.2.2.1 q_X6_empty.2.2.2.2.2.1 q_X6_empty.2.2.1 q_X6_empty.1.cls q_X6_empty.1.name q_X6_empty.2.1 0 19 I_X6_empty_19 = true := by decide +kernel
def p_X6_empty_19 : Nat → Nat → Int32 → AH → Option (AH)
  | 0, _, _, _ => none
  | n + 1, a0, x1, h => if x1 < ((128 : Int32)) then (if (tg h a0).1 = 5 then (if inB h (rR h a0 3) 102 x1 then (let h109 := wI h (rR h a0 3) x1.toNatClampNeg (((0 : Int32)) &&& 1)
    p_X6_empty_19 n a0 (x1 + (1 : Int32)) h109) else none) else none)
    else
    if (tg h a0).1 = 5 then (let h105 := wI h a0 4 ((0 : Int32))
    if (tg h105 a0).1 = 5 then (let h106 := wI h105 a0 6 ((0 : Int32))
    if (tg h106 a0).1 = 5 then (let h107 := wI h106 a0 9 ((0 : Int32))
    if (tg h107 a0).1 = 5 then (let h108 := wI h107 a0 12 ((0 : Int32))
    some h108) else none) else none) else none) else none
set_option maxRecDepth 100000 in
theorem e_X6_empty_19 {l : Launch} {D : va_G} {dA : Nat → ClassId} {z : Nat} {sa : Nat → Nat} {Hz : Heap} (E : StrOK qLen qCh l D dA z sa Hz) {h0 fin : AH}  : ∀ (n : Nat) (a0 : Nat) (x1 : Int32) (h : AH), p_X6_empty_19 n a0 x1 h = some fin → GM l D dA z sa Hz q_X6_empty h0 none fin 19 [(0, .ref a0), (1, .int x1)] [] h := by
  intro n
  induction n with
  | zero => intro a0 x1 h hd; exact nomatch hd
  | succ n ih =>
    intro a0 x1 h hd
    exact step E (is := I_X6_empty_19) (pc := 19) (K := (kx 39 (fun la st h => gR la 0 fun a0 => sE st (p_X6_empty_39 a0 h)) (kx 19 (fun la st h => gR la 0 fun a0 => gI la 1 fun x1 => sE st (p_X6_empty_19 n a0 x1 h)) k0))) (FI := fI0) (FV := FV_X6_empty) (FL := fL0) (rt := rtV) (ft := 0) (by exact hd) ok_X6_empty_19 (kx_ok (fun la st h e => by obtain ⟨a0, m_a0, e1⟩ := gR_inv e; obtain ⟨rfl, ez⟩ := sE_inv e1; exact gm_fewer (e_X6_empty_39 E  a0 h ez) (mem_cons m_a0 mem_nil)) (kx_ok (fun la st h e => by obtain ⟨a0, m_a0, e1⟩ := gR_inv e; obtain ⟨x1, m_x1, e2⟩ := gI_inv e1; obtain ⟨rfl, ez⟩ := sE_inv e2; exact gm_fewer (ih a0 x1 h ez) (mem_cons m_a0 (mem_cons m_x1 mem_nil))) k0_ok)) (fI0_ok E) (FV_X6_empty_ok E) (fL0_ok E) (rtV_ok rfl)
def I_X6_empty_0 : List AI := [(.aload_n 0, 1, [], 0), (.getfield 12, 3, [5, 0, 2, 210], 0), (.invokevirtual 38, 3, [2, 10, 1, 0, 415], 0), (.aload_n 0, 1, [], 0), (.iconst 0, 1, [], 0), (.putfield 41, 3, [5, 1, 0, 213], 0), (.aload_n 0, 1, [], 0), (.iconst 0, 1, [], 0), (.putfield 45, 3, [5, 2, 0, 216], 0), (.iconst 0, 1, [], 0), (.istore_n 1, 1, [], 0)]
theorem ok_X6_empty_0 : vBL MT qLen qCh false q_X6_empty.2.2.2.2.1 q_X6_empty.2.2.2.2.2.1 q_X6_empty.2.2.1 q_X6_empty.1.cls q_X6_empty.1.name q_X6_empty.2.1 19 0 I_X6_empty_0 = true := by decide +kernel
def p_X6_empty (a0 : Nat) (h : AH) : Option (AH) :=
  if (tg h a0).1 = 5 then (if (tg h (rR h a0 0)).1 = 0 then ((p_X1_empty (rR h a0 0) h).bind fun h110 =>
  if (tg h110 a0).1 = 5 then (let h111 := wI h110 a0 1 ((0 : Int32))
  if (tg h111 a0).1 = 5 then (let h112 := wI h111 a0 2 ((0 : Int32))
  p_X6_empty_19 FU a0 ((0 : Int32)) h112) else none) else none) else none) else none
set_option maxRecDepth 100000 in
theorem e_X6_empty_0 {l : Launch} {D : va_G} {dA : Nat → ClassId} {z : Nat} {sa : Nat → Nat} {Hz : Heap} (E : StrOK qLen qCh l D dA z sa Hz) {h0 fin : AH}  : ∀ (a0 : Nat) (h : AH), p_X6_empty a0 h = some fin → GM l D dA z sa Hz q_X6_empty h0 none fin 0 [(0, .ref a0)] [] h := by
  intro a0 h hd
  exact step E (is := I_X6_empty_0) (pc := 0) (K := (kx 19 (fun la st h => gR la 0 fun a0 => gI la 1 fun x1 => sE st (p_X6_empty_19 FU a0 x1 h)) k0)) (FI := fI0) (FV := FV_X6_empty) (FL := fL0) (rt := rtV) (ft := 19) (by exact hd) ok_X6_empty_0 (kx_ok (fun la st h e => by obtain ⟨a0, m_a0, e1⟩ := gR_inv e; obtain ⟨x1, m_x1, e2⟩ := gI_inv e1; obtain ⟨rfl, ez⟩ := sE_inv e2; exact gm_fewer (e_X6_empty_19 E  FU a0 x1 h ez) (mem_cons m_a0 (mem_cons m_x1 mem_nil))) k0_ok) (fI0_ok E) (FV_X6_empty_ok E) (fL0_ok E) (rtV_ok rfl)
theorem c_X6_empty {l : Launch} {D : va_G} {dA : Nat → ClassId} {z : Nat} {sa : Nat → Nat} {Hz : Heap} (E : StrOK qLen qCh l D dA z sa Hz) {a0 : Nat} {h fin : AH} (hd : p_X6_empty a0 h = some fin) : CalOK l D dA z sa Hz q_X6_empty [.ref a0] h none fin := calOf (by decide +kernel) (Nat.le_of_ble_eq_true rfl) (e_X6_empty_0 E a0 h hd)
def I_X5_byteAt_33 : List AI := [(.ireturn, 1, [], 0)]
theorem ok_X5_byteAt_33 : vBL MT qLen qCh false q_X5_byteAt.2.2.2.2.1 q_X5_byteAt.2.2.2.2.2.1 q_X5_byteAt.2.2.1 q_X5_byteAt.1.cls q_X5_byteAt.1.name q_X5_byteAt.2.1 0 33 I_X5_byteAt_33 = true := by decide +kernel
def p_X5_byteAt_33 (y0 : Int32) (h : AH) : Option (Int32 × AH) :=
  some (y0, h)
set_option maxRecDepth 100000 in
theorem e_X5_byteAt_33 {l : Launch} {D : va_G} {dA : Nat → ClassId} {z : Nat} {sa : Nat → Nat} {Hz : Heap} (E : StrOK qLen qCh l D dA z sa Hz) {h0 fin : AH} {x : Int32}  : ∀ (y0 : Int32) (h : AH), p_X5_byteAt_33 y0 h = some (x, fin) → GM l D dA z sa Hz q_X5_byteAt h0 (some (.int x)) fin 33 [] [.int y0] h := by
  intro y0 h hd
  exact step E (is := I_X5_byteAt_33) (pc := 33) (K := k0) (FI := fI0) (FV := fV0) (FL := fL0) (rt := rtI) (ft := 0) (by exact hd) ok_X5_byteAt_33 k0_ok (fI0_ok E) (fV0_ok E) (fL0_ok E) (rtI_ok rfl)
def I_X5_byteAt_32 : List AI := [(.iconst (-1), 1, [], (-1))]
theorem ok_X5_byteAt_32 : vBL MT qLen qCh false q_X5_byteAt.2.2.2.2.1 q_X5_byteAt.2.2.2.2.2.1 q_X5_byteAt.2.2.1 q_X5_byteAt.1.cls q_X5_byteAt.1.name q_X5_byteAt.2.1 33 32 I_X5_byteAt_32 = true := by decide +kernel
def p_X5_byteAt_32 (h : AH) : Option (Int32 × AH) :=
  p_X5_byteAt_33 ((-1 : Int32)) h
set_option maxRecDepth 100000 in
theorem e_X5_byteAt_32 {l : Launch} {D : va_G} {dA : Nat → ClassId} {z : Nat} {sa : Nat → Nat} {Hz : Heap} (E : StrOK qLen qCh l D dA z sa Hz) {h0 fin : AH} {x : Int32}  : ∀  (h : AH), p_X5_byteAt_32 h = some (x, fin) → GM l D dA z sa Hz q_X5_byteAt h0 (some (.int x)) fin 32 [] [] h := by
  intro h hd
  exact step E (is := I_X5_byteAt_32) (pc := 32) (K := (kx 33 (fun la st h => sI st fun y0 st => sE st (p_X5_byteAt_33 y0 h)) k0)) (FI := fI0) (FV := fV0) (FL := fL0) (rt := rtI) (ft := 33) (by exact hd) ok_X5_byteAt_32 (kx_ok (fun la st h e => by obtain ⟨y0, _, rfl, e1⟩ := sI_inv e; obtain ⟨rfl, ez⟩ := sE_inv e1; exact gm_fewer (e_X5_byteAt_33 E  y0 h ez) mem_nil) k0_ok) (fI0_ok E) (fV0_ok E) (fL0_ok E) (rtI_ok rfl)
def I_X5_byteAt_0 : List AI := [(.iload_n 1, 1, [], 0), (.ifCond .lt 31, 3, [32], 0), (.iload_n 1, 1, [], 0), (.aload_n 0, 1, [], 0), (.getfield 19, 3, [4, 2, 0, 148], 0), (.if_icmp .ge 23, 3, [32], 0), (.iload_n 1, 1, [], 0), (.sipush 900, 3, [], 900), (.if_icmp .ge 16, 3, [32], 0), (.aload_n 0, 1, [], 0), (.getfield 9, 3, [4, 0, 2, 145], 0), (.iload_n 1, 1, [], 0), (.baload, 1, [101], 0), (.sipush 255, 3, [], 255), (.iand, 1, [], 0), (.goto 4, 3, [33], 0)]
theorem ok_X5_byteAt_0 : vBL MT qLen qCh false q_X5_byteAt.2.2.2.2.1 q_X5_byteAt.2.2.2.2.2.1 q_X5_byteAt.2.2.1 q_X5_byteAt.1.cls q_X5_byteAt.1.name q_X5_byteAt.2.1 0 0 I_X5_byteAt_0 = true := by decide +kernel
def p_X5_byteAt (a0 : Nat) (x1 : Int32) (h : AH) : Option (Int32 × AH) :=
  if x1 < 0 then (p_X5_byteAt_32 h)
  else
  if (tg h a0).1 = 4 then (if x1 < (rI h a0 2) then (if x1 < ((900 : Int32)) then (if (tg h a0).1 = 4 then (if inB h (rR h a0 0) 101 x1 then (p_X5_byteAt_33 ((rI h (rR h a0 0) x1.toNatClampNeg) &&& ((255 : Int32))) h) else none) else none)
  else
  p_X5_byteAt_32 h)
  else
  p_X5_byteAt_32 h) else none
set_option maxRecDepth 100000 in
theorem e_X5_byteAt_0 {l : Launch} {D : va_G} {dA : Nat → ClassId} {z : Nat} {sa : Nat → Nat} {Hz : Heap} (E : StrOK qLen qCh l D dA z sa Hz) {h0 fin : AH} {x : Int32}  : ∀ (a0 : Nat) (x1 : Int32) (h : AH), p_X5_byteAt a0 x1 h = some (x, fin) → GM l D dA z sa Hz q_X5_byteAt h0 (some (.int x)) fin 0 [(0, .ref a0), (1, .int x1)] [] h := by
  intro a0 x1 h hd
  exact step E (is := I_X5_byteAt_0) (pc := 0) (K := (kx 32 (fun la st h => sE st (p_X5_byteAt_32 h)) (kx 33 (fun la st h => sI st fun y0 st => sE st (p_X5_byteAt_33 y0 h)) k0))) (FI := fI0) (FV := fV0) (FL := fL0) (rt := rtI) (ft := 0) (by exact hd) ok_X5_byteAt_0 (kx_ok (fun la st h e => by obtain ⟨rfl, ez⟩ := sE_inv e; exact gm_fewer (e_X5_byteAt_32 E   h ez) mem_nil) (kx_ok (fun la st h e => by obtain ⟨y0, _, rfl, e1⟩ := sI_inv e; obtain ⟨rfl, ez⟩ := sE_inv e1; exact gm_fewer (e_X5_byteAt_33 E  y0 h ez) mem_nil) k0_ok)) (fI0_ok E) (fV0_ok E) (fL0_ok E) (rtI_ok rfl)
theorem c_X5_byteAt {l : Launch} {D : va_G} {dA : Nat → ClassId} {z : Nat} {sa : Nat → Nat} {Hz : Heap} (E : StrOK qLen qCh l D dA z sa Hz) {a0 : Nat} {x1 : Int32} {h fin : AH} {x : Int32} (hd : p_X5_byteAt a0 x1 h = some (x, fin)) : CalOK l D dA z sa Hz q_X5_byteAt [.ref a0, .int x1] h (some (.int x)) fin := calOf (by decide +kernel) (Nat.le_of_ble_eq_true rfl) (e_X5_byteAt_0 E a0 x1 h hd)
def I_X5_isSmall_17 : List AI := [(.ireturn, 1, [], 0)]
theorem ok_X5_isSmall_17 : vBL MT qLen qCh false q_X5_isSmall.2.2.2.2.1 q_X5_isSmall.2.2.2.2.2.1 q_X5_isSmall.2.2.1 q_X5_isSmall.1.cls q_X5_isSmall.1.name q_X5_isSmall.2.1 0 17 I_X5_isSmall_17 = true := by decide +kernel
def p_X5_isSmall_17 (y0 : Int32) (h : AH) : Option (Int32 × AH) :=
  if y0 &&& 1 = y0 then some (y0, h) else none
set_option maxRecDepth 100000 in
theorem e_X5_isSmall_17 {l : Launch} {D : va_G} {dA : Nat → ClassId} {z : Nat} {sa : Nat → Nat} {Hz : Heap} (E : StrOK qLen qCh l D dA z sa Hz) {h0 fin : AH} {x : Int32}  : ∀ (y0 : Int32) (h : AH), p_X5_isSmall_17 y0 h = some (x, fin) → GM l D dA z sa Hz q_X5_isSmall h0 (some (.int x)) fin 17 [] [.int y0] h := by
  intro y0 h hd
  exact step E (is := I_X5_isSmall_17) (pc := 17) (K := k0) (FI := fI0) (FV := fV0) (FL := fL0) (rt := rtZ) (ft := 0) (by exact hd) ok_X5_isSmall_17 k0_ok (fI0_ok E) (fV0_ok E) (fL0_ok E) (rtZ_ok rfl)
def I_X5_isSmall_16 : List AI := [(.iconst 0, 1, [], 0)]
theorem ok_X5_isSmall_16 : vBL MT qLen qCh false q_X5_isSmall.2.2.2.2.1 q_X5_isSmall.2.2.2.2.2.1 q_X5_isSmall.2.2.1 q_X5_isSmall.1.cls q_X5_isSmall.1.name q_X5_isSmall.2.1 17 16 I_X5_isSmall_16 = true := by decide +kernel
def p_X5_isSmall_16 (h : AH) : Option (Int32 × AH) :=
  p_X5_isSmall_17 ((0 : Int32)) h
set_option maxRecDepth 100000 in
theorem e_X5_isSmall_16 {l : Launch} {D : va_G} {dA : Nat → ClassId} {z : Nat} {sa : Nat → Nat} {Hz : Heap} (E : StrOK qLen qCh l D dA z sa Hz) {h0 fin : AH} {x : Int32}  : ∀  (h : AH), p_X5_isSmall_16 h = some (x, fin) → GM l D dA z sa Hz q_X5_isSmall h0 (some (.int x)) fin 16 [] [] h := by
  intro h hd
  exact step E (is := I_X5_isSmall_16) (pc := 16) (K := (kx 17 (fun la st h => sI st fun y0 st => sE st (p_X5_isSmall_17 y0 h)) k0)) (FI := fI0) (FV := fV0) (FL := fL0) (rt := rtZ) (ft := 17) (by exact hd) ok_X5_isSmall_16 (kx_ok (fun la st h e => by obtain ⟨y0, _, rfl, e1⟩ := sI_inv e; obtain ⟨rfl, ez⟩ := sE_inv e1; exact gm_fewer (e_X5_isSmall_17 E  y0 h ez) mem_nil) k0_ok) (fI0_ok E) (fV0_ok E) (fL0_ok E) (rtZ_ok rfl)
def I_X5_isSmall_0 : List AI := [(.iload_n 0, 1, [], 0), (.bipush 97, 2, [], 97), (.if_icmp .lt 13, 3, [16], 0), (.iload_n 0, 1, [], 0), (.bipush 122, 2, [], 122), (.if_icmp .gt 7, 3, [16], 0), (.iconst 1, 1, [], 1), (.goto 4, 3, [17], 0)]
theorem ok_X5_isSmall_0 : vBL MT qLen qCh false q_X5_isSmall.2.2.2.2.1 q_X5_isSmall.2.2.2.2.2.1 q_X5_isSmall.2.2.1 q_X5_isSmall.1.cls q_X5_isSmall.1.name q_X5_isSmall.2.1 0 0 I_X5_isSmall_0 = true := by decide +kernel
def p_X5_isSmall (x0 : Int32) (h : AH) : Option (Int32 × AH) :=
  if x0 < ((97 : Int32)) then (p_X5_isSmall_16 h)
  else
  if ((122 : Int32)) < x0 then (p_X5_isSmall_16 h)
  else
  p_X5_isSmall_17 ((1 : Int32)) h
set_option maxRecDepth 100000 in
theorem e_X5_isSmall_0 {l : Launch} {D : va_G} {dA : Nat → ClassId} {z : Nat} {sa : Nat → Nat} {Hz : Heap} (E : StrOK qLen qCh l D dA z sa Hz) {h0 fin : AH} {x : Int32}  : ∀ (x0 : Int32) (h : AH), p_X5_isSmall x0 h = some (x, fin) → GM l D dA z sa Hz q_X5_isSmall h0 (some (.int x)) fin 0 [(0, .int x0)] [] h := by
  intro x0 h hd
  exact step E (is := I_X5_isSmall_0) (pc := 0) (K := (kx 16 (fun la st h => sE st (p_X5_isSmall_16 h)) (kx 17 (fun la st h => sI st fun y0 st => sE st (p_X5_isSmall_17 y0 h)) k0))) (FI := fI0) (FV := fV0) (FL := fL0) (rt := rtZ) (ft := 0) (by exact hd) ok_X5_isSmall_0 (kx_ok (fun la st h e => by obtain ⟨rfl, ez⟩ := sE_inv e; exact gm_fewer (e_X5_isSmall_16 E   h ez) mem_nil) (kx_ok (fun la st h e => by obtain ⟨y0, _, rfl, e1⟩ := sI_inv e; obtain ⟨rfl, ez⟩ := sE_inv e1; exact gm_fewer (e_X5_isSmall_17 E  y0 h ez) mem_nil) k0_ok)) (fI0_ok E) (fV0_ok E) (fL0_ok E) (rtZ_ok rfl)
theorem c_X5_isSmall {l : Launch} {D : va_G} {dA : Nat → ClassId} {z : Nat} {sa : Nat → Nat} {Hz : Heap} (E : StrOK qLen qCh l D dA z sa Hz) {x0 : Int32} {h fin : AH} {x : Int32} (hd : p_X5_isSmall x0 h = some (x, fin)) : CalOK l D dA z sa Hz q_X5_isSmall [.int x0] h (some (.int x)) fin := calOf (by decide +kernel) (Nat.le_of_ble_eq_true rfl) (e_X5_isSmall_0 E x0 h hd)
def I_X5_isDigit_17 : List AI := [(.ireturn, 1, [], 0)]
theorem ok_X5_isDigit_17 : vBL MT qLen qCh false q_X5_isDigit.2.2.2.2.1 q_X5_isDigit.2.2.2.2.2.1 q_X5_isDigit.2.2.1 q_X5_isDigit.1.cls q_X5_isDigit.1.name q_X5_isDigit.2.1 0 17 I_X5_isDigit_17 = true := by decide +kernel
def p_X5_isDigit_17 (y0 : Int32) (h : AH) : Option (Int32 × AH) :=
  if y0 &&& 1 = y0 then some (y0, h) else none
set_option maxRecDepth 100000 in
theorem e_X5_isDigit_17 {l : Launch} {D : va_G} {dA : Nat → ClassId} {z : Nat} {sa : Nat → Nat} {Hz : Heap} (E : StrOK qLen qCh l D dA z sa Hz) {h0 fin : AH} {x : Int32}  : ∀ (y0 : Int32) (h : AH), p_X5_isDigit_17 y0 h = some (x, fin) → GM l D dA z sa Hz q_X5_isDigit h0 (some (.int x)) fin 17 [] [.int y0] h := by
  intro y0 h hd
  exact step E (is := I_X5_isDigit_17) (pc := 17) (K := k0) (FI := fI0) (FV := fV0) (FL := fL0) (rt := rtZ) (ft := 0) (by exact hd) ok_X5_isDigit_17 k0_ok (fI0_ok E) (fV0_ok E) (fL0_ok E) (rtZ_ok rfl)
def I_X5_isDigit_16 : List AI := [(.iconst 0, 1, [], 0)]
theorem ok_X5_isDigit_16 : vBL MT qLen qCh false q_X5_isDigit.2.2.2.2.1 q_X5_isDigit.2.2.2.2.2.1 q_X5_isDigit.2.2.1 q_X5_isDigit.1.cls q_X5_isDigit.1.name q_X5_isDigit.2.1 17 16 I_X5_isDigit_16 = true := by decide +kernel
def p_X5_isDigit_16 (h : AH) : Option (Int32 × AH) :=
  p_X5_isDigit_17 ((0 : Int32)) h
set_option maxRecDepth 100000 in
theorem e_X5_isDigit_16 {l : Launch} {D : va_G} {dA : Nat → ClassId} {z : Nat} {sa : Nat → Nat} {Hz : Heap} (E : StrOK qLen qCh l D dA z sa Hz) {h0 fin : AH} {x : Int32}  : ∀  (h : AH), p_X5_isDigit_16 h = some (x, fin) → GM l D dA z sa Hz q_X5_isDigit h0 (some (.int x)) fin 16 [] [] h := by
  intro h hd
  exact step E (is := I_X5_isDigit_16) (pc := 16) (K := (kx 17 (fun la st h => sI st fun y0 st => sE st (p_X5_isDigit_17 y0 h)) k0)) (FI := fI0) (FV := fV0) (FL := fL0) (rt := rtZ) (ft := 17) (by exact hd) ok_X5_isDigit_16 (kx_ok (fun la st h e => by obtain ⟨y0, _, rfl, e1⟩ := sI_inv e; obtain ⟨rfl, ez⟩ := sE_inv e1; exact gm_fewer (e_X5_isDigit_17 E  y0 h ez) mem_nil) k0_ok) (fI0_ok E) (fV0_ok E) (fL0_ok E) (rtZ_ok rfl)
def I_X5_isDigit_0 : List AI := [(.iload_n 0, 1, [], 0), (.bipush 48, 2, [], 48), (.if_icmp .lt 13, 3, [16], 0), (.iload_n 0, 1, [], 0), (.bipush 57, 2, [], 57), (.if_icmp .gt 7, 3, [16], 0), (.iconst 1, 1, [], 1), (.goto 4, 3, [17], 0)]
theorem ok_X5_isDigit_0 : vBL MT qLen qCh false q_X5_isDigit.2.2.2.2.1 q_X5_isDigit.2.2.2.2.2.1 q_X5_isDigit.2.2.1 q_X5_isDigit.1.cls q_X5_isDigit.1.name q_X5_isDigit.2.1 0 0 I_X5_isDigit_0 = true := by decide +kernel
def p_X5_isDigit (x0 : Int32) (h : AH) : Option (Int32 × AH) :=
  if x0 < ((48 : Int32)) then (p_X5_isDigit_16 h)
  else
  if ((57 : Int32)) < x0 then (p_X5_isDigit_16 h)
  else
  p_X5_isDigit_17 ((1 : Int32)) h
set_option maxRecDepth 100000 in
theorem e_X5_isDigit_0 {l : Launch} {D : va_G} {dA : Nat → ClassId} {z : Nat} {sa : Nat → Nat} {Hz : Heap} (E : StrOK qLen qCh l D dA z sa Hz) {h0 fin : AH} {x : Int32}  : ∀ (x0 : Int32) (h : AH), p_X5_isDigit x0 h = some (x, fin) → GM l D dA z sa Hz q_X5_isDigit h0 (some (.int x)) fin 0 [(0, .int x0)] [] h := by
  intro x0 h hd
  exact step E (is := I_X5_isDigit_0) (pc := 0) (K := (kx 16 (fun la st h => sE st (p_X5_isDigit_16 h)) (kx 17 (fun la st h => sI st fun y0 st => sE st (p_X5_isDigit_17 y0 h)) k0))) (FI := fI0) (FV := fV0) (FL := fL0) (rt := rtZ) (ft := 0) (by exact hd) ok_X5_isDigit_0 (kx_ok (fun la st h e => by obtain ⟨rfl, ez⟩ := sE_inv e; exact gm_fewer (e_X5_isDigit_16 E   h ez) mem_nil) (kx_ok (fun la st h e => by obtain ⟨y0, _, rfl, e1⟩ := sI_inv e; obtain ⟨rfl, ez⟩ := sE_inv e1; exact gm_fewer (e_X5_isDigit_17 E  y0 h ez) mem_nil) k0_ok)) (fI0_ok E) (fV0_ok E) (fL0_ok E) (rtZ_ok rfl)
theorem c_X5_isDigit {l : Launch} {D : va_G} {dA : Nat → ClassId} {z : Nat} {sa : Nat → Nat} {Hz : Heap} (E : StrOK qLen qCh l D dA z sa Hz) {x0 : Int32} {h fin : AH} {x : Int32} (hd : p_X5_isDigit x0 h = some (x, fin)) : CalOK l D dA z sa Hz q_X5_isDigit [.int x0] h (some (.int x)) fin := calOf (by decide +kernel) (Nat.le_of_ble_eq_true rfl) (e_X5_isDigit_0 E x0 h hd)
def FI_X5_advance : Nat → List Value → AH → Option (Int32 × AH) := (cx 12 (fun As h => sR As fun a0 As => sI As fun x1 As => sE As (p_X5_byteAt a0 x1 h)) (cx 13 (fun As h => sI As fun x0 As => sE As (p_X5_isSmall x0 h)) (cx 14 (fun As h => sI As fun x0 As => sE As (p_X5_isDigit x0 h)) fI0)))
theorem FI_X5_advance_ok {l : Launch} {D : va_G} {dA : Nat → ClassId} {z : Nat} {sa : Nat → Nat} {Hz : Heap} (E : StrOK qLen qCh l D dA z sa Hz) : ∀ mi As h x h', FI_X5_advance mi As h = some (x, h') → CalOK l D dA z sa Hz (MT mi) As h (some (.int x)) h' := (cxI_ok (fun As h x h2 e => by obtain ⟨_, _, rfl, e0⟩ := sR_inv e; obtain ⟨_, _, rfl, e1⟩ := sI_inv e0; obtain ⟨rfl, ez⟩ := sE_inv e1; exact c_X5_byteAt E ez) ((cxI_ok (fun As h x h2 e => by obtain ⟨_, _, rfl, e0⟩ := sI_inv e; obtain ⟨rfl, ez⟩ := sE_inv e0; exact c_X5_isSmall E ez) ((cxI_ok (fun As h x h2 e => by obtain ⟨_, _, rfl, e0⟩ := sI_inv e; obtain ⟨rfl, ez⟩ := sE_inv e0; exact c_X5_isDigit E ez) (fI0_ok E))))))
def I_X5_advance_269 : List AI := [(.return_, 1, [], 0)]
theorem ok_X5_advance_269 : vBL MT qLen qCh false q_X5_advance.2.2.2.2.1 q_X5_advance.2.2.2.2.2.1 q_X5_advance.2.2.1 q_X5_advance.1.cls q_X5_advance.1.name q_X5_advance.2.1 0 269 I_X5_advance_269 = true := by decide +kernel
def p_X5_advance_269 (h : AH) : Option (AH) :=
  some h
set_option maxRecDepth 100000 in
theorem e_X5_advance_269 {l : Launch} {D : va_G} {dA : Nat → ClassId} {z : Nat} {sa : Nat → Nat} {Hz : Heap} (E : StrOK qLen qCh l D dA z sa Hz) {h0 fin : AH}  : ∀  (h : AH), p_X5_advance_269 h = some fin → GM l D dA z sa Hz q_X5_advance h0 none fin 269 [] [] h := by
  intro h hd
  exact step E (is := I_X5_advance_269) (pc := 269) (K := k0) (FI := FI_X5_advance) (FV := fV0) (FL := fL0) (rt := rtV) (ft := 0) (by exact hd) ok_X5_advance_269 k0_ok (FI_X5_advance_ok E) (fV0_ok E) (fL0_ok E) (rtV_ok rfl)
def I_X5_advance_256 : List AI := [(.putfield 43, 3, [4, 3, 0, 149], 0), (.aload_n 0, 1, [], 0), (.dup, 1, [], 0), (.getfield 28, 3, [4, 5, 0, 151], 0), (.iconst 1, 1, [], 1), (.iadd, 1, [], 0), (.putfield 28, 3, [4, 5, 0, 151], 0)]
theorem ok_X5_advance_256 : vBL MT qLen qCh false q_X5_advance.2.2.2.2.1 q_X5_advance.2.2.2.2.2.1 q_X5_advance.2.2.1 q_X5_advance.1.cls q_X5_advance.1.name q_X5_advance.2.1 269 256 I_X5_advance_256 = true := by decide +kernel
def p_X5_advance_256 (a0 : Nat) (y0 : Int32) (b1 : Nat) (h : AH) : Option (AH) :=
  if (tg h b1).1 = 4 then (let h101 := wI h b1 3 y0
  if (tg h101 a0).1 = 4 then (if (tg h101 a0).1 = 4 then (let h102 := wI h101 a0 5 ((rI h101 a0 5) + ((1 : Int32)))
  p_X5_advance_269 h102) else none) else none) else none
set_option maxRecDepth 100000 in
theorem e_X5_advance_256 {l : Launch} {D : va_G} {dA : Nat → ClassId} {z : Nat} {sa : Nat → Nat} {Hz : Heap} (E : StrOK qLen qCh l D dA z sa Hz) {h0 fin : AH}  : ∀ (a0 : Nat) (y0 : Int32) (b1 : Nat) (h : AH), p_X5_advance_256 a0 y0 b1 h = some fin → GM l D dA z sa Hz q_X5_advance h0 none fin 256 [(0, .ref a0)] [.int y0, .ref b1] h := by
  intro a0 y0 b1 h hd
  exact step E (is := I_X5_advance_256) (pc := 256) (K := (kx 269 (fun la st h => sE st (p_X5_advance_269 h)) k0)) (FI := FI_X5_advance) (FV := fV0) (FL := fL0) (rt := rtV) (ft := 269) (by exact hd) ok_X5_advance_256 (kx_ok (fun la st h e => by obtain ⟨rfl, ez⟩ := sE_inv e; exact gm_fewer (e_X5_advance_269 E   h ez) mem_nil) k0_ok) (FI_X5_advance_ok E) (fV0_ok E) (fL0_ok E) (rtV_ok rfl)
def I_X5_advance_255 : List AI := [(.iconst 4, 1, [], 4)]
theorem ok_X5_advance_255 : vBL MT qLen qCh false q_X5_advance.2.2.2.2.1 q_X5_advance.2.2.2.2.2.1 q_X5_advance.2.2.1 q_X5_advance.1.cls q_X5_advance.1.name q_X5_advance.2.1 256 255 I_X5_advance_255 = true := by decide +kernel
def p_X5_advance_255 (a0 : Nat) (b0 : Nat) (h : AH) : Option (AH) :=
  p_X5_advance_256 a0 ((4 : Int32)) b0 h
set_option maxRecDepth 100000 in
theorem e_X5_advance_255 {l : Launch} {D : va_G} {dA : Nat → ClassId} {z : Nat} {sa : Nat → Nat} {Hz : Heap} (E : StrOK qLen qCh l D dA z sa Hz) {h0 fin : AH}  : ∀ (a0 : Nat) (b0 : Nat) (h : AH), p_X5_advance_255 a0 b0 h = some fin → GM l D dA z sa Hz q_X5_advance h0 none fin 255 [(0, .ref a0)] [.ref b0] h := by
  intro a0 b0 h hd
  exact step E (is := I_X5_advance_255) (pc := 255) (K := (kx 256 (fun la st h => gR la 0 fun a0 => sI st fun y0 st => sR st fun b1 st => sE st (p_X5_advance_256 a0 y0 b1 h)) k0)) (FI := FI_X5_advance) (FV := fV0) (FL := fL0) (rt := rtV) (ft := 256) (by exact hd) ok_X5_advance_255 (kx_ok (fun la st h e => by obtain ⟨a0, m_a0, e1⟩ := gR_inv e; obtain ⟨y0, _, rfl, e2⟩ := sI_inv e1; obtain ⟨b1, _, rfl, e3⟩ := sR_inv e2; obtain ⟨rfl, ez⟩ := sE_inv e3; exact gm_fewer (e_X5_advance_256 E  a0 y0 b1 h ez) (mem_cons m_a0 mem_nil)) k0_ok) (FI_X5_advance_ok E) (fV0_ok E) (fL0_ok E) (rtV_ok rfl)
def I_X5_advance_244 : List AI := [(.aload_n 0, 1, [], 0), (.iload_n 1, 1, [], 0), (.bipush 59, 2, [], 59), (.if_icmp .ne 7, 3, [255], 0), (.iconst 3, 1, [], 3), (.goto 4, 3, [256], 0)]
theorem ok_X5_advance_244 : vBL MT qLen qCh false q_X5_advance.2.2.2.2.1 q_X5_advance.2.2.2.2.2.1 q_X5_advance.2.2.1 q_X5_advance.1.cls q_X5_advance.1.name q_X5_advance.2.1 0 244 I_X5_advance_244 = true := by decide +kernel
def p_X5_advance_244 (a0 : Nat) (x1 : Int32) (h : AH) : Option (AH) :=
  if x1 = ((59 : Int32)) then (p_X5_advance_256 a0 ((3 : Int32)) a0 h)
  else
  p_X5_advance_256 a0 ((4 : Int32)) a0 h
set_option maxRecDepth 100000 in
theorem e_X5_advance_244 {l : Launch} {D : va_G} {dA : Nat → ClassId} {z : Nat} {sa : Nat → Nat} {Hz : Heap} (E : StrOK qLen qCh l D dA z sa Hz) {h0 fin : AH}  : ∀ (a0 : Nat) (x1 : Int32) (h : AH), p_X5_advance_244 a0 x1 h = some fin → GM l D dA z sa Hz q_X5_advance h0 none fin 244 [(0, .ref a0), (1, .int x1)] [] h := by
  intro a0 x1 h hd
  exact step E (is := I_X5_advance_244) (pc := 244) (K := (kx 255 (fun la st h => gR la 0 fun a0 => sR st fun b0 st => sE st (p_X5_advance_255 a0 b0 h)) (kx 256 (fun la st h => gR la 0 fun a0 => sI st fun y0 st => sR st fun b1 st => sE st (p_X5_advance_256 a0 y0 b1 h)) k0))) (FI := FI_X5_advance) (FV := fV0) (FL := fL0) (rt := rtV) (ft := 0) (by exact hd) ok_X5_advance_244 (kx_ok (fun la st h e => by obtain ⟨a0, m_a0, e1⟩ := gR_inv e; obtain ⟨b0, _, rfl, e2⟩ := sR_inv e1; obtain ⟨rfl, ez⟩ := sE_inv e2; exact gm_fewer (e_X5_advance_255 E  a0 b0 h ez) (mem_cons m_a0 mem_nil)) (kx_ok (fun la st h e => by obtain ⟨a0, m_a0, e1⟩ := gR_inv e; obtain ⟨y0, _, rfl, e2⟩ := sI_inv e1; obtain ⟨b1, _, rfl, e3⟩ := sR_inv e2; obtain ⟨rfl, ez⟩ := sE_inv e3; exact gm_fewer (e_X5_advance_256 E  a0 y0 b1 h ez) (mem_cons m_a0 mem_nil)) k0_ok)) (FI_X5_advance_ok E) (fV0_ok E) (fL0_ok E) (rtV_ok rfl)
def I_X5_advance_231 : List AI := [(.iload_n 1, 1, [], 0), (.iconst (-1), 1, [], (-1)), (.if_icmp .ne 11, 3, [244], 0), (.aload_n 0, 1, [], 0), (.iconst 0, 1, [], 0), (.putfield 43, 3, [4, 3, 0, 149], 0), (.goto 28, 3, [269], 0)]
theorem ok_X5_advance_231 : vBL MT qLen qCh false q_X5_advance.2.2.2.2.1 q_X5_advance.2.2.2.2.2.1 q_X5_advance.2.2.1 q_X5_advance.1.cls q_X5_advance.1.name q_X5_advance.2.1 0 231 I_X5_advance_231 = true := by decide +kernel
def p_X5_advance_231 (a0 : Nat) (x1 : Int32) (h : AH) : Option (AH) :=
  if x1 = ((-1 : Int32)) then (if (tg h a0).1 = 4 then (let h103 := wI h a0 3 ((0 : Int32))
  p_X5_advance_269 h103) else none)
  else
  if x1 = ((59 : Int32)) then (p_X5_advance_256 a0 ((3 : Int32)) a0 h)
  else
  p_X5_advance_256 a0 ((4 : Int32)) a0 h
set_option maxRecDepth 100000 in
theorem e_X5_advance_231 {l : Launch} {D : va_G} {dA : Nat → ClassId} {z : Nat} {sa : Nat → Nat} {Hz : Heap} (E : StrOK qLen qCh l D dA z sa Hz) {h0 fin : AH}  : ∀ (a0 : Nat) (x1 : Int32) (h : AH), p_X5_advance_231 a0 x1 h = some fin → GM l D dA z sa Hz q_X5_advance h0 none fin 231 [(0, .ref a0), (1, .int x1)] [] h := by
  intro a0 x1 h hd
  exact step E (is := I_X5_advance_231) (pc := 231) (K := (kx 244 (fun la st h => gR la 0 fun a0 => gI la 1 fun x1 => sE st (p_X5_advance_244 a0 x1 h)) (kx 269 (fun la st h => sE st (p_X5_advance_269 h)) k0))) (FI := FI_X5_advance) (FV := fV0) (FL := fL0) (rt := rtV) (ft := 0) (by exact hd) ok_X5_advance_231 (kx_ok (fun la st h e => by obtain ⟨a0, m_a0, e1⟩ := gR_inv e; obtain ⟨x1, m_x1, e2⟩ := gI_inv e1; obtain ⟨rfl, ez⟩ := sE_inv e2; exact gm_fewer (e_X5_advance_244 E  a0 x1 h ez) (mem_cons m_a0 (mem_cons m_x1 mem_nil))) (kx_ok (fun la st h e => by obtain ⟨rfl, ez⟩ := sE_inv e; exact gm_fewer (e_X5_advance_269 E   h ez) mem_nil) k0_ok)) (FI_X5_advance_ok E) (fV0_ok E) (fL0_ok E) (rtV_ok rfl)
def I_X5_advance_225 : List AI := [(.putfield 43, 3, [4, 3, 0, 149], 0), (.goto 41, 3, [269], 0)]
theorem ok_X5_advance_225 : vBL MT qLen qCh false q_X5_advance.2.2.2.2.1 q_X5_advance.2.2.2.2.2.1 q_X5_advance.2.2.1 q_X5_advance.1.cls q_X5_advance.1.name q_X5_advance.2.1 0 225 I_X5_advance_225 = true := by decide +kernel
def p_X5_advance_225 (y0 : Int32) (b1 : Nat) (h : AH) : Option (AH) :=
  if (tg h b1).1 = 4 then (let h104 := wI h b1 3 y0
  p_X5_advance_269 h104) else none
set_option maxRecDepth 100000 in
theorem e_X5_advance_225 {l : Launch} {D : va_G} {dA : Nat → ClassId} {z : Nat} {sa : Nat → Nat} {Hz : Heap} (E : StrOK qLen qCh l D dA z sa Hz) {h0 fin : AH}  : ∀ (y0 : Int32) (b1 : Nat) (h : AH), p_X5_advance_225 y0 b1 h = some fin → GM l D dA z sa Hz q_X5_advance h0 none fin 225 [] [.int y0, .ref b1] h := by
  intro y0 b1 h hd
  exact step E (is := I_X5_advance_225) (pc := 225) (K := (kx 269 (fun la st h => sE st (p_X5_advance_269 h)) k0)) (FI := FI_X5_advance) (FV := fV0) (FL := fL0) (rt := rtV) (ft := 0) (by exact hd) ok_X5_advance_225 (kx_ok (fun la st h e => by obtain ⟨rfl, ez⟩ := sE_inv e; exact gm_fewer (e_X5_advance_269 E   h ez) mem_nil) k0_ok) (FI_X5_advance_ok E) (fV0_ok E) (fL0_ok E) (rtV_ok rfl)
def I_X5_advance_224 : List AI := [(.iconst 4, 1, [], 4)]
theorem ok_X5_advance_224 : vBL MT qLen qCh false q_X5_advance.2.2.2.2.1 q_X5_advance.2.2.2.2.2.1 q_X5_advance.2.2.1 q_X5_advance.1.cls q_X5_advance.1.name q_X5_advance.2.1 225 224 I_X5_advance_224 = true := by decide +kernel
def p_X5_advance_224 (b0 : Nat) (h : AH) : Option (AH) :=
  p_X5_advance_225 ((4 : Int32)) b0 h
set_option maxRecDepth 100000 in
theorem e_X5_advance_224 {l : Launch} {D : va_G} {dA : Nat → ClassId} {z : Nat} {sa : Nat → Nat} {Hz : Heap} (E : StrOK qLen qCh l D dA z sa Hz) {h0 fin : AH}  : ∀ (b0 : Nat) (h : AH), p_X5_advance_224 b0 h = some fin → GM l D dA z sa Hz q_X5_advance h0 none fin 224 [] [.ref b0] h := by
  intro b0 h hd
  exact step E (is := I_X5_advance_224) (pc := 224) (K := (kx 225 (fun la st h => sI st fun y0 st => sR st fun b1 st => sE st (p_X5_advance_225 y0 b1 h)) k0)) (FI := FI_X5_advance) (FV := fV0) (FL := fL0) (rt := rtV) (ft := 225) (by exact hd) ok_X5_advance_224 (kx_ok (fun la st h e => by obtain ⟨y0, _, rfl, e1⟩ := sI_inv e; obtain ⟨b1, _, rfl, e2⟩ := sR_inv e1; obtain ⟨rfl, ez⟩ := sE_inv e2; exact gm_fewer (e_X5_advance_225 E  y0 b1 h ez) mem_nil) k0_ok) (FI_X5_advance_ok E) (fV0_ok E) (fL0_ok E) (rtV_ok rfl)
def I_X5_advance_206 : List AI := [(.aload_n 0, 1, [], 0), (.aload_n 0, 1, [], 0), (.getfield 28, 3, [4, 5, 0, 151], 0), (.aload_n 0, 1, [], 0), (.getfield 50, 3, [4, 4, 0, 150], 0), (.isub, 1, [], 0), (.iconst 4, 1, [], 4), (.if_icmp .gt 7, 3, [224], 0), (.iconst 2, 1, [], 2), (.goto 4, 3, [225], 0)]
theorem ok_X5_advance_206 : vBL MT qLen qCh false q_X5_advance.2.2.2.2.1 q_X5_advance.2.2.2.2.2.1 q_X5_advance.2.2.1 q_X5_advance.1.cls q_X5_advance.1.name q_X5_advance.2.1 0 206 I_X5_advance_206 = true := by decide +kernel
def p_X5_advance_206 (a0 : Nat) (h : AH) : Option (AH) :=
  if (tg h a0).1 = 4 then (if (tg h a0).1 = 4 then (if ((4 : Int32)) < ((rI h a0 5) - (rI h a0 4)) then (p_X5_advance_225 ((4 : Int32)) a0 h)
  else
  p_X5_advance_225 ((2 : Int32)) a0 h) else none) else none
set_option maxRecDepth 100000 in
theorem e_X5_advance_206 {l : Launch} {D : va_G} {dA : Nat → ClassId} {z : Nat} {sa : Nat → Nat} {Hz : Heap} (E : StrOK qLen qCh l D dA z sa Hz) {h0 fin : AH}  : ∀ (a0 : Nat) (h : AH), p_X5_advance_206 a0 h = some fin → GM l D dA z sa Hz q_X5_advance h0 none fin 206 [(0, .ref a0)] [] h := by
  intro a0 h hd
  exact step E (is := I_X5_advance_206) (pc := 206) (K := (kx 224 (fun la st h => sR st fun b0 st => sE st (p_X5_advance_224 b0 h)) (kx 225 (fun la st h => sI st fun y0 st => sR st fun b1 st => sE st (p_X5_advance_225 y0 b1 h)) k0))) (FI := FI_X5_advance) (FV := fV0) (FL := fL0) (rt := rtV) (ft := 0) (by exact hd) ok_X5_advance_206 (kx_ok (fun la st h e => by obtain ⟨b0, _, rfl, e1⟩ := sR_inv e; obtain ⟨rfl, ez⟩ := sE_inv e1; exact gm_fewer (e_X5_advance_224 E  b0 h ez) mem_nil) (kx_ok (fun la st h e => by obtain ⟨y0, _, rfl, e1⟩ := sI_inv e; obtain ⟨b1, _, rfl, e2⟩ := sR_inv e1; obtain ⟨rfl, ez⟩ := sE_inv e2; exact gm_fewer (e_X5_advance_225 E  y0 b1 h ez) mem_nil) k0_ok)) (FI_X5_advance_ok E) (fV0_ok E) (fL0_ok E) (rtV_ok rfl)
def I_X5_advance_145 : List AI := [(.aload_n 0, 1, [], 0), (.getfield 28, 3, [4, 5, 0, 151], 0), (.aload_n 0, 1, [], 0), (.getfield 19, 3, [4, 2, 0, 148], 0), (.if_icmp .ge 53, 3, [206], 0), (.aload_n 0, 1, [], 0), (.aload_n 0, 1, [], 0), (.getfield 28, 3, [4, 5, 0, 151], 0), (.invokevirtual 53, 3, [1, 12, 2, 4, 423], 0), (.invokestatic 60, 3, [1, 14, 1, 430], 0), (.ifCond .eq 39, 3, [206], 0), (.aload_n 0, 1, [], 0), (.aload_n 0, 1, [], 0), (.getfield 63, 3, [4, 6, 0, 152], 0), (.bipush 10, 2, [], 10), (.imul, 1, [], 0), (.aload_n 0, 1, [], 0), (.aload_n 0, 1, [], 0), (.getfield 28, 3, [4, 5, 0, 151], 0), (.invokevirtual 53, 3, [1, 12, 2, 4, 423], 0), (.iadd, 1, [], 0), (.bipush 48, 2, [], 48), (.isub, 1, [], 0), (.putfield 63, 3, [4, 6, 0, 152], 0), (.aload_n 0, 1, [], 0), (.dup, 1, [], 0), (.getfield 28, 3, [4, 5, 0, 151], 0), (.iconst 1, 1, [], 1), (.iadd, 1, [], 0), (.putfield 28, 3, [4, 5, 0, 151], 0), (.goto (-58), 3, [145], 0)]
theorem ok_X5_advance_145 : vBL MT qLen qCh false q_X5_advance.2.2.2.2.1 q_X5_advance.2.2.2.2.2.1 q_X5_advance.2.2.1 q_X5_advance.1.cls q_X5_advance.1.name q_X5_advance.2.1 0 145 I_X5_advance_145 = true := by decide +kernel
def p_X5_advance_145 : Nat → Nat → AH → Option (AH)
  | 0, _, _ => none
  | n + 1, a0, h => if (tg h a0).1 = 4 then (if (tg h a0).1 = 4 then (if (rI h a0 5) < (rI h a0 2) then (if (tg h a0).1 = 4 then (if (tg h a0).1 = 4 then ((p_X5_byteAt a0 (rI h a0 5) h).bind fun q105 =>
    (p_X5_isDigit q105.1 q105.2).bind fun q106 =>
    if q106.1 = 0 then (p_X5_advance_206 a0 q106.2)
    else
    if (tg q106.2 a0).1 = 4 then (if (tg q106.2 a0).1 = 4 then (if (tg q106.2 a0).1 = 4 then ((p_X5_byteAt a0 (rI q106.2 a0 5) q106.2).bind fun q107 =>
    if (tg q107.2 a0).1 = 4 then (let h108 := wI q107.2 a0 6 ((((rI q106.2 a0 6) * ((10 : Int32))) + q107.1) - ((48 : Int32)))
    if (tg h108 a0).1 = 4 then (if (tg h108 a0).1 = 4 then (let h109 := wI h108 a0 5 ((rI h108 a0 5) + ((1 : Int32)))
    p_X5_advance_145 n a0 h109) else none) else none) else none) else none) else none) else none) else none) else none)
    else
    p_X5_advance_206 a0 h) else none) else none
set_option maxRecDepth 100000 in
theorem e_X5_advance_145 {l : Launch} {D : va_G} {dA : Nat → ClassId} {z : Nat} {sa : Nat → Nat} {Hz : Heap} (E : StrOK qLen qCh l D dA z sa Hz) {h0 fin : AH}  : ∀ (n : Nat) (a0 : Nat) (h : AH), p_X5_advance_145 n a0 h = some fin → GM l D dA z sa Hz q_X5_advance h0 none fin 145 [(0, .ref a0)] [] h := by
  intro n
  induction n with
  | zero => intro a0 h hd; exact nomatch hd
  | succ n ih =>
    intro a0 h hd
    exact step E (is := I_X5_advance_145) (pc := 145) (K := (kx 206 (fun la st h => gR la 0 fun a0 => sE st (p_X5_advance_206 a0 h)) (kx 145 (fun la st h => gR la 0 fun a0 => sE st (p_X5_advance_145 n a0 h)) k0))) (FI := FI_X5_advance) (FV := fV0) (FL := fL0) (rt := rtV) (ft := 0) (by exact hd) ok_X5_advance_145 (kx_ok (fun la st h e => by obtain ⟨a0, m_a0, e1⟩ := gR_inv e; obtain ⟨rfl, ez⟩ := sE_inv e1; exact gm_fewer (e_X5_advance_206 E  a0 h ez) (mem_cons m_a0 mem_nil)) (kx_ok (fun la st h e => by obtain ⟨a0, m_a0, e1⟩ := gR_inv e; obtain ⟨rfl, ez⟩ := sE_inv e1; exact gm_fewer (ih a0 h ez) (mem_cons m_a0 mem_nil)) k0_ok)) (FI_X5_advance_ok E) (fV0_ok E) (fL0_ok E) (rtV_ok rfl)
def I_X5_advance_133 : List AI := [(.iload_n 1, 1, [], 0), (.invokestatic 60, 3, [1, 14, 1, 430], 0), (.ifCond .eq 94, 3, [231], 0), (.aload_n 0, 1, [], 0), (.iconst 0, 1, [], 0), (.putfield 63, 3, [4, 6, 0, 152], 0)]
theorem ok_X5_advance_133 : vBL MT qLen qCh false q_X5_advance.2.2.2.2.1 q_X5_advance.2.2.2.2.2.1 q_X5_advance.2.2.1 q_X5_advance.1.cls q_X5_advance.1.name q_X5_advance.2.1 145 133 I_X5_advance_133 = true := by decide +kernel
def p_X5_advance_133 (a0 : Nat) (x1 : Int32) (h : AH) : Option (AH) :=
  (p_X5_isDigit x1 h).bind fun q110 =>
  if q110.1 = 0 then (if x1 = ((-1 : Int32)) then (if (tg q110.2 a0).1 = 4 then (let h111 := wI q110.2 a0 3 ((0 : Int32))
  p_X5_advance_269 h111) else none)
  else
  if x1 = ((59 : Int32)) then (p_X5_advance_256 a0 ((3 : Int32)) a0 q110.2)
  else
  p_X5_advance_256 a0 ((4 : Int32)) a0 q110.2)
  else
  if (tg q110.2 a0).1 = 4 then (let h112 := wI q110.2 a0 6 ((0 : Int32))
  p_X5_advance_145 FU a0 h112) else none
set_option maxRecDepth 100000 in
theorem e_X5_advance_133 {l : Launch} {D : va_G} {dA : Nat → ClassId} {z : Nat} {sa : Nat → Nat} {Hz : Heap} (E : StrOK qLen qCh l D dA z sa Hz) {h0 fin : AH}  : ∀ (a0 : Nat) (x1 : Int32) (h : AH), p_X5_advance_133 a0 x1 h = some fin → GM l D dA z sa Hz q_X5_advance h0 none fin 133 [(0, .ref a0), (1, .int x1)] [] h := by
  intro a0 x1 h hd
  exact step E (is := I_X5_advance_133) (pc := 133) (K := (kx 231 (fun la st h => gR la 0 fun a0 => gI la 1 fun x1 => sE st (p_X5_advance_231 a0 x1 h)) (kx 145 (fun la st h => gR la 0 fun a0 => sE st (p_X5_advance_145 FU a0 h)) k0))) (FI := FI_X5_advance) (FV := fV0) (FL := fL0) (rt := rtV) (ft := 145) (by exact hd) ok_X5_advance_133 (kx_ok (fun la st h e => by obtain ⟨a0, m_a0, e1⟩ := gR_inv e; obtain ⟨x1, m_x1, e2⟩ := gI_inv e1; obtain ⟨rfl, ez⟩ := sE_inv e2; exact gm_fewer (e_X5_advance_231 E  a0 x1 h ez) (mem_cons m_a0 (mem_cons m_x1 mem_nil))) (kx_ok (fun la st h e => by obtain ⟨a0, m_a0, e1⟩ := gR_inv e; obtain ⟨rfl, ez⟩ := sE_inv e1; exact gm_fewer (e_X5_advance_145 E  FU a0 h ez) (mem_cons m_a0 mem_nil)) k0_ok)) (FI_X5_advance_ok E) (fV0_ok E) (fL0_ok E) (rtV_ok rfl)
def I_X5_advance_127 : List AI := [(.putfield 43, 3, [4, 3, 0, 149], 0), (.goto 139, 3, [269], 0)]
theorem ok_X5_advance_127 : vBL MT qLen qCh false q_X5_advance.2.2.2.2.1 q_X5_advance.2.2.2.2.2.1 q_X5_advance.2.2.1 q_X5_advance.1.cls q_X5_advance.1.name q_X5_advance.2.1 0 127 I_X5_advance_127 = true := by decide +kernel
def p_X5_advance_127 (y0 : Int32) (b1 : Nat) (h : AH) : Option (AH) :=
  if (tg h b1).1 = 4 then (let h113 := wI h b1 3 y0
  p_X5_advance_269 h113) else none
set_option maxRecDepth 100000 in
theorem e_X5_advance_127 {l : Launch} {D : va_G} {dA : Nat → ClassId} {z : Nat} {sa : Nat → Nat} {Hz : Heap} (E : StrOK qLen qCh l D dA z sa Hz) {h0 fin : AH}  : ∀ (y0 : Int32) (b1 : Nat) (h : AH), p_X5_advance_127 y0 b1 h = some fin → GM l D dA z sa Hz q_X5_advance h0 none fin 127 [] [.int y0, .ref b1] h := by
  intro y0 b1 h hd
  exact step E (is := I_X5_advance_127) (pc := 127) (K := (kx 269 (fun la st h => sE st (p_X5_advance_269 h)) k0)) (FI := FI_X5_advance) (FV := fV0) (FL := fL0) (rt := rtV) (ft := 0) (by exact hd) ok_X5_advance_127 (kx_ok (fun la st h e => by obtain ⟨rfl, ez⟩ := sE_inv e; exact gm_fewer (e_X5_advance_269 E   h ez) mem_nil) k0_ok) (FI_X5_advance_ok E) (fV0_ok E) (fL0_ok E) (rtV_ok rfl)
def I_X5_advance_126 : List AI := [(.iconst 4, 1, [], 4)]
theorem ok_X5_advance_126 : vBL MT qLen qCh false q_X5_advance.2.2.2.2.1 q_X5_advance.2.2.2.2.2.1 q_X5_advance.2.2.1 q_X5_advance.1.cls q_X5_advance.1.name q_X5_advance.2.1 127 126 I_X5_advance_126 = true := by decide +kernel
def p_X5_advance_126 (b0 : Nat) (h : AH) : Option (AH) :=
  p_X5_advance_127 ((4 : Int32)) b0 h
set_option maxRecDepth 100000 in
theorem e_X5_advance_126 {l : Launch} {D : va_G} {dA : Nat → ClassId} {z : Nat} {sa : Nat → Nat} {Hz : Heap} (E : StrOK qLen qCh l D dA z sa Hz) {h0 fin : AH}  : ∀ (b0 : Nat) (h : AH), p_X5_advance_126 b0 h = some fin → GM l D dA z sa Hz q_X5_advance h0 none fin 126 [] [.ref b0] h := by
  intro b0 h hd
  exact step E (is := I_X5_advance_126) (pc := 126) (K := (kx 127 (fun la st h => sI st fun y0 st => sR st fun b1 st => sE st (p_X5_advance_127 y0 b1 h)) k0)) (FI := FI_X5_advance) (FV := fV0) (FL := fL0) (rt := rtV) (ft := 127) (by exact hd) ok_X5_advance_126 (kx_ok (fun la st h e => by obtain ⟨y0, _, rfl, e1⟩ := sI_inv e; obtain ⟨b1, _, rfl, e2⟩ := sR_inv e1; obtain ⟨rfl, ez⟩ := sE_inv e2; exact gm_fewer (e_X5_advance_127 E  y0 b1 h ez) mem_nil) k0_ok) (FI_X5_advance_ok E) (fV0_ok E) (fL0_ok E) (rtV_ok rfl)
def I_X5_advance_107 : List AI := [(.aload_n 0, 1, [], 0), (.aload_n 0, 1, [], 0), (.getfield 28, 3, [4, 5, 0, 151], 0), (.aload_n 0, 1, [], 0), (.getfield 50, 3, [4, 4, 0, 150], 0), (.isub, 1, [], 0), (.bipush 8, 2, [], 8), (.if_icmp .gt 7, 3, [126], 0), (.iconst 1, 1, [], 1), (.goto 4, 3, [127], 0)]
theorem ok_X5_advance_107 : vBL MT qLen qCh false q_X5_advance.2.2.2.2.1 q_X5_advance.2.2.2.2.2.1 q_X5_advance.2.2.1 q_X5_advance.1.cls q_X5_advance.1.name q_X5_advance.2.1 0 107 I_X5_advance_107 = true := by decide +kernel
def p_X5_advance_107 (a0 : Nat) (h : AH) : Option (AH) :=
  if (tg h a0).1 = 4 then (if (tg h a0).1 = 4 then (if ((8 : Int32)) < ((rI h a0 5) - (rI h a0 4)) then (p_X5_advance_127 ((4 : Int32)) a0 h)
  else
  p_X5_advance_127 ((1 : Int32)) a0 h) else none) else none
set_option maxRecDepth 100000 in
theorem e_X5_advance_107 {l : Launch} {D : va_G} {dA : Nat → ClassId} {z : Nat} {sa : Nat → Nat} {Hz : Heap} (E : StrOK qLen qCh l D dA z sa Hz) {h0 fin : AH}  : ∀ (a0 : Nat) (h : AH), p_X5_advance_107 a0 h = some fin → GM l D dA z sa Hz q_X5_advance h0 none fin 107 [(0, .ref a0)] [] h := by
  intro a0 h hd
  exact step E (is := I_X5_advance_107) (pc := 107) (K := (kx 126 (fun la st h => sR st fun b0 st => sE st (p_X5_advance_126 b0 h)) (kx 127 (fun la st h => sI st fun y0 st => sR st fun b1 st => sE st (p_X5_advance_127 y0 b1 h)) k0))) (FI := FI_X5_advance) (FV := fV0) (FL := fL0) (rt := rtV) (ft := 0) (by exact hd) ok_X5_advance_107 (kx_ok (fun la st h e => by obtain ⟨b0, _, rfl, e1⟩ := sR_inv e; obtain ⟨rfl, ez⟩ := sE_inv e1; exact gm_fewer (e_X5_advance_126 E  b0 h ez) mem_nil) (kx_ok (fun la st h e => by obtain ⟨y0, _, rfl, e1⟩ := sI_inv e; obtain ⟨b1, _, rfl, e2⟩ := sR_inv e1; obtain ⟨rfl, ez⟩ := sE_inv e2; exact gm_fewer (e_X5_advance_127 E  y0 b1 h ez) mem_nil) k0_ok)) (FI_X5_advance_ok E) (fV0_ok E) (fL0_ok E) (rtV_ok rfl)
def I_X5_advance_69 : List AI := [(.aload_n 0, 1, [], 0), (.getfield 28, 3, [4, 5, 0, 151], 0), (.aload_n 0, 1, [], 0), (.getfield 19, 3, [4, 2, 0, 148], 0), (.if_icmp .ge 30, 3, [107], 0), (.aload_n 0, 1, [], 0), (.aload_n 0, 1, [], 0), (.getfield 28, 3, [4, 5, 0, 151], 0), (.invokevirtual 53, 3, [1, 12, 2, 4, 423], 0), (.invokestatic 57, 3, [1, 13, 1, 427], 0), (.ifCond .eq 16, 3, [107], 0), (.aload_n 0, 1, [], 0), (.dup, 1, [], 0), (.getfield 28, 3, [4, 5, 0, 151], 0), (.iconst 1, 1, [], 1), (.iadd, 1, [], 0), (.putfield 28, 3, [4, 5, 0, 151], 0), (.goto (-35), 3, [69], 0)]
theorem ok_X5_advance_69 : vBL MT qLen qCh false q_X5_advance.2.2.2.2.1 q_X5_advance.2.2.2.2.2.1 q_X5_advance.2.2.1 q_X5_advance.1.cls q_X5_advance.1.name q_X5_advance.2.1 0 69 I_X5_advance_69 = true := by decide +kernel
def p_X5_advance_69 : Nat → Nat → AH → Option (AH)
  | 0, _, _ => none
  | n + 1, a0, h => if (tg h a0).1 = 4 then (if (tg h a0).1 = 4 then (if (rI h a0 5) < (rI h a0 2) then (if (tg h a0).1 = 4 then (if (tg h a0).1 = 4 then ((p_X5_byteAt a0 (rI h a0 5) h).bind fun q114 =>
    (p_X5_isSmall q114.1 q114.2).bind fun q115 =>
    if q115.1 = 0 then (p_X5_advance_107 a0 q115.2)
    else
    if (tg q115.2 a0).1 = 4 then (if (tg q115.2 a0).1 = 4 then (let h116 := wI q115.2 a0 5 ((rI q115.2 a0 5) + ((1 : Int32)))
    p_X5_advance_69 n a0 h116) else none) else none) else none) else none)
    else
    p_X5_advance_107 a0 h) else none) else none
set_option maxRecDepth 100000 in
theorem e_X5_advance_69 {l : Launch} {D : va_G} {dA : Nat → ClassId} {z : Nat} {sa : Nat → Nat} {Hz : Heap} (E : StrOK qLen qCh l D dA z sa Hz) {h0 fin : AH}  : ∀ (n : Nat) (a0 : Nat) (h : AH), p_X5_advance_69 n a0 h = some fin → GM l D dA z sa Hz q_X5_advance h0 none fin 69 [(0, .ref a0)] [] h := by
  intro n
  induction n with
  | zero => intro a0 h hd; exact nomatch hd
  | succ n ih =>
    intro a0 h hd
    exact step E (is := I_X5_advance_69) (pc := 69) (K := (kx 107 (fun la st h => gR la 0 fun a0 => sE st (p_X5_advance_107 a0 h)) (kx 69 (fun la st h => gR la 0 fun a0 => sE st (p_X5_advance_69 n a0 h)) k0))) (FI := FI_X5_advance) (FV := fV0) (FL := fL0) (rt := rtV) (ft := 0) (by exact hd) ok_X5_advance_69 (kx_ok (fun la st h e => by obtain ⟨a0, m_a0, e1⟩ := gR_inv e; obtain ⟨rfl, ez⟩ := sE_inv e1; exact gm_fewer (e_X5_advance_107 E  a0 h ez) (mem_cons m_a0 mem_nil)) (kx_ok (fun la st h e => by obtain ⟨a0, m_a0, e1⟩ := gR_inv e; obtain ⟨rfl, ez⟩ := sE_inv e1; exact gm_fewer (ih a0 h ez) (mem_cons m_a0 mem_nil)) k0_ok)) (FI_X5_advance_ok E) (fV0_ok E) (fL0_ok E) (rtV_ok rfl)
def I_X5_advance_45 : List AI := [(.aload_n 0, 1, [], 0), (.aload_n 0, 1, [], 0), (.getfield 50, 3, [4, 4, 0, 150], 0), (.putfield 28, 3, [4, 5, 0, 151], 0), (.aload_n 0, 1, [], 0), (.aload_n 0, 1, [], 0), (.getfield 50, 3, [4, 4, 0, 150], 0), (.invokevirtual 53, 3, [1, 12, 2, 4, 423], 0), (.istore_n 1, 1, [], 0), (.iload_n 1, 1, [], 0), (.invokestatic 57, 3, [1, 13, 1, 427], 0), (.ifCond .eq 67, 3, [133], 0)]
theorem ok_X5_advance_45 : vBL MT qLen qCh false q_X5_advance.2.2.2.2.1 q_X5_advance.2.2.2.2.2.1 q_X5_advance.2.2.1 q_X5_advance.1.cls q_X5_advance.1.name q_X5_advance.2.1 69 45 I_X5_advance_45 = true := by decide +kernel
def p_X5_advance_45 (a0 : Nat) (h : AH) : Option (AH) :=
  if (tg h a0).1 = 4 then (if (tg h a0).1 = 4 then (let h117 := wI h a0 5 (rI h a0 4)
  if (tg h117 a0).1 = 4 then (if (tg h117 a0).1 = 4 then ((p_X5_byteAt a0 (rI h117 a0 4) h117).bind fun q118 =>
  (p_X5_isSmall q118.1 q118.2).bind fun q119 =>
  if q119.1 = 0 then ((p_X5_isDigit q118.1 q119.2).bind fun q120 =>
  if q120.1 = 0 then (if q118.1 = ((-1 : Int32)) then (if (tg q120.2 a0).1 = 4 then (let h121 := wI q120.2 a0 3 ((0 : Int32))
  p_X5_advance_269 h121) else none)
  else
  if q118.1 = ((59 : Int32)) then (p_X5_advance_256 a0 ((3 : Int32)) a0 q120.2)
  else
  p_X5_advance_256 a0 ((4 : Int32)) a0 q120.2)
  else
  if (tg q120.2 a0).1 = 4 then (let h122 := wI q120.2 a0 6 ((0 : Int32))
  p_X5_advance_145 FU a0 h122) else none)
  else
  p_X5_advance_69 FU a0 q119.2) else none) else none) else none) else none
set_option maxRecDepth 100000 in
theorem e_X5_advance_45 {l : Launch} {D : va_G} {dA : Nat → ClassId} {z : Nat} {sa : Nat → Nat} {Hz : Heap} (E : StrOK qLen qCh l D dA z sa Hz) {h0 fin : AH}  : ∀ (a0 : Nat) (h : AH), p_X5_advance_45 a0 h = some fin → GM l D dA z sa Hz q_X5_advance h0 none fin 45 [(0, .ref a0)] [] h := by
  intro a0 h hd
  exact step E (is := I_X5_advance_45) (pc := 45) (K := (kx 133 (fun la st h => gR la 0 fun a0 => gI la 1 fun x1 => sE st (p_X5_advance_133 a0 x1 h)) (kx 69 (fun la st h => gR la 0 fun a0 => sE st (p_X5_advance_69 FU a0 h)) k0))) (FI := FI_X5_advance) (FV := fV0) (FL := fL0) (rt := rtV) (ft := 69) (by exact hd) ok_X5_advance_45 (kx_ok (fun la st h e => by obtain ⟨a0, m_a0, e1⟩ := gR_inv e; obtain ⟨x1, m_x1, e2⟩ := gI_inv e1; obtain ⟨rfl, ez⟩ := sE_inv e2; exact gm_fewer (e_X5_advance_133 E  a0 x1 h ez) (mem_cons m_a0 (mem_cons m_x1 mem_nil))) (kx_ok (fun la st h e => by obtain ⟨a0, m_a0, e1⟩ := gR_inv e; obtain ⟨rfl, ez⟩ := sE_inv e1; exact gm_fewer (e_X5_advance_69 E  FU a0 h ez) (mem_cons m_a0 mem_nil)) k0_ok)) (FI_X5_advance_ok E) (fV0_ok E) (fL0_ok E) (rtV_ok rfl)
def I_X5_advance_8 : List AI := [(.aload_n 0, 1, [], 0), (.getfield 50, 3, [4, 4, 0, 150], 0), (.aload_n 0, 1, [], 0), (.getfield 19, 3, [4, 2, 0, 148], 0), (.if_icmp .ge 29, 3, [45], 0), (.aload_n 0, 1, [], 0), (.aload_n 0, 1, [], 0), (.getfield 50, 3, [4, 4, 0, 150], 0), (.invokevirtual 53, 3, [1, 12, 2, 4, 423], 0), (.bipush 32, 2, [], 32), (.if_icmp .ne 16, 3, [45], 0), (.aload_n 0, 1, [], 0), (.dup, 1, [], 0), (.getfield 50, 3, [4, 4, 0, 150], 0), (.iconst 1, 1, [], 1), (.iadd, 1, [], 0), (.putfield 50, 3, [4, 4, 0, 150], 0), (.goto (-34), 3, [8], 0)]
theorem ok_X5_advance_8 : vBL MT qLen qCh false q_X5_advance.2.2.2.2.1 q_X5_advance.2.2.2.2.2.1 q_X5_advance.2.2.1 q_X5_advance.1.cls q_X5_advance.1.name q_X5_advance.2.1 0 8 I_X5_advance_8 = true := by decide +kernel
def p_X5_advance_8 : Nat → Nat → AH → Option (AH)
  | 0, _, _ => none
  | n + 1, a0, h => if (tg h a0).1 = 4 then (if (tg h a0).1 = 4 then (if (rI h a0 4) < (rI h a0 2) then (if (tg h a0).1 = 4 then (if (tg h a0).1 = 4 then ((p_X5_byteAt a0 (rI h a0 4) h).bind fun q123 =>
    if q123.1 = ((32 : Int32)) then (if (tg q123.2 a0).1 = 4 then (if (tg q123.2 a0).1 = 4 then (let h124 := wI q123.2 a0 4 ((rI q123.2 a0 4) + ((1 : Int32)))
    p_X5_advance_8 n a0 h124) else none) else none)
    else
    p_X5_advance_45 a0 q123.2) else none) else none)
    else
    p_X5_advance_45 a0 h) else none) else none
set_option maxRecDepth 100000 in
theorem e_X5_advance_8 {l : Launch} {D : va_G} {dA : Nat → ClassId} {z : Nat} {sa : Nat → Nat} {Hz : Heap} (E : StrOK qLen qCh l D dA z sa Hz) {h0 fin : AH}  : ∀ (n : Nat) (a0 : Nat) (h : AH), p_X5_advance_8 n a0 h = some fin → GM l D dA z sa Hz q_X5_advance h0 none fin 8 [(0, .ref a0)] [] h := by
  intro n
  induction n with
  | zero => intro a0 h hd; exact nomatch hd
  | succ n ih =>
    intro a0 h hd
    exact step E (is := I_X5_advance_8) (pc := 8) (K := (kx 45 (fun la st h => gR la 0 fun a0 => sE st (p_X5_advance_45 a0 h)) (kx 8 (fun la st h => gR la 0 fun a0 => sE st (p_X5_advance_8 n a0 h)) k0))) (FI := FI_X5_advance) (FV := fV0) (FL := fL0) (rt := rtV) (ft := 0) (by exact hd) ok_X5_advance_8 (kx_ok (fun la st h e => by obtain ⟨a0, m_a0, e1⟩ := gR_inv e; obtain ⟨rfl, ez⟩ := sE_inv e1; exact gm_fewer (e_X5_advance_45 E  a0 h ez) (mem_cons m_a0 mem_nil)) (kx_ok (fun la st h e => by obtain ⟨a0, m_a0, e1⟩ := gR_inv e; obtain ⟨rfl, ez⟩ := sE_inv e1; exact gm_fewer (ih a0 h ez) (mem_cons m_a0 mem_nil)) k0_ok)) (FI_X5_advance_ok E) (fV0_ok E) (fL0_ok E) (rtV_ok rfl)
def I_X5_advance_0 : List AI := [(.aload_n 0, 1, [], 0), (.aload_n 0, 1, [], 0), (.getfield 28, 3, [4, 5, 0, 151], 0), (.putfield 50, 3, [4, 4, 0, 150], 0)]
theorem ok_X5_advance_0 : vBL MT qLen qCh false q_X5_advance.2.2.2.2.1 q_X5_advance.2.2.2.2.2.1 q_X5_advance.2.2.1 q_X5_advance.1.cls q_X5_advance.1.name q_X5_advance.2.1 8 0 I_X5_advance_0 = true := by decide +kernel
def p_X5_advance (a0 : Nat) (h : AH) : Option (AH) :=
  if (tg h a0).1 = 4 then (if (tg h a0).1 = 4 then (let h125 := wI h a0 4 (rI h a0 5)
  p_X5_advance_8 FU a0 h125) else none) else none
set_option maxRecDepth 100000 in
theorem e_X5_advance_0 {l : Launch} {D : va_G} {dA : Nat → ClassId} {z : Nat} {sa : Nat → Nat} {Hz : Heap} (E : StrOK qLen qCh l D dA z sa Hz) {h0 fin : AH}  : ∀ (a0 : Nat) (h : AH), p_X5_advance a0 h = some fin → GM l D dA z sa Hz q_X5_advance h0 none fin 0 [(0, .ref a0)] [] h := by
  intro a0 h hd
  exact step E (is := I_X5_advance_0) (pc := 0) (K := (kx 8 (fun la st h => gR la 0 fun a0 => sE st (p_X5_advance_8 FU a0 h)) k0)) (FI := FI_X5_advance) (FV := fV0) (FL := fL0) (rt := rtV) (ft := 8) (by exact hd) ok_X5_advance_0 (kx_ok (fun la st h e => by obtain ⟨a0, m_a0, e1⟩ := gR_inv e; obtain ⟨rfl, ez⟩ := sE_inv e1; exact gm_fewer (e_X5_advance_8 E  FU a0 h ez) (mem_cons m_a0 mem_nil)) k0_ok) (FI_X5_advance_ok E) (fV0_ok E) (fL0_ok E) (rtV_ok rfl)
theorem c_X5_advance {l : Launch} {D : va_G} {dA : Nat → ClassId} {z : Nat} {sa : Nat → Nat} {Hz : Heap} (E : StrOK qLen qCh l D dA z sa Hz) {a0 : Nat} {h fin : AH} (hd : p_X5_advance a0 h = some fin) : CalOK l D dA z sa Hz q_X5_advance [.ref a0] h none fin := calOf (by decide +kernel) (Nat.le_of_ble_eq_true rfl) (e_X5_advance_0 E a0 h hd)
def I_X5_isName_41 : List AI := [(.iconst 0, 1, [], 0), (.ireturn, 1, [], 0)]
theorem ok_X5_isName_41 : vBL MT qLen qCh false q_X5_isName.2.2.2.2.1 q_X5_isName.2.2.2.2.2.1 q_X5_isName.2.2.1 q_X5_isName.1.cls q_X5_isName.1.name q_X5_isName.2.1 0 41 I_X5_isName_41 = true := by decide +kernel
def p_X5_isName_41 (h : AH) : Option (Int32 × AH) :=
  if ((0 : Int32)) &&& 1 = ((0 : Int32)) then some (((0 : Int32)), h) else none
set_option maxRecDepth 100000 in
theorem e_X5_isName_41 {l : Launch} {D : va_G} {dA : Nat → ClassId} {z : Nat} {sa : Nat → Nat} {Hz : Heap} (E : StrOK qLen qCh l D dA z sa Hz) {h0 fin : AH} {x : Int32}  : ∀  (h : AH), p_X5_isName_41 h = some (x, fin) → GM l D dA z sa Hz q_X5_isName h0 (some (.int x)) fin 41 [] [] h := by
  intro h hd
  exact step E (is := I_X5_isName_41) (pc := 41) (K := k0) (FI := fI0) (FV := fV0) (FL := fL0) (rt := rtZ) (ft := 0) (by exact hd) ok_X5_isName_41 k0_ok (fI0_ok E) (fV0_ok E) (fL0_ok E) (rtZ_ok rfl)
def I_X5_isName_80 : List AI := [(.iconst 1, 1, [], 1), (.ireturn, 1, [], 0)]
theorem ok_X5_isName_80 : vBL MT qLen qCh false q_X5_isName.2.2.2.2.1 q_X5_isName.2.2.2.2.2.1 q_X5_isName.2.2.1 q_X5_isName.1.cls q_X5_isName.1.name q_X5_isName.2.1 0 80 I_X5_isName_80 = true := by decide +kernel
def p_X5_isName_80 (h : AH) : Option (Int32 × AH) :=
  if ((1 : Int32)) &&& 1 = ((1 : Int32)) then some (((1 : Int32)), h) else none
set_option maxRecDepth 100000 in
theorem e_X5_isName_80 {l : Launch} {D : va_G} {dA : Nat → ClassId} {z : Nat} {sa : Nat → Nat} {Hz : Heap} (E : StrOK qLen qCh l D dA z sa Hz) {h0 fin : AH} {x : Int32}  : ∀  (h : AH), p_X5_isName_80 h = some (x, fin) → GM l D dA z sa Hz q_X5_isName h0 (some (.int x)) fin 80 [] [] h := by
  intro h hd
  exact step E (is := I_X5_isName_80) (pc := 80) (K := k0) (FI := fI0) (FV := fV0) (FL := fL0) (rt := rtZ) (ft := 0) (by exact hd) ok_X5_isName_80 k0_ok (fI0_ok E) (fV0_ok E) (fL0_ok E) (rtZ_ok rfl)
def I_X5_isName_74 : List AI := [(.iinc 2 1, 3, [], 1), (.goto (-32), 3, [45], 0)]
theorem ok_X5_isName_74 : vBL MT qLen qCh false q_X5_isName.2.2.2.2.1 q_X5_isName.2.2.2.2.2.1 q_X5_isName.2.2.1 q_X5_isName.1.cls q_X5_isName.1.name q_X5_isName.2.1 0 74 I_X5_isName_74 = true := by decide +kernel
def p_X5_isName_74 (k45 : Nat → Nat → Int32 → AH → Option (Int32 × AH)) (a0 : Nat) (t1 : Nat) (x2 : Int32) (h : AH) : Option (Int32 × AH) :=
  k45 a0 t1 (x2 + (1 : Int32)) h
set_option maxRecDepth 100000 in
theorem e_X5_isName_74 {l : Launch} {D : va_G} {dA : Nat → ClassId} {z : Nat} {sa : Nat → Nat} {Hz : Heap} (E : StrOK qLen qCh l D dA z sa Hz) {h0 fin : AH} {x : Int32}  {k45 : Nat → Nat → Int32 → AH → Option (Int32 × AH)} (hk45 : ∀ (a0 : Nat) (t1 : Nat) (x2 : Int32) (h : AH), k45 a0 t1 x2 h = some (x, fin) → GM l D dA z sa Hz q_X5_isName h0 (some (.int x)) fin 45 [(0, .ref a0), (1, .retAddr t1), (2, .int x2)] [] h) : ∀ (a0 : Nat) (t1 : Nat) (x2 : Int32) (h : AH), p_X5_isName_74 k45 a0 t1 x2 h = some (x, fin) → GM l D dA z sa Hz q_X5_isName h0 (some (.int x)) fin 74 [(0, .ref a0), (1, .retAddr t1), (2, .int x2)] [] h := by
  intro a0 t1 x2 h hd
  exact step E (is := I_X5_isName_74) (pc := 74) (K := (kx 45 (fun la st h => gR la 0 fun a0 => gT la 1 fun t1 => gI la 2 fun x2 => sE st (k45 a0 t1 x2 h)) k0)) (FI := fI0) (FV := fV0) (FL := fL0) (rt := rtZ) (ft := 0) (by exact hd) ok_X5_isName_74 (kx_ok (fun la st h e => by obtain ⟨a0, m_a0, e1⟩ := gR_inv e; obtain ⟨t1, m_t1, e2⟩ := gT_inv e1; obtain ⟨x2, m_x2, e3⟩ := gI_inv e2; obtain ⟨rfl, ez⟩ := sE_inv e3; exact gm_fewer (hk45 a0 t1 x2 h ez) (mem_cons m_a0 (mem_cons m_t1 (mem_cons m_x2 mem_nil)))) k0_ok) (fI0_ok E) (fV0_ok E) (fL0_ok E) (rtZ_ok rfl)
def I_X5_isName_45 : List AI := [(.iload_n 2, 1, [], 0), (.aload_n 1, 1, [], 0), (.invokevirtual 66, 3, [5, 442], 0), (.if_icmp .ge 30, 3, [80], 0), (.aload_n 0, 1, [], 0), (.getfield 9, 3, [4, 0, 2, 145], 0), (.aload_n 0, 1, [], 0), (.getfield 50, 3, [4, 4, 0, 150], 0), (.iload_n 2, 1, [], 0), (.iadd, 1, [], 0), (.baload, 1, [101], 0), (.aload_n 1, 1, [], 0), (.iload_n 2, 1, [], 0), (.invokevirtual 71, 3, [6, 452], 0), (.if_icmp .eq 5, 3, [74], 0), (.iconst 0, 1, [], 0), (.ireturn, 1, [], 0)]
theorem ok_X5_isName_45 : vBL MT qLen qCh false q_X5_isName.2.2.2.2.1 q_X5_isName.2.2.2.2.2.1 q_X5_isName.2.2.1 q_X5_isName.1.cls q_X5_isName.1.name q_X5_isName.2.1 0 45 I_X5_isName_45 = true := by decide +kernel
def p_X5_isName_45 : Nat → Nat → Nat → Int32 → AH → Option (Int32 × AH)
  | 0, _, _, _, _ => none
  | n + 1, a0, t1, x2, h => (strLen t1).bind fun x101 =>
    if x2 < x101 then (if (tg h a0).1 = 4 then (if (tg h a0).1 = 4 then (if inB h (rR h a0 0) 101 ((rI h a0 4) + x2) then ((strCh t1 x2).bind fun x102 =>
    if (rI h (rR h a0 0) ((rI h a0 4) + x2).toNatClampNeg) = x102 then (p_X5_isName_45 n a0 t1 (x2 + (1 : Int32)) h)
    else
    if ((0 : Int32)) &&& 1 = ((0 : Int32)) then some (((0 : Int32)), h) else none) else none) else none) else none)
    else
    if ((1 : Int32)) &&& 1 = ((1 : Int32)) then some (((1 : Int32)), h) else none
set_option maxRecDepth 100000 in
theorem e_X5_isName_45 {l : Launch} {D : va_G} {dA : Nat → ClassId} {z : Nat} {sa : Nat → Nat} {Hz : Heap} (E : StrOK qLen qCh l D dA z sa Hz) {h0 fin : AH} {x : Int32}  : ∀ (n : Nat) (a0 : Nat) (t1 : Nat) (x2 : Int32) (h : AH), p_X5_isName_45 n a0 t1 x2 h = some (x, fin) → GM l D dA z sa Hz q_X5_isName h0 (some (.int x)) fin 45 [(0, .ref a0), (1, .retAddr t1), (2, .int x2)] [] h := by
  intro n
  induction n with
  | zero => intro a0 t1 x2 h hd; exact nomatch hd
  | succ n ih =>
    intro a0 t1 x2 h hd
    exact step E (is := I_X5_isName_45) (pc := 45) (K := (kx 80 (fun la st h => sE st (p_X5_isName_80 h)) (kx 74 (fun la st h => gR la 0 fun a0 => gT la 1 fun t1 => gI la 2 fun x2 => sE st (p_X5_isName_74 (p_X5_isName_45 n) a0 t1 x2 h)) k0))) (FI := fI0) (FV := fV0) (FL := fL0) (rt := rtZ) (ft := 0) (by exact hd) ok_X5_isName_45 (kx_ok (fun la st h e => by obtain ⟨rfl, ez⟩ := sE_inv e; exact gm_fewer (e_X5_isName_80 E   h ez) mem_nil) (kx_ok (fun la st h e => by obtain ⟨a0, m_a0, e1⟩ := gR_inv e; obtain ⟨t1, m_t1, e2⟩ := gT_inv e1; obtain ⟨x2, m_x2, e3⟩ := gI_inv e2; obtain ⟨rfl, ez⟩ := sE_inv e3; exact gm_fewer (e_X5_isName_74 E ih a0 t1 x2 h ez) (mem_cons m_a0 (mem_cons m_t1 (mem_cons m_x2 mem_nil)))) k0_ok)) (fI0_ok E) (fV0_ok E) (fL0_ok E) (rtZ_ok rfl)
def I_X5_isName_43 : List AI := [(.iconst 0, 1, [], 0), (.istore_n 2, 1, [], 0)]
theorem ok_X5_isName_43 : vBL MT qLen qCh false q_X5_isName.2.2.2.2.1 q_X5_isName.2.2.2.2.2.1 q_X5_isName.2.2.1 q_X5_isName.1.cls q_X5_isName.1.name q_X5_isName.2.1 45 43 I_X5_isName_43 = true := by decide +kernel
def p_X5_isName_43 (a0 : Nat) (t1 : Nat) (h : AH) : Option (Int32 × AH) :=
  p_X5_isName_45 FU a0 t1 ((0 : Int32)) h
set_option maxRecDepth 100000 in
theorem e_X5_isName_43 {l : Launch} {D : va_G} {dA : Nat → ClassId} {z : Nat} {sa : Nat → Nat} {Hz : Heap} (E : StrOK qLen qCh l D dA z sa Hz) {h0 fin : AH} {x : Int32}  : ∀ (a0 : Nat) (t1 : Nat) (h : AH), p_X5_isName_43 a0 t1 h = some (x, fin) → GM l D dA z sa Hz q_X5_isName h0 (some (.int x)) fin 43 [(0, .ref a0), (1, .retAddr t1)] [] h := by
  intro a0 t1 h hd
  exact step E (is := I_X5_isName_43) (pc := 43) (K := (kx 45 (fun la st h => gR la 0 fun a0 => gT la 1 fun t1 => gI la 2 fun x2 => sE st (p_X5_isName_45 FU a0 t1 x2 h)) k0)) (FI := fI0) (FV := fV0) (FL := fL0) (rt := rtZ) (ft := 45) (by exact hd) ok_X5_isName_43 (kx_ok (fun la st h e => by obtain ⟨a0, m_a0, e1⟩ := gR_inv e; obtain ⟨t1, m_t1, e2⟩ := gT_inv e1; obtain ⟨x2, m_x2, e3⟩ := gI_inv e2; obtain ⟨rfl, ez⟩ := sE_inv e3; exact gm_fewer (e_X5_isName_45 E  FU a0 t1 x2 h ez) (mem_cons m_a0 (mem_cons m_t1 (mem_cons m_x2 mem_nil)))) k0_ok) (fI0_ok E) (fV0_ok E) (fL0_ok E) (rtZ_ok rfl)
def I_X5_isName_0 : List AI := [(.aload_n 0, 1, [], 0), (.getfield 43, 3, [4, 3, 0, 149], 0), (.iconst 1, 1, [], 1), (.if_icmp .ne 36, 3, [41], 0), (.aload_n 0, 1, [], 0), (.getfield 28, 3, [4, 5, 0, 151], 0), (.aload_n 0, 1, [], 0), (.getfield 50, 3, [4, 4, 0, 150], 0), (.isub, 1, [], 0), (.aload_n 1, 1, [], 0), (.invokevirtual 66, 3, [5, 442], 0), (.if_icmp .ne 20, 3, [41], 0), (.aload_n 0, 1, [], 0), (.getfield 50, 3, [4, 4, 0, 150], 0), (.ifCond .lt 13, 3, [41], 0), (.aload_n 0, 1, [], 0), (.getfield 28, 3, [4, 5, 0, 151], 0), (.sipush 900, 3, [], 900), (.if_icmp .le 5, 3, [43], 0)]
theorem ok_X5_isName_0 : vBL MT qLen qCh false q_X5_isName.2.2.2.2.1 q_X5_isName.2.2.2.2.2.1 q_X5_isName.2.2.1 q_X5_isName.1.cls q_X5_isName.1.name q_X5_isName.2.1 41 0 I_X5_isName_0 = true := by decide +kernel
def p_X5_isName (a0 : Nat) (t1 : Nat) (h : AH) : Option (Int32 × AH) :=
  if (tg h a0).1 = 4 then (if (rI h a0 3) = ((1 : Int32)) then (if (tg h a0).1 = 4 then (if (tg h a0).1 = 4 then ((strLen t1).bind fun x103 =>
  if ((rI h a0 5) - (rI h a0 4)) = x103 then (if (tg h a0).1 = 4 then (if (rI h a0 4) < 0 then (p_X5_isName_41 h)
  else
  if (tg h a0).1 = 4 then (if ((900 : Int32)) < (rI h a0 5) then (p_X5_isName_41 h)
  else
  p_X5_isName_45 FU a0 t1 ((0 : Int32)) h) else none) else none)
  else
  p_X5_isName_41 h) else none) else none)
  else
  p_X5_isName_41 h) else none
set_option maxRecDepth 100000 in
theorem e_X5_isName_0 {l : Launch} {D : va_G} {dA : Nat → ClassId} {z : Nat} {sa : Nat → Nat} {Hz : Heap} (E : StrOK qLen qCh l D dA z sa Hz) {h0 fin : AH} {x : Int32}  : ∀ (a0 : Nat) (t1 : Nat) (h : AH), p_X5_isName a0 t1 h = some (x, fin) → GM l D dA z sa Hz q_X5_isName h0 (some (.int x)) fin 0 [(0, .ref a0), (1, .retAddr t1)] [] h := by
  intro a0 t1 h hd
  exact step E (is := I_X5_isName_0) (pc := 0) (K := (kx 41 (fun la st h => sE st (p_X5_isName_41 h)) (kx 43 (fun la st h => gR la 0 fun a0 => gT la 1 fun t1 => sE st (p_X5_isName_43 a0 t1 h)) k0))) (FI := fI0) (FV := fV0) (FL := fL0) (rt := rtZ) (ft := 41) (by exact hd) ok_X5_isName_0 (kx_ok (fun la st h e => by obtain ⟨rfl, ez⟩ := sE_inv e; exact gm_fewer (e_X5_isName_41 E   h ez) mem_nil) (kx_ok (fun la st h e => by obtain ⟨a0, m_a0, e1⟩ := gR_inv e; obtain ⟨t1, m_t1, e2⟩ := gT_inv e1; obtain ⟨rfl, ez⟩ := sE_inv e2; exact gm_fewer (e_X5_isName_43 E  a0 t1 h ez) (mem_cons m_a0 (mem_cons m_t1 mem_nil))) k0_ok)) (fI0_ok E) (fV0_ok E) (fL0_ok E) (rtZ_ok rfl)
theorem c_X5_isName {l : Launch} {D : va_G} {dA : Nat → ClassId} {z : Nat} {sa : Nat → Nat} {Hz : Heap} (E : StrOK qLen qCh l D dA z sa Hz) {a0 : Nat} {t1 : Nat} {h fin : AH} {x : Int32} (hd : p_X5_isName a0 t1 h = some (x, fin)) : CalOK l D dA z sa Hz q_X5_isName [.ref a0, .retAddr t1] h (some (.int x)) fin := calOf (by decide +kernel) (Nat.le_of_ble_eq_true rfl) (e_X5_isName_0 E a0 t1 h hd)
def I_X5_fails_0 : List AI := [(.aload_n 0, 1, [], 0), (.iload_n 1, 1, [], 0), (.putfield 22, 3, [4, 7, 0, 153], 0), (.aload_n 0, 1, [], 0), (.aload_n 0, 1, [], 0), (.getfield 50, 3, [4, 4, 0, 150], 0), (.putfield 25, 3, [4, 8, 0, 155], 0), (.iconst 0, 1, [], 0), (.ireturn, 1, [], 0)]
theorem ok_X5_fails_0 : vBL MT qLen qCh false q_X5_fails.2.2.2.2.1 q_X5_fails.2.2.2.2.2.1 q_X5_fails.2.2.1 q_X5_fails.1.cls q_X5_fails.1.name q_X5_fails.2.1 0 0 I_X5_fails_0 = true := by decide +kernel
def p_X5_fails (a0 : Nat) (x1 : Int32) (h : AH) : Option (Int32 × AH) :=
  if (tg h a0).1 = 4 then (let h101 := wI h a0 7 x1
  if (tg h101 a0).1 = 4 then (if (tg h101 a0).1 = 4 then (let h102 := wI h101 a0 8 (rI h101 a0 4)
  if ((0 : Int32)) &&& 1 = ((0 : Int32)) then some (((0 : Int32)), h102) else none) else none) else none) else none
set_option maxRecDepth 100000 in
theorem e_X5_fails_0 {l : Launch} {D : va_G} {dA : Nat → ClassId} {z : Nat} {sa : Nat → Nat} {Hz : Heap} (E : StrOK qLen qCh l D dA z sa Hz) {h0 fin : AH} {x : Int32}  : ∀ (a0 : Nat) (x1 : Int32) (h : AH), p_X5_fails a0 x1 h = some (x, fin) → GM l D dA z sa Hz q_X5_fails h0 (some (.int x)) fin 0 [(0, .ref a0), (1, .int x1)] [] h := by
  intro a0 x1 h hd
  exact step E (is := I_X5_fails_0) (pc := 0) (K := k0) (FI := fI0) (FV := fV0) (FL := fL0) (rt := rtZ) (ft := 0) (by exact hd) ok_X5_fails_0 k0_ok (fI0_ok E) (fV0_ok E) (fL0_ok E) (rtZ_ok rfl)
theorem c_X5_fails {l : Launch} {D : va_G} {dA : Nat → ClassId} {z : Nat} {sa : Nat → Nat} {Hz : Heap} (E : StrOK qLen qCh l D dA z sa Hz) {a0 : Nat} {x1 : Int32} {h fin : AH} {x : Int32} (hd : p_X5_fails a0 x1 h = some (x, fin)) : CalOK l D dA z sa Hz q_X5_fails [.ref a0, .int x1] h (some (.int x)) fin := calOf (by decide +kernel) (Nat.le_of_ble_eq_true rfl) (e_X5_fails_0 E a0 x1 h hd)
def FI_X5_isWhole : Nat → List Value → AH → Option (Int32 × AH) := (cx 17 (fun As h => sR As fun a0 As => sI As fun x1 As => sE As (p_X5_fails a0 x1 h)) fI0)
theorem FI_X5_isWhole_ok {l : Launch} {D : va_G} {dA : Nat → ClassId} {z : Nat} {sa : Nat → Nat} {Hz : Heap} (E : StrOK qLen qCh l D dA z sa Hz) : ∀ mi As h x h', FI_X5_isWhole mi As h = some (x, h') → CalOK l D dA z sa Hz (MT mi) As h (some (.int x)) h' := (cxI_ok (fun As h x h2 e => by obtain ⟨_, _, rfl, e0⟩ := sR_inv e; obtain ⟨_, _, rfl, e1⟩ := sI_inv e0; obtain ⟨rfl, ez⟩ := sE_inv e1; exact c_X5_fails E ez) (fI0_ok E))
def I_X5_isWhole_30 : List AI := [(.aload_n 0, 1, [], 0), (.iconst 4, 1, [], 4), (.invokevirtual 46, 3, [1, 17, 2, 4, 494], 0), (.ireturn, 1, [], 0)]
theorem ok_X5_isWhole_30 : vBL MT qLen qCh false q_X5_isWhole.2.2.2.2.1 q_X5_isWhole.2.2.2.2.2.1 q_X5_isWhole.2.2.1 q_X5_isWhole.1.cls q_X5_isWhole.1.name q_X5_isWhole.2.1 0 30 I_X5_isWhole_30 = true := by decide +kernel
def p_X5_isWhole_30 (a0 : Nat) (h : AH) : Option (Int32 × AH) :=
  if (tg h a0).1 = 4 then ((p_X5_fails a0 ((4 : Int32)) h).bind fun q101 =>
  if q101.1 &&& 1 = q101.1 then some (q101.1, q101.2) else none) else none
set_option maxRecDepth 100000 in
theorem e_X5_isWhole_30 {l : Launch} {D : va_G} {dA : Nat → ClassId} {z : Nat} {sa : Nat → Nat} {Hz : Heap} (E : StrOK qLen qCh l D dA z sa Hz) {h0 fin : AH} {x : Int32}  : ∀ (a0 : Nat) (h : AH), p_X5_isWhole_30 a0 h = some (x, fin) → GM l D dA z sa Hz q_X5_isWhole h0 (some (.int x)) fin 30 [(0, .ref a0)] [] h := by
  intro a0 h hd
  exact step E (is := I_X5_isWhole_30) (pc := 30) (K := k0) (FI := FI_X5_isWhole) (FV := fV0) (FL := fL0) (rt := rtZ) (ft := 0) (by exact hd) ok_X5_isWhole_30 k0_ok (FI_X5_isWhole_ok E) (fV0_ok E) (fL0_ok E) (rtZ_ok rfl)
def I_X5_isWhole_36 : List AI := [(.iconst 1, 1, [], 1), (.ireturn, 1, [], 0)]
theorem ok_X5_isWhole_36 : vBL MT qLen qCh false q_X5_isWhole.2.2.2.2.1 q_X5_isWhole.2.2.2.2.2.1 q_X5_isWhole.2.2.1 q_X5_isWhole.1.cls q_X5_isWhole.1.name q_X5_isWhole.2.1 0 36 I_X5_isWhole_36 = true := by decide +kernel
def p_X5_isWhole_36 (h : AH) : Option (Int32 × AH) :=
  if ((1 : Int32)) &&& 1 = ((1 : Int32)) then some (((1 : Int32)), h) else none
set_option maxRecDepth 100000 in
theorem e_X5_isWhole_36 {l : Launch} {D : va_G} {dA : Nat → ClassId} {z : Nat} {sa : Nat → Nat} {Hz : Heap} (E : StrOK qLen qCh l D dA z sa Hz) {h0 fin : AH} {x : Int32}  : ∀  (h : AH), p_X5_isWhole_36 h = some (x, fin) → GM l D dA z sa Hz q_X5_isWhole h0 (some (.int x)) fin 36 [] [] h := by
  intro h hd
  exact step E (is := I_X5_isWhole_36) (pc := 36) (K := k0) (FI := FI_X5_isWhole) (FV := fV0) (FL := fL0) (rt := rtZ) (ft := 0) (by exact hd) ok_X5_isWhole_36 k0_ok (FI_X5_isWhole_ok E) (fV0_ok E) (fL0_ok E) (rtZ_ok rfl)
def I_X5_isWhole_14 : List AI := [(.aload_n 0, 1, [], 0), (.getfield 63, 3, [4, 6, 0, 152], 0), (.iload_n 1, 1, [], 0), (.if_icmp .lt 11, 3, [30], 0), (.aload_n 0, 1, [], 0), (.getfield 63, 3, [4, 6, 0, 152], 0), (.iload_n 2, 1, [], 0), (.if_icmp .le 9, 3, [36], 0)]
theorem ok_X5_isWhole_14 : vBL MT qLen qCh false q_X5_isWhole.2.2.2.2.1 q_X5_isWhole.2.2.2.2.2.1 q_X5_isWhole.2.2.1 q_X5_isWhole.1.cls q_X5_isWhole.1.name q_X5_isWhole.2.1 30 14 I_X5_isWhole_14 = true := by decide +kernel
def p_X5_isWhole_14 (a0 : Nat) (x1 : Int32) (x2 : Int32) (h : AH) : Option (Int32 × AH) :=
  if (tg h a0).1 = 4 then (if (rI h a0 6) < x1 then (p_X5_isWhole_30 a0 h)
  else
  if (tg h a0).1 = 4 then (if x2 < (rI h a0 6) then (p_X5_isWhole_30 a0 h)
  else
  if ((1 : Int32)) &&& 1 = ((1 : Int32)) then some (((1 : Int32)), h) else none) else none) else none
set_option maxRecDepth 100000 in
theorem e_X5_isWhole_14 {l : Launch} {D : va_G} {dA : Nat → ClassId} {z : Nat} {sa : Nat → Nat} {Hz : Heap} (E : StrOK qLen qCh l D dA z sa Hz) {h0 fin : AH} {x : Int32}  : ∀ (a0 : Nat) (x1 : Int32) (x2 : Int32) (h : AH), p_X5_isWhole_14 a0 x1 x2 h = some (x, fin) → GM l D dA z sa Hz q_X5_isWhole h0 (some (.int x)) fin 14 [(0, .ref a0), (1, .int x1), (2, .int x2)] [] h := by
  intro a0 x1 x2 h hd
  exact step E (is := I_X5_isWhole_14) (pc := 14) (K := (kx 30 (fun la st h => gR la 0 fun a0 => sE st (p_X5_isWhole_30 a0 h)) (kx 36 (fun la st h => sE st (p_X5_isWhole_36 h)) k0))) (FI := FI_X5_isWhole) (FV := fV0) (FL := fL0) (rt := rtZ) (ft := 30) (by exact hd) ok_X5_isWhole_14 (kx_ok (fun la st h e => by obtain ⟨a0, m_a0, e1⟩ := gR_inv e; obtain ⟨rfl, ez⟩ := sE_inv e1; exact gm_fewer (e_X5_isWhole_30 E  a0 h ez) (mem_cons m_a0 mem_nil)) (kx_ok (fun la st h e => by obtain ⟨rfl, ez⟩ := sE_inv e; exact gm_fewer (e_X5_isWhole_36 E   h ez) mem_nil) k0_ok)) (FI_X5_isWhole_ok E) (fV0_ok E) (fL0_ok E) (rtZ_ok rfl)
def I_X5_isWhole_0 : List AI := [(.aload_n 0, 1, [], 0), (.getfield 43, 3, [4, 3, 0, 149], 0), (.iconst 2, 1, [], 2), (.if_icmp .eq 9, 3, [14], 0), (.aload_n 0, 1, [], 0), (.iconst 1, 1, [], 1), (.invokevirtual 46, 3, [1, 17, 2, 4, 494], 0), (.ireturn, 1, [], 0)]
theorem ok_X5_isWhole_0 : vBL MT qLen qCh false q_X5_isWhole.2.2.2.2.1 q_X5_isWhole.2.2.2.2.2.1 q_X5_isWhole.2.2.1 q_X5_isWhole.1.cls q_X5_isWhole.1.name q_X5_isWhole.2.1 0 0 I_X5_isWhole_0 = true := by decide +kernel
def p_X5_isWhole (a0 : Nat) (x1 : Int32) (x2 : Int32) (h : AH) : Option (Int32 × AH) :=
  if (tg h a0).1 = 4 then (if (rI h a0 3) = ((2 : Int32)) then (if (tg h a0).1 = 4 then (if (rI h a0 6) < x1 then (p_X5_isWhole_30 a0 h)
  else
  if (tg h a0).1 = 4 then (if x2 < (rI h a0 6) then (p_X5_isWhole_30 a0 h)
  else
  if ((1 : Int32)) &&& 1 = ((1 : Int32)) then some (((1 : Int32)), h) else none) else none) else none)
  else
  if (tg h a0).1 = 4 then ((p_X5_fails a0 ((1 : Int32)) h).bind fun q102 =>
  if q102.1 &&& 1 = q102.1 then some (q102.1, q102.2) else none) else none) else none
set_option maxRecDepth 100000 in
theorem e_X5_isWhole_0 {l : Launch} {D : va_G} {dA : Nat → ClassId} {z : Nat} {sa : Nat → Nat} {Hz : Heap} (E : StrOK qLen qCh l D dA z sa Hz) {h0 fin : AH} {x : Int32}  : ∀ (a0 : Nat) (x1 : Int32) (x2 : Int32) (h : AH), p_X5_isWhole a0 x1 x2 h = some (x, fin) → GM l D dA z sa Hz q_X5_isWhole h0 (some (.int x)) fin 0 [(0, .ref a0), (1, .int x1), (2, .int x2)] [] h := by
  intro a0 x1 x2 h hd
  exact step E (is := I_X5_isWhole_0) (pc := 0) (K := (kx 14 (fun la st h => gR la 0 fun a0 => gI la 1 fun x1 => gI la 2 fun x2 => sE st (p_X5_isWhole_14 a0 x1 x2 h)) k0)) (FI := FI_X5_isWhole) (FV := fV0) (FL := fL0) (rt := rtZ) (ft := 0) (by exact hd) ok_X5_isWhole_0 (kx_ok (fun la st h e => by obtain ⟨a0, m_a0, e1⟩ := gR_inv e; obtain ⟨x1, m_x1, e2⟩ := gI_inv e1; obtain ⟨x2, m_x2, e3⟩ := gI_inv e2; obtain ⟨rfl, ez⟩ := sE_inv e3; exact gm_fewer (e_X5_isWhole_14 E  a0 x1 x2 h ez) (mem_cons m_a0 (mem_cons m_x1 (mem_cons m_x2 mem_nil)))) k0_ok) (FI_X5_isWhole_ok E) (fV0_ok E) (fL0_ok E) (rtZ_ok rfl)
theorem c_X5_isWhole {l : Launch} {D : va_G} {dA : Nat → ClassId} {z : Nat} {sa : Nat → Nat} {Hz : Heap} (E : StrOK qLen qCh l D dA z sa Hz) {a0 : Nat} {x1 : Int32} {x2 : Int32} {h fin : AH} {x : Int32} (hd : p_X5_isWhole a0 x1 x2 h = some (x, fin)) : CalOK l D dA z sa Hz q_X5_isWhole [.ref a0, .int x1, .int x2] h (some (.int x)) fin := calOf (by decide +kernel) (Nat.le_of_ble_eq_true rfl) (e_X5_isWhole_0 E a0 x1 x2 h hd)
def FI_X5_readsMachine : Nat → List Value → AH → Option (Int32 × AH) := (cx 17 (fun As h => sR As fun a0 As => sI As fun x1 As => sE As (p_X5_fails a0 x1 h)) (cx 16 (fun As h => sR As fun a0 As => sT As fun t1 As => sE As (p_X5_isName a0 t1 h)) (cx 18 (fun As h => sR As fun a0 As => sI As fun x1 As => sI As fun x2 As => sE As (p_X5_isWhole a0 x1 x2 h)) fI0)))
theorem FI_X5_readsMachine_ok {l : Launch} {D : va_G} {dA : Nat → ClassId} {z : Nat} {sa : Nat → Nat} {Hz : Heap} (E : StrOK qLen qCh l D dA z sa Hz) : ∀ mi As h x h', FI_X5_readsMachine mi As h = some (x, h') → CalOK l D dA z sa Hz (MT mi) As h (some (.int x)) h' := (cxI_ok (fun As h x h2 e => by obtain ⟨_, _, rfl, e0⟩ := sR_inv e; obtain ⟨_, _, rfl, e1⟩ := sI_inv e0; obtain ⟨rfl, ez⟩ := sE_inv e1; exact c_X5_fails E ez) ((cxI_ok (fun As h x h2 e => by obtain ⟨_, _, rfl, e0⟩ := sR_inv e; obtain ⟨_, _, rfl, e1⟩ := sT_inv e0; obtain ⟨rfl, ez⟩ := sE_inv e1; exact c_X5_isName E ez) ((cxI_ok (fun As h x h2 e => by obtain ⟨_, _, rfl, e0⟩ := sR_inv e; obtain ⟨_, _, rfl, e1⟩ := sI_inv e0; obtain ⟨_, _, rfl, e2⟩ := sI_inv e1; obtain ⟨rfl, ez⟩ := sE_inv e2; exact c_X5_isWhole E ez) (fI0_ok E))))))
def FV_X5_readsMachine : Nat → List Value → AH → Option (AH) := (cx 15 (fun As h => sR As fun a0 As => sE As (p_X5_advance a0 h)) fV0)
theorem FV_X5_readsMachine_ok {l : Launch} {D : va_G} {dA : Nat → ClassId} {z : Nat} {sa : Nat → Nat} {Hz : Heap} (E : StrOK qLen qCh l D dA z sa Hz) : ∀ mi As h h', FV_X5_readsMachine mi As h = some h' → CalOK l D dA z sa Hz (MT mi) As h none h' := (cxV_ok (fun As h h2 e => by obtain ⟨_, _, rfl, e0⟩ := sR_inv e; obtain ⟨rfl, ez⟩ := sE_inv e0; exact c_X5_advance E ez) (fV0_ok E))
def I_X5_readsMachine_91 : List AI := [(.aload_n 1, 1, [], 0), (.getfield 139, 3, [5, 0, 2, 211], 0), (.aload_n 0, 1, [], 0), (.getfield 63, 3, [4, 6, 0, 152], 0), (.putfield 143, 3, [0, 4, 0, 197], 0), (.aload_n 0, 1, [], 0), (.invokevirtual 36, 3, [2, 15, 1, 4, 419], 0), (.iconst 1, 1, [], 1), (.ireturn, 1, [], 0)]
theorem ok_X5_readsMachine_91 : vBL MT qLen qCh false q_X5_readsMachine.2.2.2.2.1 q_X5_readsMachine.2.2.2.2.2.1 q_X5_readsMachine.2.2.1 q_X5_readsMachine.1.cls q_X5_readsMachine.1.name q_X5_readsMachine.2.1 0 91 I_X5_readsMachine_91 = true := by decide +kernel
def p_X5_readsMachine_91 (a0 : Nat) (a1 : Nat) (h : AH) : Option (Int32 × AH) :=
  if (tg h a1).1 = 5 then (if (tg h a0).1 = 4 then (if (tg h (rR h a1 0)).1 = 0 then (let h101 := wI h (rR h a1 0) 4 (rI h a0 6)
  if (tg h101 a0).1 = 4 then ((p_X5_advance a0 h101).bind fun h102 =>
  if ((1 : Int32)) &&& 1 = ((1 : Int32)) then some (((1 : Int32)), h102) else none) else none) else none) else none) else none
set_option maxRecDepth 100000 in
theorem e_X5_readsMachine_91 {l : Launch} {D : va_G} {dA : Nat → ClassId} {z : Nat} {sa : Nat → Nat} {Hz : Heap} (E : StrOK qLen qCh l D dA z sa Hz) {h0 fin : AH} {x : Int32}  : ∀ (a0 : Nat) (a1 : Nat) (h : AH), p_X5_readsMachine_91 a0 a1 h = some (x, fin) → GM l D dA z sa Hz q_X5_readsMachine h0 (some (.int x)) fin 91 [(0, .ref a0), (1, .ref a1)] [] h := by
  intro a0 a1 h hd
  exact step E (is := I_X5_readsMachine_91) (pc := 91) (K := k0) (FI := FI_X5_readsMachine) (FV := FV_X5_readsMachine) (FL := fL0) (rt := rtZ) (ft := 0) (by exact hd) ok_X5_readsMachine_91 k0_ok (FI_X5_readsMachine_ok E) (FV_X5_readsMachine_ok E) (fL0_ok E) (rtZ_ok rfl)
def I_X5_readsMachine_75 : List AI := [(.aload_n 0, 1, [], 0), (.invokevirtual 36, 3, [2, 15, 1, 4, 419], 0), (.aload_n 0, 1, [], 0), (.iconst 0, 1, [], 0), (.bipush 15, 2, [], 15), (.invokevirtual 133, 3, [1, 18, 3, 4, 499], 0), (.ifCond .ne 5, 3, [91], 0), (.iconst 0, 1, [], 0), (.ireturn, 1, [], 0)]
theorem ok_X5_readsMachine_75 : vBL MT qLen qCh false q_X5_readsMachine.2.2.2.2.1 q_X5_readsMachine.2.2.2.2.2.1 q_X5_readsMachine.2.2.1 q_X5_readsMachine.1.cls q_X5_readsMachine.1.name q_X5_readsMachine.2.1 0 75 I_X5_readsMachine_75 = true := by decide +kernel
def p_X5_readsMachine_75 (a0 : Nat) (a1 : Nat) (h : AH) : Option (Int32 × AH) :=
  if (tg h a0).1 = 4 then ((p_X5_advance a0 h).bind fun h103 =>
  if (tg h103 a0).1 = 4 then ((p_X5_isWhole a0 ((0 : Int32)) ((15 : Int32)) h103).bind fun q104 =>
  if q104.1 = 0 then (if ((0 : Int32)) &&& 1 = ((0 : Int32)) then some (((0 : Int32)), q104.2) else none)
  else
  if (tg q104.2 a1).1 = 5 then (if (tg q104.2 a0).1 = 4 then (if (tg q104.2 (rR q104.2 a1 0)).1 = 0 then (let h105 := wI q104.2 (rR q104.2 a1 0) 4 (rI q104.2 a0 6)
  if (tg h105 a0).1 = 4 then ((p_X5_advance a0 h105).bind fun h106 =>
  if ((1 : Int32)) &&& 1 = ((1 : Int32)) then some (((1 : Int32)), h106) else none) else none) else none) else none) else none) else none) else none
set_option maxRecDepth 100000 in
theorem e_X5_readsMachine_75 {l : Launch} {D : va_G} {dA : Nat → ClassId} {z : Nat} {sa : Nat → Nat} {Hz : Heap} (E : StrOK qLen qCh l D dA z sa Hz) {h0 fin : AH} {x : Int32}  : ∀ (a0 : Nat) (a1 : Nat) (h : AH), p_X5_readsMachine_75 a0 a1 h = some (x, fin) → GM l D dA z sa Hz q_X5_readsMachine h0 (some (.int x)) fin 75 [(0, .ref a0), (1, .ref a1)] [] h := by
  intro a0 a1 h hd
  exact step E (is := I_X5_readsMachine_75) (pc := 75) (K := (kx 91 (fun la st h => gR la 0 fun a0 => gR la 1 fun a1 => sE st (p_X5_readsMachine_91 a0 a1 h)) k0)) (FI := FI_X5_readsMachine) (FV := FV_X5_readsMachine) (FL := fL0) (rt := rtZ) (ft := 0) (by exact hd) ok_X5_readsMachine_75 (kx_ok (fun la st h e => by obtain ⟨a0, m_a0, e1⟩ := gR_inv e; obtain ⟨a1, m_a1, e2⟩ := gR_inv e1; obtain ⟨rfl, ez⟩ := sE_inv e2; exact gm_fewer (e_X5_readsMachine_91 E  a0 a1 h ez) (mem_cons m_a0 (mem_cons m_a1 mem_nil))) k0_ok) (FI_X5_readsMachine_ok E) (FV_X5_readsMachine_ok E) (fL0_ok E) (rtZ_ok rfl)
def I_X5_readsMachine_48 : List AI := [(.aload_n 1, 1, [], 0), (.aload_n 0, 1, [], 0), (.getfield 63, 3, [4, 6, 0, 152], 0), (.putfield 87, 3, [5, 1, 0, 215], 0), (.aload_n 0, 1, [], 0), (.invokevirtual 36, 3, [2, 15, 1, 4, 419], 0), (.aload_n 0, 1, [], 0), (.ldc 137, 2, [3, 0], 0), (.invokevirtual 77, 3, [1, 16, 2, 4, 438], 0), (.ifCond .ne 9, 3, [75], 0), (.aload_n 0, 1, [], 0), (.iconst 1, 1, [], 1), (.invokevirtual 46, 3, [1, 17, 2, 4, 494], 0), (.ireturn, 1, [], 0)]
theorem ok_X5_readsMachine_48 : vBL MT qLen qCh false q_X5_readsMachine.2.2.2.2.1 q_X5_readsMachine.2.2.2.2.2.1 q_X5_readsMachine.2.2.1 q_X5_readsMachine.1.cls q_X5_readsMachine.1.name q_X5_readsMachine.2.1 0 48 I_X5_readsMachine_48 = true := by decide +kernel
def p_X5_readsMachine_48 (a0 : Nat) (a1 : Nat) (h : AH) : Option (Int32 × AH) :=
  if (tg h a0).1 = 4 then (if (tg h a1).1 = 5 then (let h107 := wI h a1 1 (rI h a0 6)
  if (tg h107 a0).1 = 4 then ((p_X5_advance a0 h107).bind fun h108 =>
  if (tg h108 a0).1 = 4 then ((p_X5_isName a0 3 h108).bind fun q109 =>
  if q109.1 = 0 then (if (tg q109.2 a0).1 = 4 then ((p_X5_fails a0 ((1 : Int32)) q109.2).bind fun q114 =>
  if q114.1 &&& 1 = q114.1 then some (q114.1, q114.2) else none) else none)
  else
  if (tg q109.2 a0).1 = 4 then ((p_X5_advance a0 q109.2).bind fun h110 =>
  if (tg h110 a0).1 = 4 then ((p_X5_isWhole a0 ((0 : Int32)) ((15 : Int32)) h110).bind fun q111 =>
  if q111.1 = 0 then (if ((0 : Int32)) &&& 1 = ((0 : Int32)) then some (((0 : Int32)), q111.2) else none)
  else
  if (tg q111.2 a1).1 = 5 then (if (tg q111.2 a0).1 = 4 then (if (tg q111.2 (rR q111.2 a1 0)).1 = 0 then (let h112 := wI q111.2 (rR q111.2 a1 0) 4 (rI q111.2 a0 6)
  if (tg h112 a0).1 = 4 then ((p_X5_advance a0 h112).bind fun h113 =>
  if ((1 : Int32)) &&& 1 = ((1 : Int32)) then some (((1 : Int32)), h113) else none) else none) else none) else none) else none) else none) else none) else none) else none) else none) else none
set_option maxRecDepth 100000 in
theorem e_X5_readsMachine_48 {l : Launch} {D : va_G} {dA : Nat → ClassId} {z : Nat} {sa : Nat → Nat} {Hz : Heap} (E : StrOK qLen qCh l D dA z sa Hz) {h0 fin : AH} {x : Int32}  : ∀ (a0 : Nat) (a1 : Nat) (h : AH), p_X5_readsMachine_48 a0 a1 h = some (x, fin) → GM l D dA z sa Hz q_X5_readsMachine h0 (some (.int x)) fin 48 [(0, .ref a0), (1, .ref a1)] [] h := by
  intro a0 a1 h hd
  exact step E (is := I_X5_readsMachine_48) (pc := 48) (K := (kx 75 (fun la st h => gR la 0 fun a0 => gR la 1 fun a1 => sE st (p_X5_readsMachine_75 a0 a1 h)) k0)) (FI := FI_X5_readsMachine) (FV := FV_X5_readsMachine) (FL := fL0) (rt := rtZ) (ft := 0) (by exact hd) ok_X5_readsMachine_48 (kx_ok (fun la st h e => by obtain ⟨a0, m_a0, e1⟩ := gR_inv e; obtain ⟨a1, m_a1, e2⟩ := gR_inv e1; obtain ⟨rfl, ez⟩ := sE_inv e2; exact gm_fewer (e_X5_readsMachine_75 E  a0 a1 h ez) (mem_cons m_a0 (mem_cons m_a1 mem_nil))) k0_ok) (FI_X5_readsMachine_ok E) (FV_X5_readsMachine_ok E) (fL0_ok E) (rtZ_ok rfl)
def I_X5_readsMachine_32 : List AI := [(.aload_n 0, 1, [], 0), (.invokevirtual 36, 3, [2, 15, 1, 4, 419], 0), (.aload_n 0, 1, [], 0), (.iconst 3, 1, [], 3), (.bipush 8, 2, [], 8), (.invokevirtual 133, 3, [1, 18, 3, 4, 499], 0), (.ifCond .ne 5, 3, [48], 0), (.iconst 0, 1, [], 0), (.ireturn, 1, [], 0)]
theorem ok_X5_readsMachine_32 : vBL MT qLen qCh false q_X5_readsMachine.2.2.2.2.1 q_X5_readsMachine.2.2.2.2.2.1 q_X5_readsMachine.2.2.1 q_X5_readsMachine.1.cls q_X5_readsMachine.1.name q_X5_readsMachine.2.1 0 32 I_X5_readsMachine_32 = true := by decide +kernel
def p_X5_readsMachine_32 (a0 : Nat) (a1 : Nat) (h : AH) : Option (Int32 × AH) :=
  if (tg h a0).1 = 4 then ((p_X5_advance a0 h).bind fun h115 =>
  if (tg h115 a0).1 = 4 then ((p_X5_isWhole a0 ((3 : Int32)) ((8 : Int32)) h115).bind fun q116 =>
  if q116.1 = 0 then (if ((0 : Int32)) &&& 1 = ((0 : Int32)) then some (((0 : Int32)), q116.2) else none)
  else
  if (tg q116.2 a0).1 = 4 then (if (tg q116.2 a1).1 = 5 then (let h117 := wI q116.2 a1 1 (rI q116.2 a0 6)
  if (tg h117 a0).1 = 4 then ((p_X5_advance a0 h117).bind fun h118 =>
  if (tg h118 a0).1 = 4 then ((p_X5_isName a0 3 h118).bind fun q119 =>
  if q119.1 = 0 then (if (tg q119.2 a0).1 = 4 then ((p_X5_fails a0 ((1 : Int32)) q119.2).bind fun q124 =>
  if q124.1 &&& 1 = q124.1 then some (q124.1, q124.2) else none) else none)
  else
  if (tg q119.2 a0).1 = 4 then ((p_X5_advance a0 q119.2).bind fun h120 =>
  if (tg h120 a0).1 = 4 then ((p_X5_isWhole a0 ((0 : Int32)) ((15 : Int32)) h120).bind fun q121 =>
  if q121.1 = 0 then (if ((0 : Int32)) &&& 1 = ((0 : Int32)) then some (((0 : Int32)), q121.2) else none)
  else
  if (tg q121.2 a1).1 = 5 then (if (tg q121.2 a0).1 = 4 then (if (tg q121.2 (rR q121.2 a1 0)).1 = 0 then (let h122 := wI q121.2 (rR q121.2 a1 0) 4 (rI q121.2 a0 6)
  if (tg h122 a0).1 = 4 then ((p_X5_advance a0 h122).bind fun h123 =>
  if ((1 : Int32)) &&& 1 = ((1 : Int32)) then some (((1 : Int32)), h123) else none) else none) else none) else none) else none) else none) else none) else none) else none) else none) else none) else none) else none
set_option maxRecDepth 100000 in
theorem e_X5_readsMachine_32 {l : Launch} {D : va_G} {dA : Nat → ClassId} {z : Nat} {sa : Nat → Nat} {Hz : Heap} (E : StrOK qLen qCh l D dA z sa Hz) {h0 fin : AH} {x : Int32}  : ∀ (a0 : Nat) (a1 : Nat) (h : AH), p_X5_readsMachine_32 a0 a1 h = some (x, fin) → GM l D dA z sa Hz q_X5_readsMachine h0 (some (.int x)) fin 32 [(0, .ref a0), (1, .ref a1)] [] h := by
  intro a0 a1 h hd
  exact step E (is := I_X5_readsMachine_32) (pc := 32) (K := (kx 48 (fun la st h => gR la 0 fun a0 => gR la 1 fun a1 => sE st (p_X5_readsMachine_48 a0 a1 h)) k0)) (FI := FI_X5_readsMachine) (FV := FV_X5_readsMachine) (FL := fL0) (rt := rtZ) (ft := 0) (by exact hd) ok_X5_readsMachine_32 (kx_ok (fun la st h e => by obtain ⟨a0, m_a0, e1⟩ := gR_inv e; obtain ⟨a1, m_a1, e2⟩ := gR_inv e1; obtain ⟨rfl, ez⟩ := sE_inv e2; exact gm_fewer (e_X5_readsMachine_48 E  a0 a1 h ez) (mem_cons m_a0 (mem_cons m_a1 mem_nil))) k0_ok) (FI_X5_readsMachine_ok E) (FV_X5_readsMachine_ok E) (fL0_ok E) (rtZ_ok rfl)
def I_X5_readsMachine_13 : List AI := [(.aload_n 0, 1, [], 0), (.invokevirtual 36, 3, [2, 15, 1, 4, 419], 0), (.aload_n 0, 1, [], 0), (.ldc 132, 2, [2, 0], 0), (.invokevirtual 77, 3, [1, 16, 2, 4, 438], 0), (.ifCond .ne 9, 3, [32], 0), (.aload_n 0, 1, [], 0), (.iconst 1, 1, [], 1), (.invokevirtual 46, 3, [1, 17, 2, 4, 494], 0), (.ireturn, 1, [], 0)]
theorem ok_X5_readsMachine_13 : vBL MT qLen qCh false q_X5_readsMachine.2.2.2.2.1 q_X5_readsMachine.2.2.2.2.2.1 q_X5_readsMachine.2.2.1 q_X5_readsMachine.1.cls q_X5_readsMachine.1.name q_X5_readsMachine.2.1 0 13 I_X5_readsMachine_13 = true := by decide +kernel
def p_X5_readsMachine_13 (a0 : Nat) (a1 : Nat) (h : AH) : Option (Int32 × AH) :=
  if (tg h a0).1 = 4 then ((p_X5_advance a0 h).bind fun h125 =>
  if (tg h125 a0).1 = 4 then ((p_X5_isName a0 2 h125).bind fun q126 =>
  if q126.1 = 0 then (if (tg q126.2 a0).1 = 4 then ((p_X5_fails a0 ((1 : Int32)) q126.2).bind fun q137 =>
  if q137.1 &&& 1 = q137.1 then some (q137.1, q137.2) else none) else none)
  else
  if (tg q126.2 a0).1 = 4 then ((p_X5_advance a0 q126.2).bind fun h127 =>
  if (tg h127 a0).1 = 4 then ((p_X5_isWhole a0 ((3 : Int32)) ((8 : Int32)) h127).bind fun q128 =>
  if q128.1 = 0 then (if ((0 : Int32)) &&& 1 = ((0 : Int32)) then some (((0 : Int32)), q128.2) else none)
  else
  if (tg q128.2 a0).1 = 4 then (if (tg q128.2 a1).1 = 5 then (let h129 := wI q128.2 a1 1 (rI q128.2 a0 6)
  if (tg h129 a0).1 = 4 then ((p_X5_advance a0 h129).bind fun h130 =>
  if (tg h130 a0).1 = 4 then ((p_X5_isName a0 3 h130).bind fun q131 =>
  if q131.1 = 0 then (if (tg q131.2 a0).1 = 4 then ((p_X5_fails a0 ((1 : Int32)) q131.2).bind fun q136 =>
  if q136.1 &&& 1 = q136.1 then some (q136.1, q136.2) else none) else none)
  else
  if (tg q131.2 a0).1 = 4 then ((p_X5_advance a0 q131.2).bind fun h132 =>
  if (tg h132 a0).1 = 4 then ((p_X5_isWhole a0 ((0 : Int32)) ((15 : Int32)) h132).bind fun q133 =>
  if q133.1 = 0 then (if ((0 : Int32)) &&& 1 = ((0 : Int32)) then some (((0 : Int32)), q133.2) else none)
  else
  if (tg q133.2 a1).1 = 5 then (if (tg q133.2 a0).1 = 4 then (if (tg q133.2 (rR q133.2 a1 0)).1 = 0 then (let h134 := wI q133.2 (rR q133.2 a1 0) 4 (rI q133.2 a0 6)
  if (tg h134 a0).1 = 4 then ((p_X5_advance a0 h134).bind fun h135 =>
  if ((1 : Int32)) &&& 1 = ((1 : Int32)) then some (((1 : Int32)), h135) else none) else none) else none) else none) else none) else none) else none) else none) else none) else none) else none) else none) else none) else none) else none
set_option maxRecDepth 100000 in
theorem e_X5_readsMachine_13 {l : Launch} {D : va_G} {dA : Nat → ClassId} {z : Nat} {sa : Nat → Nat} {Hz : Heap} (E : StrOK qLen qCh l D dA z sa Hz) {h0 fin : AH} {x : Int32}  : ∀ (a0 : Nat) (a1 : Nat) (h : AH), p_X5_readsMachine_13 a0 a1 h = some (x, fin) → GM l D dA z sa Hz q_X5_readsMachine h0 (some (.int x)) fin 13 [(0, .ref a0), (1, .ref a1)] [] h := by
  intro a0 a1 h hd
  exact step E (is := I_X5_readsMachine_13) (pc := 13) (K := (kx 32 (fun la st h => gR la 0 fun a0 => gR la 1 fun a1 => sE st (p_X5_readsMachine_32 a0 a1 h)) k0)) (FI := FI_X5_readsMachine) (FV := FV_X5_readsMachine) (FL := fL0) (rt := rtZ) (ft := 0) (by exact hd) ok_X5_readsMachine_13 (kx_ok (fun la st h e => by obtain ⟨a0, m_a0, e1⟩ := gR_inv e; obtain ⟨a1, m_a1, e2⟩ := gR_inv e1; obtain ⟨rfl, ez⟩ := sE_inv e2; exact gm_fewer (e_X5_readsMachine_32 E  a0 a1 h ez) (mem_cons m_a0 (mem_cons m_a1 mem_nil))) k0_ok) (FI_X5_readsMachine_ok E) (FV_X5_readsMachine_ok E) (fL0_ok E) (rtZ_ok rfl)
def I_X5_readsMachine_0 : List AI := [(.aload_n 1, 1, [], 0), (.getfield 87, 3, [5, 1, 0, 215], 0), (.ifCond .eq 9, 3, [13], 0), (.aload_n 0, 1, [], 0), (.iconst 3, 1, [], 3), (.invokevirtual 46, 3, [1, 17, 2, 4, 494], 0), (.ireturn, 1, [], 0)]
theorem ok_X5_readsMachine_0 : vBL MT qLen qCh false q_X5_readsMachine.2.2.2.2.1 q_X5_readsMachine.2.2.2.2.2.1 q_X5_readsMachine.2.2.1 q_X5_readsMachine.1.cls q_X5_readsMachine.1.name q_X5_readsMachine.2.1 0 0 I_X5_readsMachine_0 = true := by decide +kernel
def p_X5_readsMachine (a0 : Nat) (a1 : Nat) (h : AH) : Option (Int32 × AH) :=
  if (tg h a1).1 = 5 then (if (rI h a1 1) = 0 then (if (tg h a0).1 = 4 then ((p_X5_advance a0 h).bind fun h138 =>
  if (tg h138 a0).1 = 4 then ((p_X5_isName a0 2 h138).bind fun q139 =>
  if q139.1 = 0 then (if (tg q139.2 a0).1 = 4 then ((p_X5_fails a0 ((1 : Int32)) q139.2).bind fun q150 =>
  if q150.1 &&& 1 = q150.1 then some (q150.1, q150.2) else none) else none)
  else
  if (tg q139.2 a0).1 = 4 then ((p_X5_advance a0 q139.2).bind fun h140 =>
  if (tg h140 a0).1 = 4 then ((p_X5_isWhole a0 ((3 : Int32)) ((8 : Int32)) h140).bind fun q141 =>
  if q141.1 = 0 then (if ((0 : Int32)) &&& 1 = ((0 : Int32)) then some (((0 : Int32)), q141.2) else none)
  else
  if (tg q141.2 a0).1 = 4 then (if (tg q141.2 a1).1 = 5 then (let h142 := wI q141.2 a1 1 (rI q141.2 a0 6)
  if (tg h142 a0).1 = 4 then ((p_X5_advance a0 h142).bind fun h143 =>
  if (tg h143 a0).1 = 4 then ((p_X5_isName a0 3 h143).bind fun q144 =>
  if q144.1 = 0 then (if (tg q144.2 a0).1 = 4 then ((p_X5_fails a0 ((1 : Int32)) q144.2).bind fun q149 =>
  if q149.1 &&& 1 = q149.1 then some (q149.1, q149.2) else none) else none)
  else
  if (tg q144.2 a0).1 = 4 then ((p_X5_advance a0 q144.2).bind fun h145 =>
  if (tg h145 a0).1 = 4 then ((p_X5_isWhole a0 ((0 : Int32)) ((15 : Int32)) h145).bind fun q146 =>
  if q146.1 = 0 then (if ((0 : Int32)) &&& 1 = ((0 : Int32)) then some (((0 : Int32)), q146.2) else none)
  else
  if (tg q146.2 a1).1 = 5 then (if (tg q146.2 a0).1 = 4 then (if (tg q146.2 (rR q146.2 a1 0)).1 = 0 then (let h147 := wI q146.2 (rR q146.2 a1 0) 4 (rI q146.2 a0 6)
  if (tg h147 a0).1 = 4 then ((p_X5_advance a0 h147).bind fun h148 =>
  if ((1 : Int32)) &&& 1 = ((1 : Int32)) then some (((1 : Int32)), h148) else none) else none) else none) else none) else none) else none) else none) else none) else none) else none) else none) else none) else none) else none) else none)
  else
  if (tg h a0).1 = 4 then ((p_X5_fails a0 ((3 : Int32)) h).bind fun q151 =>
  if q151.1 &&& 1 = q151.1 then some (q151.1, q151.2) else none) else none) else none
set_option maxRecDepth 100000 in
theorem e_X5_readsMachine_0 {l : Launch} {D : va_G} {dA : Nat → ClassId} {z : Nat} {sa : Nat → Nat} {Hz : Heap} (E : StrOK qLen qCh l D dA z sa Hz) {h0 fin : AH} {x : Int32}  : ∀ (a0 : Nat) (a1 : Nat) (h : AH), p_X5_readsMachine a0 a1 h = some (x, fin) → GM l D dA z sa Hz q_X5_readsMachine h0 (some (.int x)) fin 0 [(0, .ref a0), (1, .ref a1)] [] h := by
  intro a0 a1 h hd
  exact step E (is := I_X5_readsMachine_0) (pc := 0) (K := (kx 13 (fun la st h => gR la 0 fun a0 => gR la 1 fun a1 => sE st (p_X5_readsMachine_13 a0 a1 h)) k0)) (FI := FI_X5_readsMachine) (FV := FV_X5_readsMachine) (FL := fL0) (rt := rtZ) (ft := 0) (by exact hd) ok_X5_readsMachine_0 (kx_ok (fun la st h e => by obtain ⟨a0, m_a0, e1⟩ := gR_inv e; obtain ⟨a1, m_a1, e2⟩ := gR_inv e1; obtain ⟨rfl, ez⟩ := sE_inv e2; exact gm_fewer (e_X5_readsMachine_13 E  a0 a1 h ez) (mem_cons m_a0 (mem_cons m_a1 mem_nil))) k0_ok) (FI_X5_readsMachine_ok E) (FV_X5_readsMachine_ok E) (fL0_ok E) (rtZ_ok rfl)
theorem c_X5_readsMachine {l : Launch} {D : va_G} {dA : Nat → ClassId} {z : Nat} {sa : Nat → Nat} {Hz : Heap} (E : StrOK qLen qCh l D dA z sa Hz) {a0 : Nat} {a1 : Nat} {h fin : AH} {x : Int32} (hd : p_X5_readsMachine a0 a1 h = some (x, fin)) : CalOK l D dA z sa Hz q_X5_readsMachine [.ref a0, .ref a1] h (some (.int x)) fin := calOf (by decide +kernel) (Nat.le_of_ble_eq_true rfl) (e_X5_readsMachine_0 E a0 a1 h hd)
def FI_X5_lineSort : Nat → List Value → AH → Option (Int32 × AH) := (cx 16 (fun As h => sR As fun a0 As => sT As fun t1 As => sE As (p_X5_isName a0 t1 h)) fI0)
theorem FI_X5_lineSort_ok {l : Launch} {D : va_G} {dA : Nat → ClassId} {z : Nat} {sa : Nat → Nat} {Hz : Heap} (E : StrOK qLen qCh l D dA z sa Hz) : ∀ mi As h x h', FI_X5_lineSort mi As h = some (x, h') → CalOK l D dA z sa Hz (MT mi) As h (some (.int x)) h' := (cxI_ok (fun As h x h2 e => by obtain ⟨_, _, rfl, e0⟩ := sR_inv e; obtain ⟨_, _, rfl, e1⟩ := sT_inv e0; obtain ⟨rfl, ez⟩ := sE_inv e1; exact c_X5_isName E ez) (fI0_ok E))
def I_X5_lineSort_58 : List AI := [(.ireturn, 1, [], 0)]
theorem ok_X5_lineSort_58 : vBL MT qLen qCh false q_X5_lineSort.2.2.2.2.1 q_X5_lineSort.2.2.2.2.2.1 q_X5_lineSort.2.2.1 q_X5_lineSort.1.cls q_X5_lineSort.1.name q_X5_lineSort.2.1 0 58 I_X5_lineSort_58 = true := by decide +kernel
def p_X5_lineSort_58 (y0 : Int32) (h : AH) : Option (Int32 × AH) :=
  some (y0, h)
set_option maxRecDepth 100000 in
theorem e_X5_lineSort_58 {l : Launch} {D : va_G} {dA : Nat → ClassId} {z : Nat} {sa : Nat → Nat} {Hz : Heap} (E : StrOK qLen qCh l D dA z sa Hz) {h0 fin : AH} {x : Int32}  : ∀ (y0 : Int32) (h : AH), p_X5_lineSort_58 y0 h = some (x, fin) → GM l D dA z sa Hz q_X5_lineSort h0 (some (.int x)) fin 58 [] [.int y0] h := by
  intro y0 h hd
  exact step E (is := I_X5_lineSort_58) (pc := 58) (K := k0) (FI := FI_X5_lineSort) (FV := fV0) (FL := fL0) (rt := rtI) (ft := 0) (by exact hd) ok_X5_lineSort_58 k0_ok (FI_X5_lineSort_ok E) (fV0_ok E) (fL0_ok E) (rtI_ok rfl)
def I_X5_lineSort_57 : List AI := [(.iconst 0, 1, [], 0)]
theorem ok_X5_lineSort_57 : vBL MT qLen qCh false q_X5_lineSort.2.2.2.2.1 q_X5_lineSort.2.2.2.2.2.1 q_X5_lineSort.2.2.1 q_X5_lineSort.1.cls q_X5_lineSort.1.name q_X5_lineSort.2.1 58 57 I_X5_lineSort_57 = true := by decide +kernel
def p_X5_lineSort_57 (h : AH) : Option (Int32 × AH) :=
  p_X5_lineSort_58 ((0 : Int32)) h
set_option maxRecDepth 100000 in
theorem e_X5_lineSort_57 {l : Launch} {D : va_G} {dA : Nat → ClassId} {z : Nat} {sa : Nat → Nat} {Hz : Heap} (E : StrOK qLen qCh l D dA z sa Hz) {h0 fin : AH} {x : Int32}  : ∀  (h : AH), p_X5_lineSort_57 h = some (x, fin) → GM l D dA z sa Hz q_X5_lineSort h0 (some (.int x)) fin 57 [] [] h := by
  intro h hd
  exact step E (is := I_X5_lineSort_57) (pc := 57) (K := (kx 58 (fun la st h => sI st fun y0 st => sE st (p_X5_lineSort_58 y0 h)) k0)) (FI := FI_X5_lineSort) (FV := fV0) (FL := fL0) (rt := rtI) (ft := 58) (by exact hd) ok_X5_lineSort_57 (kx_ok (fun la st h e => by obtain ⟨y0, _, rfl, e1⟩ := sI_inv e; obtain ⟨rfl, ez⟩ := sE_inv e1; exact gm_fewer (e_X5_lineSort_58 E  y0 h ez) mem_nil) k0_ok) (FI_X5_lineSort_ok E) (fV0_ok E) (fL0_ok E) (rtI_ok rfl)
def I_X5_lineSort_44 : List AI := [(.aload_n 0, 1, [], 0), (.ldc 115, 2, [8, 0], 0), (.invokevirtual 77, 3, [1, 16, 2, 4, 438], 0), (.ifCond .eq 7, 3, [57], 0), (.iconst 5, 1, [], 5), (.goto 4, 3, [58], 0)]
theorem ok_X5_lineSort_44 : vBL MT qLen qCh false q_X5_lineSort.2.2.2.2.1 q_X5_lineSort.2.2.2.2.2.1 q_X5_lineSort.2.2.1 q_X5_lineSort.1.cls q_X5_lineSort.1.name q_X5_lineSort.2.1 0 44 I_X5_lineSort_44 = true := by decide +kernel
def p_X5_lineSort_44 (a0 : Nat) (h : AH) : Option (Int32 × AH) :=
  if (tg h a0).1 = 4 then ((p_X5_isName a0 8 h).bind fun q101 =>
  if q101.1 = 0 then (p_X5_lineSort_58 ((0 : Int32)) q101.2)
  else
  p_X5_lineSort_58 ((5 : Int32)) q101.2) else none
set_option maxRecDepth 100000 in
theorem e_X5_lineSort_44 {l : Launch} {D : va_G} {dA : Nat → ClassId} {z : Nat} {sa : Nat → Nat} {Hz : Heap} (E : StrOK qLen qCh l D dA z sa Hz) {h0 fin : AH} {x : Int32}  : ∀ (a0 : Nat) (h : AH), p_X5_lineSort_44 a0 h = some (x, fin) → GM l D dA z sa Hz q_X5_lineSort h0 (some (.int x)) fin 44 [(0, .ref a0)] [] h := by
  intro a0 h hd
  exact step E (is := I_X5_lineSort_44) (pc := 44) (K := (kx 57 (fun la st h => sE st (p_X5_lineSort_57 h)) (kx 58 (fun la st h => sI st fun y0 st => sE st (p_X5_lineSort_58 y0 h)) k0))) (FI := FI_X5_lineSort) (FV := fV0) (FL := fL0) (rt := rtI) (ft := 0) (by exact hd) ok_X5_lineSort_44 (kx_ok (fun la st h e => by obtain ⟨rfl, ez⟩ := sE_inv e; exact gm_fewer (e_X5_lineSort_57 E   h ez) mem_nil) (kx_ok (fun la st h e => by obtain ⟨y0, _, rfl, e1⟩ := sI_inv e; obtain ⟨rfl, ez⟩ := sE_inv e1; exact gm_fewer (e_X5_lineSort_58 E  y0 h ez) mem_nil) k0_ok)) (FI_X5_lineSort_ok E) (fV0_ok E) (fL0_ok E) (rtI_ok rfl)
def I_X5_lineSort_33 : List AI := [(.aload_n 0, 1, [], 0), (.ldc 113, 2, [7, 0], 0), (.invokevirtual 77, 3, [1, 16, 2, 4, 438], 0), (.ifCond .eq 5, 3, [44], 0), (.iconst 4, 1, [], 4), (.ireturn, 1, [], 0)]
theorem ok_X5_lineSort_33 : vBL MT qLen qCh false q_X5_lineSort.2.2.2.2.1 q_X5_lineSort.2.2.2.2.2.1 q_X5_lineSort.2.2.1 q_X5_lineSort.1.cls q_X5_lineSort.1.name q_X5_lineSort.2.1 0 33 I_X5_lineSort_33 = true := by decide +kernel
def p_X5_lineSort_33 (a0 : Nat) (h : AH) : Option (Int32 × AH) :=
  if (tg h a0).1 = 4 then ((p_X5_isName a0 7 h).bind fun q102 =>
  if q102.1 = 0 then (if (tg q102.2 a0).1 = 4 then ((p_X5_isName a0 8 q102.2).bind fun q103 =>
  if q103.1 = 0 then (p_X5_lineSort_58 ((0 : Int32)) q103.2)
  else
  p_X5_lineSort_58 ((5 : Int32)) q103.2) else none)
  else
  some (((4 : Int32)), q102.2)) else none
set_option maxRecDepth 100000 in
theorem e_X5_lineSort_33 {l : Launch} {D : va_G} {dA : Nat → ClassId} {z : Nat} {sa : Nat → Nat} {Hz : Heap} (E : StrOK qLen qCh l D dA z sa Hz) {h0 fin : AH} {x : Int32}  : ∀ (a0 : Nat) (h : AH), p_X5_lineSort_33 a0 h = some (x, fin) → GM l D dA z sa Hz q_X5_lineSort h0 (some (.int x)) fin 33 [(0, .ref a0)] [] h := by
  intro a0 h hd
  exact step E (is := I_X5_lineSort_33) (pc := 33) (K := (kx 44 (fun la st h => gR la 0 fun a0 => sE st (p_X5_lineSort_44 a0 h)) k0)) (FI := FI_X5_lineSort) (FV := fV0) (FL := fL0) (rt := rtI) (ft := 0) (by exact hd) ok_X5_lineSort_33 (kx_ok (fun la st h e => by obtain ⟨a0, m_a0, e1⟩ := gR_inv e; obtain ⟨rfl, ez⟩ := sE_inv e1; exact gm_fewer (e_X5_lineSort_44 E  a0 h ez) (mem_cons m_a0 mem_nil)) k0_ok) (FI_X5_lineSort_ok E) (fV0_ok E) (fL0_ok E) (rtI_ok rfl)
def I_X5_lineSort_22 : List AI := [(.aload_n 0, 1, [], 0), (.ldc 111, 2, [6, 0], 0), (.invokevirtual 77, 3, [1, 16, 2, 4, 438], 0), (.ifCond .eq 5, 3, [33], 0), (.iconst 3, 1, [], 3), (.ireturn, 1, [], 0)]
theorem ok_X5_lineSort_22 : vBL MT qLen qCh false q_X5_lineSort.2.2.2.2.1 q_X5_lineSort.2.2.2.2.2.1 q_X5_lineSort.2.2.1 q_X5_lineSort.1.cls q_X5_lineSort.1.name q_X5_lineSort.2.1 0 22 I_X5_lineSort_22 = true := by decide +kernel
def p_X5_lineSort_22 (a0 : Nat) (h : AH) : Option (Int32 × AH) :=
  if (tg h a0).1 = 4 then ((p_X5_isName a0 6 h).bind fun q104 =>
  if q104.1 = 0 then (if (tg q104.2 a0).1 = 4 then ((p_X5_isName a0 7 q104.2).bind fun q105 =>
  if q105.1 = 0 then (if (tg q105.2 a0).1 = 4 then ((p_X5_isName a0 8 q105.2).bind fun q106 =>
  if q106.1 = 0 then (p_X5_lineSort_58 ((0 : Int32)) q106.2)
  else
  p_X5_lineSort_58 ((5 : Int32)) q106.2) else none)
  else
  some (((4 : Int32)), q105.2)) else none)
  else
  some (((3 : Int32)), q104.2)) else none
set_option maxRecDepth 100000 in
theorem e_X5_lineSort_22 {l : Launch} {D : va_G} {dA : Nat → ClassId} {z : Nat} {sa : Nat → Nat} {Hz : Heap} (E : StrOK qLen qCh l D dA z sa Hz) {h0 fin : AH} {x : Int32}  : ∀ (a0 : Nat) (h : AH), p_X5_lineSort_22 a0 h = some (x, fin) → GM l D dA z sa Hz q_X5_lineSort h0 (some (.int x)) fin 22 [(0, .ref a0)] [] h := by
  intro a0 h hd
  exact step E (is := I_X5_lineSort_22) (pc := 22) (K := (kx 33 (fun la st h => gR la 0 fun a0 => sE st (p_X5_lineSort_33 a0 h)) k0)) (FI := FI_X5_lineSort) (FV := fV0) (FL := fL0) (rt := rtI) (ft := 0) (by exact hd) ok_X5_lineSort_22 (kx_ok (fun la st h e => by obtain ⟨a0, m_a0, e1⟩ := gR_inv e; obtain ⟨rfl, ez⟩ := sE_inv e1; exact gm_fewer (e_X5_lineSort_33 E  a0 h ez) (mem_cons m_a0 mem_nil)) k0_ok) (FI_X5_lineSort_ok E) (fV0_ok E) (fL0_ok E) (rtI_ok rfl)
def I_X5_lineSort_11 : List AI := [(.aload_n 0, 1, [], 0), (.ldc 109, 2, [5, 0], 0), (.invokevirtual 77, 3, [1, 16, 2, 4, 438], 0), (.ifCond .eq 5, 3, [22], 0), (.iconst 2, 1, [], 2), (.ireturn, 1, [], 0)]
theorem ok_X5_lineSort_11 : vBL MT qLen qCh false q_X5_lineSort.2.2.2.2.1 q_X5_lineSort.2.2.2.2.2.1 q_X5_lineSort.2.2.1 q_X5_lineSort.1.cls q_X5_lineSort.1.name q_X5_lineSort.2.1 0 11 I_X5_lineSort_11 = true := by decide +kernel
def p_X5_lineSort_11 (a0 : Nat) (h : AH) : Option (Int32 × AH) :=
  if (tg h a0).1 = 4 then ((p_X5_isName a0 5 h).bind fun q107 =>
  if q107.1 = 0 then (if (tg q107.2 a0).1 = 4 then ((p_X5_isName a0 6 q107.2).bind fun q108 =>
  if q108.1 = 0 then (if (tg q108.2 a0).1 = 4 then ((p_X5_isName a0 7 q108.2).bind fun q109 =>
  if q109.1 = 0 then (if (tg q109.2 a0).1 = 4 then ((p_X5_isName a0 8 q109.2).bind fun q110 =>
  if q110.1 = 0 then (p_X5_lineSort_58 ((0 : Int32)) q110.2)
  else
  p_X5_lineSort_58 ((5 : Int32)) q110.2) else none)
  else
  some (((4 : Int32)), q109.2)) else none)
  else
  some (((3 : Int32)), q108.2)) else none)
  else
  some (((2 : Int32)), q107.2)) else none
set_option maxRecDepth 100000 in
theorem e_X5_lineSort_11 {l : Launch} {D : va_G} {dA : Nat → ClassId} {z : Nat} {sa : Nat → Nat} {Hz : Heap} (E : StrOK qLen qCh l D dA z sa Hz) {h0 fin : AH} {x : Int32}  : ∀ (a0 : Nat) (h : AH), p_X5_lineSort_11 a0 h = some (x, fin) → GM l D dA z sa Hz q_X5_lineSort h0 (some (.int x)) fin 11 [(0, .ref a0)] [] h := by
  intro a0 h hd
  exact step E (is := I_X5_lineSort_11) (pc := 11) (K := (kx 22 (fun la st h => gR la 0 fun a0 => sE st (p_X5_lineSort_22 a0 h)) k0)) (FI := FI_X5_lineSort) (FV := fV0) (FL := fL0) (rt := rtI) (ft := 0) (by exact hd) ok_X5_lineSort_11 (kx_ok (fun la st h e => by obtain ⟨a0, m_a0, e1⟩ := gR_inv e; obtain ⟨rfl, ez⟩ := sE_inv e1; exact gm_fewer (e_X5_lineSort_22 E  a0 h ez) (mem_cons m_a0 mem_nil)) k0_ok) (FI_X5_lineSort_ok E) (fV0_ok E) (fL0_ok E) (rtI_ok rfl)
def I_X5_lineSort_0 : List AI := [(.aload_n 0, 1, [], 0), (.ldc 107, 2, [4, 0], 0), (.invokevirtual 77, 3, [1, 16, 2, 4, 438], 0), (.ifCond .eq 5, 3, [11], 0), (.iconst 1, 1, [], 1), (.ireturn, 1, [], 0)]
theorem ok_X5_lineSort_0 : vBL MT qLen qCh false q_X5_lineSort.2.2.2.2.1 q_X5_lineSort.2.2.2.2.2.1 q_X5_lineSort.2.2.1 q_X5_lineSort.1.cls q_X5_lineSort.1.name q_X5_lineSort.2.1 0 0 I_X5_lineSort_0 = true := by decide +kernel
def p_X5_lineSort (a0 : Nat) (h : AH) : Option (Int32 × AH) :=
  if (tg h a0).1 = 4 then ((p_X5_isName a0 4 h).bind fun q111 =>
  if q111.1 = 0 then (if (tg q111.2 a0).1 = 4 then ((p_X5_isName a0 5 q111.2).bind fun q112 =>
  if q112.1 = 0 then (if (tg q112.2 a0).1 = 4 then ((p_X5_isName a0 6 q112.2).bind fun q113 =>
  if q113.1 = 0 then (if (tg q113.2 a0).1 = 4 then ((p_X5_isName a0 7 q113.2).bind fun q114 =>
  if q114.1 = 0 then (if (tg q114.2 a0).1 = 4 then ((p_X5_isName a0 8 q114.2).bind fun q115 =>
  if q115.1 = 0 then (p_X5_lineSort_58 ((0 : Int32)) q115.2)
  else
  p_X5_lineSort_58 ((5 : Int32)) q115.2) else none)
  else
  some (((4 : Int32)), q114.2)) else none)
  else
  some (((3 : Int32)), q113.2)) else none)
  else
  some (((2 : Int32)), q112.2)) else none)
  else
  some (((1 : Int32)), q111.2)) else none
set_option maxRecDepth 100000 in
theorem e_X5_lineSort_0 {l : Launch} {D : va_G} {dA : Nat → ClassId} {z : Nat} {sa : Nat → Nat} {Hz : Heap} (E : StrOK qLen qCh l D dA z sa Hz) {h0 fin : AH} {x : Int32}  : ∀ (a0 : Nat) (h : AH), p_X5_lineSort a0 h = some (x, fin) → GM l D dA z sa Hz q_X5_lineSort h0 (some (.int x)) fin 0 [(0, .ref a0)] [] h := by
  intro a0 h hd
  exact step E (is := I_X5_lineSort_0) (pc := 0) (K := (kx 11 (fun la st h => gR la 0 fun a0 => sE st (p_X5_lineSort_11 a0 h)) k0)) (FI := FI_X5_lineSort) (FV := fV0) (FL := fL0) (rt := rtI) (ft := 0) (by exact hd) ok_X5_lineSort_0 (kx_ok (fun la st h e => by obtain ⟨a0, m_a0, e1⟩ := gR_inv e; obtain ⟨rfl, ez⟩ := sE_inv e1; exact gm_fewer (e_X5_lineSort_11 E  a0 h ez) (mem_cons m_a0 mem_nil)) k0_ok) (FI_X5_lineSort_ok E) (fV0_ok E) (fL0_ok E) (rtI_ok rfl)
theorem c_X5_lineSort {l : Launch} {D : va_G} {dA : Nat → ClassId} {z : Nat} {sa : Nat → Nat} {Hz : Heap} (E : StrOK qLen qCh l D dA z sa Hz) {a0 : Nat} {h fin : AH} {x : Int32} (hd : p_X5_lineSort a0 h = some (x, fin)) : CalOK l D dA z sa Hz q_X5_lineSort [.ref a0] h (some (.int x)) fin := calOf (by decide +kernel) (Nat.le_of_ble_eq_true rfl) (e_X5_lineSort_0 E a0 h hd)
def I_X5_isFull_105 : List AI := [(.ireturn, 1, [], 0)]
theorem ok_X5_isFull_105 : vBL MT qLen qCh false q_X5_isFull.2.2.2.2.1 q_X5_isFull.2.2.2.2.2.1 q_X5_isFull.2.2.1 q_X5_isFull.1.cls q_X5_isFull.1.name q_X5_isFull.2.1 0 105 I_X5_isFull_105 = true := by decide +kernel
def p_X5_isFull_105 (y0 : Int32) (h : AH) : Option (Int32 × AH) :=
  if y0 &&& 1 = y0 then some (y0, h) else none
set_option maxRecDepth 100000 in
theorem e_X5_isFull_105 {l : Launch} {D : va_G} {dA : Nat → ClassId} {z : Nat} {sa : Nat → Nat} {Hz : Heap} (E : StrOK qLen qCh l D dA z sa Hz) {h0 fin : AH} {x : Int32}  : ∀ (y0 : Int32) (h : AH), p_X5_isFull_105 y0 h = some (x, fin) → GM l D dA z sa Hz q_X5_isFull h0 (some (.int x)) fin 105 [] [.int y0] h := by
  intro y0 h hd
  exact step E (is := I_X5_isFull_105) (pc := 105) (K := k0) (FI := fI0) (FV := fV0) (FL := fL0) (rt := rtZ) (ft := 0) (by exact hd) ok_X5_isFull_105 k0_ok (fI0_ok E) (fV0_ok E) (fL0_ok E) (rtZ_ok rfl)
def I_X5_isFull_104 : List AI := [(.iconst 0, 1, [], 0)]
theorem ok_X5_isFull_104 : vBL MT qLen qCh false q_X5_isFull.2.2.2.2.1 q_X5_isFull.2.2.2.2.2.1 q_X5_isFull.2.2.1 q_X5_isFull.1.cls q_X5_isFull.1.name q_X5_isFull.2.1 105 104 I_X5_isFull_104 = true := by decide +kernel
def p_X5_isFull_104 (h : AH) : Option (Int32 × AH) :=
  p_X5_isFull_105 ((0 : Int32)) h
set_option maxRecDepth 100000 in
theorem e_X5_isFull_104 {l : Launch} {D : va_G} {dA : Nat → ClassId} {z : Nat} {sa : Nat → Nat} {Hz : Heap} (E : StrOK qLen qCh l D dA z sa Hz) {h0 fin : AH} {x : Int32}  : ∀  (h : AH), p_X5_isFull_104 h = some (x, fin) → GM l D dA z sa Hz q_X5_isFull h0 (some (.int x)) fin 104 [] [] h := by
  intro h hd
  exact step E (is := I_X5_isFull_104) (pc := 104) (K := (kx 105 (fun la st h => sI st fun y0 st => sE st (p_X5_isFull_105 y0 h)) k0)) (FI := fI0) (FV := fV0) (FL := fL0) (rt := rtZ) (ft := 105) (by exact hd) ok_X5_isFull_104 (kx_ok (fun la st h e => by obtain ⟨y0, _, rfl, e1⟩ := sI_inv e; obtain ⟨rfl, ez⟩ := sE_inv e1; exact gm_fewer (e_X5_isFull_105 E  y0 h ez) mem_nil) k0_ok) (fI0_ok E) (fV0_ok E) (fL0_ok E) (rtZ_ok rfl)
def I_X5_isFull_91 : List AI := [(.aload_n 0, 1, [], 0), (.getfield 129, 3, [5, 12, 0, 235], 0), (.bipush 6, 2, [], 6), (.if_icmp .lt 7, 3, [104], 0), (.iconst 1, 1, [], 1), (.goto 4, 3, [105], 0)]
theorem ok_X5_isFull_91 : vBL MT qLen qCh false q_X5_isFull.2.2.2.2.1 q_X5_isFull.2.2.2.2.2.1 q_X5_isFull.2.2.1 q_X5_isFull.1.cls q_X5_isFull.1.name q_X5_isFull.2.1 0 91 I_X5_isFull_91 = true := by decide +kernel
def p_X5_isFull_91 (a0 : Nat) (h : AH) : Option (Int32 × AH) :=
  if (tg h a0).1 = 5 then (if (rI h a0 12) < ((6 : Int32)) then (p_X5_isFull_105 ((0 : Int32)) h)
  else
  p_X5_isFull_105 ((1 : Int32)) h) else none
set_option maxRecDepth 100000 in
theorem e_X5_isFull_91 {l : Launch} {D : va_G} {dA : Nat → ClassId} {z : Nat} {sa : Nat → Nat} {Hz : Heap} (E : StrOK qLen qCh l D dA z sa Hz) {h0 fin : AH} {x : Int32}  : ∀ (a0 : Nat) (h : AH), p_X5_isFull_91 a0 h = some (x, fin) → GM l D dA z sa Hz q_X5_isFull h0 (some (.int x)) fin 91 [(0, .ref a0)] [] h := by
  intro a0 h hd
  exact step E (is := I_X5_isFull_91) (pc := 91) (K := (kx 104 (fun la st h => sE st (p_X5_isFull_104 h)) (kx 105 (fun la st h => sI st fun y0 st => sE st (p_X5_isFull_105 y0 h)) k0))) (FI := fI0) (FV := fV0) (FL := fL0) (rt := rtZ) (ft := 0) (by exact hd) ok_X5_isFull_91 (kx_ok (fun la st h e => by obtain ⟨rfl, ez⟩ := sE_inv e; exact gm_fewer (e_X5_isFull_104 E   h ez) mem_nil) (kx_ok (fun la st h e => by obtain ⟨y0, _, rfl, e1⟩ := sI_inv e; obtain ⟨rfl, ez⟩ := sE_inv e1; exact gm_fewer (e_X5_isFull_105 E  y0 h ez) mem_nil) k0_ok)) (fI0_ok E) (fV0_ok E) (fL0_ok E) (rtZ_ok rfl)
def I_X5_isFull_46 : List AI := [(.ireturn, 1, [], 0)]
theorem ok_X5_isFull_46 : vBL MT qLen qCh false q_X5_isFull.2.2.2.2.1 q_X5_isFull.2.2.2.2.2.1 q_X5_isFull.2.2.1 q_X5_isFull.1.cls q_X5_isFull.1.name q_X5_isFull.2.1 0 46 I_X5_isFull_46 = true := by decide +kernel
def p_X5_isFull_46 (y0 : Int32) (h : AH) : Option (Int32 × AH) :=
  if y0 &&& 1 = y0 then some (y0, h) else none
set_option maxRecDepth 100000 in
theorem e_X5_isFull_46 {l : Launch} {D : va_G} {dA : Nat → ClassId} {z : Nat} {sa : Nat → Nat} {Hz : Heap} (E : StrOK qLen qCh l D dA z sa Hz) {h0 fin : AH} {x : Int32}  : ∀ (y0 : Int32) (h : AH), p_X5_isFull_46 y0 h = some (x, fin) → GM l D dA z sa Hz q_X5_isFull h0 (some (.int x)) fin 46 [] [.int y0] h := by
  intro y0 h hd
  exact step E (is := I_X5_isFull_46) (pc := 46) (K := k0) (FI := fI0) (FV := fV0) (FL := fL0) (rt := rtZ) (ft := 0) (by exact hd) ok_X5_isFull_46 k0_ok (fI0_ok E) (fV0_ok E) (fL0_ok E) (rtZ_ok rfl)
def I_X5_isFull_45 : List AI := [(.iconst 0, 1, [], 0)]
theorem ok_X5_isFull_45 : vBL MT qLen qCh false q_X5_isFull.2.2.2.2.1 q_X5_isFull.2.2.2.2.2.1 q_X5_isFull.2.2.1 q_X5_isFull.1.cls q_X5_isFull.1.name q_X5_isFull.2.1 46 45 I_X5_isFull_45 = true := by decide +kernel
def p_X5_isFull_45 (h : AH) : Option (Int32 × AH) :=
  p_X5_isFull_46 ((0 : Int32)) h
set_option maxRecDepth 100000 in
theorem e_X5_isFull_45 {l : Launch} {D : va_G} {dA : Nat → ClassId} {z : Nat} {sa : Nat → Nat} {Hz : Heap} (E : StrOK qLen qCh l D dA z sa Hz) {h0 fin : AH} {x : Int32}  : ∀  (h : AH), p_X5_isFull_45 h = some (x, fin) → GM l D dA z sa Hz q_X5_isFull h0 (some (.int x)) fin 45 [] [] h := by
  intro h hd
  exact step E (is := I_X5_isFull_45) (pc := 45) (K := (kx 46 (fun la st h => sI st fun y0 st => sE st (p_X5_isFull_46 y0 h)) k0)) (FI := fI0) (FV := fV0) (FL := fL0) (rt := rtZ) (ft := 46) (by exact hd) ok_X5_isFull_45 (kx_ok (fun la st h e => by obtain ⟨y0, _, rfl, e1⟩ := sI_inv e; obtain ⟨rfl, ez⟩ := sE_inv e1; exact gm_fewer (e_X5_isFull_46 E  y0 h ez) mem_nil) k0_ok) (fI0_ok E) (fV0_ok E) (fL0_ok E) (rtZ_ok rfl)
def I_X5_isFull_32 : List AI := [(.aload_n 0, 1, [], 0), (.getfield 117, 3, [5, 2, 0, 217], 0), (.bipush 16, 2, [], 16), (.if_icmp .lt 7, 3, [45], 0), (.iconst 1, 1, [], 1), (.goto 4, 3, [46], 0)]
theorem ok_X5_isFull_32 : vBL MT qLen qCh false q_X5_isFull.2.2.2.2.1 q_X5_isFull.2.2.2.2.2.1 q_X5_isFull.2.2.1 q_X5_isFull.1.cls q_X5_isFull.1.name q_X5_isFull.2.1 0 32 I_X5_isFull_32 = true := by decide +kernel
def p_X5_isFull_32 (a0 : Nat) (h : AH) : Option (Int32 × AH) :=
  if (tg h a0).1 = 5 then (if (rI h a0 2) < ((16 : Int32)) then (p_X5_isFull_46 ((0 : Int32)) h)
  else
  p_X5_isFull_46 ((1 : Int32)) h) else none
set_option maxRecDepth 100000 in
theorem e_X5_isFull_32 {l : Launch} {D : va_G} {dA : Nat → ClassId} {z : Nat} {sa : Nat → Nat} {Hz : Heap} (E : StrOK qLen qCh l D dA z sa Hz) {h0 fin : AH} {x : Int32}  : ∀ (a0 : Nat) (h : AH), p_X5_isFull_32 a0 h = some (x, fin) → GM l D dA z sa Hz q_X5_isFull h0 (some (.int x)) fin 32 [(0, .ref a0)] [] h := by
  intro a0 h hd
  exact step E (is := I_X5_isFull_32) (pc := 32) (K := (kx 45 (fun la st h => sE st (p_X5_isFull_45 h)) (kx 46 (fun la st h => sI st fun y0 st => sE st (p_X5_isFull_46 y0 h)) k0))) (FI := fI0) (FV := fV0) (FL := fL0) (rt := rtZ) (ft := 0) (by exact hd) ok_X5_isFull_32 (kx_ok (fun la st h e => by obtain ⟨rfl, ez⟩ := sE_inv e; exact gm_fewer (e_X5_isFull_45 E   h ez) mem_nil) (kx_ok (fun la st h e => by obtain ⟨y0, _, rfl, e1⟩ := sI_inv e; obtain ⟨rfl, ez⟩ := sE_inv e1; exact gm_fewer (e_X5_isFull_46 E  y0 h ez) mem_nil) k0_ok)) (fI0_ok E) (fV0_ok E) (fL0_ok E) (rtZ_ok rfl)
def I_X5_isFull_61 : List AI := [(.ireturn, 1, [], 0)]
theorem ok_X5_isFull_61 : vBL MT qLen qCh false q_X5_isFull.2.2.2.2.1 q_X5_isFull.2.2.2.2.2.1 q_X5_isFull.2.2.1 q_X5_isFull.1.cls q_X5_isFull.1.name q_X5_isFull.2.1 0 61 I_X5_isFull_61 = true := by decide +kernel
def p_X5_isFull_61 (y0 : Int32) (h : AH) : Option (Int32 × AH) :=
  if y0 &&& 1 = y0 then some (y0, h) else none
set_option maxRecDepth 100000 in
theorem e_X5_isFull_61 {l : Launch} {D : va_G} {dA : Nat → ClassId} {z : Nat} {sa : Nat → Nat} {Hz : Heap} (E : StrOK qLen qCh l D dA z sa Hz) {h0 fin : AH} {x : Int32}  : ∀ (y0 : Int32) (h : AH), p_X5_isFull_61 y0 h = some (x, fin) → GM l D dA z sa Hz q_X5_isFull h0 (some (.int x)) fin 61 [] [.int y0] h := by
  intro y0 h hd
  exact step E (is := I_X5_isFull_61) (pc := 61) (K := k0) (FI := fI0) (FV := fV0) (FL := fL0) (rt := rtZ) (ft := 0) (by exact hd) ok_X5_isFull_61 k0_ok (fI0_ok E) (fV0_ok E) (fL0_ok E) (rtZ_ok rfl)
def I_X5_isFull_60 : List AI := [(.iconst 0, 1, [], 0)]
theorem ok_X5_isFull_60 : vBL MT qLen qCh false q_X5_isFull.2.2.2.2.1 q_X5_isFull.2.2.2.2.2.1 q_X5_isFull.2.2.1 q_X5_isFull.1.cls q_X5_isFull.1.name q_X5_isFull.2.1 61 60 I_X5_isFull_60 = true := by decide +kernel
def p_X5_isFull_60 (h : AH) : Option (Int32 × AH) :=
  p_X5_isFull_61 ((0 : Int32)) h
set_option maxRecDepth 100000 in
theorem e_X5_isFull_60 {l : Launch} {D : va_G} {dA : Nat → ClassId} {z : Nat} {sa : Nat → Nat} {Hz : Heap} (E : StrOK qLen qCh l D dA z sa Hz) {h0 fin : AH} {x : Int32}  : ∀  (h : AH), p_X5_isFull_60 h = some (x, fin) → GM l D dA z sa Hz q_X5_isFull h0 (some (.int x)) fin 60 [] [] h := by
  intro h hd
  exact step E (is := I_X5_isFull_60) (pc := 60) (K := (kx 61 (fun la st h => sI st fun y0 st => sE st (p_X5_isFull_61 y0 h)) k0)) (FI := fI0) (FV := fV0) (FL := fL0) (rt := rtZ) (ft := 61) (by exact hd) ok_X5_isFull_60 (kx_ok (fun la st h e => by obtain ⟨y0, _, rfl, e1⟩ := sI_inv e; obtain ⟨rfl, ez⟩ := sE_inv e1; exact gm_fewer (e_X5_isFull_61 E  y0 h ez) mem_nil) k0_ok) (fI0_ok E) (fV0_ok E) (fL0_ok E) (rtZ_ok rfl)
def I_X5_isFull_47 : List AI := [(.aload_n 0, 1, [], 0), (.getfield 120, 3, [5, 4, 0, 220], 0), (.bipush 24, 2, [], 24), (.if_icmp .lt 7, 3, [60], 0), (.iconst 1, 1, [], 1), (.goto 4, 3, [61], 0)]
theorem ok_X5_isFull_47 : vBL MT qLen qCh false q_X5_isFull.2.2.2.2.1 q_X5_isFull.2.2.2.2.2.1 q_X5_isFull.2.2.1 q_X5_isFull.1.cls q_X5_isFull.1.name q_X5_isFull.2.1 0 47 I_X5_isFull_47 = true := by decide +kernel
def p_X5_isFull_47 (a0 : Nat) (h : AH) : Option (Int32 × AH) :=
  if (tg h a0).1 = 5 then (if (rI h a0 4) < ((24 : Int32)) then (p_X5_isFull_61 ((0 : Int32)) h)
  else
  p_X5_isFull_61 ((1 : Int32)) h) else none
set_option maxRecDepth 100000 in
theorem e_X5_isFull_47 {l : Launch} {D : va_G} {dA : Nat → ClassId} {z : Nat} {sa : Nat → Nat} {Hz : Heap} (E : StrOK qLen qCh l D dA z sa Hz) {h0 fin : AH} {x : Int32}  : ∀ (a0 : Nat) (h : AH), p_X5_isFull_47 a0 h = some (x, fin) → GM l D dA z sa Hz q_X5_isFull h0 (some (.int x)) fin 47 [(0, .ref a0)] [] h := by
  intro a0 h hd
  exact step E (is := I_X5_isFull_47) (pc := 47) (K := (kx 60 (fun la st h => sE st (p_X5_isFull_60 h)) (kx 61 (fun la st h => sI st fun y0 st => sE st (p_X5_isFull_61 y0 h)) k0))) (FI := fI0) (FV := fV0) (FL := fL0) (rt := rtZ) (ft := 0) (by exact hd) ok_X5_isFull_47 (kx_ok (fun la st h e => by obtain ⟨rfl, ez⟩ := sE_inv e; exact gm_fewer (e_X5_isFull_60 E   h ez) mem_nil) (kx_ok (fun la st h e => by obtain ⟨y0, _, rfl, e1⟩ := sI_inv e; obtain ⟨rfl, ez⟩ := sE_inv e1; exact gm_fewer (e_X5_isFull_61 E  y0 h ez) mem_nil) k0_ok)) (fI0_ok E) (fV0_ok E) (fL0_ok E) (rtZ_ok rfl)
def I_X5_isFull_76 : List AI := [(.ireturn, 1, [], 0)]
theorem ok_X5_isFull_76 : vBL MT qLen qCh false q_X5_isFull.2.2.2.2.1 q_X5_isFull.2.2.2.2.2.1 q_X5_isFull.2.2.1 q_X5_isFull.1.cls q_X5_isFull.1.name q_X5_isFull.2.1 0 76 I_X5_isFull_76 = true := by decide +kernel
def p_X5_isFull_76 (y0 : Int32) (h : AH) : Option (Int32 × AH) :=
  if y0 &&& 1 = y0 then some (y0, h) else none
set_option maxRecDepth 100000 in
theorem e_X5_isFull_76 {l : Launch} {D : va_G} {dA : Nat → ClassId} {z : Nat} {sa : Nat → Nat} {Hz : Heap} (E : StrOK qLen qCh l D dA z sa Hz) {h0 fin : AH} {x : Int32}  : ∀ (y0 : Int32) (h : AH), p_X5_isFull_76 y0 h = some (x, fin) → GM l D dA z sa Hz q_X5_isFull h0 (some (.int x)) fin 76 [] [.int y0] h := by
  intro y0 h hd
  exact step E (is := I_X5_isFull_76) (pc := 76) (K := k0) (FI := fI0) (FV := fV0) (FL := fL0) (rt := rtZ) (ft := 0) (by exact hd) ok_X5_isFull_76 k0_ok (fI0_ok E) (fV0_ok E) (fL0_ok E) (rtZ_ok rfl)
def I_X5_isFull_75 : List AI := [(.iconst 0, 1, [], 0)]
theorem ok_X5_isFull_75 : vBL MT qLen qCh false q_X5_isFull.2.2.2.2.1 q_X5_isFull.2.2.2.2.2.1 q_X5_isFull.2.2.1 q_X5_isFull.1.cls q_X5_isFull.1.name q_X5_isFull.2.1 76 75 I_X5_isFull_75 = true := by decide +kernel
def p_X5_isFull_75 (h : AH) : Option (Int32 × AH) :=
  p_X5_isFull_76 ((0 : Int32)) h
set_option maxRecDepth 100000 in
theorem e_X5_isFull_75 {l : Launch} {D : va_G} {dA : Nat → ClassId} {z : Nat} {sa : Nat → Nat} {Hz : Heap} (E : StrOK qLen qCh l D dA z sa Hz) {h0 fin : AH} {x : Int32}  : ∀  (h : AH), p_X5_isFull_75 h = some (x, fin) → GM l D dA z sa Hz q_X5_isFull h0 (some (.int x)) fin 75 [] [] h := by
  intro h hd
  exact step E (is := I_X5_isFull_75) (pc := 75) (K := (kx 76 (fun la st h => sI st fun y0 st => sE st (p_X5_isFull_76 y0 h)) k0)) (FI := fI0) (FV := fV0) (FL := fL0) (rt := rtZ) (ft := 76) (by exact hd) ok_X5_isFull_75 (kx_ok (fun la st h e => by obtain ⟨y0, _, rfl, e1⟩ := sI_inv e; obtain ⟨rfl, ez⟩ := sE_inv e1; exact gm_fewer (e_X5_isFull_76 E  y0 h ez) mem_nil) k0_ok) (fI0_ok E) (fV0_ok E) (fL0_ok E) (rtZ_ok rfl)
def I_X5_isFull_62 : List AI := [(.aload_n 0, 1, [], 0), (.getfield 123, 3, [5, 6, 0, 225], 0), (.bipush 10, 2, [], 10), (.if_icmp .lt 7, 3, [75], 0), (.iconst 1, 1, [], 1), (.goto 4, 3, [76], 0)]
theorem ok_X5_isFull_62 : vBL MT qLen qCh false q_X5_isFull.2.2.2.2.1 q_X5_isFull.2.2.2.2.2.1 q_X5_isFull.2.2.1 q_X5_isFull.1.cls q_X5_isFull.1.name q_X5_isFull.2.1 0 62 I_X5_isFull_62 = true := by decide +kernel
def p_X5_isFull_62 (a0 : Nat) (h : AH) : Option (Int32 × AH) :=
  if (tg h a0).1 = 5 then (if (rI h a0 6) < ((10 : Int32)) then (p_X5_isFull_76 ((0 : Int32)) h)
  else
  p_X5_isFull_76 ((1 : Int32)) h) else none
set_option maxRecDepth 100000 in
theorem e_X5_isFull_62 {l : Launch} {D : va_G} {dA : Nat → ClassId} {z : Nat} {sa : Nat → Nat} {Hz : Heap} (E : StrOK qLen qCh l D dA z sa Hz) {h0 fin : AH} {x : Int32}  : ∀ (a0 : Nat) (h : AH), p_X5_isFull_62 a0 h = some (x, fin) → GM l D dA z sa Hz q_X5_isFull h0 (some (.int x)) fin 62 [(0, .ref a0)] [] h := by
  intro a0 h hd
  exact step E (is := I_X5_isFull_62) (pc := 62) (K := (kx 75 (fun la st h => sE st (p_X5_isFull_75 h)) (kx 76 (fun la st h => sI st fun y0 st => sE st (p_X5_isFull_76 y0 h)) k0))) (FI := fI0) (FV := fV0) (FL := fL0) (rt := rtZ) (ft := 0) (by exact hd) ok_X5_isFull_62 (kx_ok (fun la st h e => by obtain ⟨rfl, ez⟩ := sE_inv e; exact gm_fewer (e_X5_isFull_75 E   h ez) mem_nil) (kx_ok (fun la st h e => by obtain ⟨y0, _, rfl, e1⟩ := sI_inv e; obtain ⟨rfl, ez⟩ := sE_inv e1; exact gm_fewer (e_X5_isFull_76 E  y0 h ez) mem_nil) k0_ok)) (fI0_ok E) (fV0_ok E) (fL0_ok E) (rtZ_ok rfl)
def I_X5_isFull_90 : List AI := [(.ireturn, 1, [], 0)]
theorem ok_X5_isFull_90 : vBL MT qLen qCh false q_X5_isFull.2.2.2.2.1 q_X5_isFull.2.2.2.2.2.1 q_X5_isFull.2.2.1 q_X5_isFull.1.cls q_X5_isFull.1.name q_X5_isFull.2.1 0 90 I_X5_isFull_90 = true := by decide +kernel
def p_X5_isFull_90 (y0 : Int32) (h : AH) : Option (Int32 × AH) :=
  if y0 &&& 1 = y0 then some (y0, h) else none
set_option maxRecDepth 100000 in
theorem e_X5_isFull_90 {l : Launch} {D : va_G} {dA : Nat → ClassId} {z : Nat} {sa : Nat → Nat} {Hz : Heap} (E : StrOK qLen qCh l D dA z sa Hz) {h0 fin : AH} {x : Int32}  : ∀ (y0 : Int32) (h : AH), p_X5_isFull_90 y0 h = some (x, fin) → GM l D dA z sa Hz q_X5_isFull h0 (some (.int x)) fin 90 [] [.int y0] h := by
  intro y0 h hd
  exact step E (is := I_X5_isFull_90) (pc := 90) (K := k0) (FI := fI0) (FV := fV0) (FL := fL0) (rt := rtZ) (ft := 0) (by exact hd) ok_X5_isFull_90 k0_ok (fI0_ok E) (fV0_ok E) (fL0_ok E) (rtZ_ok rfl)
def I_X5_isFull_89 : List AI := [(.iconst 0, 1, [], 0)]
theorem ok_X5_isFull_89 : vBL MT qLen qCh false q_X5_isFull.2.2.2.2.1 q_X5_isFull.2.2.2.2.2.1 q_X5_isFull.2.2.1 q_X5_isFull.1.cls q_X5_isFull.1.name q_X5_isFull.2.1 90 89 I_X5_isFull_89 = true := by decide +kernel
def p_X5_isFull_89 (h : AH) : Option (Int32 × AH) :=
  p_X5_isFull_90 ((0 : Int32)) h
set_option maxRecDepth 100000 in
theorem e_X5_isFull_89 {l : Launch} {D : va_G} {dA : Nat → ClassId} {z : Nat} {sa : Nat → Nat} {Hz : Heap} (E : StrOK qLen qCh l D dA z sa Hz) {h0 fin : AH} {x : Int32}  : ∀  (h : AH), p_X5_isFull_89 h = some (x, fin) → GM l D dA z sa Hz q_X5_isFull h0 (some (.int x)) fin 89 [] [] h := by
  intro h hd
  exact step E (is := I_X5_isFull_89) (pc := 89) (K := (kx 90 (fun la st h => sI st fun y0 st => sE st (p_X5_isFull_90 y0 h)) k0)) (FI := fI0) (FV := fV0) (FL := fL0) (rt := rtZ) (ft := 90) (by exact hd) ok_X5_isFull_89 (kx_ok (fun la st h e => by obtain ⟨y0, _, rfl, e1⟩ := sI_inv e; obtain ⟨rfl, ez⟩ := sE_inv e1; exact gm_fewer (e_X5_isFull_90 E  y0 h ez) mem_nil) k0_ok) (fI0_ok E) (fV0_ok E) (fL0_ok E) (rtZ_ok rfl)
def I_X5_isFull_77 : List AI := [(.aload_n 0, 1, [], 0), (.getfield 126, 3, [5, 9, 0, 230], 0), (.iconst 4, 1, [], 4), (.if_icmp .lt 7, 3, [89], 0), (.iconst 1, 1, [], 1), (.goto 4, 3, [90], 0)]
theorem ok_X5_isFull_77 : vBL MT qLen qCh false q_X5_isFull.2.2.2.2.1 q_X5_isFull.2.2.2.2.2.1 q_X5_isFull.2.2.1 q_X5_isFull.1.cls q_X5_isFull.1.name q_X5_isFull.2.1 0 77 I_X5_isFull_77 = true := by decide +kernel
def p_X5_isFull_77 (a0 : Nat) (h : AH) : Option (Int32 × AH) :=
  if (tg h a0).1 = 5 then (if (rI h a0 9) < ((4 : Int32)) then (p_X5_isFull_90 ((0 : Int32)) h)
  else
  p_X5_isFull_90 ((1 : Int32)) h) else none
set_option maxRecDepth 100000 in
theorem e_X5_isFull_77 {l : Launch} {D : va_G} {dA : Nat → ClassId} {z : Nat} {sa : Nat → Nat} {Hz : Heap} (E : StrOK qLen qCh l D dA z sa Hz) {h0 fin : AH} {x : Int32}  : ∀ (a0 : Nat) (h : AH), p_X5_isFull_77 a0 h = some (x, fin) → GM l D dA z sa Hz q_X5_isFull h0 (some (.int x)) fin 77 [(0, .ref a0)] [] h := by
  intro a0 h hd
  exact step E (is := I_X5_isFull_77) (pc := 77) (K := (kx 89 (fun la st h => sE st (p_X5_isFull_89 h)) (kx 90 (fun la st h => sI st fun y0 st => sE st (p_X5_isFull_90 y0 h)) k0))) (FI := fI0) (FV := fV0) (FL := fL0) (rt := rtZ) (ft := 0) (by exact hd) ok_X5_isFull_77 (kx_ok (fun la st h e => by obtain ⟨rfl, ez⟩ := sE_inv e; exact gm_fewer (e_X5_isFull_89 E   h ez) mem_nil) (kx_ok (fun la st h e => by obtain ⟨y0, _, rfl, e1⟩ := sI_inv e; obtain ⟨rfl, ez⟩ := sE_inv e1; exact gm_fewer (e_X5_isFull_90 E  y0 h ez) mem_nil) k0_ok)) (fI0_ok E) (fV0_ok E) (fL0_ok E) (rtZ_ok rfl)
def I_X5_isFull_0 : List AI := [(.iload_n 1, 1, [], 0), (.tableswitch 90 1 4 #[31, 46, 61, 76], 31, [91, 32, 47, 62, 77], 0)]
theorem ok_X5_isFull_0 : vBL MT qLen qCh false q_X5_isFull.2.2.2.2.1 q_X5_isFull.2.2.2.2.2.1 q_X5_isFull.2.2.1 q_X5_isFull.1.cls q_X5_isFull.1.name q_X5_isFull.2.1 0 0 I_X5_isFull_0 = true := by decide +kernel
def p_X5_isFull (a0 : Nat) (x1 : Int32) (h : AH) : Option (Int32 × AH) :=
  if swT 1 4 [91, 32, 47, 62, 77] x1 = 91 then (if (tg h a0).1 = 5 then (if (rI h a0 12) < ((6 : Int32)) then (p_X5_isFull_105 ((0 : Int32)) h)
  else
  p_X5_isFull_105 ((1 : Int32)) h) else none)
  else
  if swT 1 4 [91, 32, 47, 62, 77] x1 = 32 then (if (tg h a0).1 = 5 then (if (rI h a0 2) < ((16 : Int32)) then (p_X5_isFull_46 ((0 : Int32)) h)
  else
  p_X5_isFull_46 ((1 : Int32)) h) else none)
  else
  if swT 1 4 [91, 32, 47, 62, 77] x1 = 47 then (if (tg h a0).1 = 5 then (if (rI h a0 4) < ((24 : Int32)) then (p_X5_isFull_61 ((0 : Int32)) h)
  else
  p_X5_isFull_61 ((1 : Int32)) h) else none)
  else
  if swT 1 4 [91, 32, 47, 62, 77] x1 = 62 then (if (tg h a0).1 = 5 then (if (rI h a0 6) < ((10 : Int32)) then (p_X5_isFull_76 ((0 : Int32)) h)
  else
  p_X5_isFull_76 ((1 : Int32)) h) else none)
  else
  if swT 1 4 [91, 32, 47, 62, 77] x1 = 77 then (if (tg h a0).1 = 5 then (if (rI h a0 9) < ((4 : Int32)) then (p_X5_isFull_90 ((0 : Int32)) h)
  else
  p_X5_isFull_90 ((1 : Int32)) h) else none)
  else
  none
set_option maxRecDepth 100000 in
theorem e_X5_isFull_0 {l : Launch} {D : va_G} {dA : Nat → ClassId} {z : Nat} {sa : Nat → Nat} {Hz : Heap} (E : StrOK qLen qCh l D dA z sa Hz) {h0 fin : AH} {x : Int32}  : ∀ (a0 : Nat) (x1 : Int32) (h : AH), p_X5_isFull a0 x1 h = some (x, fin) → GM l D dA z sa Hz q_X5_isFull h0 (some (.int x)) fin 0 [(0, .ref a0), (1, .int x1)] [] h := by
  intro a0 x1 h hd
  exact step E (is := I_X5_isFull_0) (pc := 0) (K := (kx 91 (fun la st h => gR la 0 fun a0 => sE st (p_X5_isFull_91 a0 h)) (kx 32 (fun la st h => gR la 0 fun a0 => sE st (p_X5_isFull_32 a0 h)) (kx 47 (fun la st h => gR la 0 fun a0 => sE st (p_X5_isFull_47 a0 h)) (kx 62 (fun la st h => gR la 0 fun a0 => sE st (p_X5_isFull_62 a0 h)) (kx 77 (fun la st h => gR la 0 fun a0 => sE st (p_X5_isFull_77 a0 h)) k0)))))) (FI := fI0) (FV := fV0) (FL := fL0) (rt := rtZ) (ft := 0) (by exact hd) ok_X5_isFull_0 (kx_ok (fun la st h e => by obtain ⟨a0, m_a0, e1⟩ := gR_inv e; obtain ⟨rfl, ez⟩ := sE_inv e1; exact gm_fewer (e_X5_isFull_91 E  a0 h ez) (mem_cons m_a0 mem_nil)) (kx_ok (fun la st h e => by obtain ⟨a0, m_a0, e1⟩ := gR_inv e; obtain ⟨rfl, ez⟩ := sE_inv e1; exact gm_fewer (e_X5_isFull_32 E  a0 h ez) (mem_cons m_a0 mem_nil)) (kx_ok (fun la st h e => by obtain ⟨a0, m_a0, e1⟩ := gR_inv e; obtain ⟨rfl, ez⟩ := sE_inv e1; exact gm_fewer (e_X5_isFull_47 E  a0 h ez) (mem_cons m_a0 mem_nil)) (kx_ok (fun la st h e => by obtain ⟨a0, m_a0, e1⟩ := gR_inv e; obtain ⟨rfl, ez⟩ := sE_inv e1; exact gm_fewer (e_X5_isFull_62 E  a0 h ez) (mem_cons m_a0 mem_nil)) (kx_ok (fun la st h e => by obtain ⟨a0, m_a0, e1⟩ := gR_inv e; obtain ⟨rfl, ez⟩ := sE_inv e1; exact gm_fewer (e_X5_isFull_77 E  a0 h ez) (mem_cons m_a0 mem_nil)) k0_ok))))) (fI0_ok E) (fV0_ok E) (fL0_ok E) (rtZ_ok rfl)
theorem c_X5_isFull {l : Launch} {D : va_G} {dA : Nat → ClassId} {z : Nat} {sa : Nat → Nat} {Hz : Heap} (E : StrOK qLen qCh l D dA z sa Hz) {a0 : Nat} {x1 : Int32} {h fin : AH} {x : Int32} (hd : p_X5_isFull a0 x1 h = some (x, fin)) : CalOK l D dA z sa Hz q_X5_isFull [.ref a0, .int x1] h (some (.int x)) fin := calOf (by decide +kernel) (Nat.le_of_ble_eq_true rfl) (e_X5_isFull_0 E a0 x1 h hd)
def I_X1_isBacked_17 : List AI := [(.ireturn, 1, [], 0)]
theorem ok_X1_isBacked_17 : vBL MT qLen qCh false q_X1_isBacked.2.2.2.2.1 q_X1_isBacked.2.2.2.2.2.1 q_X1_isBacked.2.2.1 q_X1_isBacked.1.cls q_X1_isBacked.1.name q_X1_isBacked.2.1 0 17 I_X1_isBacked_17 = true := by decide +kernel
def p_X1_isBacked_17 (y0 : Int32) (h : AH) : Option (Int32 × AH) :=
  if y0 &&& 1 = y0 then some (y0, h) else none
set_option maxRecDepth 100000 in
theorem e_X1_isBacked_17 {l : Launch} {D : va_G} {dA : Nat → ClassId} {z : Nat} {sa : Nat → Nat} {Hz : Heap} (E : StrOK qLen qCh l D dA z sa Hz) {h0 fin : AH} {x : Int32}  : ∀ (y0 : Int32) (h : AH), p_X1_isBacked_17 y0 h = some (x, fin) → GM l D dA z sa Hz q_X1_isBacked h0 (some (.int x)) fin 17 [] [.int y0] h := by
  intro y0 h hd
  exact step E (is := I_X1_isBacked_17) (pc := 17) (K := k0) (FI := fI0) (FV := fV0) (FL := fL0) (rt := rtZ) (ft := 0) (by exact hd) ok_X1_isBacked_17 k0_ok (fI0_ok E) (fV0_ok E) (fL0_ok E) (rtZ_ok rfl)
def I_X1_isBacked_16 : List AI := [(.iconst 0, 1, [], 0)]
theorem ok_X1_isBacked_16 : vBL MT qLen qCh false q_X1_isBacked.2.2.2.2.1 q_X1_isBacked.2.2.2.2.2.1 q_X1_isBacked.2.2.1 q_X1_isBacked.1.cls q_X1_isBacked.1.name q_X1_isBacked.2.1 17 16 I_X1_isBacked_16 = true := by decide +kernel
def p_X1_isBacked_16 (h : AH) : Option (Int32 × AH) :=
  p_X1_isBacked_17 ((0 : Int32)) h
set_option maxRecDepth 100000 in
theorem e_X1_isBacked_16 {l : Launch} {D : va_G} {dA : Nat → ClassId} {z : Nat} {sa : Nat → Nat} {Hz : Heap} (E : StrOK qLen qCh l D dA z sa Hz) {h0 fin : AH} {x : Int32}  : ∀  (h : AH), p_X1_isBacked_16 h = some (x, fin) → GM l D dA z sa Hz q_X1_isBacked h0 (some (.int x)) fin 16 [] [] h := by
  intro h hd
  exact step E (is := I_X1_isBacked_16) (pc := 16) (K := (kx 17 (fun la st h => sI st fun y0 st => sE st (p_X1_isBacked_17 y0 h)) k0)) (FI := fI0) (FV := fV0) (FL := fL0) (rt := rtZ) (ft := 17) (by exact hd) ok_X1_isBacked_16 (kx_ok (fun la st h e => by obtain ⟨y0, _, rfl, e1⟩ := sI_inv e; obtain ⟨rfl, ez⟩ := sE_inv e1; exact gm_fewer (e_X1_isBacked_17 E  y0 h ez) mem_nil) k0_ok) (fI0_ok E) (fV0_ok E) (fL0_ok E) (rtZ_ok rfl)
def I_X1_isBacked_0 : List AI := [(.aload_n 0, 1, [], 0), (.getfield 15, 3, [0, 1, 2, 190], 0), (.iload_n 1, 1, [], 0), (.bipush 15, 2, [], 15), (.iand, 1, [], 0), (.iaload, 1, [], 0), (.ifCond .lt 7, 3, [16], 0), (.iconst 1, 1, [], 1), (.goto 4, 3, [17], 0)]
theorem ok_X1_isBacked_0 : vBL MT qLen qCh false q_X1_isBacked.2.2.2.2.1 q_X1_isBacked.2.2.2.2.2.1 q_X1_isBacked.2.2.1 q_X1_isBacked.1.cls q_X1_isBacked.1.name q_X1_isBacked.2.1 0 0 I_X1_isBacked_0 = true := by decide +kernel
def p_X1_isBacked (a0 : Nat) (x1 : Int32) (h : AH) : Option (Int32 × AH) :=
  if (tg h a0).1 = 0 then (if inB h (rR h a0 1) 100 (x1 &&& ((15 : Int32))) then (if (rI h (rR h a0 1) (x1 &&& ((15 : Int32))).toNatClampNeg) < 0 then (p_X1_isBacked_17 ((0 : Int32)) h)
  else
  p_X1_isBacked_17 ((1 : Int32)) h) else none) else none
set_option maxRecDepth 100000 in
theorem e_X1_isBacked_0 {l : Launch} {D : va_G} {dA : Nat → ClassId} {z : Nat} {sa : Nat → Nat} {Hz : Heap} (E : StrOK qLen qCh l D dA z sa Hz) {h0 fin : AH} {x : Int32}  : ∀ (a0 : Nat) (x1 : Int32) (h : AH), p_X1_isBacked a0 x1 h = some (x, fin) → GM l D dA z sa Hz q_X1_isBacked h0 (some (.int x)) fin 0 [(0, .ref a0), (1, .int x1)] [] h := by
  intro a0 x1 h hd
  exact step E (is := I_X1_isBacked_0) (pc := 0) (K := (kx 16 (fun la st h => sE st (p_X1_isBacked_16 h)) (kx 17 (fun la st h => sI st fun y0 st => sE st (p_X1_isBacked_17 y0 h)) k0))) (FI := fI0) (FV := fV0) (FL := fL0) (rt := rtZ) (ft := 0) (by exact hd) ok_X1_isBacked_0 (kx_ok (fun la st h e => by obtain ⟨rfl, ez⟩ := sE_inv e; exact gm_fewer (e_X1_isBacked_16 E   h ez) mem_nil) (kx_ok (fun la st h e => by obtain ⟨y0, _, rfl, e1⟩ := sI_inv e; obtain ⟨rfl, ez⟩ := sE_inv e1; exact gm_fewer (e_X1_isBacked_17 E  y0 h ez) mem_nil) k0_ok)) (fI0_ok E) (fV0_ok E) (fL0_ok E) (rtZ_ok rfl)
theorem c_X1_isBacked {l : Launch} {D : va_G} {dA : Nat → ClassId} {z : Nat} {sa : Nat → Nat} {Hz : Heap} (E : StrOK qLen qCh l D dA z sa Hz) {a0 : Nat} {x1 : Int32} {h fin : AH} {x : Int32} (hd : p_X1_isBacked a0 x1 h = some (x, fin)) : CalOK l D dA z sa Hz q_X1_isBacked [.ref a0, .int x1] h (some (.int x)) fin := calOf (by decide +kernel) (Nat.le_of_ble_eq_true rfl) (e_X1_isBacked_0 E a0 x1 h hd)
def I_X1_isTaken_26 : List AI := [(.iconst 0, 1, [], 0), (.ireturn, 1, [], 0)]
theorem ok_X1_isTaken_26 : vBL MT qLen qCh false q_X1_isTaken.2.2.2.2.1 q_X1_isTaken.2.2.2.2.2.1 q_X1_isTaken.2.2.1 q_X1_isTaken.1.cls q_X1_isTaken.1.name q_X1_isTaken.2.1 0 26 I_X1_isTaken_26 = true := by decide +kernel
def p_X1_isTaken_26 (h : AH) : Option (Int32 × AH) :=
  if ((0 : Int32)) &&& 1 = ((0 : Int32)) then some (((0 : Int32)), h) else none
set_option maxRecDepth 100000 in
theorem e_X1_isTaken_26 {l : Launch} {D : va_G} {dA : Nat → ClassId} {z : Nat} {sa : Nat → Nat} {Hz : Heap} (E : StrOK qLen qCh l D dA z sa Hz) {h0 fin : AH} {x : Int32}  : ∀  (h : AH), p_X1_isTaken_26 h = some (x, fin) → GM l D dA z sa Hz q_X1_isTaken h0 (some (.int x)) fin 26 [] [] h := by
  intro h hd
  exact step E (is := I_X1_isTaken_26) (pc := 26) (K := k0) (FI := fI0) (FV := fV0) (FL := fL0) (rt := rtZ) (ft := 0) (by exact hd) ok_X1_isTaken_26 k0_ok (fI0_ok E) (fV0_ok E) (fL0_ok E) (rtZ_ok rfl)
def I_X1_isTaken_20 : List AI := [(.iinc 2 1, 3, [], 1), (.goto (-21), 3, [2], 0)]
theorem ok_X1_isTaken_20 : vBL MT qLen qCh false q_X1_isTaken.2.2.2.2.1 q_X1_isTaken.2.2.2.2.2.1 q_X1_isTaken.2.2.1 q_X1_isTaken.1.cls q_X1_isTaken.1.name q_X1_isTaken.2.1 0 20 I_X1_isTaken_20 = true := by decide +kernel
def p_X1_isTaken_20 (k2 : Nat → Int32 → Int32 → AH → Option (Int32 × AH)) (a0 : Nat) (x1 : Int32) (x2 : Int32) (h : AH) : Option (Int32 × AH) :=
  k2 a0 x1 (x2 + (1 : Int32)) h
set_option maxRecDepth 100000 in
theorem e_X1_isTaken_20 {l : Launch} {D : va_G} {dA : Nat → ClassId} {z : Nat} {sa : Nat → Nat} {Hz : Heap} (E : StrOK qLen qCh l D dA z sa Hz) {h0 fin : AH} {x : Int32}  {k2 : Nat → Int32 → Int32 → AH → Option (Int32 × AH)} (hk2 : ∀ (a0 : Nat) (x1 : Int32) (x2 : Int32) (h : AH), k2 a0 x1 x2 h = some (x, fin) → GM l D dA z sa Hz q_X1_isTaken h0 (some (.int x)) fin 2 [(0, .ref a0), (1, .int x1), (2, .int x2)] [] h) : ∀ (a0 : Nat) (x1 : Int32) (x2 : Int32) (h : AH), p_X1_isTaken_20 k2 a0 x1 x2 h = some (x, fin) → GM l D dA z sa Hz q_X1_isTaken h0 (some (.int x)) fin 20 [(0, .ref a0), (1, .int x1), (2, .int x2)] [] h := by
  intro a0 x1 x2 h hd
  exact step E (is := I_X1_isTaken_20) (pc := 20) (K := (kx 2 (fun la st h => gR la 0 fun a0 => gI la 1 fun x1 => gI la 2 fun x2 => sE st (k2 a0 x1 x2 h)) k0)) (FI := fI0) (FV := fV0) (FL := fL0) (rt := rtZ) (ft := 0) (by exact hd) ok_X1_isTaken_20 (kx_ok (fun la st h e => by obtain ⟨a0, m_a0, e1⟩ := gR_inv e; obtain ⟨x1, m_x1, e2⟩ := gI_inv e1; obtain ⟨x2, m_x2, e3⟩ := gI_inv e2; obtain ⟨rfl, ez⟩ := sE_inv e3; exact gm_fewer (hk2 a0 x1 x2 h ez) (mem_cons m_a0 (mem_cons m_x1 (mem_cons m_x2 mem_nil)))) k0_ok) (fI0_ok E) (fV0_ok E) (fL0_ok E) (rtZ_ok rfl)
def I_X1_isTaken_2 : List AI := [(.iload_n 2, 1, [], 0), (.bipush 16, 2, [], 16), (.if_icmp .ge 21, 3, [26], 0), (.aload_n 0, 1, [], 0), (.getfield 15, 3, [0, 1, 2, 190], 0), (.iload_n 2, 1, [], 0), (.iaload, 1, [], 0), (.iload_n 1, 1, [], 0), (.if_icmp .ne 5, 3, [20], 0), (.iconst 1, 1, [], 1), (.ireturn, 1, [], 0)]
theorem ok_X1_isTaken_2 : vBL MT qLen qCh false q_X1_isTaken.2.2.2.2.1 q_X1_isTaken.2.2.2.2.2.1 q_X1_isTaken.2.2.1 q_X1_isTaken.1.cls q_X1_isTaken.1.name q_X1_isTaken.2.1 0 2 I_X1_isTaken_2 = true := by decide +kernel
def p_X1_isTaken_2 : Nat → Nat → Int32 → Int32 → AH → Option (Int32 × AH)
  | 0, _, _, _, _ => none
  | n + 1, a0, x1, x2, h => if x2 < ((16 : Int32)) then (if (tg h a0).1 = 0 then (if inB h (rR h a0 1) 100 x2 then (if (rI h (rR h a0 1) x2.toNatClampNeg) = x1 then (if ((1 : Int32)) &&& 1 = ((1 : Int32)) then some (((1 : Int32)), h) else none)
    else
    p_X1_isTaken_2 n a0 x1 (x2 + (1 : Int32)) h) else none) else none)
    else
    if ((0 : Int32)) &&& 1 = ((0 : Int32)) then some (((0 : Int32)), h) else none
set_option maxRecDepth 100000 in
theorem e_X1_isTaken_2 {l : Launch} {D : va_G} {dA : Nat → ClassId} {z : Nat} {sa : Nat → Nat} {Hz : Heap} (E : StrOK qLen qCh l D dA z sa Hz) {h0 fin : AH} {x : Int32}  : ∀ (n : Nat) (a0 : Nat) (x1 : Int32) (x2 : Int32) (h : AH), p_X1_isTaken_2 n a0 x1 x2 h = some (x, fin) → GM l D dA z sa Hz q_X1_isTaken h0 (some (.int x)) fin 2 [(0, .ref a0), (1, .int x1), (2, .int x2)] [] h := by
  intro n
  induction n with
  | zero => intro a0 x1 x2 h hd; exact nomatch hd
  | succ n ih =>
    intro a0 x1 x2 h hd
    exact step E (is := I_X1_isTaken_2) (pc := 2) (K := (kx 26 (fun la st h => sE st (p_X1_isTaken_26 h)) (kx 20 (fun la st h => gR la 0 fun a0 => gI la 1 fun x1 => gI la 2 fun x2 => sE st (p_X1_isTaken_20 (p_X1_isTaken_2 n) a0 x1 x2 h)) k0))) (FI := fI0) (FV := fV0) (FL := fL0) (rt := rtZ) (ft := 0) (by exact hd) ok_X1_isTaken_2 (kx_ok (fun la st h e => by obtain ⟨rfl, ez⟩ := sE_inv e; exact gm_fewer (e_X1_isTaken_26 E   h ez) mem_nil) (kx_ok (fun la st h e => by obtain ⟨a0, m_a0, e1⟩ := gR_inv e; obtain ⟨x1, m_x1, e2⟩ := gI_inv e1; obtain ⟨x2, m_x2, e3⟩ := gI_inv e2; obtain ⟨rfl, ez⟩ := sE_inv e3; exact gm_fewer (e_X1_isTaken_20 E ih a0 x1 x2 h ez) (mem_cons m_a0 (mem_cons m_x1 (mem_cons m_x2 mem_nil)))) k0_ok)) (fI0_ok E) (fV0_ok E) (fL0_ok E) (rtZ_ok rfl)
def I_X1_isTaken_0 : List AI := [(.iconst 0, 1, [], 0), (.istore_n 2, 1, [], 0)]
theorem ok_X1_isTaken_0 : vBL MT qLen qCh false q_X1_isTaken.2.2.2.2.1 q_X1_isTaken.2.2.2.2.2.1 q_X1_isTaken.2.2.1 q_X1_isTaken.1.cls q_X1_isTaken.1.name q_X1_isTaken.2.1 2 0 I_X1_isTaken_0 = true := by decide +kernel
def p_X1_isTaken (a0 : Nat) (x1 : Int32) (h : AH) : Option (Int32 × AH) :=
  p_X1_isTaken_2 FU a0 x1 ((0 : Int32)) h
set_option maxRecDepth 100000 in
theorem e_X1_isTaken_0 {l : Launch} {D : va_G} {dA : Nat → ClassId} {z : Nat} {sa : Nat → Nat} {Hz : Heap} (E : StrOK qLen qCh l D dA z sa Hz) {h0 fin : AH} {x : Int32}  : ∀ (a0 : Nat) (x1 : Int32) (h : AH), p_X1_isTaken a0 x1 h = some (x, fin) → GM l D dA z sa Hz q_X1_isTaken h0 (some (.int x)) fin 0 [(0, .ref a0), (1, .int x1)] [] h := by
  intro a0 x1 h hd
  exact step E (is := I_X1_isTaken_0) (pc := 0) (K := (kx 2 (fun la st h => gR la 0 fun a0 => gI la 1 fun x1 => gI la 2 fun x2 => sE st (p_X1_isTaken_2 FU a0 x1 x2 h)) k0)) (FI := fI0) (FV := fV0) (FL := fL0) (rt := rtZ) (ft := 2) (by exact hd) ok_X1_isTaken_0 (kx_ok (fun la st h e => by obtain ⟨a0, m_a0, e1⟩ := gR_inv e; obtain ⟨x1, m_x1, e2⟩ := gI_inv e1; obtain ⟨x2, m_x2, e3⟩ := gI_inv e2; obtain ⟨rfl, ez⟩ := sE_inv e3; exact gm_fewer (e_X1_isTaken_2 E  FU a0 x1 x2 h ez) (mem_cons m_a0 (mem_cons m_x1 (mem_cons m_x2 mem_nil)))) k0_ok) (fI0_ok E) (fV0_ok E) (fL0_ok E) (rtZ_ok rfl)
theorem c_X1_isTaken {l : Launch} {D : va_G} {dA : Nat → ClassId} {z : Nat} {sa : Nat → Nat} {Hz : Heap} (E : StrOK qLen qCh l D dA z sa Hz) {a0 : Nat} {x1 : Int32} {h fin : AH} {x : Int32} (hd : p_X1_isTaken a0 x1 h = some (x, fin)) : CalOK l D dA z sa Hz q_X1_isTaken [.ref a0, .int x1] h (some (.int x)) fin := calOf (by decide +kernel) (Nat.le_of_ble_eq_true rfl) (e_X1_isTaken_0 E a0 x1 h hd)
def I_X1_backWith_36 : List AI := [(.putfield 18, 3, [0, 2, 0, 191], 0), (.return_, 1, [], 0)]
theorem ok_X1_backWith_36 : vBL MT qLen qCh false q_X1_backWith.2.2.2.2.1 q_X1_backWith.2.2.2.2.2.1 q_X1_backWith.2.2.1 q_X1_backWith.1.cls q_X1_backWith.1.name q_X1_backWith.2.1 0 36 I_X1_backWith_36 = true := by decide +kernel
def p_X1_backWith_36 (y0 : Int32) (b1 : Nat) (h : AH) : Option (AH) :=
  if (tg h b1).1 = 0 then (let h101 := wI h b1 2 y0
  some h101) else none
set_option maxRecDepth 100000 in
theorem e_X1_backWith_36 {l : Launch} {D : va_G} {dA : Nat → ClassId} {z : Nat} {sa : Nat → Nat} {Hz : Heap} (E : StrOK qLen qCh l D dA z sa Hz) {h0 fin : AH}  : ∀ (y0 : Int32) (b1 : Nat) (h : AH), p_X1_backWith_36 y0 b1 h = some fin → GM l D dA z sa Hz q_X1_backWith h0 none fin 36 [] [.int y0, .ref b1] h := by
  intro y0 b1 h hd
  exact step E (is := I_X1_backWith_36) (pc := 36) (K := k0) (FI := fI0) (FV := fV0) (FL := fL0) (rt := rtV) (ft := 0) (by exact hd) ok_X1_backWith_36 k0_ok (fI0_ok E) (fV0_ok E) (fL0_ok E) (rtV_ok rfl)
def I_X1_backWith_26 : List AI := [(.aload_n 0, 1, [], 0), (.getfield 18, 3, [0, 2, 0, 191], 0), (.iconst 1, 1, [], 1), (.iload_n 1, 1, [], 0), (.ishl, 1, [], 0), (.iconst (-1), 1, [], (-1)), (.ixor, 1, [], 0), (.iand, 1, [], 0)]
theorem ok_X1_backWith_26 : vBL MT qLen qCh false q_X1_backWith.2.2.2.2.1 q_X1_backWith.2.2.2.2.2.1 q_X1_backWith.2.2.1 q_X1_backWith.1.cls q_X1_backWith.1.name q_X1_backWith.2.1 36 26 I_X1_backWith_26 = true := by decide +kernel
def p_X1_backWith_26 (a0 : Nat) (x1 : Int32) (b0 : Nat) (h : AH) : Option (AH) :=
  if (tg h a0).1 = 0 then (p_X1_backWith_36 ((rI h a0 2) &&& ((((1 : Int32)) <<< (x1 &&& 31)) ^^^ ((-1 : Int32)))) b0 h) else none
set_option maxRecDepth 100000 in
theorem e_X1_backWith_26 {l : Launch} {D : va_G} {dA : Nat → ClassId} {z : Nat} {sa : Nat → Nat} {Hz : Heap} (E : StrOK qLen qCh l D dA z sa Hz) {h0 fin : AH}  : ∀ (a0 : Nat) (x1 : Int32) (b0 : Nat) (h : AH), p_X1_backWith_26 a0 x1 b0 h = some fin → GM l D dA z sa Hz q_X1_backWith h0 none fin 26 [(0, .ref a0), (1, .int x1)] [.ref b0] h := by
  intro a0 x1 b0 h hd
  exact step E (is := I_X1_backWith_26) (pc := 26) (K := (kx 36 (fun la st h => sI st fun y0 st => sR st fun b1 st => sE st (p_X1_backWith_36 y0 b1 h)) k0)) (FI := fI0) (FV := fV0) (FL := fL0) (rt := rtV) (ft := 36) (by exact hd) ok_X1_backWith_26 (kx_ok (fun la st h e => by obtain ⟨y0, _, rfl, e1⟩ := sI_inv e; obtain ⟨b1, _, rfl, e2⟩ := sR_inv e1; obtain ⟨rfl, ez⟩ := sE_inv e2; exact gm_fewer (e_X1_backWith_36 E  y0 b1 h ez) mem_nil) k0_ok) (fI0_ok E) (fV0_ok E) (fL0_ok E) (rtV_ok rfl)
def I_X1_backWith_0 : List AI := [(.aload_n 0, 1, [], 0), (.getfield 15, 3, [0, 1, 2, 190], 0), (.iload_n 1, 1, [], 0), (.bipush 15, 2, [], 15), (.iand, 1, [], 0), (.iload_n 2, 1, [], 0), (.iastore, 1, [], 0), (.aload_n 0, 1, [], 0), (.iload_n 3, 1, [], 0), (.ifCond .eq 14, 3, [26], 0), (.aload_n 0, 1, [], 0), (.getfield 18, 3, [0, 2, 0, 191], 0), (.iconst 1, 1, [], 1), (.iload_n 1, 1, [], 0), (.ishl, 1, [], 0), (.ior, 1, [], 0), (.goto 13, 3, [36], 0)]
theorem ok_X1_backWith_0 : vBL MT qLen qCh false q_X1_backWith.2.2.2.2.1 q_X1_backWith.2.2.2.2.2.1 q_X1_backWith.2.2.1 q_X1_backWith.1.cls q_X1_backWith.1.name q_X1_backWith.2.1 0 0 I_X1_backWith_0 = true := by decide +kernel
def p_X1_backWith (a0 : Nat) (x1 : Int32) (x2 : Int32) (x3 : Int32) (h : AH) : Option (AH) :=
  if (tg h a0).1 = 0 then (if inB h (rR h a0 1) 100 (x1 &&& ((15 : Int32))) then (let h102 := wI h (rR h a0 1) (x1 &&& ((15 : Int32))).toNatClampNeg x2
  if x3 = 0 then (if (tg h102 a0).1 = 0 then (p_X1_backWith_36 ((rI h102 a0 2) &&& ((((1 : Int32)) <<< (x1 &&& 31)) ^^^ ((-1 : Int32)))) a0 h102) else none)
  else
  if (tg h102 a0).1 = 0 then (p_X1_backWith_36 ((rI h102 a0 2) ||| (((1 : Int32)) <<< (x1 &&& 31))) a0 h102) else none) else none) else none
set_option maxRecDepth 100000 in
theorem e_X1_backWith_0 {l : Launch} {D : va_G} {dA : Nat → ClassId} {z : Nat} {sa : Nat → Nat} {Hz : Heap} (E : StrOK qLen qCh l D dA z sa Hz) {h0 fin : AH}  : ∀ (a0 : Nat) (x1 : Int32) (x2 : Int32) (x3 : Int32) (h : AH), p_X1_backWith a0 x1 x2 x3 h = some fin → GM l D dA z sa Hz q_X1_backWith h0 none fin 0 [(0, .ref a0), (1, .int x1), (2, .int x2), (3, .int x3)] [] h := by
  intro a0 x1 x2 x3 h hd
  exact step E (is := I_X1_backWith_0) (pc := 0) (K := (kx 26 (fun la st h => gR la 0 fun a0 => gI la 1 fun x1 => sR st fun b0 st => sE st (p_X1_backWith_26 a0 x1 b0 h)) (kx 36 (fun la st h => sI st fun y0 st => sR st fun b1 st => sE st (p_X1_backWith_36 y0 b1 h)) k0))) (FI := fI0) (FV := fV0) (FL := fL0) (rt := rtV) (ft := 0) (by exact hd) ok_X1_backWith_0 (kx_ok (fun la st h e => by obtain ⟨a0, m_a0, e1⟩ := gR_inv e; obtain ⟨x1, m_x1, e2⟩ := gI_inv e1; obtain ⟨b0, _, rfl, e3⟩ := sR_inv e2; obtain ⟨rfl, ez⟩ := sE_inv e3; exact gm_fewer (e_X1_backWith_26 E  a0 x1 b0 h ez) (mem_cons m_a0 (mem_cons m_x1 mem_nil))) (kx_ok (fun la st h e => by obtain ⟨y0, _, rfl, e1⟩ := sI_inv e; obtain ⟨b1, _, rfl, e2⟩ := sR_inv e1; obtain ⟨rfl, ez⟩ := sE_inv e2; exact gm_fewer (e_X1_backWith_36 E  y0 b1 h ez) mem_nil) k0_ok)) (fI0_ok E) (fV0_ok E) (fL0_ok E) (rtV_ok rfl)
theorem c_X1_backWith {l : Launch} {D : va_G} {dA : Nat → ClassId} {z : Nat} {sa : Nat → Nat} {Hz : Heap} (E : StrOK qLen qCh l D dA z sa Hz) {a0 : Nat} {x1 : Int32} {x2 : Int32} {x3 : Int32} {h fin : AH} (hd : p_X1_backWith a0 x1 x2 x3 h = some fin) : CalOK l D dA z sa Hz q_X1_backWith [.ref a0, .int x1, .int x2, .int x3] h none fin := calOf (by decide +kernel) (Nat.le_of_ble_eq_true rfl) (e_X1_backWith_0 E a0 x1 x2 x3 h hd)
