/-! ===== methods 0 to 11 ===== -/
def I_X5_init_0 : List AI := [(.aload_n 0, 1, [], 0), (.invokespecial 3, 3, [0, 144], 0), (.aload_n 0, 1, [], 0), (.sipush 900, 3, [], 900), (.newarray .byte, 2, [101], 0), (.putfield 9, 3, [4, 0, 2, 145], 0), (.return_, 1, [], 0)]
theorem ok_X5_init_0 : vBL MT qLen qCh false q_X5_init.2.2.2.2.1 q_X5_init.2.2.2.2.2.1 q_X5_init.2.2.1 q_X5_init.1.cls q_X5_init.1.name q_X5_init.2.1 0 0 I_X5_init_0 = true := by decide +kernel
def p_X5_init (a0 : Nat) (h : AH) : Option (AH) :=
  if a0 = 0 then none else
  if ((900 : Int32)) < 0 ∨ 100000 < ((900 : Int32)).toNatClampNeg then none else
  let h101 := al h 101 ((900 : Int32)).toNatClampNeg
  if (tg h101 a0).1 = 4 then (let h102 := wR h101 a0 0 (nx h)
  some h102) else none
theorem e_X5_init_0 {l : Launch} {D : va_G} {dA : Nat → ClassId} {z : Nat} {sa : Nat → Nat} {Hz : Heap} (E : StrOK qLen qCh l D dA z sa Hz) {h0 fin : AH}  : ∀ (a0 : Nat) (h : AH), p_X5_init a0 h = some fin → GM l D dA z sa Hz q_X5_init h0 none fin 0 [(0, .ref a0)] [] h := by
  intro a0 h hd
  exact step E (is := I_X5_init_0) (pc := 0) (K := k0) (FI := fI0) (FV := fV0) (FL := fL0) (rt := rtV) (ft := 0) (by exact hd) ok_X5_init_0 k0_ok (fI0_ok E) (fV0_ok E) (fL0_ok E) (rtV_ok rfl)
theorem c_X5_init {l : Launch} {D : va_G} {dA : Nat → ClassId} {z : Nat} {sa : Nat → Nat} {Hz : Heap} (E : StrOK qLen qCh l D dA z sa Hz) {a0 : Nat} {h fin : AH} (hd : p_X5_init a0 h = some fin) : CalOK l D dA z sa Hz q_X5_init [.ref a0] h none fin := calOf (by decide +kernel) (Nat.le_of_ble_eq_true rfl) (e_X5_init_0 E a0 h hd)
def I_X1_init_0 : List AI := [(.aload_n 0, 1, [], 0), (.invokespecial 3, 3, [0, 188], 0), (.aload_n 0, 1, [], 0), (.sipush 128, 3, [], 128), (.newarray .int, 2, [100], 0), (.putfield 9, 3, [0, 0, 2, 189], 0), (.aload_n 0, 1, [], 0), (.bipush 16, 2, [], 16), (.newarray .int, 2, [100], 0), (.putfield 15, 3, [0, 1, 2, 190], 0), (.return_, 1, [], 0)]
theorem ok_X1_init_0 : vBL MT qLen qCh false q_X1_init.2.2.2.2.1 q_X1_init.2.2.2.2.2.1 q_X1_init.2.2.1 q_X1_init.1.cls q_X1_init.1.name q_X1_init.2.1 0 0 I_X1_init_0 = true := by decide +kernel
def p_X1_init (a0 : Nat) (h : AH) : Option (AH) :=
  if a0 = 0 then none else
  if ((128 : Int32)) < 0 ∨ 100000 < ((128 : Int32)).toNatClampNeg then none else
  let h101 := al h 100 ((128 : Int32)).toNatClampNeg
  if (tg h101 a0).1 = 0 then (let h102 := wR h101 a0 0 (nx h)
  if ((16 : Int32)) < 0 ∨ 100000 < ((16 : Int32)).toNatClampNeg then none else
  let h103 := al h102 100 ((16 : Int32)).toNatClampNeg
  if (tg h103 a0).1 = 0 then (let h104 := wR h103 a0 1 (nx h102)
  some h104) else none) else none
theorem e_X1_init_0 {l : Launch} {D : va_G} {dA : Nat → ClassId} {z : Nat} {sa : Nat → Nat} {Hz : Heap} (E : StrOK qLen qCh l D dA z sa Hz) {h0 fin : AH}  : ∀ (a0 : Nat) (h : AH), p_X1_init a0 h = some fin → GM l D dA z sa Hz q_X1_init h0 none fin 0 [(0, .ref a0)] [] h := by
  intro a0 h hd
  exact step E (is := I_X1_init_0) (pc := 0) (K := k0) (FI := fI0) (FV := fV0) (FL := fL0) (rt := rtV) (ft := 0) (by exact hd) ok_X1_init_0 k0_ok (fI0_ok E) (fV0_ok E) (fL0_ok E) (rtV_ok rfl)
theorem c_X1_init {l : Launch} {D : va_G} {dA : Nat → ClassId} {z : Nat} {sa : Nat → Nat} {Hz : Heap} (E : StrOK qLen qCh l D dA z sa Hz) {a0 : Nat} {h fin : AH} (hd : p_X1_init a0 h = some fin) : CalOK l D dA z sa Hz q_X1_init [.ref a0] h none fin := calOf (by decide +kernel) (Nat.le_of_ble_eq_true rfl) (e_X1_init_0 E a0 h hd)
def FV_X6_init : Nat → List Value → AH → Option (AH) := (cx 1 (fun As h => sR As fun a0 As => sE As (p_X1_init a0 h)) fV0)
theorem FV_X6_init_ok {l : Launch} {D : va_G} {dA : Nat → ClassId} {z : Nat} {sa : Nat → Nat} {Hz : Heap} (E : StrOK qLen qCh l D dA z sa Hz) : ∀ mi As h h', FV_X6_init mi As h = some h' → CalOK l D dA z sa Hz (MT mi) As h none h' := (cxV_ok (fun As h h2 e => by obtain ⟨_, _, rfl, e⟩ := sR_inv e; obtain ⟨rfl, e⟩ := sE_inv e; exact c_X1_init E e) (fV0_ok E))
def I_X6_init_0 : List AI := [(.aload_n 0, 1, [], 0), (.invokespecial 3, 3, [0, 182], 0), (.aload_n 0, 1, [], 0), (.new 9, 3, [0, 5, 183], 0), (.dup, 1, [], 0), (.invokespecial 11, 3, [2, 1, 1, 185], 0), (.putfield 12, 3, [5, 0, 2, 210], 0), (.aload_n 0, 1, [], 0), (.sipush 128, 3, [], 128), (.newarray .boolean, 2, [102], 0), (.putfield 18, 3, [5, 3, 2, 218], 0), (.aload_n 0, 1, [], 0), (.bipush 10, 2, [], 10), (.newarray .int, 2, [100], 0), (.putfield 22, 3, [5, 5, 2, 222], 0), (.aload_n 0, 1, [], 0), (.iconst 4, 1, [], 4), (.newarray .int, 2, [100], 0), (.putfield 26, 3, [5, 7, 2, 227], 0), (.aload_n 0, 1, [], 0), (.iconst 4, 1, [], 4), (.newarray .int, 2, [100], 0), (.putfield 29, 3, [5, 8, 2, 228], 0), (.aload_n 0, 1, [], 0), (.bipush 6, 2, [], 6), (.newarray .int, 2, [100], 0), (.putfield 32, 3, [5, 10, 2, 232], 0), (.aload_n 0, 1, [], 0), (.bipush 6, 2, [], 6), (.newarray .int, 2, [100], 0), (.putfield 35, 3, [5, 11, 2, 233], 0), (.return_, 1, [], 0)]
theorem ok_X6_init_0 : vBL MT qLen qCh false q_X6_init.2.2.2.2.1 q_X6_init.2.2.2.2.2.1 q_X6_init.2.2.1 q_X6_init.1.cls q_X6_init.1.name q_X6_init.2.1 0 0 I_X6_init_0 = true := by decide +kernel
def p_X6_init (a0 : Nat) (h : AH) : Option (AH) :=
  if a0 = 0 then none else
  let h101 := al h 0 5
  if (nx h) = 0 then none else
  (p_X1_init (nx h) h101).bind fun h102 =>
  if (tg h102 a0).1 = 5 then (let h103 := wR h102 a0 0 (nx h)
  if ((128 : Int32)) < 0 ∨ 100000 < ((128 : Int32)).toNatClampNeg then none else
  let h104 := al h103 102 ((128 : Int32)).toNatClampNeg
  if (tg h104 a0).1 = 5 then (let h105 := wR h104 a0 3 (nx h103)
  if ((10 : Int32)) < 0 ∨ 100000 < ((10 : Int32)).toNatClampNeg then none else
  let h106 := al h105 100 ((10 : Int32)).toNatClampNeg
  if (tg h106 a0).1 = 5 then (let h107 := wR h106 a0 5 (nx h105)
  if ((4 : Int32)) < 0 ∨ 100000 < ((4 : Int32)).toNatClampNeg then none else
  let h108 := al h107 100 ((4 : Int32)).toNatClampNeg
  if (tg h108 a0).1 = 5 then (let h109 := wR h108 a0 7 (nx h107)
  if ((4 : Int32)) < 0 ∨ 100000 < ((4 : Int32)).toNatClampNeg then none else
  let h110 := al h109 100 ((4 : Int32)).toNatClampNeg
  if (tg h110 a0).1 = 5 then (let h111 := wR h110 a0 8 (nx h109)
  if ((6 : Int32)) < 0 ∨ 100000 < ((6 : Int32)).toNatClampNeg then none else
  let h112 := al h111 100 ((6 : Int32)).toNatClampNeg
  if (tg h112 a0).1 = 5 then (let h113 := wR h112 a0 10 (nx h111)
  if ((6 : Int32)) < 0 ∨ 100000 < ((6 : Int32)).toNatClampNeg then none else
  let h114 := al h113 100 ((6 : Int32)).toNatClampNeg
  if (tg h114 a0).1 = 5 then (let h115 := wR h114 a0 11 (nx h113)
  some h115) else none) else none) else none) else none) else none) else none) else none
theorem e_X6_init_0 {l : Launch} {D : va_G} {dA : Nat → ClassId} {z : Nat} {sa : Nat → Nat} {Hz : Heap} (E : StrOK qLen qCh l D dA z sa Hz) {h0 fin : AH}  : ∀ (a0 : Nat) (h : AH), p_X6_init a0 h = some fin → GM l D dA z sa Hz q_X6_init h0 none fin 0 [(0, .ref a0)] [] h := by
  intro a0 h hd
  exact step E (is := I_X6_init_0) (pc := 0) (K := k0) (FI := fI0) (FV := FV_X6_init) (FL := fL0) (rt := rtV) (ft := 0) (by exact hd) ok_X6_init_0 k0_ok (fI0_ok E) (FV_X6_init_ok E) (fL0_ok E) (rtV_ok rfl)
theorem c_X6_init {l : Launch} {D : va_G} {dA : Nat → ClassId} {z : Nat} {sa : Nat → Nat} {Hz : Heap} (E : StrOK qLen qCh l D dA z sa Hz) {a0 : Nat} {h fin : AH} (hd : p_X6_init a0 h = some fin) : CalOK l D dA z sa Hz q_X6_init [.ref a0] h none fin := calOf (by decide +kernel) (Nat.le_of_ble_eq_true rfl) (e_X6_init_0 E a0 h hd)
def I_X3_init_0 : List AI := [(.aload_n 0, 1, [], 0), (.invokespecial 3, 3, [0, 284], 0), (.aload_n 0, 1, [], 0), (.bipush 8, 2, [], 8), (.newarray .int, 2, [100], 0), (.putfield 9, 3, [2, 0, 2, 285], 0), (.aload_n 0, 1, [], 0), (.bipush 8, 2, [], 8), (.newarray .int, 2, [100], 0), (.putfield 15, 3, [2, 1, 2, 286], 0), (.aload_n 0, 1, [], 0), (.bipush 8, 2, [], 8), (.newarray .int, 2, [100], 0), (.putfield 18, 3, [2, 2, 2, 287], 0), (.aload_n 0, 1, [], 0), (.bipush 64, 2, [], 64), (.newarray .int, 2, [100], 0), (.putfield 21, 3, [2, 3, 2, 288], 0), (.return_, 1, [], 0)]
theorem ok_X3_init_0 : vBL MT qLen qCh false q_X3_init.2.2.2.2.1 q_X3_init.2.2.2.2.2.1 q_X3_init.2.2.1 q_X3_init.1.cls q_X3_init.1.name q_X3_init.2.1 0 0 I_X3_init_0 = true := by decide +kernel
def p_X3_init (a0 : Nat) (h : AH) : Option (AH) :=
  if a0 = 0 then none else
  if ((8 : Int32)) < 0 ∨ 100000 < ((8 : Int32)).toNatClampNeg then none else
  let h101 := al h 100 ((8 : Int32)).toNatClampNeg
  if (tg h101 a0).1 = 2 then (let h102 := wR h101 a0 0 (nx h)
  if ((8 : Int32)) < 0 ∨ 100000 < ((8 : Int32)).toNatClampNeg then none else
  let h103 := al h102 100 ((8 : Int32)).toNatClampNeg
  if (tg h103 a0).1 = 2 then (let h104 := wR h103 a0 1 (nx h102)
  if ((8 : Int32)) < 0 ∨ 100000 < ((8 : Int32)).toNatClampNeg then none else
  let h105 := al h104 100 ((8 : Int32)).toNatClampNeg
  if (tg h105 a0).1 = 2 then (let h106 := wR h105 a0 2 (nx h104)
  if ((64 : Int32)) < 0 ∨ 100000 < ((64 : Int32)).toNatClampNeg then none else
  let h107 := al h106 100 ((64 : Int32)).toNatClampNeg
  if (tg h107 a0).1 = 2 then (let h108 := wR h107 a0 3 (nx h106)
  some h108) else none) else none) else none) else none
theorem e_X3_init_0 {l : Launch} {D : va_G} {dA : Nat → ClassId} {z : Nat} {sa : Nat → Nat} {Hz : Heap} (E : StrOK qLen qCh l D dA z sa Hz) {h0 fin : AH}  : ∀ (a0 : Nat) (h : AH), p_X3_init a0 h = some fin → GM l D dA z sa Hz q_X3_init h0 none fin 0 [(0, .ref a0)] [] h := by
  intro a0 h hd
  exact step E (is := I_X3_init_0) (pc := 0) (K := k0) (FI := fI0) (FV := fV0) (FL := fL0) (rt := rtV) (ft := 0) (by exact hd) ok_X3_init_0 k0_ok (fI0_ok E) (fV0_ok E) (fL0_ok E) (rtV_ok rfl)
theorem c_X3_init {l : Launch} {D : va_G} {dA : Nat → ClassId} {z : Nat} {sa : Nat → Nat} {Hz : Heap} (E : StrOK qLen qCh l D dA z sa Hz) {a0 : Nat} {h fin : AH} (hd : p_X3_init a0 h = some fin) : CalOK l D dA z sa Hz q_X3_init [.ref a0] h none fin := calOf (by decide +kernel) (Nat.le_of_ble_eq_true rfl) (e_X3_init_0 E a0 h hd)
def FV_X4_init : Nat → List Value → AH → Option (AH) := (cx 1 (fun As h => sR As fun a0 As => sE As (p_X1_init a0 h)) (cx 3 (fun As h => sR As fun a0 As => sE As (p_X3_init a0 h)) fV0))
theorem FV_X4_init_ok {l : Launch} {D : va_G} {dA : Nat → ClassId} {z : Nat} {sa : Nat → Nat} {Hz : Heap} (E : StrOK qLen qCh l D dA z sa Hz) : ∀ mi As h h', FV_X4_init mi As h = some h' → CalOK l D dA z sa Hz (MT mi) As h none h' := (cxV_ok (fun As h h2 e => by obtain ⟨_, _, rfl, e⟩ := sR_inv e; obtain ⟨rfl, e⟩ := sE_inv e; exact c_X1_init E e) ((cxV_ok (fun As h h2 e => by obtain ⟨_, _, rfl, e⟩ := sR_inv e; obtain ⟨rfl, e⟩ := sE_inv e; exact c_X3_init E e) (fV0_ok E))))
def I_X4_init_0 : List AI := [(.aload_n 0, 1, [], 0), (.invokespecial 1, 3, [0, 276], 0), (.aload_n 0, 1, [], 0), (.new 7, 3, [0, 5, 277], 0), (.dup, 1, [], 0), (.invokespecial 9, 3, [2, 1, 1, 278], 0), (.putfield 10, 3, [3, 0, 2, 309], 0), (.aload_n 0, 1, [], 0), (.new 16, 3, [2, 7, 279], 0), (.dup, 1, [], 0), (.invokespecial 18, 3, [2, 3, 1, 281], 0), (.putfield 19, 3, [3, 1, 2, 311], 0), (.return_, 1, [], 0)]
theorem ok_X4_init_0 : vBL MT qLen qCh false q_X4_init.2.2.2.2.1 q_X4_init.2.2.2.2.2.1 q_X4_init.2.2.1 q_X4_init.1.cls q_X4_init.1.name q_X4_init.2.1 0 0 I_X4_init_0 = true := by decide +kernel
def p_X4_init (a0 : Nat) (h : AH) : Option (AH) :=
  if a0 = 0 then none else
  let h101 := al h 0 5
  if (nx h) = 0 then none else
  (p_X1_init (nx h) h101).bind fun h102 =>
  if (tg h102 a0).1 = 3 then (let h103 := wR h102 a0 0 (nx h)
  let h104 := al h103 2 7
  if (nx h103) = 0 then none else
  (p_X3_init (nx h103) h104).bind fun h105 =>
  if (tg h105 a0).1 = 3 then (let h106 := wR h105 a0 1 (nx h103)
  some h106) else none) else none
theorem e_X4_init_0 {l : Launch} {D : va_G} {dA : Nat → ClassId} {z : Nat} {sa : Nat → Nat} {Hz : Heap} (E : StrOK qLen qCh l D dA z sa Hz) {h0 fin : AH}  : ∀ (a0 : Nat) (h : AH), p_X4_init a0 h = some fin → GM l D dA z sa Hz q_X4_init h0 none fin 0 [(0, .ref a0)] [] h := by
  intro a0 h hd
  exact step E (is := I_X4_init_0) (pc := 0) (K := k0) (FI := fI0) (FV := FV_X4_init) (FL := fL0) (rt := rtV) (ft := 0) (by exact hd) ok_X4_init_0 k0_ok (fI0_ok E) (FV_X4_init_ok E) (fL0_ok E) (rtV_ok rfl)
theorem c_X4_init {l : Launch} {D : va_G} {dA : Nat → ClassId} {z : Nat} {sa : Nat → Nat} {Hz : Heap} (E : StrOK qLen qCh l D dA z sa Hz) {a0 : Nat} {h fin : AH} (hd : p_X4_init a0 h = some fin) : CalOK l D dA z sa Hz q_X4_init [.ref a0] h none fin := calOf (by decide +kernel) (Nat.le_of_ble_eq_true rfl) (e_X4_init_0 E a0 h hd)
def FV_X2_init : Nat → List Value → AH → Option (AH) := (cx 4 (fun As h => sR As fun a0 As => sE As (p_X4_init a0 h)) fV0)
theorem FV_X2_init_ok {l : Launch} {D : va_G} {dA : Nat → ClassId} {z : Nat} {sa : Nat → Nat} {Hz : Heap} (E : StrOK qLen qCh l D dA z sa Hz) : ∀ mi As h h', FV_X2_init mi As h = some h' → CalOK l D dA z sa Hz (MT mi) As h none h' := (cxV_ok (fun As h h2 e => by obtain ⟨_, _, rfl, e⟩ := sR_inv e; obtain ⟨rfl, e⟩ := sE_inv e; exact c_X4_init E e) (fV0_ok E))
def I_X2_init_0 : List AI := [(.aload_n 0, 1, [], 0), (.invokespecial 3, 3, [0, 270], 0), (.aload_n 0, 1, [], 0), (.new 9, 3, [3, 2, 271], 0), (.dup, 1, [], 0), (.invokespecial 11, 3, [2, 4, 1, 273], 0), (.putfield 12, 3, [1, 0, 2, 318], 0), (.aload_n 0, 1, [], 0), (.aload_n 0, 1, [], 0), (.getfield 12, 3, [1, 0, 2, 318], 0), (.getfield 18, 3, [3, 0, 2, 310], 0), (.putfield 22, 3, [1, 1, 2, 320], 0), (.aload_n 0, 1, [], 0), (.aload_n 0, 1, [], 0), (.getfield 12, 3, [1, 0, 2, 318], 0), (.getfield 23, 3, [3, 1, 2, 312], 0), (.putfield 27, 3, [1, 2, 2, 322], 0), (.return_, 1, [], 0)]
theorem ok_X2_init_0 : vBL MT qLen qCh false q_X2_init.2.2.2.2.1 q_X2_init.2.2.2.2.2.1 q_X2_init.2.2.1 q_X2_init.1.cls q_X2_init.1.name q_X2_init.2.1 0 0 I_X2_init_0 = true := by decide +kernel
def p_X2_init (a0 : Nat) (h : AH) : Option (AH) :=
  if a0 = 0 then none else
  let h101 := al h 3 2
  if (nx h) = 0 then none else
  (p_X4_init (nx h) h101).bind fun h102 =>
  if (tg h102 a0).1 = 1 then (let h103 := wR h102 a0 0 (nx h)
  if (tg h103 a0).1 = 1 then (if (tg h103 (rR h103 a0 0)).1 = 3 then (if (tg h103 a0).1 = 1 then (let h104 := wR h103 a0 1 (rR h103 (rR h103 a0 0) 0)
  if (tg h104 a0).1 = 1 then (if (tg h104 (rR h104 a0 0)).1 = 3 then (if (tg h104 a0).1 = 1 then (let h105 := wR h104 a0 2 (rR h104 (rR h104 a0 0) 1)
  some h105) else none) else none) else none) else none) else none) else none) else none
theorem e_X2_init_0 {l : Launch} {D : va_G} {dA : Nat → ClassId} {z : Nat} {sa : Nat → Nat} {Hz : Heap} (E : StrOK qLen qCh l D dA z sa Hz) {h0 fin : AH}  : ∀ (a0 : Nat) (h : AH), p_X2_init a0 h = some fin → GM l D dA z sa Hz q_X2_init h0 none fin 0 [(0, .ref a0)] [] h := by
  intro a0 h hd
  exact step E (is := I_X2_init_0) (pc := 0) (K := k0) (FI := fI0) (FV := FV_X2_init) (FL := fL0) (rt := rtV) (ft := 0) (by exact hd) ok_X2_init_0 k0_ok (fI0_ok E) (FV_X2_init_ok E) (fL0_ok E) (rtV_ok rfl)
theorem c_X2_init {l : Launch} {D : va_G} {dA : Nat → ClassId} {z : Nat} {sa : Nat → Nat} {Hz : Heap} (E : StrOK qLen qCh l D dA z sa Hz) {a0 : Nat} {h fin : AH} (hd : p_X2_init a0 h = some fin) : CalOK l D dA z sa Hz q_X2_init [.ref a0] h none fin := calOf (by decide +kernel) (Nat.le_of_ble_eq_true rfl) (e_X2_init_0 E a0 h hd)
def FV_X7_init : Nat → List Value → AH → Option (AH) := (cx 0 (fun As h => sR As fun a0 As => sE As (p_X5_init a0 h)) (cx 2 (fun As h => sR As fun a0 As => sE As (p_X6_init a0 h)) (cx 5 (fun As h => sR As fun a0 As => sE As (p_X2_init a0 h)) (cx 4 (fun As h => sR As fun a0 As => sE As (p_X4_init a0 h)) fV0))))
theorem FV_X7_init_ok {l : Launch} {D : va_G} {dA : Nat → ClassId} {z : Nat} {sa : Nat → Nat} {Hz : Heap} (E : StrOK qLen qCh l D dA z sa Hz) : ∀ mi As h h', FV_X7_init mi As h = some h' → CalOK l D dA z sa Hz (MT mi) As h none h' := (cxV_ok (fun As h h2 e => by obtain ⟨_, _, rfl, e⟩ := sR_inv e; obtain ⟨rfl, e⟩ := sE_inv e; exact c_X5_init E e) ((cxV_ok (fun As h h2 e => by obtain ⟨_, _, rfl, e⟩ := sR_inv e; obtain ⟨rfl, e⟩ := sE_inv e; exact c_X6_init E e) ((cxV_ok (fun As h h2 e => by obtain ⟨_, _, rfl, e⟩ := sR_inv e; obtain ⟨rfl, e⟩ := sE_inv e; exact c_X2_init E e) ((cxV_ok (fun As h h2 e => by obtain ⟨_, _, rfl, e⟩ := sR_inv e; obtain ⟨rfl, e⟩ := sE_inv e; exact c_X4_init E e) (fV0_ok E))))))))
def I_X7_init_129 : List AI := [(.return_, 1, [], 0)]
theorem ok_X7_init_129 : vBL MT qLen qCh false q_X7_init.2.2.2.2.1 q_X7_init.2.2.2.2.2.1 q_X7_init.2.2.1 q_X7_init.1.cls q_X7_init.1.name q_X7_init.2.1 0 129 I_X7_init_129 = true := by decide +kernel
def p_X7_init_129 (h : AH) : Option (AH) :=
  some h
theorem e_X7_init_129 {l : Launch} {D : va_G} {dA : Nat → ClassId} {z : Nat} {sa : Nat → Nat} {Hz : Heap} (E : StrOK qLen qCh l D dA z sa Hz) {h0 fin : AH}  : ∀  (h : AH), p_X7_init_129 h = some fin → GM l D dA z sa Hz q_X7_init h0 none fin 129 [] [] h := by
  intro h hd
  exact step E (is := I_X7_init_129) (pc := 129) (K := k0) (FI := fI0) (FV := FV_X7_init) (FL := fL0) (rt := rtV) (ft := 0) (by exact hd) ok_X7_init_129 k0_ok (fI0_ok E) (FV_X7_init_ok E) (fL0_ok E) (rtV_ok rfl)
def I_X7_init_105 : List AI := [(.iload_n 1, 1, [], 0), (.iconst 3, 1, [], 3), (.if_icmp .ge 22, 3, [129], 0), (.aload_n 0, 1, [], 0), (.getfield 42, 3, [6, 9, 2, 363], 0), (.iload_n 1, 1, [], 0), (.new 36, 3, [3, 2, 351], 0), (.dup, 1, [], 0), (.invokespecial 45, 3, [2, 4, 1, 353], 0), (.aastore, 1, [3], 0), (.iinc 1 1, 3, [], 1), (.goto (-21), 3, [105], 0)]
theorem ok_X7_init_105 : vBL MT qLen qCh false q_X7_init.2.2.2.2.1 q_X7_init.2.2.2.2.2.1 q_X7_init.2.2.1 q_X7_init.1.cls q_X7_init.1.name q_X7_init.2.1 0 105 I_X7_init_105 = true := by decide +kernel
def p_X7_init_105 : Nat → Nat → Int32 → AH → Option (AH)
  | 0, _, _, _ => none
  | n + 1, a0, x1, h => if x1 < ((3 : Int32)) then (if (tg h a0).1 = 6 then (let h101 := al h 3 2
    if (nx h) = 0 then none else
    (p_X4_init (nx h) h101).bind fun h102 =>
    if inB h102 (rR h a0 9) 104 x1 ∧ (tg h102 (nx h)).1 = 3 then (let h103 := wR h102 (rR h a0 9) x1.toNatClampNeg (nx h)
    p_X7_init_105 n a0 (x1 + (1 : Int32)) h103) else none) else none)
    else
    some h
theorem e_X7_init_105 {l : Launch} {D : va_G} {dA : Nat → ClassId} {z : Nat} {sa : Nat → Nat} {Hz : Heap} (E : StrOK qLen qCh l D dA z sa Hz) {h0 fin : AH}  : ∀ (n : Nat) (a0 : Nat) (x1 : Int32) (h : AH), p_X7_init_105 n a0 x1 h = some fin → GM l D dA z sa Hz q_X7_init h0 none fin 105 [(0, .ref a0), (1, .int x1)] [] h := by
  intro n
  induction n with
  | zero => intro a0 x1 h hd; exact nomatch hd
  | succ n ih =>
    intro a0 x1 h hd
    exact step E (is := I_X7_init_105) (pc := 105) (K := (kx 129 (fun la st h => sE st (p_X7_init_129 h)) (kx 105 (fun la st h => gR la 0 fun a0 => gI la 1 fun x1 => sE st (p_X7_init_105 n a0 x1 h)) k0))) (FI := fI0) (FV := FV_X7_init) (FL := fL0) (rt := rtV) (ft := 0) (by exact hd) ok_X7_init_105 (kx_ok (fun la st h e => by obtain ⟨rfl, e⟩ := sE_inv e; exact gm_fewer (e_X7_init_129 E   h e) mem_nil) (kx_ok (fun la st h e => by obtain ⟨a0, m_a0, e⟩ := gR_inv e; obtain ⟨x1, m_x1, e⟩ := gI_inv e; obtain ⟨rfl, e⟩ := sE_inv e; exact gm_fewer (ih a0 x1 h e) (mem_cons m_a0 (mem_cons m_x1 mem_nil))) k0_ok)) (fI0_ok E) (FV_X7_init_ok E) (fL0_ok E) (rtV_ok rfl)
def I_X7_init_103 : List AI := [(.iconst 0, 1, [], 0), (.istore_n 1, 1, [], 0)]
theorem ok_X7_init_103 : vBL MT qLen qCh false q_X7_init.2.2.2.2.1 q_X7_init.2.2.2.2.2.1 q_X7_init.2.2.1 q_X7_init.1.cls q_X7_init.1.name q_X7_init.2.1 105 103 I_X7_init_103 = true := by decide +kernel
def p_X7_init_103 (a0 : Nat) (h : AH) : Option (AH) :=
  p_X7_init_105 FU a0 ((0 : Int32)) h
theorem e_X7_init_103 {l : Launch} {D : va_G} {dA : Nat → ClassId} {z : Nat} {sa : Nat → Nat} {Hz : Heap} (E : StrOK qLen qCh l D dA z sa Hz) {h0 fin : AH}  : ∀ (a0 : Nat) (h : AH), p_X7_init_103 a0 h = some fin → GM l D dA z sa Hz q_X7_init h0 none fin 103 [(0, .ref a0)] [] h := by
  intro a0 h hd
  exact step E (is := I_X7_init_103) (pc := 103) (K := (kx 105 (fun la st h => gR la 0 fun a0 => gI la 1 fun x1 => sE st (p_X7_init_105 FU a0 x1 h)) k0)) (FI := fI0) (FV := FV_X7_init) (FL := fL0) (rt := rtV) (ft := 105) (by exact hd) ok_X7_init_103 (kx_ok (fun la st h e => by obtain ⟨a0, m_a0, e⟩ := gR_inv e; obtain ⟨x1, m_x1, e⟩ := gI_inv e; obtain ⟨rfl, e⟩ := sE_inv e; exact gm_fewer (e_X7_init_105 E  FU a0 x1 h e) (mem_cons m_a0 (mem_cons m_x1 mem_nil))) k0_ok) (fI0_ok E) (FV_X7_init_ok E) (fL0_ok E) (rtV_ok rfl)
def I_X7_init_78 : List AI := [(.iload_n 1, 1, [], 0), (.bipush 16, 2, [], 16), (.if_icmp .ge 22, 3, [103], 0), (.aload_n 0, 1, [], 0), (.getfield 38, 3, [6, 6, 2, 360], 0), (.iload_n 1, 1, [], 0), (.new 36, 3, [3, 2, 351], 0), (.dup, 1, [], 0), (.invokespecial 45, 3, [2, 4, 1, 353], 0), (.aastore, 1, [3], 0), (.iinc 1 1, 3, [], 1), (.goto (-22), 3, [78], 0)]
theorem ok_X7_init_78 : vBL MT qLen qCh false q_X7_init.2.2.2.2.1 q_X7_init.2.2.2.2.2.1 q_X7_init.2.2.1 q_X7_init.1.cls q_X7_init.1.name q_X7_init.2.1 0 78 I_X7_init_78 = true := by decide +kernel
def p_X7_init_78 : Nat → Nat → Int32 → AH → Option (AH)
  | 0, _, _, _ => none
  | n + 1, a0, x1, h => if x1 < ((16 : Int32)) then (if (tg h a0).1 = 6 then (let h104 := al h 3 2
    if (nx h) = 0 then none else
    (p_X4_init (nx h) h104).bind fun h105 =>
    if inB h105 (rR h a0 6) 104 x1 ∧ (tg h105 (nx h)).1 = 3 then (let h106 := wR h105 (rR h a0 6) x1.toNatClampNeg (nx h)
    p_X7_init_78 n a0 (x1 + (1 : Int32)) h106) else none) else none)
    else
    p_X7_init_105 FU a0 ((0 : Int32)) h
theorem e_X7_init_78 {l : Launch} {D : va_G} {dA : Nat → ClassId} {z : Nat} {sa : Nat → Nat} {Hz : Heap} (E : StrOK qLen qCh l D dA z sa Hz) {h0 fin : AH}  : ∀ (n : Nat) (a0 : Nat) (x1 : Int32) (h : AH), p_X7_init_78 n a0 x1 h = some fin → GM l D dA z sa Hz q_X7_init h0 none fin 78 [(0, .ref a0), (1, .int x1)] [] h := by
  intro n
  induction n with
  | zero => intro a0 x1 h hd; exact nomatch hd
  | succ n ih =>
    intro a0 x1 h hd
    exact step E (is := I_X7_init_78) (pc := 78) (K := (kx 103 (fun la st h => gR la 0 fun a0 => sE st (p_X7_init_103 a0 h)) (kx 78 (fun la st h => gR la 0 fun a0 => gI la 1 fun x1 => sE st (p_X7_init_78 n a0 x1 h)) k0))) (FI := fI0) (FV := FV_X7_init) (FL := fL0) (rt := rtV) (ft := 0) (by exact hd) ok_X7_init_78 (kx_ok (fun la st h e => by obtain ⟨a0, m_a0, e⟩ := gR_inv e; obtain ⟨rfl, e⟩ := sE_inv e; exact gm_fewer (e_X7_init_103 E  a0 h e) (mem_cons m_a0 mem_nil)) (kx_ok (fun la st h e => by obtain ⟨a0, m_a0, e⟩ := gR_inv e; obtain ⟨x1, m_x1, e⟩ := gI_inv e; obtain ⟨rfl, e⟩ := sE_inv e; exact gm_fewer (ih a0 x1 h e) (mem_cons m_a0 (mem_cons m_x1 mem_nil))) k0_ok)) (fI0_ok E) (FV_X7_init_ok E) (fL0_ok E) (rtV_ok rfl)
def I_X7_init_0 : List AI := [(.aload_n 0, 1, [], 0), (.invokespecial 1, 3, [0, 136], 0), (.aload_n 0, 1, [], 0), (.new 7, 3, [4, 9, 139], 0), (.dup, 1, [], 0), (.invokespecial 9, 3, [2, 0, 1, 141], 0), (.putfield 10, 3, [6, 0, 2, 354], 0), (.aload_n 0, 1, [], 0), (.new 16, 3, [5, 13, 177], 0), (.dup, 1, [], 0), (.invokespecial 18, 3, [2, 2, 1, 179], 0), (.putfield 19, 3, [6, 1, 2, 355], 0), (.aload_n 0, 1, [], 0), (.new 16, 3, [5, 13, 177], 0), (.dup, 1, [], 0), (.invokespecial 18, 3, [2, 2, 1, 179], 0), (.putfield 23, 3, [6, 2, 2, 356], 0), (.aload_n 0, 1, [], 0), (.new 26, 3, [1, 8, 265], 0), (.dup, 1, [], 0), (.invokespecial 28, 3, [2, 5, 1, 267], 0), (.putfield 29, 3, [6, 4, 2, 358], 0), (.aload_n 0, 1, [], 0), (.new 26, 3, [1, 8, 265], 0), (.dup, 1, [], 0), (.invokespecial 28, 3, [2, 5, 1, 267], 0), (.putfield 33, 3, [6, 5, 2, 359], 0), (.aload_n 0, 1, [], 0), (.bipush 16, 2, [], 16), (.anewarray 36, 3, [351], 0), (.putfield 38, 3, [6, 6, 2, 360], 0), (.aload_n 0, 1, [], 0), (.iconst 3, 1, [], 3), (.anewarray 36, 3, [351], 0), (.putfield 42, 3, [6, 9, 2, 363], 0), (.iconst 0, 1, [], 0), (.istore_n 1, 1, [], 0)]
theorem ok_X7_init_0 : vBL MT qLen qCh false q_X7_init.2.2.2.2.1 q_X7_init.2.2.2.2.2.1 q_X7_init.2.2.1 q_X7_init.1.cls q_X7_init.1.name q_X7_init.2.1 78 0 I_X7_init_0 = true := by decide +kernel
def p_X7_init (a0 : Nat) (h : AH) : Option (AH) :=
  if a0 = 0 then none else
  let h107 := al h 4 9
  if (nx h) = 0 then none else
  (p_X5_init (nx h) h107).bind fun h108 =>
  if (tg h108 a0).1 = 6 then (let h109 := wR h108 a0 0 (nx h)
  let h110 := al h109 5 13
  if (nx h109) = 0 then none else
  (p_X6_init (nx h109) h110).bind fun h111 =>
  if (tg h111 a0).1 = 6 then (let h112 := wR h111 a0 1 (nx h109)
  let h113 := al h112 5 13
  if (nx h112) = 0 then none else
  (p_X6_init (nx h112) h113).bind fun h114 =>
  if (tg h114 a0).1 = 6 then (let h115 := wR h114 a0 2 (nx h112)
  let h116 := al h115 1 8
  if (nx h115) = 0 then none else
  (p_X2_init (nx h115) h116).bind fun h117 =>
  if (tg h117 a0).1 = 6 then (let h118 := wR h117 a0 4 (nx h115)
  let h119 := al h118 1 8
  if (nx h118) = 0 then none else
  (p_X2_init (nx h118) h119).bind fun h120 =>
  if (tg h120 a0).1 = 6 then (let h121 := wR h120 a0 5 (nx h118)
  if ((16 : Int32)) < 0 ∨ 100000 < ((16 : Int32)).toNatClampNeg then none else
  let h122 := al h121 104 ((16 : Int32)).toNatClampNeg
  if (tg h122 a0).1 = 6 then (let h123 := wR h122 a0 6 (nx h121)
  if ((3 : Int32)) < 0 ∨ 100000 < ((3 : Int32)).toNatClampNeg then none else
  let h124 := al h123 104 ((3 : Int32)).toNatClampNeg
  if (tg h124 a0).1 = 6 then (let h125 := wR h124 a0 9 (nx h123)
  p_X7_init_78 FU a0 ((0 : Int32)) h125) else none) else none) else none) else none) else none) else none) else none
theorem e_X7_init_0 {l : Launch} {D : va_G} {dA : Nat → ClassId} {z : Nat} {sa : Nat → Nat} {Hz : Heap} (E : StrOK qLen qCh l D dA z sa Hz) {h0 fin : AH}  : ∀ (a0 : Nat) (h : AH), p_X7_init a0 h = some fin → GM l D dA z sa Hz q_X7_init h0 none fin 0 [(0, .ref a0)] [] h := by
  intro a0 h hd
  exact step E (is := I_X7_init_0) (pc := 0) (K := (kx 78 (fun la st h => gR la 0 fun a0 => gI la 1 fun x1 => sE st (p_X7_init_78 FU a0 x1 h)) k0)) (FI := fI0) (FV := FV_X7_init) (FL := fL0) (rt := rtV) (ft := 78) (by exact hd) ok_X7_init_0 (kx_ok (fun la st h e => by obtain ⟨a0, m_a0, e⟩ := gR_inv e; obtain ⟨x1, m_x1, e⟩ := gI_inv e; obtain ⟨rfl, e⟩ := sE_inv e; exact gm_fewer (e_X7_init_78 E  FU a0 x1 h e) (mem_cons m_a0 (mem_cons m_x1 mem_nil))) k0_ok) (fI0_ok E) (FV_X7_init_ok E) (fL0_ok E) (rtV_ok rfl)
theorem c_X7_init {l : Launch} {D : va_G} {dA : Nat → ClassId} {z : Nat} {sa : Nat → Nat} {Hz : Heap} (E : StrOK qLen qCh l D dA z sa Hz) {a0 : Nat} {h fin : AH} (hd : p_X7_init a0 h = some fin) : CalOK l D dA z sa Hz q_X7_init [.ref a0] h none fin := calOf (by decide +kernel) (Nat.le_of_ble_eq_true rfl) (e_X7_init_0 E a0 h hd)
def I_X5_append_46 : List AI := [(.return_, 1, [], 0)]
theorem ok_X5_append_46 : vBL MT qLen qCh false q_X5_append.2.2.2.2.1 q_X5_append.2.2.2.2.2.1 q_X5_append.2.2.1 q_X5_append.1.cls q_X5_append.1.name q_X5_append.2.1 0 46 I_X5_append_46 = true := by decide +kernel
def p_X5_append_46 (h : AH) : Option (AH) :=
  some h
theorem e_X5_append_46 {l : Launch} {D : va_G} {dA : Nat → ClassId} {z : Nat} {sa : Nat → Nat} {Hz : Heap} (E : StrOK qLen qCh l D dA z sa Hz) {h0 fin : AH}  : ∀  (h : AH), p_X5_append_46 h = some fin → GM l D dA z sa Hz q_X5_append h0 none fin 46 [] [] h := by
  intro h hd
  exact step E (is := I_X5_append_46) (pc := 46) (K := k0) (FI := fI0) (FV := fV0) (FL := fL0) (rt := rtV) (ft := 0) (by exact hd) ok_X5_append_46 k0_ok (fI0_ok E) (fV0_ok E) (fL0_ok E) (rtV_ok rfl)
def I_X5_append_40 : List AI := [(.iinc 2 (-8), 3, [], (-8)), (.goto (-40), 3, [3], 0)]
theorem ok_X5_append_40 : vBL MT qLen qCh false q_X5_append.2.2.2.2.1 q_X5_append.2.2.2.2.2.1 q_X5_append.2.2.1 q_X5_append.1.cls q_X5_append.1.name q_X5_append.2.1 0 40 I_X5_append_40 = true := by decide +kernel
def p_X5_append_40 (k3 : Nat → Int32 → Int32 → AH → Option (AH)) (a0 : Nat) (x1 : Int32) (x2 : Int32) (h : AH) : Option (AH) :=
  k3 a0 x1 (x2 + (-8 : Int32)) h
theorem e_X5_append_40 {l : Launch} {D : va_G} {dA : Nat → ClassId} {z : Nat} {sa : Nat → Nat} {Hz : Heap} (E : StrOK qLen qCh l D dA z sa Hz) {h0 fin : AH}  {k3 : Nat → Int32 → Int32 → AH → Option (AH)} (hk3 : ∀ (a0 : Nat) (x1 : Int32) (x2 : Int32) (h : AH), k3 a0 x1 x2 h = some fin → GM l D dA z sa Hz q_X5_append h0 none fin 3 [(0, .ref a0), (1, .int x1), (2, .int x2)] [] h) : ∀ (a0 : Nat) (x1 : Int32) (x2 : Int32) (h : AH), p_X5_append_40 k3 a0 x1 x2 h = some fin → GM l D dA z sa Hz q_X5_append h0 none fin 40 [(0, .ref a0), (1, .int x1), (2, .int x2)] [] h := by
  intro a0 x1 x2 h hd
  exact step E (is := I_X5_append_40) (pc := 40) (K := (kx 3 (fun la st h => gR la 0 fun a0 => gI la 1 fun x1 => gI la 2 fun x2 => sE st (k3 a0 x1 x2 h)) k0)) (FI := fI0) (FV := fV0) (FL := fL0) (rt := rtV) (ft := 0) (by exact hd) ok_X5_append_40 (kx_ok (fun la st h e => by obtain ⟨a0, m_a0, e⟩ := gR_inv e; obtain ⟨x1, m_x1, e⟩ := gI_inv e; obtain ⟨x2, m_x2, e⟩ := gI_inv e; obtain ⟨rfl, e⟩ := sE_inv e; exact gm_fewer (hk3 a0 x1 x2 h e) (mem_cons m_a0 (mem_cons m_x1 (mem_cons m_x2 mem_nil)))) k0_ok) (fI0_ok E) (fV0_ok E) (fL0_ok E) (rtV_ok rfl)
def I_X5_append_3 : List AI := [(.iload_n 2, 1, [], 0), (.ifCond .lt 42, 3, [46], 0), (.aload_n 0, 1, [], 0), (.getfield 15, 3, [4, 1, 0, 147], 0), (.sipush 900, 3, [], 900), (.if_icmp .ge 26, 3, [40], 0), (.aload_n 0, 1, [], 0), (.getfield 9, 3, [4, 0, 2, 145], 0), (.aload_n 0, 1, [], 0), (.getfield 15, 3, [4, 1, 0, 147], 0), (.iload_n 1, 1, [], 0), (.iload_n 2, 1, [], 0), (.ishr, 1, [], 0), (.i2b, 1, [], 0), (.bastore, 1, [101], 0), (.aload_n 0, 1, [], 0), (.dup, 1, [], 0), (.getfield 15, 3, [4, 1, 0, 147], 0), (.iconst 1, 1, [], 1), (.iadd, 1, [], 0), (.putfield 15, 3, [4, 1, 0, 147], 0)]
theorem ok_X5_append_3 : vBL MT qLen qCh false q_X5_append.2.2.2.2.1 q_X5_append.2.2.2.2.2.1 q_X5_append.2.2.1 q_X5_append.1.cls q_X5_append.1.name q_X5_append.2.1 40 3 I_X5_append_3 = true := by decide +kernel
def p_X5_append_3 : Nat → Nat → Int32 → Int32 → AH → Option (AH)
  | 0, _, _, _, _ => none
  | n + 1, a0, x1, x2, h => if x2 < 0 then (some h)
    else
    if (tg h a0).1 = 4 then (if (rI h a0 1) < ((900 : Int32)) then (if (tg h a0).1 = 4 then (if (tg h a0).1 = 4 then (if inB h (rR h a0 0) 101 (rI h a0 1) then (let h101 := wI h (rR h a0 0) (rI h a0 1).toNatClampNeg (((x1 >>> (x2 &&& 31)).toInt8.toInt32).toInt8.toInt32)
    if (tg h101 a0).1 = 4 then (if (tg h101 a0).1 = 4 then (let h102 := wI h101 a0 1 ((rI h101 a0 1) + ((1 : Int32)))
    p_X5_append_40 (p_X5_append_3 n) a0 x1 x2 h102) else none) else none) else none) else none) else none)
    else
    p_X5_append_40 (p_X5_append_3 n) a0 x1 x2 h) else none
theorem e_X5_append_3 {l : Launch} {D : va_G} {dA : Nat → ClassId} {z : Nat} {sa : Nat → Nat} {Hz : Heap} (E : StrOK qLen qCh l D dA z sa Hz) {h0 fin : AH}  : ∀ (n : Nat) (a0 : Nat) (x1 : Int32) (x2 : Int32) (h : AH), p_X5_append_3 n a0 x1 x2 h = some fin → GM l D dA z sa Hz q_X5_append h0 none fin 3 [(0, .ref a0), (1, .int x1), (2, .int x2)] [] h := by
  intro n
  induction n with
  | zero => intro a0 x1 x2 h hd; exact nomatch hd
  | succ n ih =>
    intro a0 x1 x2 h hd
    exact step E (is := I_X5_append_3) (pc := 3) (K := (kx 46 (fun la st h => sE st (p_X5_append_46 h)) (kx 40 (fun la st h => gR la 0 fun a0 => gI la 1 fun x1 => gI la 2 fun x2 => sE st (p_X5_append_40 (p_X5_append_3 n) a0 x1 x2 h)) k0))) (FI := fI0) (FV := fV0) (FL := fL0) (rt := rtV) (ft := 40) (by exact hd) ok_X5_append_3 (kx_ok (fun la st h e => by obtain ⟨rfl, e⟩ := sE_inv e; exact gm_fewer (e_X5_append_46 E   h e) mem_nil) (kx_ok (fun la st h e => by obtain ⟨a0, m_a0, e⟩ := gR_inv e; obtain ⟨x1, m_x1, e⟩ := gI_inv e; obtain ⟨x2, m_x2, e⟩ := gI_inv e; obtain ⟨rfl, e⟩ := sE_inv e; exact gm_fewer (e_X5_append_40 E ih a0 x1 x2 h e) (mem_cons m_a0 (mem_cons m_x1 (mem_cons m_x2 mem_nil)))) k0_ok)) (fI0_ok E) (fV0_ok E) (fL0_ok E) (rtV_ok rfl)
def I_X5_append_0 : List AI := [(.bipush 24, 2, [], 24), (.istore_n 2, 1, [], 0)]
theorem ok_X5_append_0 : vBL MT qLen qCh false q_X5_append.2.2.2.2.1 q_X5_append.2.2.2.2.2.1 q_X5_append.2.2.1 q_X5_append.1.cls q_X5_append.1.name q_X5_append.2.1 3 0 I_X5_append_0 = true := by decide +kernel
def p_X5_append (a0 : Nat) (x1 : Int32) (h : AH) : Option (AH) :=
  p_X5_append_3 FU a0 x1 ((24 : Int32)) h
theorem e_X5_append_0 {l : Launch} {D : va_G} {dA : Nat → ClassId} {z : Nat} {sa : Nat → Nat} {Hz : Heap} (E : StrOK qLen qCh l D dA z sa Hz) {h0 fin : AH}  : ∀ (a0 : Nat) (x1 : Int32) (h : AH), p_X5_append a0 x1 h = some fin → GM l D dA z sa Hz q_X5_append h0 none fin 0 [(0, .ref a0), (1, .int x1)] [] h := by
  intro a0 x1 h hd
  exact step E (is := I_X5_append_0) (pc := 0) (K := (kx 3 (fun la st h => gR la 0 fun a0 => gI la 1 fun x1 => gI la 2 fun x2 => sE st (p_X5_append_3 FU a0 x1 x2 h)) k0)) (FI := fI0) (FV := fV0) (FL := fL0) (rt := rtV) (ft := 3) (by exact hd) ok_X5_append_0 (kx_ok (fun la st h e => by obtain ⟨a0, m_a0, e⟩ := gR_inv e; obtain ⟨x1, m_x1, e⟩ := gI_inv e; obtain ⟨x2, m_x2, e⟩ := gI_inv e; obtain ⟨rfl, e⟩ := sE_inv e; exact gm_fewer (e_X5_append_3 E  FU a0 x1 x2 h e) (mem_cons m_a0 (mem_cons m_x1 (mem_cons m_x2 mem_nil)))) k0_ok) (fI0_ok E) (fV0_ok E) (fL0_ok E) (rtV_ok rfl)
theorem c_X5_append {l : Launch} {D : va_G} {dA : Nat → ClassId} {z : Nat} {sa : Nat → Nat} {Hz : Heap} (E : StrOK qLen qCh l D dA z sa Hz) {a0 : Nat} {x1 : Int32} {h fin : AH} (hd : p_X5_append a0 x1 h = some fin) : CalOK l D dA z sa Hz q_X5_append [.ref a0, .int x1] h none fin := calOf (by decide +kernel) (Nat.le_of_ble_eq_true rfl) (e_X5_append_0 E a0 x1 h hd)
def FV_X7_feed : Nat → List Value → AH → Option (AH) := (cx 7 (fun As h => sR As fun a0 As => sI As fun x1 As => sE As (p_X5_append a0 x1 h)) fV0)
theorem FV_X7_feed_ok {l : Launch} {D : va_G} {dA : Nat → ClassId} {z : Nat} {sa : Nat → Nat} {Hz : Heap} (E : StrOK qLen qCh l D dA z sa Hz) : ∀ mi As h h', FV_X7_feed mi As h = some h' → CalOK l D dA z sa Hz (MT mi) As h none h' := (cxV_ok (fun As h h2 e => by obtain ⟨_, _, rfl, e⟩ := sR_inv e; obtain ⟨_, _, rfl, e⟩ := sI_inv e; obtain ⟨rfl, e⟩ := sE_inv e; exact c_X5_append E e) (fV0_ok E))
def I_X7_feed_18 : List AI := [(.aload_n 0, 1, [], 0), (.getfield 10, 3, [6, 0, 2, 354], 0), (.iload_n 1, 1, [], 0), (.invokevirtual 50, 3, [2, 7, 2, 4, 395], 0), (.aload_n 0, 1, [], 0), (.getfield 10, 3, [6, 0, 2, 354], 0), (.iload_n 2, 1, [], 0), (.invokevirtual 50, 3, [2, 7, 2, 4, 395], 0), (.aload_n 0, 1, [], 0), (.getfield 10, 3, [6, 0, 2, 354], 0), (.iload_n 3, 1, [], 0), (.invokevirtual 50, 3, [2, 7, 2, 4, 395], 0), (.aload_n 0, 1, [], 0), (.getfield 10, 3, [6, 0, 2, 354], 0), (.iload 4, 2, [], 0), (.invokevirtual 50, 3, [2, 7, 2, 4, 395], 0), (.aload_n 0, 1, [], 0), (.getfield 10, 3, [6, 0, 2, 354], 0), (.iload 5, 2, [], 0), (.invokevirtual 50, 3, [2, 7, 2, 4, 395], 0), (.aload_n 0, 1, [], 0), (.getfield 10, 3, [6, 0, 2, 354], 0), (.getfield 46, 3, [4, 1, 0, 146], 0), (.ireturn, 1, [], 0)]
theorem ok_X7_feed_18 : vBL MT qLen qCh false q_X7_feed.2.2.2.2.1 q_X7_feed.2.2.2.2.2.1 q_X7_feed.2.2.1 q_X7_feed.1.cls q_X7_feed.1.name q_X7_feed.2.1 0 18 I_X7_feed_18 = true := by decide +kernel
def p_X7_feed_18 (a0 : Nat) (x1 : Int32) (x2 : Int32) (x3 : Int32) (x4 : Int32) (x5 : Int32) (h : AH) : Option (Int32 × AH) :=
  if (tg h a0).1 = 6 then (if (tg h (rR h a0 0)).1 = 4 then ((p_X5_append (rR h a0 0) x1 h).bind fun h101 =>
  if (tg h101 a0).1 = 6 then (if (tg h101 (rR h101 a0 0)).1 = 4 then ((p_X5_append (rR h101 a0 0) x2 h101).bind fun h102 =>
  if (tg h102 a0).1 = 6 then (if (tg h102 (rR h102 a0 0)).1 = 4 then ((p_X5_append (rR h102 a0 0) x3 h102).bind fun h103 =>
  if (tg h103 a0).1 = 6 then (if (tg h103 (rR h103 a0 0)).1 = 4 then ((p_X5_append (rR h103 a0 0) x4 h103).bind fun h104 =>
  if (tg h104 a0).1 = 6 then (if (tg h104 (rR h104 a0 0)).1 = 4 then ((p_X5_append (rR h104 a0 0) x5 h104).bind fun h105 =>
  if (tg h105 a0).1 = 6 then (if (tg h105 (rR h105 a0 0)).1 = 4 then (some ((rI h105 (rR h105 a0 0) 1), h105)) else none) else none) else none) else none) else none) else none) else none) else none) else none) else none) else none) else none
theorem e_X7_feed_18 {l : Launch} {D : va_G} {dA : Nat → ClassId} {z : Nat} {sa : Nat → Nat} {Hz : Heap} (E : StrOK qLen qCh l D dA z sa Hz) {h0 fin : AH} {x : Int32}  : ∀ (a0 : Nat) (x1 : Int32) (x2 : Int32) (x3 : Int32) (x4 : Int32) (x5 : Int32) (h : AH), p_X7_feed_18 a0 x1 x2 x3 x4 x5 h = some (x, fin) → GM l D dA z sa Hz q_X7_feed h0 (some (.int x)) fin 18 [(0, .ref a0), (1, .int x1), (2, .int x2), (3, .int x3), (4, .int x4), (5, .int x5)] [] h := by
  intro a0 x1 x2 x3 x4 x5 h hd
  exact step E (is := I_X7_feed_18) (pc := 18) (K := k0) (FI := fI0) (FV := FV_X7_feed) (FL := fL0) (rt := rtI) (ft := 0) (by exact hd) ok_X7_feed_18 k0_ok (fI0_ok E) (FV_X7_feed_ok E) (fL0_ok E) (rtI_ok rfl)
def I_X7_feed_0 : List AI := [(.aload_n 0, 1, [], 0), (.getfield 10, 3, [6, 0, 2, 354], 0), (.getfield 46, 3, [4, 1, 0, 146], 0), (.bipush 20, 2, [], 20), (.iadd, 1, [], 0), (.sipush 900, 3, [], 900), (.if_icmp .le 5, 3, [18], 0), (.iconst (-1), 1, [], (-1)), (.ireturn, 1, [], 0)]
theorem ok_X7_feed_0 : vBL MT qLen qCh false q_X7_feed.2.2.2.2.1 q_X7_feed.2.2.2.2.2.1 q_X7_feed.2.2.1 q_X7_feed.1.cls q_X7_feed.1.name q_X7_feed.2.1 0 0 I_X7_feed_0 = true := by decide +kernel
def p_X7_feed (a0 : Nat) (x1 : Int32) (x2 : Int32) (x3 : Int32) (x4 : Int32) (x5 : Int32) (h : AH) : Option (Int32 × AH) :=
  if (tg h a0).1 = 6 then (if (tg h (rR h a0 0)).1 = 4 then (if ((900 : Int32)) < ((rI h (rR h a0 0) 1) + ((20 : Int32))) then (some (((-1 : Int32)), h))
  else
  if (tg h a0).1 = 6 then (if (tg h (rR h a0 0)).1 = 4 then ((p_X5_append (rR h a0 0) x1 h).bind fun h106 =>
  if (tg h106 a0).1 = 6 then (if (tg h106 (rR h106 a0 0)).1 = 4 then ((p_X5_append (rR h106 a0 0) x2 h106).bind fun h107 =>
  if (tg h107 a0).1 = 6 then (if (tg h107 (rR h107 a0 0)).1 = 4 then ((p_X5_append (rR h107 a0 0) x3 h107).bind fun h108 =>
  if (tg h108 a0).1 = 6 then (if (tg h108 (rR h108 a0 0)).1 = 4 then ((p_X5_append (rR h108 a0 0) x4 h108).bind fun h109 =>
  if (tg h109 a0).1 = 6 then (if (tg h109 (rR h109 a0 0)).1 = 4 then ((p_X5_append (rR h109 a0 0) x5 h109).bind fun h110 =>
  if (tg h110 a0).1 = 6 then (if (tg h110 (rR h110 a0 0)).1 = 4 then (some ((rI h110 (rR h110 a0 0) 1), h110)) else none) else none) else none) else none) else none) else none) else none) else none) else none) else none) else none) else none) else none) else none
theorem e_X7_feed_0 {l : Launch} {D : va_G} {dA : Nat → ClassId} {z : Nat} {sa : Nat → Nat} {Hz : Heap} (E : StrOK qLen qCh l D dA z sa Hz) {h0 fin : AH} {x : Int32}  : ∀ (a0 : Nat) (x1 : Int32) (x2 : Int32) (x3 : Int32) (x4 : Int32) (x5 : Int32) (h : AH), p_X7_feed a0 x1 x2 x3 x4 x5 h = some (x, fin) → GM l D dA z sa Hz q_X7_feed h0 (some (.int x)) fin 0 [(0, .ref a0), (1, .int x1), (2, .int x2), (3, .int x3), (4, .int x4), (5, .int x5)] [] h := by
  intro a0 x1 x2 x3 x4 x5 h hd
  exact step E (is := I_X7_feed_0) (pc := 0) (K := (kx 18 (fun la st h => gR la 0 fun a0 => gI la 1 fun x1 => gI la 2 fun x2 => gI la 3 fun x3 => gI la 4 fun x4 => gI la 5 fun x5 => sE st (p_X7_feed_18 a0 x1 x2 x3 x4 x5 h)) k0)) (FI := fI0) (FV := FV_X7_feed) (FL := fL0) (rt := rtI) (ft := 0) (by exact hd) ok_X7_feed_0 (kx_ok (fun la st h e => by obtain ⟨a0, m_a0, e⟩ := gR_inv e; obtain ⟨x1, m_x1, e⟩ := gI_inv e; obtain ⟨x2, m_x2, e⟩ := gI_inv e; obtain ⟨x3, m_x3, e⟩ := gI_inv e; obtain ⟨x4, m_x4, e⟩ := gI_inv e; obtain ⟨x5, m_x5, e⟩ := gI_inv e; obtain ⟨rfl, e⟩ := sE_inv e; exact gm_fewer (e_X7_feed_18 E  a0 x1 x2 x3 x4 x5 h e) (mem_cons m_a0 (mem_cons m_x1 (mem_cons m_x2 (mem_cons m_x3 (mem_cons m_x4 (mem_cons m_x5 mem_nil))))))) k0_ok) (fI0_ok E) (FV_X7_feed_ok E) (fL0_ok E) (rtI_ok rfl)
theorem c_X7_feed {l : Launch} {D : va_G} {dA : Nat → ClassId} {z : Nat} {sa : Nat → Nat} {Hz : Heap} (E : StrOK qLen qCh l D dA z sa Hz) {a0 : Nat} {x1 : Int32} {x2 : Int32} {x3 : Int32} {x4 : Int32} {x5 : Int32} {h fin : AH} {x : Int32} (hd : p_X7_feed a0 x1 x2 x3 x4 x5 h = some (x, fin)) : CalOK l D dA z sa Hz q_X7_feed [.ref a0, .int x1, .int x2, .int x3, .int x4, .int x5] h (some (.int x)) fin := calOf (by decide +kernel) (Nat.le_of_ble_eq_true rfl) (e_X7_feed_0 E a0 x1 x2 x3 x4 x5 h hd)
def I_X7_refuse_0 : List AI := [(.aload_n 0, 1, [], 0), (.iload_n 1, 1, [], 0), (.putfield 74, 3, [6, 11, 0, 365], 0), (.iconst (-1), 1, [], (-1)), (.ireturn, 1, [], 0)]
theorem ok_X7_refuse_0 : vBL MT qLen qCh false q_X7_refuse.2.2.2.2.1 q_X7_refuse.2.2.2.2.2.1 q_X7_refuse.2.2.1 q_X7_refuse.1.cls q_X7_refuse.1.name q_X7_refuse.2.1 0 0 I_X7_refuse_0 = true := by decide +kernel
def p_X7_refuse (a0 : Nat) (x1 : Int32) (h : AH) : Option (Int32 × AH) :=
  if (tg h a0).1 = 6 then (let h101 := wI h a0 11 x1
  some (((-1 : Int32)), h101)) else none
theorem e_X7_refuse_0 {l : Launch} {D : va_G} {dA : Nat → ClassId} {z : Nat} {sa : Nat → Nat} {Hz : Heap} (E : StrOK qLen qCh l D dA z sa Hz) {h0 fin : AH} {x : Int32}  : ∀ (a0 : Nat) (x1 : Int32) (h : AH), p_X7_refuse a0 x1 h = some (x, fin) → GM l D dA z sa Hz q_X7_refuse h0 (some (.int x)) fin 0 [(0, .ref a0), (1, .int x1)] [] h := by
  intro a0 x1 h hd
  exact step E (is := I_X7_refuse_0) (pc := 0) (K := k0) (FI := fI0) (FV := fV0) (FL := fL0) (rt := rtI) (ft := 0) (by exact hd) ok_X7_refuse_0 k0_ok (fI0_ok E) (fV0_ok E) (fL0_ok E) (rtI_ok rfl)
theorem c_X7_refuse {l : Launch} {D : va_G} {dA : Nat → ClassId} {z : Nat} {sa : Nat → Nat} {Hz : Heap} (E : StrOK qLen qCh l D dA z sa Hz) {a0 : Nat} {x1 : Int32} {h fin : AH} {x : Int32} (hd : p_X7_refuse a0 x1 h = some (x, fin)) : CalOK l D dA z sa Hz q_X7_refuse [.ref a0, .int x1] h (some (.int x)) fin := calOf (by decide +kernel) (Nat.le_of_ble_eq_true rfl) (e_X7_refuse_0 E a0 x1 h hd)
def I_X1_empty_44 : List AI := [(.aload_n 0, 1, [], 0), (.iconst 0, 1, [], 0), (.putfield 18, 3, [0, 2, 0, 191], 0), (.aload_n 0, 1, [], 0), (.iconst 0, 1, [], 0), (.putfield 22, 3, [0, 3, 0, 192], 0), (.aload_n 0, 1, [], 0), (.iconst 0, 1, [], 0), (.putfield 25, 3, [0, 4, 0, 194], 0), (.return_, 1, [], 0)]
theorem ok_X1_empty_44 : vBL MT qLen qCh false q_X1_empty.2.2.2.2.1 q_X1_empty.2.2.2.2.2.1 q_X1_empty.2.2.1 q_X1_empty.1.cls q_X1_empty.1.name q_X1_empty.2.1 0 44 I_X1_empty_44 = true := by decide +kernel
def p_X1_empty_44 (a0 : Nat) (h : AH) : Option (AH) :=
  if (tg h a0).1 = 0 then (let h101 := wI h a0 2 ((0 : Int32))
  if (tg h101 a0).1 = 0 then (let h102 := wI h101 a0 3 ((0 : Int32))
  if (tg h102 a0).1 = 0 then (let h103 := wI h102 a0 4 ((0 : Int32))
  some h103) else none) else none) else none
theorem e_X1_empty_44 {l : Launch} {D : va_G} {dA : Nat → ClassId} {z : Nat} {sa : Nat → Nat} {Hz : Heap} (E : StrOK qLen qCh l D dA z sa Hz) {h0 fin : AH}  : ∀ (a0 : Nat) (h : AH), p_X1_empty_44 a0 h = some fin → GM l D dA z sa Hz q_X1_empty h0 none fin 44 [(0, .ref a0)] [] h := by
  intro a0 h hd
  exact step E (is := I_X1_empty_44) (pc := 44) (K := k0) (FI := fI0) (FV := fV0) (FL := fL0) (rt := rtV) (ft := 0) (by exact hd) ok_X1_empty_44 k0_ok (fI0_ok E) (fV0_ok E) (fL0_ok E) (rtV_ok rfl)
def I_X1_empty_24 : List AI := [(.iload_n 1, 1, [], 0), (.bipush 16, 2, [], 16), (.if_icmp .ge 17, 3, [44], 0), (.aload_n 0, 1, [], 0), (.getfield 15, 3, [0, 1, 2, 190], 0), (.iload_n 1, 1, [], 0), (.bipush (-2), 2, [], (-2)), (.iastore, 1, [], 0), (.iinc 1 1, 3, [], 1), (.goto (-17), 3, [24], 0)]
theorem ok_X1_empty_24 : vBL MT qLen qCh false q_X1_empty.2.2.2.2.1 q_X1_empty.2.2.2.2.2.1 q_X1_empty.2.2.1 q_X1_empty.1.cls q_X1_empty.1.name q_X1_empty.2.1 0 24 I_X1_empty_24 = true := by decide +kernel
def p_X1_empty_24 : Nat → Nat → Int32 → AH → Option (AH)
  | 0, _, _, _ => none
  | n + 1, a0, x1, h => if x1 < ((16 : Int32)) then (if (tg h a0).1 = 0 then (if inB h (rR h a0 1) 100 x1 then (let h107 := wI h (rR h a0 1) x1.toNatClampNeg ((-2 : Int32))
    p_X1_empty_24 n a0 (x1 + (1 : Int32)) h107) else none) else none)
    else
    if (tg h a0).1 = 0 then (let h104 := wI h a0 2 ((0 : Int32))
    if (tg h104 a0).1 = 0 then (let h105 := wI h104 a0 3 ((0 : Int32))
    if (tg h105 a0).1 = 0 then (let h106 := wI h105 a0 4 ((0 : Int32))
    some h106) else none) else none) else none
theorem e_X1_empty_24 {l : Launch} {D : va_G} {dA : Nat → ClassId} {z : Nat} {sa : Nat → Nat} {Hz : Heap} (E : StrOK qLen qCh l D dA z sa Hz) {h0 fin : AH}  : ∀ (n : Nat) (a0 : Nat) (x1 : Int32) (h : AH), p_X1_empty_24 n a0 x1 h = some fin → GM l D dA z sa Hz q_X1_empty h0 none fin 24 [(0, .ref a0), (1, .int x1)] [] h := by
  intro n
  induction n with
  | zero => intro a0 x1 h hd; exact nomatch hd
  | succ n ih =>
    intro a0 x1 h hd
    exact step E (is := I_X1_empty_24) (pc := 24) (K := (kx 44 (fun la st h => gR la 0 fun a0 => sE st (p_X1_empty_44 a0 h)) (kx 24 (fun la st h => gR la 0 fun a0 => gI la 1 fun x1 => sE st (p_X1_empty_24 n a0 x1 h)) k0))) (FI := fI0) (FV := fV0) (FL := fL0) (rt := rtV) (ft := 0) (by exact hd) ok_X1_empty_24 (kx_ok (fun la st h e => by obtain ⟨a0, m_a0, e⟩ := gR_inv e; obtain ⟨rfl, e⟩ := sE_inv e; exact gm_fewer (e_X1_empty_44 E  a0 h e) (mem_cons m_a0 mem_nil)) (kx_ok (fun la st h e => by obtain ⟨a0, m_a0, e⟩ := gR_inv e; obtain ⟨x1, m_x1, e⟩ := gI_inv e; obtain ⟨rfl, e⟩ := sE_inv e; exact gm_fewer (ih a0 x1 h e) (mem_cons m_a0 (mem_cons m_x1 mem_nil))) k0_ok)) (fI0_ok E) (fV0_ok E) (fL0_ok E) (rtV_ok rfl)
def I_X1_empty_22 : List AI := [(.iconst 0, 1, [], 0), (.istore_n 1, 1, [], 0)]
theorem ok_X1_empty_22 : vBL MT qLen qCh false q_X1_empty.2.2.2.2.1 q_X1_empty.2.2.2.2.2.1 q_X1_empty.2.2.1 q_X1_empty.1.cls q_X1_empty.1.name q_X1_empty.2.1 24 22 I_X1_empty_22 = true := by decide +kernel
def p_X1_empty_22 (a0 : Nat) (h : AH) : Option (AH) :=
  p_X1_empty_24 FU a0 ((0 : Int32)) h
theorem e_X1_empty_22 {l : Launch} {D : va_G} {dA : Nat → ClassId} {z : Nat} {sa : Nat → Nat} {Hz : Heap} (E : StrOK qLen qCh l D dA z sa Hz) {h0 fin : AH}  : ∀ (a0 : Nat) (h : AH), p_X1_empty_22 a0 h = some fin → GM l D dA z sa Hz q_X1_empty h0 none fin 22 [(0, .ref a0)] [] h := by
  intro a0 h hd
  exact step E (is := I_X1_empty_22) (pc := 22) (K := (kx 24 (fun la st h => gR la 0 fun a0 => gI la 1 fun x1 => sE st (p_X1_empty_24 FU a0 x1 h)) k0)) (FI := fI0) (FV := fV0) (FL := fL0) (rt := rtV) (ft := 24) (by exact hd) ok_X1_empty_22 (kx_ok (fun la st h e => by obtain ⟨a0, m_a0, e⟩ := gR_inv e; obtain ⟨x1, m_x1, e⟩ := gI_inv e; obtain ⟨rfl, e⟩ := sE_inv e; exact gm_fewer (e_X1_empty_24 E  FU a0 x1 h e) (mem_cons m_a0 (mem_cons m_x1 mem_nil))) k0_ok) (fI0_ok E) (fV0_ok E) (fL0_ok E) (rtV_ok rfl)
def I_X1_empty_2 : List AI := [(.iload_n 1, 1, [], 0), (.sipush 128, 3, [], 128), (.if_icmp .ge 16, 3, [22], 0), (.aload_n 0, 1, [], 0), (.getfield 9, 3, [0, 0, 2, 189], 0), (.iload_n 1, 1, [], 0), (.iconst 0, 1, [], 0), (.iastore, 1, [], 0), (.iinc 1 1, 3, [], 1), (.goto (-17), 3, [2], 0)]
theorem ok_X1_empty_2 : vBL MT qLen qCh false q_X1_empty.2.2.2.2.1 q_X1_empty.2.2.2.2.2.1 q_X1_empty.2.2.1 q_X1_empty.1.cls q_X1_empty.1.name q_X1_empty.2.1 0 2 I_X1_empty_2 = true := by decide +kernel
def p_X1_empty_2 : Nat → Nat → Int32 → AH → Option (AH)
  | 0, _, _, _ => none
  | n + 1, a0, x1, h => if x1 < ((128 : Int32)) then (if (tg h a0).1 = 0 then (if inB h (rR h a0 0) 100 x1 then (let h108 := wI h (rR h a0 0) x1.toNatClampNeg ((0 : Int32))
    p_X1_empty_2 n a0 (x1 + (1 : Int32)) h108) else none) else none)
    else
    p_X1_empty_24 FU a0 ((0 : Int32)) h
theorem e_X1_empty_2 {l : Launch} {D : va_G} {dA : Nat → ClassId} {z : Nat} {sa : Nat → Nat} {Hz : Heap} (E : StrOK qLen qCh l D dA z sa Hz) {h0 fin : AH}  : ∀ (n : Nat) (a0 : Nat) (x1 : Int32) (h : AH), p_X1_empty_2 n a0 x1 h = some fin → GM l D dA z sa Hz q_X1_empty h0 none fin 2 [(0, .ref a0), (1, .int x1)] [] h := by
  intro n
  induction n with
  | zero => intro a0 x1 h hd; exact nomatch hd
  | succ n ih =>
    intro a0 x1 h hd
    exact step E (is := I_X1_empty_2) (pc := 2) (K := (kx 22 (fun la st h => gR la 0 fun a0 => sE st (p_X1_empty_22 a0 h)) (kx 2 (fun la st h => gR la 0 fun a0 => gI la 1 fun x1 => sE st (p_X1_empty_2 n a0 x1 h)) k0))) (FI := fI0) (FV := fV0) (FL := fL0) (rt := rtV) (ft := 0) (by exact hd) ok_X1_empty_2 (kx_ok (fun la st h e => by obtain ⟨a0, m_a0, e⟩ := gR_inv e; obtain ⟨rfl, e⟩ := sE_inv e; exact gm_fewer (e_X1_empty_22 E  a0 h e) (mem_cons m_a0 mem_nil)) (kx_ok (fun la st h e => by obtain ⟨a0, m_a0, e⟩ := gR_inv e; obtain ⟨x1, m_x1, e⟩ := gI_inv e; obtain ⟨rfl, e⟩ := sE_inv e; exact gm_fewer (ih a0 x1 h e) (mem_cons m_a0 (mem_cons m_x1 mem_nil))) k0_ok)) (fI0_ok E) (fV0_ok E) (fL0_ok E) (rtV_ok rfl)
def I_X1_empty_0 : List AI := [(.iconst 0, 1, [], 0), (.istore_n 1, 1, [], 0)]
theorem ok_X1_empty_0 : vBL MT qLen qCh false q_X1_empty.2.2.2.2.1 q_X1_empty.2.2.2.2.2.1 q_X1_empty.2.2.1 q_X1_empty.1.cls q_X1_empty.1.name q_X1_empty.2.1 2 0 I_X1_empty_0 = true := by decide +kernel
def p_X1_empty (a0 : Nat) (h : AH) : Option (AH) :=
  p_X1_empty_2 FU a0 ((0 : Int32)) h
theorem e_X1_empty_0 {l : Launch} {D : va_G} {dA : Nat → ClassId} {z : Nat} {sa : Nat → Nat} {Hz : Heap} (E : StrOK qLen qCh l D dA z sa Hz) {h0 fin : AH}  : ∀ (a0 : Nat) (h : AH), p_X1_empty a0 h = some fin → GM l D dA z sa Hz q_X1_empty h0 none fin 0 [(0, .ref a0)] [] h := by
  intro a0 h hd
  exact step E (is := I_X1_empty_0) (pc := 0) (K := (kx 2 (fun la st h => gR la 0 fun a0 => gI la 1 fun x1 => sE st (p_X1_empty_2 FU a0 x1 h)) k0)) (FI := fI0) (FV := fV0) (FL := fL0) (rt := rtV) (ft := 2) (by exact hd) ok_X1_empty_0 (kx_ok (fun la st h e => by obtain ⟨a0, m_a0, e⟩ := gR_inv e; obtain ⟨x1, m_x1, e⟩ := gI_inv e; obtain ⟨rfl, e⟩ := sE_inv e; exact gm_fewer (e_X1_empty_2 E  FU a0 x1 h e) (mem_cons m_a0 (mem_cons m_x1 mem_nil))) k0_ok) (fI0_ok E) (fV0_ok E) (fL0_ok E) (rtV_ok rfl)
theorem c_X1_empty {l : Launch} {D : va_G} {dA : Nat → ClassId} {z : Nat} {sa : Nat → Nat} {Hz : Heap} (E : StrOK qLen qCh l D dA z sa Hz) {a0 : Nat} {h fin : AH} (hd : p_X1_empty a0 h = some fin) : CalOK l D dA z sa Hz q_X1_empty [.ref a0] h none fin := calOf (by decide +kernel) (Nat.le_of_ble_eq_true rfl) (e_X1_empty_0 E a0 h hd)
def FV_X6_empty : Nat → List Value → AH → Option (AH) := (cx 10 (fun As h => sR As fun a0 As => sE As (p_X1_empty a0 h)) fV0)
theorem FV_X6_empty_ok {l : Launch} {D : va_G} {dA : Nat → ClassId} {z : Nat} {sa : Nat → Nat} {Hz : Heap} (E : StrOK qLen qCh l D dA z sa Hz) : ∀ mi As h h', FV_X6_empty mi As h = some h' → CalOK l D dA z sa Hz (MT mi) As h none h' := (cxV_ok (fun As h h2 e => by obtain ⟨_, _, rfl, e⟩ := sR_inv e; obtain ⟨rfl, e⟩ := sE_inv e; exact c_X1_empty E e) (fV0_ok E))
def I_X6_empty_39 : List AI := [(.aload_n 0, 1, [], 0), (.iconst 0, 1, [], 0), (.putfield 48, 3, [5, 4, 0, 219], 0), (.aload_n 0, 1, [], 0), (.iconst 0, 1, [], 0), (.putfield 51, 3, [5, 6, 0, 224], 0), (.aload_n 0, 1, [], 0), (.iconst 0, 1, [], 0), (.putfield 54, 3, [5, 9, 0, 229], 0), (.aload_n 0, 1, [], 0), (.iconst 0, 1, [], 0), (.putfield 57, 3, [5, 12, 0, 234], 0), (.return_, 1, [], 0)]
theorem ok_X6_empty_39 : vBL MT qLen qCh false q_X6_empty.2.2.2.2.1 q_X6_empty.2.2.2.2.2.1 q_X6_empty.2.2.1 q_X6_empty.1.cls q_X6_empty.1.name q_X6_empty.2.1 0 39 I_X6_empty_39 = true := by decide +kernel
def p_X6_empty_39 (a0 : Nat) (h : AH) : Option (AH) :=
  if (tg h a0).1 = 5 then (let h101 := wI h a0 4 ((0 : Int32))
  if (tg h101 a0).1 = 5 then (let h102 := wI h101 a0 6 ((0 : Int32))
  if (tg h102 a0).1 = 5 then (let h103 := wI h102 a0 9 ((0 : Int32))
  if (tg h103 a0).1 = 5 then (let h104 := wI h103 a0 12 ((0 : Int32))
  some h104) else none) else none) else none) else none
theorem e_X6_empty_39 {l : Launch} {D : va_G} {dA : Nat → ClassId} {z : Nat} {sa : Nat → Nat} {Hz : Heap} (E : StrOK qLen qCh l D dA z sa Hz) {h0 fin : AH}  : ∀ (a0 : Nat) (h : AH), p_X6_empty_39 a0 h = some fin → GM l D dA z sa Hz q_X6_empty h0 none fin 39 [(0, .ref a0)] [] h := by
  intro a0 h hd
  exact step E (is := I_X6_empty_39) (pc := 39) (K := k0) (FI := fI0) (FV := FV_X6_empty) (FL := fL0) (rt := rtV) (ft := 0) (by exact hd) ok_X6_empty_39 k0_ok (fI0_ok E) (FV_X6_empty_ok E) (fL0_ok E) (rtV_ok rfl)
def I_X6_empty_19 : List AI := [(.iload_n 1, 1, [], 0), (.sipush 128, 3, [], 128), (.if_icmp .ge 16, 3, [39], 0), (.aload_n 0, 1, [], 0), (.getfield 18, 3, [5, 3, 2, 218], 0), (.iload_n 1, 1, [], 0), (.iconst 0, 1, [], 0), (.bastore, 1, [102], 0), (.iinc 1 1, 3, [], 1), (.goto (-17), 3, [19], 0)]
theorem ok_X6_empty_19 : vBL MT qLen qCh false q_X6_empty.2.2.2.2.1 q_X6_empty.2.2.2.2.2.1 q_X6_empty.2.2.1 q_X6_empty.1.cls q_X6_empty.1.name q_X6_empty.2.1 0 19 I_X6_empty_19 = true := by decide +kernel
def p_X6_empty_19 : Nat → Nat → Int32 → AH → Option (AH)
  | 0, _, _, _ => none
  | n + 1, a0, x1, h => if x1 < ((128 : Int32)) then (if (tg h a0).1 = 5 then (if inB h (rR h a0 3) 102 x1 then (let h109 := wI h (rR h a0 3) x1.toNatClampNeg (((0 : Int32)) &&& 1)
    p_X6_empty_19 n a0 (x1 + (1 : Int32)) h109) else none) else none)
    else
    if (tg h a0).1 = 5 then (let h105 := wI h a0 4 ((0 : Int32))
    if (tg h105 a0).1 = 5 then (let h106 := wI h105 a0 6 ((0 : Int32))
    if (tg h106 a0).1 = 5 then (let h107 := wI h106 a0 9 ((0 : Int32))
    if (tg h107 a0).1 = 5 then (let h108 := wI h107 a0 12 ((0 : Int32))
    some h108) else none) else none) else none) else none
theorem e_X6_empty_19 {l : Launch} {D : va_G} {dA : Nat → ClassId} {z : Nat} {sa : Nat → Nat} {Hz : Heap} (E : StrOK qLen qCh l D dA z sa Hz) {h0 fin : AH}  : ∀ (n : Nat) (a0 : Nat) (x1 : Int32) (h : AH), p_X6_empty_19 n a0 x1 h = some fin → GM l D dA z sa Hz q_X6_empty h0 none fin 19 [(0, .ref a0), (1, .int x1)] [] h := by
  intro n
  induction n with
  | zero => intro a0 x1 h hd; exact nomatch hd
  | succ n ih =>
    intro a0 x1 h hd
    exact step E (is := I_X6_empty_19) (pc := 19) (K := (kx 39 (fun la st h => gR la 0 fun a0 => sE st (p_X6_empty_39 a0 h)) (kx 19 (fun la st h => gR la 0 fun a0 => gI la 1 fun x1 => sE st (p_X6_empty_19 n a0 x1 h)) k0))) (FI := fI0) (FV := FV_X6_empty) (FL := fL0) (rt := rtV) (ft := 0) (by exact hd) ok_X6_empty_19 (kx_ok (fun la st h e => by obtain ⟨a0, m_a0, e⟩ := gR_inv e; obtain ⟨rfl, e⟩ := sE_inv e; exact gm_fewer (e_X6_empty_39 E  a0 h e) (mem_cons m_a0 mem_nil)) (kx_ok (fun la st h e => by obtain ⟨a0, m_a0, e⟩ := gR_inv e; obtain ⟨x1, m_x1, e⟩ := gI_inv e; obtain ⟨rfl, e⟩ := sE_inv e; exact gm_fewer (ih a0 x1 h e) (mem_cons m_a0 (mem_cons m_x1 mem_nil))) k0_ok)) (fI0_ok E) (FV_X6_empty_ok E) (fL0_ok E) (rtV_ok rfl)
def I_X6_empty_0 : List AI := [(.aload_n 0, 1, [], 0), (.getfield 12, 3, [5, 0, 2, 210], 0), (.invokevirtual 38, 3, [2, 10, 1, 0, 415], 0), (.aload_n 0, 1, [], 0), (.iconst 0, 1, [], 0), (.putfield 41, 3, [5, 1, 0, 213], 0), (.aload_n 0, 1, [], 0), (.iconst 0, 1, [], 0), (.putfield 45, 3, [5, 2, 0, 216], 0), (.iconst 0, 1, [], 0), (.istore_n 1, 1, [], 0)]
theorem ok_X6_empty_0 : vBL MT qLen qCh false q_X6_empty.2.2.2.2.1 q_X6_empty.2.2.2.2.2.1 q_X6_empty.2.2.1 q_X6_empty.1.cls q_X6_empty.1.name q_X6_empty.2.1 19 0 I_X6_empty_0 = true := by decide +kernel
def p_X6_empty (a0 : Nat) (h : AH) : Option (AH) :=
  if (tg h a0).1 = 5 then (if (tg h (rR h a0 0)).1 = 0 then ((p_X1_empty (rR h a0 0) h).bind fun h110 =>
  if (tg h110 a0).1 = 5 then (let h111 := wI h110 a0 1 ((0 : Int32))
  if (tg h111 a0).1 = 5 then (let h112 := wI h111 a0 2 ((0 : Int32))
  p_X6_empty_19 FU a0 ((0 : Int32)) h112) else none) else none) else none) else none
theorem e_X6_empty_0 {l : Launch} {D : va_G} {dA : Nat → ClassId} {z : Nat} {sa : Nat → Nat} {Hz : Heap} (E : StrOK qLen qCh l D dA z sa Hz) {h0 fin : AH}  : ∀ (a0 : Nat) (h : AH), p_X6_empty a0 h = some fin → GM l D dA z sa Hz q_X6_empty h0 none fin 0 [(0, .ref a0)] [] h := by
  intro a0 h hd
  exact step E (is := I_X6_empty_0) (pc := 0) (K := (kx 19 (fun la st h => gR la 0 fun a0 => gI la 1 fun x1 => sE st (p_X6_empty_19 FU a0 x1 h)) k0)) (FI := fI0) (FV := FV_X6_empty) (FL := fL0) (rt := rtV) (ft := 19) (by exact hd) ok_X6_empty_0 (kx_ok (fun la st h e => by obtain ⟨a0, m_a0, e⟩ := gR_inv e; obtain ⟨x1, m_x1, e⟩ := gI_inv e; obtain ⟨rfl, e⟩ := sE_inv e; exact gm_fewer (e_X6_empty_19 E  FU a0 x1 h e) (mem_cons m_a0 (mem_cons m_x1 mem_nil))) k0_ok) (fI0_ok E) (FV_X6_empty_ok E) (fL0_ok E) (rtV_ok rfl)
theorem c_X6_empty {l : Launch} {D : va_G} {dA : Nat → ClassId} {z : Nat} {sa : Nat → Nat} {Hz : Heap} (E : StrOK qLen qCh l D dA z sa Hz) {a0 : Nat} {h fin : AH} (hd : p_X6_empty a0 h = some fin) : CalOK l D dA z sa Hz q_X6_empty [.ref a0] h none fin := calOf (by decide +kernel) (Nat.le_of_ble_eq_true rfl) (e_X6_empty_0 E a0 h hd)
