/-! ===== methods 275 to 299 ===== -/
def I_X9_aheadOf_64 : List AI := [(.iload_n 2, 1, [], 0), (.ireturn, 1, [], 0)]
theorem ok_X9_aheadOf_64 : vBL MT qLen qCh false q_X9_aheadOf.2.2.2.2.1 q_X9_aheadOf.2.2.2.2.2.1 q_X9_aheadOf.2.2.1 q_X9_aheadOf.1.cls q_X9_aheadOf.1.name q_X9_aheadOf.2.1 0 64 I_X9_aheadOf_64 = true := by decide +kernel
def p_X9_aheadOf_64 (x2 : Int32) (h : AH) : Option (Int32 × AH) :=
  some (x2, h)
set_option maxRecDepth 100000 in
theorem e_X9_aheadOf_64 {l : Launch} {D : va_G} {dA : Nat → ClassId} {z : Nat} {sa : Nat → Nat} {Hz : Heap} (E : StrOK qLen qCh l D dA z sa Hz) {h0 fin : AH} {x : Int32}  : ∀ (x2 : Int32) (h : AH), p_X9_aheadOf_64 x2 h = some (x, fin) → GM l D dA z sa Hz q_X9_aheadOf h0 (some (.int x)) fin 64 [(2, .int x2)] [] h := by
  intro x2 h hd
  exact step E (is := I_X9_aheadOf_64) (pc := 64) (K := k0) (FI := fI0) (FV := fV0) (FL := fL0) (rt := rtI) (ft := 0) (by exact hd) ok_X9_aheadOf_64 k0_ok (fI0_ok E) (fV0_ok E) (fL0_ok E) (rtI_ok rfl)
def I_X9_aheadOf_56 : List AI := [(.iadd, 1, [], 0), (.istore_n 2, 1, [], 0), (.iinc 3 1, 3, [], 1), (.goto (-57), 3, [4], 0)]
theorem ok_X9_aheadOf_56 : vBL MT qLen qCh false q_X9_aheadOf.2.2.2.2.1 q_X9_aheadOf.2.2.2.2.2.1 q_X9_aheadOf.2.2.1 q_X9_aheadOf.1.cls q_X9_aheadOf.1.name q_X9_aheadOf.2.1 0 56 I_X9_aheadOf_56 = true := by decide +kernel
def p_X9_aheadOf_56 (k4 : Nat → Int32 → Int32 → Int32 → AH → Option (Int32 × AH)) (a0 : Nat) (x1 : Int32) (x3 : Int32) (y0 : Int32) (y1 : Int32) (h : AH) : Option (Int32 × AH) :=
  let x101 := y1 + y0
  k4 a0 x1 x101 (x3 + (1 : Int32)) h
set_option maxRecDepth 100000 in
theorem e_X9_aheadOf_56 {l : Launch} {D : va_G} {dA : Nat → ClassId} {z : Nat} {sa : Nat → Nat} {Hz : Heap} (E : StrOK qLen qCh l D dA z sa Hz) {h0 fin : AH} {x : Int32}  {k4 : Nat → Int32 → Int32 → Int32 → AH → Option (Int32 × AH)} (hk4 : ∀ (a0 : Nat) (x1 : Int32) (x2 : Int32) (x3 : Int32) (h : AH), k4 a0 x1 x2 x3 h = some (x, fin) → GM l D dA z sa Hz q_X9_aheadOf h0 (some (.int x)) fin 4 [(0, .ref a0), (1, .int x1), (2, .int x2), (3, .int x3)] [] h) : ∀ (a0 : Nat) (x1 : Int32) (x3 : Int32) (y0 : Int32) (y1 : Int32) (h : AH), p_X9_aheadOf_56 k4 a0 x1 x3 y0 y1 h = some (x, fin) → GM l D dA z sa Hz q_X9_aheadOf h0 (some (.int x)) fin 56 [(0, .ref a0), (1, .int x1), (3, .int x3)] [.int y0, .int y1] h := by
  intro a0 x1 x3 y0 y1 h hd
  exact step E (is := I_X9_aheadOf_56) (pc := 56) (K := (kx 4 (fun la st h => gR la 0 fun a0 => gI la 1 fun x1 => gI la 2 fun x2 => gI la 3 fun x3 => sE st (k4 a0 x1 x2 x3 h)) k0)) (FI := fI0) (FV := fV0) (FL := fL0) (rt := rtI) (ft := 0) (by exact hd) ok_X9_aheadOf_56 (kx_ok (fun la st h e => by obtain ⟨a0, m_a0, e1⟩ := gR_inv e; obtain ⟨x1, m_x1, e2⟩ := gI_inv e1; obtain ⟨x2, m_x2, e3⟩ := gI_inv e2; obtain ⟨x3, m_x3, e4⟩ := gI_inv e3; obtain ⟨rfl, ez⟩ := sE_inv e4; exact gm_fewer (hk4 a0 x1 x2 x3 h ez) (mem_cons m_a0 (mem_cons m_x1 (mem_cons m_x2 (mem_cons m_x3 mem_nil))))) k0_ok) (fI0_ok E) (fV0_ok E) (fL0_ok E) (rtI_ok rfl)
def I_X9_aheadOf_55 : List AI := [(.iconst 0, 1, [], 0)]
theorem ok_X9_aheadOf_55 : vBL MT qLen qCh false q_X9_aheadOf.2.2.2.2.1 q_X9_aheadOf.2.2.2.2.2.1 q_X9_aheadOf.2.2.1 q_X9_aheadOf.1.cls q_X9_aheadOf.1.name q_X9_aheadOf.2.1 56 55 I_X9_aheadOf_55 = true := by decide +kernel
def p_X9_aheadOf_55 (k4 : Nat → Int32 → Int32 → Int32 → AH → Option (Int32 × AH)) (a0 : Nat) (x1 : Int32) (x3 : Int32) (y0 : Int32) (h : AH) : Option (Int32 × AH) :=
  p_X9_aheadOf_56 k4 a0 x1 x3 ((0 : Int32)) y0 h
set_option maxRecDepth 100000 in
theorem e_X9_aheadOf_55 {l : Launch} {D : va_G} {dA : Nat → ClassId} {z : Nat} {sa : Nat → Nat} {Hz : Heap} (E : StrOK qLen qCh l D dA z sa Hz) {h0 fin : AH} {x : Int32}  {k4 : Nat → Int32 → Int32 → Int32 → AH → Option (Int32 × AH)} (hk4 : ∀ (a0 : Nat) (x1 : Int32) (x2 : Int32) (x3 : Int32) (h : AH), k4 a0 x1 x2 x3 h = some (x, fin) → GM l D dA z sa Hz q_X9_aheadOf h0 (some (.int x)) fin 4 [(0, .ref a0), (1, .int x1), (2, .int x2), (3, .int x3)] [] h) : ∀ (a0 : Nat) (x1 : Int32) (x3 : Int32) (y0 : Int32) (h : AH), p_X9_aheadOf_55 k4 a0 x1 x3 y0 h = some (x, fin) → GM l D dA z sa Hz q_X9_aheadOf h0 (some (.int x)) fin 55 [(0, .ref a0), (1, .int x1), (3, .int x3)] [.int y0] h := by
  intro a0 x1 x3 y0 h hd
  exact step E (is := I_X9_aheadOf_55) (pc := 55) (K := (kx 56 (fun la st h => gR la 0 fun a0 => gI la 1 fun x1 => gI la 3 fun x3 => sI st fun y0 st => sI st fun y1 st => sE st (p_X9_aheadOf_56 k4 a0 x1 x3 y0 y1 h)) k0)) (FI := fI0) (FV := fV0) (FL := fL0) (rt := rtI) (ft := 56) (by exact hd) ok_X9_aheadOf_55 (kx_ok (fun la st h e => by obtain ⟨a0, m_a0, e1⟩ := gR_inv e; obtain ⟨x1, m_x1, e2⟩ := gI_inv e1; obtain ⟨x3, m_x3, e3⟩ := gI_inv e2; obtain ⟨y0, _, rfl, e4⟩ := sI_inv e3; obtain ⟨y1, _, rfl, e5⟩ := sI_inv e4; obtain ⟨rfl, ez⟩ := sE_inv e5; exact gm_fewer (e_X9_aheadOf_56 E hk4 a0 x1 x3 y0 y1 h ez) (mem_cons m_a0 (mem_cons m_x1 (mem_cons m_x3 mem_nil)))) k0_ok) (fI0_ok E) (fV0_ok E) (fL0_ok E) (rtI_ok rfl)
def I_X9_aheadOf_4 : List AI := [(.iload_n 3, 1, [], 0), (.aload_n 0, 1, [], 0), (.getfield 297, 3, [8, 26, 0, 1371], 0), (.if_icmp .ge 55, 3, [64], 0), (.iload_n 2, 1, [], 0), (.aload_n 0, 1, [], 0), (.getfield 21, 3, [8, 16, 2, 1361], 0), (.sipush 147, 3, [], 147), (.iload_n 3, 1, [], 0), (.iadd, 1, [], 0), (.iaload, 1, [], 0), (.bipush (-2), 2, [], (-2)), (.if_icmp .eq 30, 3, [55], 0), (.aload_n 0, 1, [], 0), (.getfield 21, 3, [8, 16, 2, 1361], 0), (.sipush 163, 3, [], 163), (.iload_n 3, 1, [], 0), (.iadd, 1, [], 0), (.iaload, 1, [], 0), (.aload_n 0, 1, [], 0), (.getfield 21, 3, [8, 16, 2, 1361], 0), (.sipush 163, 3, [], 163), (.iload_n 1, 1, [], 0), (.iadd, 1, [], 0), (.iaload, 1, [], 0), (.if_icmp .ge 7, 3, [55], 0), (.iconst 1, 1, [], 1), (.goto 4, 3, [56], 0)]
theorem ok_X9_aheadOf_4 : vBL MT qLen qCh false q_X9_aheadOf.2.2.2.2.1 q_X9_aheadOf.2.2.2.2.2.1 q_X9_aheadOf.2.2.1 q_X9_aheadOf.1.cls q_X9_aheadOf.1.name q_X9_aheadOf.2.1 0 4 I_X9_aheadOf_4 = true := by decide +kernel
def p_X9_aheadOf_4 : Nat → Nat → Int32 → Int32 → Int32 → AH → Option (Int32 × AH)
  | 0, _, _, _, _, _ => none
  | n + 1, a0, x1, x2, x3, h => if (tg h a0).1 = 8 then (if x3 < (rI h a0 26) then (if (tg h a0).1 = 8 then (if inB h (rR h a0 16) 100 (((147 : Int32)) + x3) then (if (rI h (rR h a0 16) (((147 : Int32)) + x3).toNatClampNeg) = ((-2 : Int32)) then (p_X9_aheadOf_55 (p_X9_aheadOf_4 n) a0 x1 x3 x2 h)
    else
    if (tg h a0).1 = 8 then (if inB h (rR h a0 16) 100 (((163 : Int32)) + x3) then (if (tg h a0).1 = 8 then (if inB h (rR h a0 16) 100 (((163 : Int32)) + x1) then (if (rI h (rR h a0 16) (((163 : Int32)) + x3).toNatClampNeg) < (rI h (rR h a0 16) (((163 : Int32)) + x1).toNatClampNeg) then (p_X9_aheadOf_56 (p_X9_aheadOf_4 n) a0 x1 x3 ((1 : Int32)) x2 h)
    else
    p_X9_aheadOf_55 (p_X9_aheadOf_4 n) a0 x1 x3 x2 h) else none) else none) else none) else none) else none) else none)
    else
    some (x2, h)) else none
set_option maxRecDepth 100000 in
theorem e_X9_aheadOf_4 {l : Launch} {D : va_G} {dA : Nat → ClassId} {z : Nat} {sa : Nat → Nat} {Hz : Heap} (E : StrOK qLen qCh l D dA z sa Hz) {h0 fin : AH} {x : Int32}  : ∀ (n : Nat) (a0 : Nat) (x1 : Int32) (x2 : Int32) (x3 : Int32) (h : AH), p_X9_aheadOf_4 n a0 x1 x2 x3 h = some (x, fin) → GM l D dA z sa Hz q_X9_aheadOf h0 (some (.int x)) fin 4 [(0, .ref a0), (1, .int x1), (2, .int x2), (3, .int x3)] [] h := by
  intro n
  induction n with
  | zero => intro a0 x1 x2 x3 h hd; exact nomatch hd
  | succ n ih =>
    intro a0 x1 x2 x3 h hd
    exact step E (is := I_X9_aheadOf_4) (pc := 4) (K := (kx 64 (fun la st h => gI la 2 fun x2 => sE st (p_X9_aheadOf_64 x2 h)) (kx 55 (fun la st h => gR la 0 fun a0 => gI la 1 fun x1 => gI la 3 fun x3 => sI st fun y0 st => sE st (p_X9_aheadOf_55 (p_X9_aheadOf_4 n) a0 x1 x3 y0 h)) (kx 56 (fun la st h => gR la 0 fun a0 => gI la 1 fun x1 => gI la 3 fun x3 => sI st fun y0 st => sI st fun y1 st => sE st (p_X9_aheadOf_56 (p_X9_aheadOf_4 n) a0 x1 x3 y0 y1 h)) k0)))) (FI := fI0) (FV := fV0) (FL := fL0) (rt := rtI) (ft := 0) (by exact hd) ok_X9_aheadOf_4 (kx_ok (fun la st h e => by obtain ⟨x2, m_x2, e1⟩ := gI_inv e; obtain ⟨rfl, ez⟩ := sE_inv e1; exact gm_fewer (e_X9_aheadOf_64 E  x2 h ez) (mem_cons m_x2 mem_nil)) (kx_ok (fun la st h e => by obtain ⟨a0, m_a0, e1⟩ := gR_inv e; obtain ⟨x1, m_x1, e2⟩ := gI_inv e1; obtain ⟨x3, m_x3, e3⟩ := gI_inv e2; obtain ⟨y0, _, rfl, e4⟩ := sI_inv e3; obtain ⟨rfl, ez⟩ := sE_inv e4; exact gm_fewer (e_X9_aheadOf_55 E ih a0 x1 x3 y0 h ez) (mem_cons m_a0 (mem_cons m_x1 (mem_cons m_x3 mem_nil)))) (kx_ok (fun la st h e => by obtain ⟨a0, m_a0, e1⟩ := gR_inv e; obtain ⟨x1, m_x1, e2⟩ := gI_inv e1; obtain ⟨x3, m_x3, e3⟩ := gI_inv e2; obtain ⟨y0, _, rfl, e4⟩ := sI_inv e3; obtain ⟨y1, _, rfl, e5⟩ := sI_inv e4; obtain ⟨rfl, ez⟩ := sE_inv e5; exact gm_fewer (e_X9_aheadOf_56 E ih a0 x1 x3 y0 y1 h ez) (mem_cons m_a0 (mem_cons m_x1 (mem_cons m_x3 mem_nil)))) k0_ok))) (fI0_ok E) (fV0_ok E) (fL0_ok E) (rtI_ok rfl)
def I_X9_aheadOf_0 : List AI := [(.iconst 0, 1, [], 0), (.istore_n 2, 1, [], 0), (.iconst 0, 1, [], 0), (.istore_n 3, 1, [], 0)]
theorem ok_X9_aheadOf_0 : vBL MT qLen qCh false q_X9_aheadOf.2.2.2.2.1 q_X9_aheadOf.2.2.2.2.2.1 q_X9_aheadOf.2.2.1 q_X9_aheadOf.1.cls q_X9_aheadOf.1.name q_X9_aheadOf.2.1 4 0 I_X9_aheadOf_0 = true := by decide +kernel
def p_X9_aheadOf (a0 : Nat) (x1 : Int32) (h : AH) : Option (Int32 × AH) :=
  p_X9_aheadOf_4 FU a0 x1 ((0 : Int32)) ((0 : Int32)) h
set_option maxRecDepth 100000 in
theorem e_X9_aheadOf_0 {l : Launch} {D : va_G} {dA : Nat → ClassId} {z : Nat} {sa : Nat → Nat} {Hz : Heap} (E : StrOK qLen qCh l D dA z sa Hz) {h0 fin : AH} {x : Int32}  : ∀ (a0 : Nat) (x1 : Int32) (h : AH), p_X9_aheadOf a0 x1 h = some (x, fin) → GM l D dA z sa Hz q_X9_aheadOf h0 (some (.int x)) fin 0 [(0, .ref a0), (1, .int x1)] [] h := by
  intro a0 x1 h hd
  exact step E (is := I_X9_aheadOf_0) (pc := 0) (K := (kx 4 (fun la st h => gR la 0 fun a0 => gI la 1 fun x1 => gI la 2 fun x2 => gI la 3 fun x3 => sE st (p_X9_aheadOf_4 FU a0 x1 x2 x3 h)) k0)) (FI := fI0) (FV := fV0) (FL := fL0) (rt := rtI) (ft := 4) (by exact hd) ok_X9_aheadOf_0 (kx_ok (fun la st h e => by obtain ⟨a0, m_a0, e1⟩ := gR_inv e; obtain ⟨x1, m_x1, e2⟩ := gI_inv e1; obtain ⟨x2, m_x2, e3⟩ := gI_inv e2; obtain ⟨x3, m_x3, e4⟩ := gI_inv e3; obtain ⟨rfl, ez⟩ := sE_inv e4; exact gm_fewer (e_X9_aheadOf_4 E  FU a0 x1 x2 x3 h ez) (mem_cons m_a0 (mem_cons m_x1 (mem_cons m_x2 (mem_cons m_x3 mem_nil))))) k0_ok) (fI0_ok E) (fV0_ok E) (fL0_ok E) (rtI_ok rfl)
theorem c_X9_aheadOf {l : Launch} {D : va_G} {dA : Nat → ClassId} {z : Nat} {sa : Nat → Nat} {Hz : Heap} (E : StrOK qLen qCh l D dA z sa Hz) {a0 : Nat} {x1 : Int32} {h fin : AH} {x : Int32} (hd : p_X9_aheadOf a0 x1 h = some (x, fin)) : CalOK l D dA z sa Hz q_X9_aheadOf [.ref a0, .int x1] h (some (.int x)) fin := calOf (by decide +kernel) (Nat.le_of_ble_eq_true rfl) (e_X9_aheadOf_0 E a0 x1 h hd)
def I_X9_tellingOf_69 : List AI := [(.iload_n 2, 1, [], 0), (.ireturn, 1, [], 0)]
theorem ok_X9_tellingOf_69 : vBL MT qLen qCh false q_X9_tellingOf.2.2.2.2.1 q_X9_tellingOf.2.2.2.2.2.1 q_X9_tellingOf.2.2.1 q_X9_tellingOf.1.cls q_X9_tellingOf.1.name q_X9_tellingOf.2.1 0 69 I_X9_tellingOf_69 = true := by decide +kernel
def p_X9_tellingOf_69 (x2 : Int32) (h : AH) : Option (Int32 × AH) :=
  some (x2, h)
set_option maxRecDepth 100000 in
theorem e_X9_tellingOf_69 {l : Launch} {D : va_G} {dA : Nat → ClassId} {z : Nat} {sa : Nat → Nat} {Hz : Heap} (E : StrOK qLen qCh l D dA z sa Hz) {h0 fin : AH} {x : Int32}  : ∀ (x2 : Int32) (h : AH), p_X9_tellingOf_69 x2 h = some (x, fin) → GM l D dA z sa Hz q_X9_tellingOf h0 (some (.int x)) fin 69 [(2, .int x2)] [] h := by
  intro x2 h hd
  exact step E (is := I_X9_tellingOf_69) (pc := 69) (K := k0) (FI := fI0) (FV := fV0) (FL := fL0) (rt := rtI) (ft := 0) (by exact hd) ok_X9_tellingOf_69 k0_ok (fI0_ok E) (fV0_ok E) (fL0_ok E) (rtI_ok rfl)
def I_X9_tellingOf_61 : List AI := [(.iadd, 1, [], 0), (.istore_n 2, 1, [], 0), (.iinc 3 1, 3, [], 1), (.goto (-60), 3, [6], 0)]
theorem ok_X9_tellingOf_61 : vBL MT qLen qCh false q_X9_tellingOf.2.2.2.2.1 q_X9_tellingOf.2.2.2.2.2.1 q_X9_tellingOf.2.2.1 q_X9_tellingOf.1.cls q_X9_tellingOf.1.name q_X9_tellingOf.2.1 0 61 I_X9_tellingOf_61 = true := by decide +kernel
def p_X9_tellingOf_61 (k6 : Nat → Int32 → Int32 → Int32 → AH → Option (Int32 × AH)) (a0 : Nat) (x1 : Int32) (x3 : Int32) (y0 : Int32) (y1 : Int32) (h : AH) : Option (Int32 × AH) :=
  let x101 := y1 + y0
  k6 a0 x1 x101 (x3 + (1 : Int32)) h
set_option maxRecDepth 100000 in
theorem e_X9_tellingOf_61 {l : Launch} {D : va_G} {dA : Nat → ClassId} {z : Nat} {sa : Nat → Nat} {Hz : Heap} (E : StrOK qLen qCh l D dA z sa Hz) {h0 fin : AH} {x : Int32}  {k6 : Nat → Int32 → Int32 → Int32 → AH → Option (Int32 × AH)} (hk6 : ∀ (a0 : Nat) (x1 : Int32) (x2 : Int32) (x3 : Int32) (h : AH), k6 a0 x1 x2 x3 h = some (x, fin) → GM l D dA z sa Hz q_X9_tellingOf h0 (some (.int x)) fin 6 [(0, .ref a0), (1, .int x1), (2, .int x2), (3, .int x3)] [] h) : ∀ (a0 : Nat) (x1 : Int32) (x3 : Int32) (y0 : Int32) (y1 : Int32) (h : AH), p_X9_tellingOf_61 k6 a0 x1 x3 y0 y1 h = some (x, fin) → GM l D dA z sa Hz q_X9_tellingOf h0 (some (.int x)) fin 61 [(0, .ref a0), (1, .int x1), (3, .int x3)] [.int y0, .int y1] h := by
  intro a0 x1 x3 y0 y1 h hd
  exact step E (is := I_X9_tellingOf_61) (pc := 61) (K := (kx 6 (fun la st h => gR la 0 fun a0 => gI la 1 fun x1 => gI la 2 fun x2 => gI la 3 fun x3 => sE st (k6 a0 x1 x2 x3 h)) k0)) (FI := fI0) (FV := fV0) (FL := fL0) (rt := rtI) (ft := 0) (by exact hd) ok_X9_tellingOf_61 (kx_ok (fun la st h e => by obtain ⟨a0, m_a0, e1⟩ := gR_inv e; obtain ⟨x1, m_x1, e2⟩ := gI_inv e1; obtain ⟨x2, m_x2, e3⟩ := gI_inv e2; obtain ⟨x3, m_x3, e4⟩ := gI_inv e3; obtain ⟨rfl, ez⟩ := sE_inv e4; exact gm_fewer (hk6 a0 x1 x2 x3 h ez) (mem_cons m_a0 (mem_cons m_x1 (mem_cons m_x2 (mem_cons m_x3 mem_nil))))) k0_ok) (fI0_ok E) (fV0_ok E) (fL0_ok E) (rtI_ok rfl)
def I_X9_tellingOf_60 : List AI := [(.iconst 0, 1, [], 0)]
theorem ok_X9_tellingOf_60 : vBL MT qLen qCh false q_X9_tellingOf.2.2.2.2.1 q_X9_tellingOf.2.2.2.2.2.1 q_X9_tellingOf.2.2.1 q_X9_tellingOf.1.cls q_X9_tellingOf.1.name q_X9_tellingOf.2.1 61 60 I_X9_tellingOf_60 = true := by decide +kernel
def p_X9_tellingOf_60 (k6 : Nat → Int32 → Int32 → Int32 → AH → Option (Int32 × AH)) (a0 : Nat) (x1 : Int32) (x3 : Int32) (y0 : Int32) (h : AH) : Option (Int32 × AH) :=
  p_X9_tellingOf_61 k6 a0 x1 x3 ((0 : Int32)) y0 h
set_option maxRecDepth 100000 in
theorem e_X9_tellingOf_60 {l : Launch} {D : va_G} {dA : Nat → ClassId} {z : Nat} {sa : Nat → Nat} {Hz : Heap} (E : StrOK qLen qCh l D dA z sa Hz) {h0 fin : AH} {x : Int32}  {k6 : Nat → Int32 → Int32 → Int32 → AH → Option (Int32 × AH)} (hk6 : ∀ (a0 : Nat) (x1 : Int32) (x2 : Int32) (x3 : Int32) (h : AH), k6 a0 x1 x2 x3 h = some (x, fin) → GM l D dA z sa Hz q_X9_tellingOf h0 (some (.int x)) fin 6 [(0, .ref a0), (1, .int x1), (2, .int x2), (3, .int x3)] [] h) : ∀ (a0 : Nat) (x1 : Int32) (x3 : Int32) (y0 : Int32) (h : AH), p_X9_tellingOf_60 k6 a0 x1 x3 y0 h = some (x, fin) → GM l D dA z sa Hz q_X9_tellingOf h0 (some (.int x)) fin 60 [(0, .ref a0), (1, .int x1), (3, .int x3)] [.int y0] h := by
  intro a0 x1 x3 y0 h hd
  exact step E (is := I_X9_tellingOf_60) (pc := 60) (K := (kx 61 (fun la st h => gR la 0 fun a0 => gI la 1 fun x1 => gI la 3 fun x3 => sI st fun y0 st => sI st fun y1 st => sE st (p_X9_tellingOf_61 k6 a0 x1 x3 y0 y1 h)) k0)) (FI := fI0) (FV := fV0) (FL := fL0) (rt := rtI) (ft := 61) (by exact hd) ok_X9_tellingOf_60 (kx_ok (fun la st h e => by obtain ⟨a0, m_a0, e1⟩ := gR_inv e; obtain ⟨x1, m_x1, e2⟩ := gI_inv e1; obtain ⟨x3, m_x3, e3⟩ := gI_inv e2; obtain ⟨y0, _, rfl, e4⟩ := sI_inv e3; obtain ⟨y1, _, rfl, e5⟩ := sI_inv e4; obtain ⟨rfl, ez⟩ := sE_inv e5; exact gm_fewer (e_X9_tellingOf_61 E hk6 a0 x1 x3 y0 y1 h ez) (mem_cons m_a0 (mem_cons m_x1 (mem_cons m_x3 mem_nil)))) k0_ok) (fI0_ok E) (fV0_ok E) (fL0_ok E) (rtI_ok rfl)
def I_X9_tellingOf_6 : List AI := [(.iload_n 3, 1, [], 0), (.sipush 243, 3, [], 243), (.if_icmp .ge 59, 3, [69], 0), (.iload_n 2, 1, [], 0), (.aload_n 0, 1, [], 0), (.getfield 21, 3, [8, 16, 2, 1361], 0), (.sipush 147, 3, [], 147), (.iload_n 3, 1, [], 0), (.sipush 179, 3, [], 179), (.isub, 1, [], 0), (.bipush 8, 2, [], 8), (.idiv, 1, [], 0), (.iadd, 1, [], 0), (.iaload, 1, [], 0), (.ifCond .ne 29, 3, [60], 0), (.aload_n 0, 1, [], 0), (.getfield 21, 3, [8, 16, 2, 1361], 0), (.iload_n 3, 1, [], 0), (.iaload, 1, [], 0), (.iconst (-1), 1, [], (-1)), (.if_icmp .eq 19, 3, [60], 0), (.aload_n 0, 1, [], 0), (.getfield 21, 3, [8, 16, 2, 1361], 0), (.iload_n 3, 1, [], 0), (.iaload, 1, [], 0), (.iconst 4, 1, [], 4), (.idiv, 1, [], 0), (.iload_n 1, 1, [], 0), (.if_icmp .ne 7, 3, [60], 0), (.iconst 1, 1, [], 1), (.goto 4, 3, [61], 0)]
theorem ok_X9_tellingOf_6 : vBL MT qLen qCh false q_X9_tellingOf.2.2.2.2.1 q_X9_tellingOf.2.2.2.2.2.1 q_X9_tellingOf.2.2.1 q_X9_tellingOf.1.cls q_X9_tellingOf.1.name q_X9_tellingOf.2.1 0 6 I_X9_tellingOf_6 = true := by decide +kernel
def p_X9_tellingOf_6 : Nat → Nat → Int32 → Int32 → Int32 → AH → Option (Int32 × AH)
  | 0, _, _, _, _, _ => none
  | n + 1, a0, x1, x2, x3, h => if x3 < ((243 : Int32)) then (if (tg h a0).1 = 8 then (if ((8 : Int32)) = 0 then none else
    if inB h (rR h a0 16) 100 (((147 : Int32)) + ((x3 - ((179 : Int32))) / ((8 : Int32)))) then (if (rI h (rR h a0 16) (((147 : Int32)) + ((x3 - ((179 : Int32))) / ((8 : Int32)))).toNatClampNeg) = 0 then (if (tg h a0).1 = 8 then (if inB h (rR h a0 16) 100 x3 then (if (rI h (rR h a0 16) x3.toNatClampNeg) = ((-1 : Int32)) then (p_X9_tellingOf_60 (p_X9_tellingOf_6 n) a0 x1 x3 x2 h)
    else
    if (tg h a0).1 = 8 then (if inB h (rR h a0 16) 100 x3 then (if ((4 : Int32)) = 0 then none else
    if ((rI h (rR h a0 16) x3.toNatClampNeg) / ((4 : Int32))) = x1 then (p_X9_tellingOf_61 (p_X9_tellingOf_6 n) a0 x1 x3 ((1 : Int32)) x2 h)
    else
    p_X9_tellingOf_60 (p_X9_tellingOf_6 n) a0 x1 x3 x2 h) else none) else none) else none) else none)
    else
    p_X9_tellingOf_60 (p_X9_tellingOf_6 n) a0 x1 x3 x2 h) else none) else none)
    else
    some (x2, h)
set_option maxRecDepth 100000 in
theorem e_X9_tellingOf_6 {l : Launch} {D : va_G} {dA : Nat → ClassId} {z : Nat} {sa : Nat → Nat} {Hz : Heap} (E : StrOK qLen qCh l D dA z sa Hz) {h0 fin : AH} {x : Int32}  : ∀ (n : Nat) (a0 : Nat) (x1 : Int32) (x2 : Int32) (x3 : Int32) (h : AH), p_X9_tellingOf_6 n a0 x1 x2 x3 h = some (x, fin) → GM l D dA z sa Hz q_X9_tellingOf h0 (some (.int x)) fin 6 [(0, .ref a0), (1, .int x1), (2, .int x2), (3, .int x3)] [] h := by
  intro n
  induction n with
  | zero => intro a0 x1 x2 x3 h hd; exact nomatch hd
  | succ n ih =>
    intro a0 x1 x2 x3 h hd
    exact step E (is := I_X9_tellingOf_6) (pc := 6) (K := (kx 69 (fun la st h => gI la 2 fun x2 => sE st (p_X9_tellingOf_69 x2 h)) (kx 60 (fun la st h => gR la 0 fun a0 => gI la 1 fun x1 => gI la 3 fun x3 => sI st fun y0 st => sE st (p_X9_tellingOf_60 (p_X9_tellingOf_6 n) a0 x1 x3 y0 h)) (kx 61 (fun la st h => gR la 0 fun a0 => gI la 1 fun x1 => gI la 3 fun x3 => sI st fun y0 st => sI st fun y1 st => sE st (p_X9_tellingOf_61 (p_X9_tellingOf_6 n) a0 x1 x3 y0 y1 h)) k0)))) (FI := fI0) (FV := fV0) (FL := fL0) (rt := rtI) (ft := 0) (by exact hd) ok_X9_tellingOf_6 (kx_ok (fun la st h e => by obtain ⟨x2, m_x2, e1⟩ := gI_inv e; obtain ⟨rfl, ez⟩ := sE_inv e1; exact gm_fewer (e_X9_tellingOf_69 E  x2 h ez) (mem_cons m_x2 mem_nil)) (kx_ok (fun la st h e => by obtain ⟨a0, m_a0, e1⟩ := gR_inv e; obtain ⟨x1, m_x1, e2⟩ := gI_inv e1; obtain ⟨x3, m_x3, e3⟩ := gI_inv e2; obtain ⟨y0, _, rfl, e4⟩ := sI_inv e3; obtain ⟨rfl, ez⟩ := sE_inv e4; exact gm_fewer (e_X9_tellingOf_60 E ih a0 x1 x3 y0 h ez) (mem_cons m_a0 (mem_cons m_x1 (mem_cons m_x3 mem_nil)))) (kx_ok (fun la st h e => by obtain ⟨a0, m_a0, e1⟩ := gR_inv e; obtain ⟨x1, m_x1, e2⟩ := gI_inv e1; obtain ⟨x3, m_x3, e3⟩ := gI_inv e2; obtain ⟨y0, _, rfl, e4⟩ := sI_inv e3; obtain ⟨y1, _, rfl, e5⟩ := sI_inv e4; obtain ⟨rfl, ez⟩ := sE_inv e5; exact gm_fewer (e_X9_tellingOf_61 E ih a0 x1 x3 y0 y1 h ez) (mem_cons m_a0 (mem_cons m_x1 (mem_cons m_x3 mem_nil)))) k0_ok))) (fI0_ok E) (fV0_ok E) (fL0_ok E) (rtI_ok rfl)
def I_X9_tellingOf_0 : List AI := [(.iconst 0, 1, [], 0), (.istore_n 2, 1, [], 0), (.sipush 179, 3, [], 179), (.istore_n 3, 1, [], 0)]
theorem ok_X9_tellingOf_0 : vBL MT qLen qCh false q_X9_tellingOf.2.2.2.2.1 q_X9_tellingOf.2.2.2.2.2.1 q_X9_tellingOf.2.2.1 q_X9_tellingOf.1.cls q_X9_tellingOf.1.name q_X9_tellingOf.2.1 6 0 I_X9_tellingOf_0 = true := by decide +kernel
def p_X9_tellingOf (a0 : Nat) (x1 : Int32) (h : AH) : Option (Int32 × AH) :=
  p_X9_tellingOf_6 FU a0 x1 ((0 : Int32)) ((179 : Int32)) h
set_option maxRecDepth 100000 in
theorem e_X9_tellingOf_0 {l : Launch} {D : va_G} {dA : Nat → ClassId} {z : Nat} {sa : Nat → Nat} {Hz : Heap} (E : StrOK qLen qCh l D dA z sa Hz) {h0 fin : AH} {x : Int32}  : ∀ (a0 : Nat) (x1 : Int32) (h : AH), p_X9_tellingOf a0 x1 h = some (x, fin) → GM l D dA z sa Hz q_X9_tellingOf h0 (some (.int x)) fin 0 [(0, .ref a0), (1, .int x1)] [] h := by
  intro a0 x1 h hd
  exact step E (is := I_X9_tellingOf_0) (pc := 0) (K := (kx 6 (fun la st h => gR la 0 fun a0 => gI la 1 fun x1 => gI la 2 fun x2 => gI la 3 fun x3 => sE st (p_X9_tellingOf_6 FU a0 x1 x2 x3 h)) k0)) (FI := fI0) (FV := fV0) (FL := fL0) (rt := rtI) (ft := 6) (by exact hd) ok_X9_tellingOf_0 (kx_ok (fun la st h e => by obtain ⟨a0, m_a0, e1⟩ := gR_inv e; obtain ⟨x1, m_x1, e2⟩ := gI_inv e1; obtain ⟨x2, m_x2, e3⟩ := gI_inv e2; obtain ⟨x3, m_x3, e4⟩ := gI_inv e3; obtain ⟨rfl, ez⟩ := sE_inv e4; exact gm_fewer (e_X9_tellingOf_6 E  FU a0 x1 x2 x3 h ez) (mem_cons m_a0 (mem_cons m_x1 (mem_cons m_x2 (mem_cons m_x3 mem_nil))))) k0_ok) (fI0_ok E) (fV0_ok E) (fL0_ok E) (rtI_ok rfl)
theorem c_X9_tellingOf {l : Launch} {D : va_G} {dA : Nat → ClassId} {z : Nat} {sa : Nat → Nat} {Hz : Heap} (E : StrOK qLen qCh l D dA z sa Hz) {a0 : Nat} {x1 : Int32} {h fin : AH} {x : Int32} (hd : p_X9_tellingOf a0 x1 h = some (x, fin)) : CalOK l D dA z sa Hz q_X9_tellingOf [.ref a0, .int x1] h (some (.int x)) fin := calOf (by decide +kernel) (Nat.le_of_ble_eq_true rfl) (e_X9_tellingOf_0 E a0 x1 h hd)
def FI_X9_shadow : Nat → List Value → AH → Option (Int32 × AH) := (cx 273 (fun As h => sR As fun a0 As => sI As fun x1 As => sE As (p_X9_isTable a0 x1 h)) (cx 211 (fun As h => sI As fun x0 As => sI As fun x1 As => sI As fun x2 As => sE As (p_X9_in x0 x1 x2 h)) (cx 201 (fun As h => sR As fun a0 As => sI As fun x1 As => sE As (p_X9_refused a0 x1 h)) (cx 233 (fun As h => sR As fun a0 As => sI As fun x1 As => sE As (p_X9_good a0 x1 h)) (cx 274 (fun As h => sR As fun a0 As => sI As fun x1 As => sE As (p_X9_entriesOf a0 x1 h)) (cx 275 (fun As h => sR As fun a0 As => sI As fun x1 As => sE As (p_X9_aheadOf a0 x1 h)) (cx 276 (fun As h => sR As fun a0 As => sI As fun x1 As => sE As (p_X9_tellingOf a0 x1 h)) fI0)))))))
theorem FI_X9_shadow_ok {l : Launch} {D : va_G} {dA : Nat → ClassId} {z : Nat} {sa : Nat → Nat} {Hz : Heap} (E : StrOK qLen qCh l D dA z sa Hz) : ∀ mi As h x h', FI_X9_shadow mi As h = some (x, h') → CalOK l D dA z sa Hz (MT mi) As h (some (.int x)) h' := (cxI_ok (fun As h x h2 e => by obtain ⟨_, _, rfl, e0⟩ := sR_inv e; obtain ⟨_, _, rfl, e1⟩ := sI_inv e0; obtain ⟨rfl, ez⟩ := sE_inv e1; exact c_X9_isTable E ez) ((cxI_ok (fun As h x h2 e => by obtain ⟨_, _, rfl, e0⟩ := sI_inv e; obtain ⟨_, _, rfl, e1⟩ := sI_inv e0; obtain ⟨_, _, rfl, e2⟩ := sI_inv e1; obtain ⟨rfl, ez⟩ := sE_inv e2; exact c_X9_in E ez) ((cxI_ok (fun As h x h2 e => by obtain ⟨_, _, rfl, e0⟩ := sR_inv e; obtain ⟨_, _, rfl, e1⟩ := sI_inv e0; obtain ⟨rfl, ez⟩ := sE_inv e1; exact c_X9_refused E ez) ((cxI_ok (fun As h x h2 e => by obtain ⟨_, _, rfl, e0⟩ := sR_inv e; obtain ⟨_, _, rfl, e1⟩ := sI_inv e0; obtain ⟨rfl, ez⟩ := sE_inv e1; exact c_X9_good E ez) ((cxI_ok (fun As h x h2 e => by obtain ⟨_, _, rfl, e0⟩ := sR_inv e; obtain ⟨_, _, rfl, e1⟩ := sI_inv e0; obtain ⟨rfl, ez⟩ := sE_inv e1; exact c_X9_entriesOf E ez) ((cxI_ok (fun As h x h2 e => by obtain ⟨_, _, rfl, e0⟩ := sR_inv e; obtain ⟨_, _, rfl, e1⟩ := sI_inv e0; obtain ⟨rfl, ez⟩ := sE_inv e1; exact c_X9_aheadOf E ez) ((cxI_ok (fun As h x h2 e => by obtain ⟨_, _, rfl, e0⟩ := sR_inv e; obtain ⟨_, _, rfl, e1⟩ := sI_inv e0; obtain ⟨rfl, ez⟩ := sE_inv e1; exact c_X9_tellingOf E ez) (fI0_ok E))))))))))))))
def FV_X9_shadow : Nat → List Value → AH → Option (AH) := (cx 239 (fun As h => sR As fun a0 As => sE As (p_X9_works a0 h)) fV0)
theorem FV_X9_shadow_ok {l : Launch} {D : va_G} {dA : Nat → ClassId} {z : Nat} {sa : Nat → Nat} {Hz : Heap} (E : StrOK qLen qCh l D dA z sa Hz) : ∀ mi As h h', FV_X9_shadow mi As h = some h' → CalOK l D dA z sa Hz (MT mi) As h none h' := (cxV_ok (fun As h h2 e => by obtain ⟨_, _, rfl, e0⟩ := sR_inv e; obtain ⟨rfl, ez⟩ := sE_inv e0; exact c_X9_works E ez) (fV0_ok E))
def I_X9_shadow_22 : List AI := [(.aload_n 0, 1, [], 0), (.iconst 1, 1, [], 1), (.invokevirtual 39, 3, [1, 201, 2, 8, 1481], 0), (.ireturn, 1, [], 0)]
theorem ok_X9_shadow_22 : vBL MT qLen qCh false q_X9_shadow.2.2.2.2.1 q_X9_shadow.2.2.2.2.2.1 q_X9_shadow.2.2.1 q_X9_shadow.1.cls q_X9_shadow.1.name q_X9_shadow.2.1 0 22 I_X9_shadow_22 = true := by decide +kernel
def p_X9_shadow_22 (a0 : Nat) (h : AH) : Option (Int32 × AH) :=
  if (tg h a0).1 = 8 then ((p_X9_refused a0 ((1 : Int32)) h).bind fun q101 =>
  some (q101.1, q101.2)) else none
set_option maxRecDepth 100000 in
theorem e_X9_shadow_22 {l : Launch} {D : va_G} {dA : Nat → ClassId} {z : Nat} {sa : Nat → Nat} {Hz : Heap} (E : StrOK qLen qCh l D dA z sa Hz) {h0 fin : AH} {x : Int32}  : ∀ (a0 : Nat) (h : AH), p_X9_shadow_22 a0 h = some (x, fin) → GM l D dA z sa Hz q_X9_shadow h0 (some (.int x)) fin 22 [(0, .ref a0)] [] h := by
  intro a0 h hd
  exact step E (is := I_X9_shadow_22) (pc := 22) (K := k0) (FI := FI_X9_shadow) (FV := FV_X9_shadow) (FL := fL0) (rt := rtI) (ft := 0) (by exact hd) ok_X9_shadow_22 k0_ok (FI_X9_shadow_ok E) (FV_X9_shadow_ok E) (fL0_ok E) (rtI_ok rfl)
def I_X9_shadow_165 : List AI := [(.aload_n 0, 1, [], 0), (.aload_n 0, 1, [], 0), (.iload_n 1, 1, [], 0), (.invokevirtual 431, 3, [1, 276, 2, 8, 1859], 0), (.invokevirtual 43, 3, [1, 233, 2, 8, 1694], 0), (.ireturn, 1, [], 0)]
theorem ok_X9_shadow_165 : vBL MT qLen qCh false q_X9_shadow.2.2.2.2.1 q_X9_shadow.2.2.2.2.2.1 q_X9_shadow.2.2.1 q_X9_shadow.1.cls q_X9_shadow.1.name q_X9_shadow.2.1 0 165 I_X9_shadow_165 = true := by decide +kernel
def p_X9_shadow_165 (a0 : Nat) (x1 : Int32) (h : AH) : Option (Int32 × AH) :=
  if (tg h a0).1 = 8 then ((p_X9_tellingOf a0 x1 h).bind fun q102 =>
  if (tg q102.2 a0).1 = 8 then ((p_X9_good a0 q102.1 q102.2).bind fun q103 =>
  some (q103.1, q103.2)) else none) else none
set_option maxRecDepth 100000 in
theorem e_X9_shadow_165 {l : Launch} {D : va_G} {dA : Nat → ClassId} {z : Nat} {sa : Nat → Nat} {Hz : Heap} (E : StrOK qLen qCh l D dA z sa Hz) {h0 fin : AH} {x : Int32}  : ∀ (a0 : Nat) (x1 : Int32) (h : AH), p_X9_shadow_165 a0 x1 h = some (x, fin) → GM l D dA z sa Hz q_X9_shadow h0 (some (.int x)) fin 165 [(0, .ref a0), (1, .int x1)] [] h := by
  intro a0 x1 h hd
  exact step E (is := I_X9_shadow_165) (pc := 165) (K := k0) (FI := FI_X9_shadow) (FV := FV_X9_shadow) (FL := fL0) (rt := rtI) (ft := 0) (by exact hd) ok_X9_shadow_165 k0_ok (FI_X9_shadow_ok E) (FV_X9_shadow_ok E) (fL0_ok E) (rtI_ok rfl)
def I_X9_shadow_100 : List AI := [(.aload_n 0, 1, [], 0), (.aload_n 0, 1, [], 0), (.getfield 21, 3, [8, 16, 2, 1361], 0), (.sipush 147, 3, [], 147), (.iload_n 1, 1, [], 0), (.iadd, 1, [], 0), (.iaload, 1, [], 0), (.invokevirtual 43, 3, [1, 233, 2, 8, 1694], 0), (.ireturn, 1, [], 0)]
theorem ok_X9_shadow_100 : vBL MT qLen qCh false q_X9_shadow.2.2.2.2.1 q_X9_shadow.2.2.2.2.2.1 q_X9_shadow.2.2.1 q_X9_shadow.1.cls q_X9_shadow.1.name q_X9_shadow.2.1 0 100 I_X9_shadow_100 = true := by decide +kernel
def p_X9_shadow_100 (a0 : Nat) (x1 : Int32) (h : AH) : Option (Int32 × AH) :=
  if (tg h a0).1 = 8 then (if inB h (rR h a0 16) 100 (((147 : Int32)) + x1) then (if (tg h a0).1 = 8 then ((p_X9_good a0 (rI h (rR h a0 16) (((147 : Int32)) + x1).toNatClampNeg) h).bind fun q104 =>
  some (q104.1, q104.2)) else none) else none) else none
set_option maxRecDepth 100000 in
theorem e_X9_shadow_100 {l : Launch} {D : va_G} {dA : Nat → ClassId} {z : Nat} {sa : Nat → Nat} {Hz : Heap} (E : StrOK qLen qCh l D dA z sa Hz) {h0 fin : AH} {x : Int32}  : ∀ (a0 : Nat) (x1 : Int32) (h : AH), p_X9_shadow_100 a0 x1 h = some (x, fin) → GM l D dA z sa Hz q_X9_shadow h0 (some (.int x)) fin 100 [(0, .ref a0), (1, .int x1)] [] h := by
  intro a0 x1 h hd
  exact step E (is := I_X9_shadow_100) (pc := 100) (K := k0) (FI := FI_X9_shadow) (FV := FV_X9_shadow) (FL := fL0) (rt := rtI) (ft := 0) (by exact hd) ok_X9_shadow_100 k0_ok (FI_X9_shadow_ok E) (FV_X9_shadow_ok E) (fL0_ok E) (rtI_ok rfl)
def I_X9_shadow_115 : List AI := [(.aload_n 0, 1, [], 0), (.aload_n 0, 1, [], 0), (.getfield 21, 3, [8, 16, 2, 1361], 0), (.sipush 155, 3, [], 155), (.iload_n 1, 1, [], 0), (.iadd, 1, [], 0), (.iaload, 1, [], 0), (.invokevirtual 43, 3, [1, 233, 2, 8, 1694], 0), (.ireturn, 1, [], 0)]
theorem ok_X9_shadow_115 : vBL MT qLen qCh false q_X9_shadow.2.2.2.2.1 q_X9_shadow.2.2.2.2.2.1 q_X9_shadow.2.2.1 q_X9_shadow.1.cls q_X9_shadow.1.name q_X9_shadow.2.1 0 115 I_X9_shadow_115 = true := by decide +kernel
def p_X9_shadow_115 (a0 : Nat) (x1 : Int32) (h : AH) : Option (Int32 × AH) :=
  if (tg h a0).1 = 8 then (if inB h (rR h a0 16) 100 (((155 : Int32)) + x1) then (if (tg h a0).1 = 8 then ((p_X9_good a0 (rI h (rR h a0 16) (((155 : Int32)) + x1).toNatClampNeg) h).bind fun q105 =>
  some (q105.1, q105.2)) else none) else none) else none
set_option maxRecDepth 100000 in
theorem e_X9_shadow_115 {l : Launch} {D : va_G} {dA : Nat → ClassId} {z : Nat} {sa : Nat → Nat} {Hz : Heap} (E : StrOK qLen qCh l D dA z sa Hz) {h0 fin : AH} {x : Int32}  : ∀ (a0 : Nat) (x1 : Int32) (h : AH), p_X9_shadow_115 a0 x1 h = some (x, fin) → GM l D dA z sa Hz q_X9_shadow h0 (some (.int x)) fin 115 [(0, .ref a0), (1, .int x1)] [] h := by
  intro a0 x1 h hd
  exact step E (is := I_X9_shadow_115) (pc := 115) (K := k0) (FI := FI_X9_shadow) (FV := FV_X9_shadow) (FL := fL0) (rt := rtI) (ft := 0) (by exact hd) ok_X9_shadow_115 k0_ok (FI_X9_shadow_ok E) (FV_X9_shadow_ok E) (fL0_ok E) (rtI_ok rfl)
def I_X9_shadow_130 : List AI := [(.aload_n 0, 1, [], 0), (.aload_n 0, 1, [], 0), (.getfield 21, 3, [8, 16, 2, 1361], 0), (.sipush 171, 3, [], 171), (.iload_n 1, 1, [], 0), (.iadd, 1, [], 0), (.iaload, 1, [], 0), (.invokevirtual 43, 3, [1, 233, 2, 8, 1694], 0), (.ireturn, 1, [], 0)]
theorem ok_X9_shadow_130 : vBL MT qLen qCh false q_X9_shadow.2.2.2.2.1 q_X9_shadow.2.2.2.2.2.1 q_X9_shadow.2.2.1 q_X9_shadow.1.cls q_X9_shadow.1.name q_X9_shadow.2.1 0 130 I_X9_shadow_130 = true := by decide +kernel
def p_X9_shadow_130 (a0 : Nat) (x1 : Int32) (h : AH) : Option (Int32 × AH) :=
  if (tg h a0).1 = 8 then (if inB h (rR h a0 16) 100 (((171 : Int32)) + x1) then (if (tg h a0).1 = 8 then ((p_X9_good a0 (rI h (rR h a0 16) (((171 : Int32)) + x1).toNatClampNeg) h).bind fun q106 =>
  some (q106.1, q106.2)) else none) else none) else none
set_option maxRecDepth 100000 in
theorem e_X9_shadow_130 {l : Launch} {D : va_G} {dA : Nat → ClassId} {z : Nat} {sa : Nat → Nat} {Hz : Heap} (E : StrOK qLen qCh l D dA z sa Hz) {h0 fin : AH} {x : Int32}  : ∀ (a0 : Nat) (x1 : Int32) (h : AH), p_X9_shadow_130 a0 x1 h = some (x, fin) → GM l D dA z sa Hz q_X9_shadow h0 (some (.int x)) fin 130 [(0, .ref a0), (1, .int x1)] [] h := by
  intro a0 x1 h hd
  exact step E (is := I_X9_shadow_130) (pc := 130) (K := k0) (FI := FI_X9_shadow) (FV := FV_X9_shadow) (FL := fL0) (rt := rtI) (ft := 0) (by exact hd) ok_X9_shadow_130 k0_ok (FI_X9_shadow_ok E) (FV_X9_shadow_ok E) (fL0_ok E) (rtI_ok rfl)
def I_X9_shadow_145 : List AI := [(.aload_n 0, 1, [], 0), (.aload_n 0, 1, [], 0), (.iload_n 1, 1, [], 0), (.invokevirtual 425, 3, [1, 274, 2, 8, 1851], 0), (.invokevirtual 43, 3, [1, 233, 2, 8, 1694], 0), (.ireturn, 1, [], 0)]
theorem ok_X9_shadow_145 : vBL MT qLen qCh false q_X9_shadow.2.2.2.2.1 q_X9_shadow.2.2.2.2.2.1 q_X9_shadow.2.2.1 q_X9_shadow.1.cls q_X9_shadow.1.name q_X9_shadow.2.1 0 145 I_X9_shadow_145 = true := by decide +kernel
def p_X9_shadow_145 (a0 : Nat) (x1 : Int32) (h : AH) : Option (Int32 × AH) :=
  if (tg h a0).1 = 8 then ((p_X9_entriesOf a0 x1 h).bind fun q107 =>
  if (tg q107.2 a0).1 = 8 then ((p_X9_good a0 q107.1 q107.2).bind fun q108 =>
  some (q108.1, q108.2)) else none) else none
set_option maxRecDepth 100000 in
theorem e_X9_shadow_145 {l : Launch} {D : va_G} {dA : Nat → ClassId} {z : Nat} {sa : Nat → Nat} {Hz : Heap} (E : StrOK qLen qCh l D dA z sa Hz) {h0 fin : AH} {x : Int32}  : ∀ (a0 : Nat) (x1 : Int32) (h : AH), p_X9_shadow_145 a0 x1 h = some (x, fin) → GM l D dA z sa Hz q_X9_shadow h0 (some (.int x)) fin 145 [(0, .ref a0), (1, .int x1)] [] h := by
  intro a0 x1 h hd
  exact step E (is := I_X9_shadow_145) (pc := 145) (K := k0) (FI := FI_X9_shadow) (FV := FV_X9_shadow) (FL := fL0) (rt := rtI) (ft := 0) (by exact hd) ok_X9_shadow_145 k0_ok (FI_X9_shadow_ok E) (FV_X9_shadow_ok E) (fL0_ok E) (rtI_ok rfl)
def I_X9_shadow_155 : List AI := [(.aload_n 0, 1, [], 0), (.aload_n 0, 1, [], 0), (.iload_n 1, 1, [], 0), (.invokevirtual 428, 3, [1, 275, 2, 8, 1855], 0), (.invokevirtual 43, 3, [1, 233, 2, 8, 1694], 0), (.ireturn, 1, [], 0)]
theorem ok_X9_shadow_155 : vBL MT qLen qCh false q_X9_shadow.2.2.2.2.1 q_X9_shadow.2.2.2.2.2.1 q_X9_shadow.2.2.1 q_X9_shadow.1.cls q_X9_shadow.1.name q_X9_shadow.2.1 0 155 I_X9_shadow_155 = true := by decide +kernel
def p_X9_shadow_155 (a0 : Nat) (x1 : Int32) (h : AH) : Option (Int32 × AH) :=
  if (tg h a0).1 = 8 then ((p_X9_aheadOf a0 x1 h).bind fun q109 =>
  if (tg q109.2 a0).1 = 8 then ((p_X9_good a0 q109.1 q109.2).bind fun q110 =>
  some (q110.1, q110.2)) else none) else none
set_option maxRecDepth 100000 in
theorem e_X9_shadow_155 {l : Launch} {D : va_G} {dA : Nat → ClassId} {z : Nat} {sa : Nat → Nat} {Hz : Heap} (E : StrOK qLen qCh l D dA z sa Hz) {h0 fin : AH} {x : Int32}  : ∀ (a0 : Nat) (x1 : Int32) (h : AH), p_X9_shadow_155 a0 x1 h = some (x, fin) → GM l D dA z sa Hz q_X9_shadow h0 (some (.int x)) fin 155 [(0, .ref a0), (1, .int x1)] [] h := by
  intro a0 x1 h hd
  exact step E (is := I_X9_shadow_155) (pc := 155) (K := k0) (FI := FI_X9_shadow) (FV := FV_X9_shadow) (FL := fL0) (rt := rtI) (ft := 0) (by exact hd) ok_X9_shadow_155 k0_ok (FI_X9_shadow_ok E) (FV_X9_shadow_ok E) (fL0_ok E) (rtI_ok rfl)
def I_X9_shadow_63 : List AI := [(.iload_n 2, 1, [], 0), (.tableswitch 101 0 4 #[36, 51, 66, 81, 91], 36, [165, 100, 115, 130, 145, 155], 0)]
theorem ok_X9_shadow_63 : vBL MT qLen qCh false q_X9_shadow.2.2.2.2.1 q_X9_shadow.2.2.2.2.2.1 q_X9_shadow.2.2.1 q_X9_shadow.1.cls q_X9_shadow.1.name q_X9_shadow.2.1 0 63 I_X9_shadow_63 = true := by decide +kernel
def p_X9_shadow_63 (a0 : Nat) (x1 : Int32) (x2 : Int32) (h : AH) : Option (Int32 × AH) :=
  if swT 0 4 [165, 100, 115, 130, 145, 155] x2 = 165 then (if (tg h a0).1 = 8 then ((p_X9_tellingOf a0 x1 h).bind fun q118 =>
  if (tg q118.2 a0).1 = 8 then ((p_X9_good a0 q118.1 q118.2).bind fun q119 =>
  some (q119.1, q119.2)) else none) else none)
  else
  if swT 0 4 [165, 100, 115, 130, 145, 155] x2 = 100 then (if (tg h a0).1 = 8 then (if inB h (rR h a0 16) 100 (((147 : Int32)) + x1) then (if (tg h a0).1 = 8 then ((p_X9_good a0 (rI h (rR h a0 16) (((147 : Int32)) + x1).toNatClampNeg) h).bind fun q117 =>
  some (q117.1, q117.2)) else none) else none) else none)
  else
  if swT 0 4 [165, 100, 115, 130, 145, 155] x2 = 115 then (if (tg h a0).1 = 8 then (if inB h (rR h a0 16) 100 (((155 : Int32)) + x1) then (if (tg h a0).1 = 8 then ((p_X9_good a0 (rI h (rR h a0 16) (((155 : Int32)) + x1).toNatClampNeg) h).bind fun q116 =>
  some (q116.1, q116.2)) else none) else none) else none)
  else
  if swT 0 4 [165, 100, 115, 130, 145, 155] x2 = 130 then (if (tg h a0).1 = 8 then (if inB h (rR h a0 16) 100 (((171 : Int32)) + x1) then (if (tg h a0).1 = 8 then ((p_X9_good a0 (rI h (rR h a0 16) (((171 : Int32)) + x1).toNatClampNeg) h).bind fun q115 =>
  some (q115.1, q115.2)) else none) else none) else none)
  else
  if swT 0 4 [165, 100, 115, 130, 145, 155] x2 = 145 then (if (tg h a0).1 = 8 then ((p_X9_entriesOf a0 x1 h).bind fun q113 =>
  if (tg q113.2 a0).1 = 8 then ((p_X9_good a0 q113.1 q113.2).bind fun q114 =>
  some (q114.1, q114.2)) else none) else none)
  else
  if swT 0 4 [165, 100, 115, 130, 145, 155] x2 = 155 then (if (tg h a0).1 = 8 then ((p_X9_aheadOf a0 x1 h).bind fun q111 =>
  if (tg q111.2 a0).1 = 8 then ((p_X9_good a0 q111.1 q111.2).bind fun q112 =>
  some (q112.1, q112.2)) else none) else none)
  else
  none
set_option maxRecDepth 100000 in
theorem e_X9_shadow_63 {l : Launch} {D : va_G} {dA : Nat → ClassId} {z : Nat} {sa : Nat → Nat} {Hz : Heap} (E : StrOK qLen qCh l D dA z sa Hz) {h0 fin : AH} {x : Int32}  : ∀ (a0 : Nat) (x1 : Int32) (x2 : Int32) (h : AH), p_X9_shadow_63 a0 x1 x2 h = some (x, fin) → GM l D dA z sa Hz q_X9_shadow h0 (some (.int x)) fin 63 [(0, .ref a0), (1, .int x1), (2, .int x2)] [] h := by
  intro a0 x1 x2 h hd
  exact step E (is := I_X9_shadow_63) (pc := 63) (K := (kx 165 (fun la st h => gR la 0 fun a0 => gI la 1 fun x1 => sE st (p_X9_shadow_165 a0 x1 h)) (kx 100 (fun la st h => gR la 0 fun a0 => gI la 1 fun x1 => sE st (p_X9_shadow_100 a0 x1 h)) (kx 115 (fun la st h => gR la 0 fun a0 => gI la 1 fun x1 => sE st (p_X9_shadow_115 a0 x1 h)) (kx 130 (fun la st h => gR la 0 fun a0 => gI la 1 fun x1 => sE st (p_X9_shadow_130 a0 x1 h)) (kx 145 (fun la st h => gR la 0 fun a0 => gI la 1 fun x1 => sE st (p_X9_shadow_145 a0 x1 h)) (kx 155 (fun la st h => gR la 0 fun a0 => gI la 1 fun x1 => sE st (p_X9_shadow_155 a0 x1 h)) k0))))))) (FI := FI_X9_shadow) (FV := FV_X9_shadow) (FL := fL0) (rt := rtI) (ft := 0) (by exact hd) ok_X9_shadow_63 (kx_ok (fun la st h e => by obtain ⟨a0, m_a0, e1⟩ := gR_inv e; obtain ⟨x1, m_x1, e2⟩ := gI_inv e1; obtain ⟨rfl, ez⟩ := sE_inv e2; exact gm_fewer (e_X9_shadow_165 E  a0 x1 h ez) (mem_cons m_a0 (mem_cons m_x1 mem_nil))) (kx_ok (fun la st h e => by obtain ⟨a0, m_a0, e1⟩ := gR_inv e; obtain ⟨x1, m_x1, e2⟩ := gI_inv e1; obtain ⟨rfl, ez⟩ := sE_inv e2; exact gm_fewer (e_X9_shadow_100 E  a0 x1 h ez) (mem_cons m_a0 (mem_cons m_x1 mem_nil))) (kx_ok (fun la st h e => by obtain ⟨a0, m_a0, e1⟩ := gR_inv e; obtain ⟨x1, m_x1, e2⟩ := gI_inv e1; obtain ⟨rfl, ez⟩ := sE_inv e2; exact gm_fewer (e_X9_shadow_115 E  a0 x1 h ez) (mem_cons m_a0 (mem_cons m_x1 mem_nil))) (kx_ok (fun la st h e => by obtain ⟨a0, m_a0, e1⟩ := gR_inv e; obtain ⟨x1, m_x1, e2⟩ := gI_inv e1; obtain ⟨rfl, ez⟩ := sE_inv e2; exact gm_fewer (e_X9_shadow_130 E  a0 x1 h ez) (mem_cons m_a0 (mem_cons m_x1 mem_nil))) (kx_ok (fun la st h e => by obtain ⟨a0, m_a0, e1⟩ := gR_inv e; obtain ⟨x1, m_x1, e2⟩ := gI_inv e1; obtain ⟨rfl, ez⟩ := sE_inv e2; exact gm_fewer (e_X9_shadow_145 E  a0 x1 h ez) (mem_cons m_a0 (mem_cons m_x1 mem_nil))) (kx_ok (fun la st h e => by obtain ⟨a0, m_a0, e1⟩ := gR_inv e; obtain ⟨x1, m_x1, e2⟩ := gI_inv e1; obtain ⟨rfl, ez⟩ := sE_inv e2; exact gm_fewer (e_X9_shadow_155 E  a0 x1 h ez) (mem_cons m_a0 (mem_cons m_x1 mem_nil))) k0_ok)))))) (FI_X9_shadow_ok E) (FV_X9_shadow_ok E) (fL0_ok E) (rtI_ok rfl)
def I_X9_shadow_59 : List AI := [(.invokevirtual 43, 3, [1, 233, 2, 8, 1694], 0), (.ireturn, 1, [], 0)]
theorem ok_X9_shadow_59 : vBL MT qLen qCh false q_X9_shadow.2.2.2.2.1 q_X9_shadow.2.2.2.2.2.1 q_X9_shadow.2.2.1 q_X9_shadow.1.cls q_X9_shadow.1.name q_X9_shadow.2.1 0 59 I_X9_shadow_59 = true := by decide +kernel
def p_X9_shadow_59 (y0 : Int32) (b1 : Nat) (h : AH) : Option (Int32 × AH) :=
  if (tg h b1).1 = 8 then ((p_X9_good b1 y0 h).bind fun q120 =>
  some (q120.1, q120.2)) else none
set_option maxRecDepth 100000 in
theorem e_X9_shadow_59 {l : Launch} {D : va_G} {dA : Nat → ClassId} {z : Nat} {sa : Nat → Nat} {Hz : Heap} (E : StrOK qLen qCh l D dA z sa Hz) {h0 fin : AH} {x : Int32}  : ∀ (y0 : Int32) (b1 : Nat) (h : AH), p_X9_shadow_59 y0 b1 h = some (x, fin) → GM l D dA z sa Hz q_X9_shadow h0 (some (.int x)) fin 59 [] [.int y0, .ref b1] h := by
  intro y0 b1 h hd
  exact step E (is := I_X9_shadow_59) (pc := 59) (K := k0) (FI := FI_X9_shadow) (FV := FV_X9_shadow) (FL := fL0) (rt := rtI) (ft := 0) (by exact hd) ok_X9_shadow_59 k0_ok (FI_X9_shadow_ok E) (FV_X9_shadow_ok E) (fL0_ok E) (rtI_ok rfl)
def I_X9_shadow_58 : List AI := [(.iconst 0, 1, [], 0)]
theorem ok_X9_shadow_58 : vBL MT qLen qCh false q_X9_shadow.2.2.2.2.1 q_X9_shadow.2.2.2.2.2.1 q_X9_shadow.2.2.1 q_X9_shadow.1.cls q_X9_shadow.1.name q_X9_shadow.2.1 59 58 I_X9_shadow_58 = true := by decide +kernel
def p_X9_shadow_58 (b0 : Nat) (h : AH) : Option (Int32 × AH) :=
  p_X9_shadow_59 ((0 : Int32)) b0 h
set_option maxRecDepth 100000 in
theorem e_X9_shadow_58 {l : Launch} {D : va_G} {dA : Nat → ClassId} {z : Nat} {sa : Nat → Nat} {Hz : Heap} (E : StrOK qLen qCh l D dA z sa Hz) {h0 fin : AH} {x : Int32}  : ∀ (b0 : Nat) (h : AH), p_X9_shadow_58 b0 h = some (x, fin) → GM l D dA z sa Hz q_X9_shadow h0 (some (.int x)) fin 58 [] [.ref b0] h := by
  intro b0 h hd
  exact step E (is := I_X9_shadow_58) (pc := 58) (K := (kx 59 (fun la st h => sI st fun y0 st => sR st fun b1 st => sE st (p_X9_shadow_59 y0 b1 h)) k0)) (FI := FI_X9_shadow) (FV := FV_X9_shadow) (FL := fL0) (rt := rtI) (ft := 59) (by exact hd) ok_X9_shadow_58 (kx_ok (fun la st h e => by obtain ⟨y0, _, rfl, e1⟩ := sI_inv e; obtain ⟨b1, _, rfl, e2⟩ := sR_inv e1; obtain ⟨rfl, ez⟩ := sE_inv e2; exact gm_fewer (e_X9_shadow_59 E  y0 b1 h ez) mem_nil) k0_ok) (FI_X9_shadow_ok E) (FV_X9_shadow_ok E) (fL0_ok E) (rtI_ok rfl)
def I_X9_shadow_28 : List AI := [(.aload_n 0, 1, [], 0), (.invokevirtual 398, 3, [2, 239, 1, 8, 1717], 0), (.aload_n 0, 1, [], 0), (.getfield 21, 3, [8, 16, 2, 1361], 0), (.sipush 147, 3, [], 147), (.iload_n 1, 1, [], 0), (.iadd, 1, [], 0), (.iaload, 1, [], 0), (.bipush (-2), 2, [], (-2)), (.if_icmp .ne 19, 3, [63], 0), (.aload_n 0, 1, [], 0), (.iload_n 2, 1, [], 0), (.iconst 2, 1, [], 2), (.if_icmp .ge 8, 3, [58], 0), (.bipush (-2), 2, [], (-2)), (.goto 4, 3, [59], 0)]
theorem ok_X9_shadow_28 : vBL MT qLen qCh false q_X9_shadow.2.2.2.2.1 q_X9_shadow.2.2.2.2.2.1 q_X9_shadow.2.2.1 q_X9_shadow.1.cls q_X9_shadow.1.name q_X9_shadow.2.1 0 28 I_X9_shadow_28 = true := by decide +kernel
def p_X9_shadow_28 (a0 : Nat) (x1 : Int32) (x2 : Int32) (h : AH) : Option (Int32 × AH) :=
  if (tg h a0).1 = 8 then ((p_X9_works a0 h).bind fun h121 =>
  if (tg h121 a0).1 = 8 then (if inB h121 (rR h121 a0 16) 100 (((147 : Int32)) + x1) then (if (rI h121 (rR h121 a0 16) (((147 : Int32)) + x1).toNatClampNeg) = ((-2 : Int32)) then (if x2 < ((2 : Int32)) then (p_X9_shadow_59 ((-2 : Int32)) a0 h121)
  else
  p_X9_shadow_59 ((0 : Int32)) a0 h121)
  else
  if swT 0 4 [165, 100, 115, 130, 145, 155] x2 = 165 then (if (tg h121 a0).1 = 8 then ((p_X9_tellingOf a0 x1 h121).bind fun q129 =>
  if (tg q129.2 a0).1 = 8 then ((p_X9_good a0 q129.1 q129.2).bind fun q130 =>
  some (q130.1, q130.2)) else none) else none)
  else
  if swT 0 4 [165, 100, 115, 130, 145, 155] x2 = 100 then (if (tg h121 a0).1 = 8 then (if inB h121 (rR h121 a0 16) 100 (((147 : Int32)) + x1) then (if (tg h121 a0).1 = 8 then ((p_X9_good a0 (rI h121 (rR h121 a0 16) (((147 : Int32)) + x1).toNatClampNeg) h121).bind fun q128 =>
  some (q128.1, q128.2)) else none) else none) else none)
  else
  if swT 0 4 [165, 100, 115, 130, 145, 155] x2 = 115 then (if (tg h121 a0).1 = 8 then (if inB h121 (rR h121 a0 16) 100 (((155 : Int32)) + x1) then (if (tg h121 a0).1 = 8 then ((p_X9_good a0 (rI h121 (rR h121 a0 16) (((155 : Int32)) + x1).toNatClampNeg) h121).bind fun q127 =>
  some (q127.1, q127.2)) else none) else none) else none)
  else
  if swT 0 4 [165, 100, 115, 130, 145, 155] x2 = 130 then (if (tg h121 a0).1 = 8 then (if inB h121 (rR h121 a0 16) 100 (((171 : Int32)) + x1) then (if (tg h121 a0).1 = 8 then ((p_X9_good a0 (rI h121 (rR h121 a0 16) (((171 : Int32)) + x1).toNatClampNeg) h121).bind fun q126 =>
  some (q126.1, q126.2)) else none) else none) else none)
  else
  if swT 0 4 [165, 100, 115, 130, 145, 155] x2 = 145 then (if (tg h121 a0).1 = 8 then ((p_X9_entriesOf a0 x1 h121).bind fun q124 =>
  if (tg q124.2 a0).1 = 8 then ((p_X9_good a0 q124.1 q124.2).bind fun q125 =>
  some (q125.1, q125.2)) else none) else none)
  else
  if swT 0 4 [165, 100, 115, 130, 145, 155] x2 = 155 then (if (tg h121 a0).1 = 8 then ((p_X9_aheadOf a0 x1 h121).bind fun q122 =>
  if (tg q122.2 a0).1 = 8 then ((p_X9_good a0 q122.1 q122.2).bind fun q123 =>
  some (q123.1, q123.2)) else none) else none)
  else
  none) else none) else none) else none
set_option maxRecDepth 100000 in
theorem e_X9_shadow_28 {l : Launch} {D : va_G} {dA : Nat → ClassId} {z : Nat} {sa : Nat → Nat} {Hz : Heap} (E : StrOK qLen qCh l D dA z sa Hz) {h0 fin : AH} {x : Int32}  : ∀ (a0 : Nat) (x1 : Int32) (x2 : Int32) (h : AH), p_X9_shadow_28 a0 x1 x2 h = some (x, fin) → GM l D dA z sa Hz q_X9_shadow h0 (some (.int x)) fin 28 [(0, .ref a0), (1, .int x1), (2, .int x2)] [] h := by
  intro a0 x1 x2 h hd
  exact step E (is := I_X9_shadow_28) (pc := 28) (K := (kx 63 (fun la st h => gR la 0 fun a0 => gI la 1 fun x1 => gI la 2 fun x2 => sE st (p_X9_shadow_63 a0 x1 x2 h)) (kx 58 (fun la st h => sR st fun b0 st => sE st (p_X9_shadow_58 b0 h)) (kx 59 (fun la st h => sI st fun y0 st => sR st fun b1 st => sE st (p_X9_shadow_59 y0 b1 h)) k0)))) (FI := FI_X9_shadow) (FV := FV_X9_shadow) (FL := fL0) (rt := rtI) (ft := 0) (by exact hd) ok_X9_shadow_28 (kx_ok (fun la st h e => by obtain ⟨a0, m_a0, e1⟩ := gR_inv e; obtain ⟨x1, m_x1, e2⟩ := gI_inv e1; obtain ⟨x2, m_x2, e3⟩ := gI_inv e2; obtain ⟨rfl, ez⟩ := sE_inv e3; exact gm_fewer (e_X9_shadow_63 E  a0 x1 x2 h ez) (mem_cons m_a0 (mem_cons m_x1 (mem_cons m_x2 mem_nil)))) (kx_ok (fun la st h e => by obtain ⟨b0, _, rfl, e1⟩ := sR_inv e; obtain ⟨rfl, ez⟩ := sE_inv e1; exact gm_fewer (e_X9_shadow_58 E  b0 h ez) mem_nil) (kx_ok (fun la st h e => by obtain ⟨y0, _, rfl, e1⟩ := sI_inv e; obtain ⟨b1, _, rfl, e2⟩ := sR_inv e1; obtain ⟨rfl, ez⟩ := sE_inv e2; exact gm_fewer (e_X9_shadow_59 E  y0 b1 h ez) mem_nil) k0_ok))) (FI_X9_shadow_ok E) (FV_X9_shadow_ok E) (fL0_ok E) (rtI_ok rfl)
def I_X9_shadow_0 : List AI := [(.aload_n 0, 1, [], 0), (.iconst 0, 1, [], 0), (.putfield 33, 3, [8, 0, 0, 1345], 0), (.aload_n 0, 1, [], 0), (.iload_n 1, 1, [], 0), (.invokevirtual 422, 3, [1, 273, 2, 8, 1847], 0), (.ifCond .eq 12, 3, [22], 0), (.iload_n 2, 1, [], 0), (.iconst 0, 1, [], 0), (.iconst 5, 1, [], 5), (.invokestatic 112, 3, [1, 211, 3, 1612], 0), (.ifCond .ne 9, 3, [28], 0)]
theorem ok_X9_shadow_0 : vBL MT qLen qCh false q_X9_shadow.2.2.2.2.1 q_X9_shadow.2.2.2.2.2.1 q_X9_shadow.2.2.1 q_X9_shadow.1.cls q_X9_shadow.1.name q_X9_shadow.2.1 22 0 I_X9_shadow_0 = true := by decide +kernel
def p_X9_shadow (a0 : Nat) (x1 : Int32) (x2 : Int32) (h : AH) : Option (Int32 × AH) :=
  if (tg h a0).1 = 8 then (let h131 := wI h a0 0 ((0 : Int32))
  if (tg h131 a0).1 = 8 then ((p_X9_isTable a0 x1 h131).bind fun q132 =>
  if q132.1 = 0 then (p_X9_shadow_22 a0 q132.2)
  else
  (p_X9_in x2 ((0 : Int32)) ((5 : Int32)) q132.2).bind fun q133 =>
  if q133.1 = 0 then (p_X9_shadow_22 a0 q133.2)
  else
  if (tg q133.2 a0).1 = 8 then ((p_X9_works a0 q133.2).bind fun h134 =>
  if (tg h134 a0).1 = 8 then (if inB h134 (rR h134 a0 16) 100 (((147 : Int32)) + x1) then (if (rI h134 (rR h134 a0 16) (((147 : Int32)) + x1).toNatClampNeg) = ((-2 : Int32)) then (if x2 < ((2 : Int32)) then (p_X9_shadow_59 ((-2 : Int32)) a0 h134)
  else
  p_X9_shadow_59 ((0 : Int32)) a0 h134)
  else
  if swT 0 4 [165, 100, 115, 130, 145, 155] x2 = 165 then (if (tg h134 a0).1 = 8 then ((p_X9_tellingOf a0 x1 h134).bind fun q142 =>
  if (tg q142.2 a0).1 = 8 then ((p_X9_good a0 q142.1 q142.2).bind fun q143 =>
  some (q143.1, q143.2)) else none) else none)
  else
  if swT 0 4 [165, 100, 115, 130, 145, 155] x2 = 100 then (if (tg h134 a0).1 = 8 then (if inB h134 (rR h134 a0 16) 100 (((147 : Int32)) + x1) then (if (tg h134 a0).1 = 8 then ((p_X9_good a0 (rI h134 (rR h134 a0 16) (((147 : Int32)) + x1).toNatClampNeg) h134).bind fun q141 =>
  some (q141.1, q141.2)) else none) else none) else none)
  else
  if swT 0 4 [165, 100, 115, 130, 145, 155] x2 = 115 then (if (tg h134 a0).1 = 8 then (if inB h134 (rR h134 a0 16) 100 (((155 : Int32)) + x1) then (if (tg h134 a0).1 = 8 then ((p_X9_good a0 (rI h134 (rR h134 a0 16) (((155 : Int32)) + x1).toNatClampNeg) h134).bind fun q140 =>
  some (q140.1, q140.2)) else none) else none) else none)
  else
  if swT 0 4 [165, 100, 115, 130, 145, 155] x2 = 130 then (if (tg h134 a0).1 = 8 then (if inB h134 (rR h134 a0 16) 100 (((171 : Int32)) + x1) then (if (tg h134 a0).1 = 8 then ((p_X9_good a0 (rI h134 (rR h134 a0 16) (((171 : Int32)) + x1).toNatClampNeg) h134).bind fun q139 =>
  some (q139.1, q139.2)) else none) else none) else none)
  else
  if swT 0 4 [165, 100, 115, 130, 145, 155] x2 = 145 then (if (tg h134 a0).1 = 8 then ((p_X9_entriesOf a0 x1 h134).bind fun q137 =>
  if (tg q137.2 a0).1 = 8 then ((p_X9_good a0 q137.1 q137.2).bind fun q138 =>
  some (q138.1, q138.2)) else none) else none)
  else
  if swT 0 4 [165, 100, 115, 130, 145, 155] x2 = 155 then (if (tg h134 a0).1 = 8 then ((p_X9_aheadOf a0 x1 h134).bind fun q135 =>
  if (tg q135.2 a0).1 = 8 then ((p_X9_good a0 q135.1 q135.2).bind fun q136 =>
  some (q136.1, q136.2)) else none) else none)
  else
  none) else none) else none) else none) else none) else none
set_option maxRecDepth 100000 in
theorem e_X9_shadow_0 {l : Launch} {D : va_G} {dA : Nat → ClassId} {z : Nat} {sa : Nat → Nat} {Hz : Heap} (E : StrOK qLen qCh l D dA z sa Hz) {h0 fin : AH} {x : Int32}  : ∀ (a0 : Nat) (x1 : Int32) (x2 : Int32) (h : AH), p_X9_shadow a0 x1 x2 h = some (x, fin) → GM l D dA z sa Hz q_X9_shadow h0 (some (.int x)) fin 0 [(0, .ref a0), (1, .int x1), (2, .int x2)] [] h := by
  intro a0 x1 x2 h hd
  exact step E (is := I_X9_shadow_0) (pc := 0) (K := (kx 22 (fun la st h => gR la 0 fun a0 => sE st (p_X9_shadow_22 a0 h)) (kx 28 (fun la st h => gR la 0 fun a0 => gI la 1 fun x1 => gI la 2 fun x2 => sE st (p_X9_shadow_28 a0 x1 x2 h)) k0))) (FI := FI_X9_shadow) (FV := FV_X9_shadow) (FL := fL0) (rt := rtI) (ft := 22) (by exact hd) ok_X9_shadow_0 (kx_ok (fun la st h e => by obtain ⟨a0, m_a0, e1⟩ := gR_inv e; obtain ⟨rfl, ez⟩ := sE_inv e1; exact gm_fewer (e_X9_shadow_22 E  a0 h ez) (mem_cons m_a0 mem_nil)) (kx_ok (fun la st h e => by obtain ⟨a0, m_a0, e1⟩ := gR_inv e; obtain ⟨x1, m_x1, e2⟩ := gI_inv e1; obtain ⟨x2, m_x2, e3⟩ := gI_inv e2; obtain ⟨rfl, ez⟩ := sE_inv e3; exact gm_fewer (e_X9_shadow_28 E  a0 x1 x2 h ez) (mem_cons m_a0 (mem_cons m_x1 (mem_cons m_x2 mem_nil)))) k0_ok)) (FI_X9_shadow_ok E) (FV_X9_shadow_ok E) (fL0_ok E) (rtI_ok rfl)
theorem c_X9_shadow {l : Launch} {D : va_G} {dA : Nat → ClassId} {z : Nat} {sa : Nat → Nat} {Hz : Heap} (E : StrOK qLen qCh l D dA z sa Hz) {a0 : Nat} {x1 : Int32} {x2 : Int32} {h fin : AH} {x : Int32} (hd : p_X9_shadow a0 x1 x2 h = some (x, fin)) : CalOK l D dA z sa Hz q_X9_shadow [.ref a0, .int x1, .int x2] h (some (.int x)) fin := calOf (by decide +kernel) (Nat.le_of_ble_eq_true rfl) (e_X9_shadow_0 E a0 x1 x2 h hd)
def FI_X9_entry : Nat → List Value → AH → Option (Int32 × AH) := (cx 273 (fun As h => sR As fun a0 As => sI As fun x1 As => sE As (p_X9_isTable a0 x1 h)) (cx 211 (fun As h => sI As fun x0 As => sI As fun x1 As => sI As fun x2 As => sE As (p_X9_in x0 x1 x2 h)) (cx 201 (fun As h => sR As fun a0 As => sI As fun x1 As => sE As (p_X9_refused a0 x1 h)) (cx 233 (fun As h => sR As fun a0 As => sI As fun x1 As => sE As (p_X9_good a0 x1 h)) fI0))))
theorem FI_X9_entry_ok {l : Launch} {D : va_G} {dA : Nat → ClassId} {z : Nat} {sa : Nat → Nat} {Hz : Heap} (E : StrOK qLen qCh l D dA z sa Hz) : ∀ mi As h x h', FI_X9_entry mi As h = some (x, h') → CalOK l D dA z sa Hz (MT mi) As h (some (.int x)) h' := (cxI_ok (fun As h x h2 e => by obtain ⟨_, _, rfl, e0⟩ := sR_inv e; obtain ⟨_, _, rfl, e1⟩ := sI_inv e0; obtain ⟨rfl, ez⟩ := sE_inv e1; exact c_X9_isTable E ez) ((cxI_ok (fun As h x h2 e => by obtain ⟨_, _, rfl, e0⟩ := sI_inv e; obtain ⟨_, _, rfl, e1⟩ := sI_inv e0; obtain ⟨_, _, rfl, e2⟩ := sI_inv e1; obtain ⟨rfl, ez⟩ := sE_inv e2; exact c_X9_in E ez) ((cxI_ok (fun As h x h2 e => by obtain ⟨_, _, rfl, e0⟩ := sR_inv e; obtain ⟨_, _, rfl, e1⟩ := sI_inv e0; obtain ⟨rfl, ez⟩ := sE_inv e1; exact c_X9_refused E ez) ((cxI_ok (fun As h x h2 e => by obtain ⟨_, _, rfl, e0⟩ := sR_inv e; obtain ⟨_, _, rfl, e1⟩ := sI_inv e0; obtain ⟨rfl, ez⟩ := sE_inv e1; exact c_X9_good E ez) (fI0_ok E))))))))
def I_X9_entry_23 : List AI := [(.aload_n 0, 1, [], 0), (.iconst 1, 1, [], 1), (.invokevirtual 39, 3, [1, 201, 2, 8, 1481], 0), (.ireturn, 1, [], 0)]
theorem ok_X9_entry_23 : vBL MT qLen qCh false q_X9_entry.2.2.2.2.1 q_X9_entry.2.2.2.2.2.1 q_X9_entry.2.2.1 q_X9_entry.1.cls q_X9_entry.1.name q_X9_entry.2.1 0 23 I_X9_entry_23 = true := by decide +kernel
def p_X9_entry_23 (a0 : Nat) (h : AH) : Option (Int32 × AH) :=
  if (tg h a0).1 = 8 then ((p_X9_refused a0 ((1 : Int32)) h).bind fun q101 =>
  some (q101.1, q101.2)) else none
set_option maxRecDepth 100000 in
theorem e_X9_entry_23 {l : Launch} {D : va_G} {dA : Nat → ClassId} {z : Nat} {sa : Nat → Nat} {Hz : Heap} (E : StrOK qLen qCh l D dA z sa Hz) {h0 fin : AH} {x : Int32}  : ∀ (a0 : Nat) (h : AH), p_X9_entry_23 a0 h = some (x, fin) → GM l D dA z sa Hz q_X9_entry h0 (some (.int x)) fin 23 [(0, .ref a0)] [] h := by
  intro a0 h hd
  exact step E (is := I_X9_entry_23) (pc := 23) (K := k0) (FI := FI_X9_entry) (FV := fV0) (FL := fL0) (rt := rtI) (ft := 0) (by exact hd) ok_X9_entry_23 k0_ok (FI_X9_entry_ok E) (fV0_ok E) (fL0_ok E) (rtI_ok rfl)
def I_X9_entry_57 : List AI := [(.invokevirtual 43, 3, [1, 233, 2, 8, 1694], 0), (.ireturn, 1, [], 0)]
theorem ok_X9_entry_57 : vBL MT qLen qCh false q_X9_entry.2.2.2.2.1 q_X9_entry.2.2.2.2.2.1 q_X9_entry.2.2.1 q_X9_entry.1.cls q_X9_entry.1.name q_X9_entry.2.1 0 57 I_X9_entry_57 = true := by decide +kernel
def p_X9_entry_57 (y0 : Int32) (b1 : Nat) (h : AH) : Option (Int32 × AH) :=
  if (tg h b1).1 = 8 then ((p_X9_good b1 y0 h).bind fun q102 =>
  some (q102.1, q102.2)) else none
set_option maxRecDepth 100000 in
theorem e_X9_entry_57 {l : Launch} {D : va_G} {dA : Nat → ClassId} {z : Nat} {sa : Nat → Nat} {Hz : Heap} (E : StrOK qLen qCh l D dA z sa Hz) {h0 fin : AH} {x : Int32}  : ∀ (y0 : Int32) (b1 : Nat) (h : AH), p_X9_entry_57 y0 b1 h = some (x, fin) → GM l D dA z sa Hz q_X9_entry h0 (some (.int x)) fin 57 [] [.int y0, .ref b1] h := by
  intro y0 b1 h hd
  exact step E (is := I_X9_entry_57) (pc := 57) (K := k0) (FI := FI_X9_entry) (FV := fV0) (FL := fL0) (rt := rtI) (ft := 0) (by exact hd) ok_X9_entry_57 k0_ok (FI_X9_entry_ok E) (fV0_ok E) (fL0_ok E) (rtI_ok rfl)
def I_X9_entry_56 : List AI := [(.iload_n 3, 1, [], 0)]
theorem ok_X9_entry_56 : vBL MT qLen qCh false q_X9_entry.2.2.2.2.1 q_X9_entry.2.2.2.2.2.1 q_X9_entry.2.2.1 q_X9_entry.1.cls q_X9_entry.1.name q_X9_entry.2.1 57 56 I_X9_entry_56 = true := by decide +kernel
def p_X9_entry_56 (x3 : Int32) (b0 : Nat) (h : AH) : Option (Int32 × AH) :=
  p_X9_entry_57 x3 b0 h
set_option maxRecDepth 100000 in
theorem e_X9_entry_56 {l : Launch} {D : va_G} {dA : Nat → ClassId} {z : Nat} {sa : Nat → Nat} {Hz : Heap} (E : StrOK qLen qCh l D dA z sa Hz) {h0 fin : AH} {x : Int32}  : ∀ (x3 : Int32) (b0 : Nat) (h : AH), p_X9_entry_56 x3 b0 h = some (x, fin) → GM l D dA z sa Hz q_X9_entry h0 (some (.int x)) fin 56 [(3, .int x3)] [.ref b0] h := by
  intro x3 b0 h hd
  exact step E (is := I_X9_entry_56) (pc := 56) (K := (kx 57 (fun la st h => sI st fun y0 st => sR st fun b1 st => sE st (p_X9_entry_57 y0 b1 h)) k0)) (FI := FI_X9_entry) (FV := fV0) (FL := fL0) (rt := rtI) (ft := 57) (by exact hd) ok_X9_entry_56 (kx_ok (fun la st h e => by obtain ⟨y0, _, rfl, e1⟩ := sI_inv e; obtain ⟨b1, _, rfl, e2⟩ := sR_inv e1; obtain ⟨rfl, ez⟩ := sE_inv e2; exact gm_fewer (e_X9_entry_57 E  y0 b1 h ez) mem_nil) k0_ok) (FI_X9_entry_ok E) (fV0_ok E) (fL0_ok E) (rtI_ok rfl)
def I_X9_entry_29 : List AI := [(.aload_n 0, 1, [], 0), (.getfield 17, 3, [8, 15, 2, 1360], 0), (.sipush 179, 3, [], 179), (.bipush 8, 2, [], 8), (.iload_n 1, 1, [], 0), (.imul, 1, [], 0), (.iadd, 1, [], 0), (.iload_n 2, 1, [], 0), (.iadd, 1, [], 0), (.iaload, 1, [], 0), (.istore_n 3, 1, [], 0), (.aload_n 0, 1, [], 0), (.iload_n 3, 1, [], 0), (.iconst (-1), 1, [], (-1)), (.if_icmp .ne 8, 3, [56], 0), (.bipush (-2), 2, [], (-2)), (.goto 4, 3, [57], 0)]
theorem ok_X9_entry_29 : vBL MT qLen qCh false q_X9_entry.2.2.2.2.1 q_X9_entry.2.2.2.2.2.1 q_X9_entry.2.2.1 q_X9_entry.1.cls q_X9_entry.1.name q_X9_entry.2.1 0 29 I_X9_entry_29 = true := by decide +kernel
def p_X9_entry_29 (a0 : Nat) (x1 : Int32) (x2 : Int32) (h : AH) : Option (Int32 × AH) :=
  if (tg h a0).1 = 8 then (if inB h (rR h a0 15) 100 ((((179 : Int32)) + (((8 : Int32)) * x1)) + x2) then (let x103 := rI h (rR h a0 15) ((((179 : Int32)) + (((8 : Int32)) * x1)) + x2).toNatClampNeg
  if x103 = ((-1 : Int32)) then (p_X9_entry_57 ((-2 : Int32)) a0 h)
  else
  p_X9_entry_57 x103 a0 h) else none) else none
set_option maxRecDepth 100000 in
theorem e_X9_entry_29 {l : Launch} {D : va_G} {dA : Nat → ClassId} {z : Nat} {sa : Nat → Nat} {Hz : Heap} (E : StrOK qLen qCh l D dA z sa Hz) {h0 fin : AH} {x : Int32}  : ∀ (a0 : Nat) (x1 : Int32) (x2 : Int32) (h : AH), p_X9_entry_29 a0 x1 x2 h = some (x, fin) → GM l D dA z sa Hz q_X9_entry h0 (some (.int x)) fin 29 [(0, .ref a0), (1, .int x1), (2, .int x2)] [] h := by
  intro a0 x1 x2 h hd
  exact step E (is := I_X9_entry_29) (pc := 29) (K := (kx 56 (fun la st h => gI la 3 fun x3 => sR st fun b0 st => sE st (p_X9_entry_56 x3 b0 h)) (kx 57 (fun la st h => sI st fun y0 st => sR st fun b1 st => sE st (p_X9_entry_57 y0 b1 h)) k0))) (FI := FI_X9_entry) (FV := fV0) (FL := fL0) (rt := rtI) (ft := 0) (by exact hd) ok_X9_entry_29 (kx_ok (fun la st h e => by obtain ⟨x3, m_x3, e1⟩ := gI_inv e; obtain ⟨b0, _, rfl, e2⟩ := sR_inv e1; obtain ⟨rfl, ez⟩ := sE_inv e2; exact gm_fewer (e_X9_entry_56 E  x3 b0 h ez) (mem_cons m_x3 mem_nil)) (kx_ok (fun la st h e => by obtain ⟨y0, _, rfl, e1⟩ := sI_inv e; obtain ⟨b1, _, rfl, e2⟩ := sR_inv e1; obtain ⟨rfl, ez⟩ := sE_inv e2; exact gm_fewer (e_X9_entry_57 E  y0 b1 h ez) mem_nil) k0_ok)) (FI_X9_entry_ok E) (fV0_ok E) (fL0_ok E) (rtI_ok rfl)
def I_X9_entry_0 : List AI := [(.aload_n 0, 1, [], 0), (.iconst 0, 1, [], 0), (.putfield 33, 3, [8, 0, 0, 1345], 0), (.aload_n 0, 1, [], 0), (.iload_n 1, 1, [], 0), (.invokevirtual 422, 3, [1, 273, 2, 8, 1847], 0), (.ifCond .eq 13, 3, [23], 0), (.iload_n 2, 1, [], 0), (.iconst 0, 1, [], 0), (.bipush 7, 2, [], 7), (.invokestatic 112, 3, [1, 211, 3, 1612], 0), (.ifCond .ne 9, 3, [29], 0)]
theorem ok_X9_entry_0 : vBL MT qLen qCh false q_X9_entry.2.2.2.2.1 q_X9_entry.2.2.2.2.2.1 q_X9_entry.2.2.1 q_X9_entry.1.cls q_X9_entry.1.name q_X9_entry.2.1 23 0 I_X9_entry_0 = true := by decide +kernel
def p_X9_entry (a0 : Nat) (x1 : Int32) (x2 : Int32) (h : AH) : Option (Int32 × AH) :=
  if (tg h a0).1 = 8 then (let h104 := wI h a0 0 ((0 : Int32))
  if (tg h104 a0).1 = 8 then ((p_X9_isTable a0 x1 h104).bind fun q105 =>
  if q105.1 = 0 then (p_X9_entry_23 a0 q105.2)
  else
  (p_X9_in x2 ((0 : Int32)) ((7 : Int32)) q105.2).bind fun q106 =>
  if q106.1 = 0 then (p_X9_entry_23 a0 q106.2)
  else
  if (tg q106.2 a0).1 = 8 then (if inB q106.2 (rR q106.2 a0 15) 100 ((((179 : Int32)) + (((8 : Int32)) * x1)) + x2) then (let x107 := rI q106.2 (rR q106.2 a0 15) ((((179 : Int32)) + (((8 : Int32)) * x1)) + x2).toNatClampNeg
  if x107 = ((-1 : Int32)) then (p_X9_entry_57 ((-2 : Int32)) a0 q106.2)
  else
  p_X9_entry_57 x107 a0 q106.2) else none) else none) else none) else none
set_option maxRecDepth 100000 in
theorem e_X9_entry_0 {l : Launch} {D : va_G} {dA : Nat → ClassId} {z : Nat} {sa : Nat → Nat} {Hz : Heap} (E : StrOK qLen qCh l D dA z sa Hz) {h0 fin : AH} {x : Int32}  : ∀ (a0 : Nat) (x1 : Int32) (x2 : Int32) (h : AH), p_X9_entry a0 x1 x2 h = some (x, fin) → GM l D dA z sa Hz q_X9_entry h0 (some (.int x)) fin 0 [(0, .ref a0), (1, .int x1), (2, .int x2)] [] h := by
  intro a0 x1 x2 h hd
  exact step E (is := I_X9_entry_0) (pc := 0) (K := (kx 23 (fun la st h => gR la 0 fun a0 => sE st (p_X9_entry_23 a0 h)) (kx 29 (fun la st h => gR la 0 fun a0 => gI la 1 fun x1 => gI la 2 fun x2 => sE st (p_X9_entry_29 a0 x1 x2 h)) k0))) (FI := FI_X9_entry) (FV := fV0) (FL := fL0) (rt := rtI) (ft := 23) (by exact hd) ok_X9_entry_0 (kx_ok (fun la st h e => by obtain ⟨a0, m_a0, e1⟩ := gR_inv e; obtain ⟨rfl, ez⟩ := sE_inv e1; exact gm_fewer (e_X9_entry_23 E  a0 h ez) (mem_cons m_a0 mem_nil)) (kx_ok (fun la st h e => by obtain ⟨a0, m_a0, e1⟩ := gR_inv e; obtain ⟨x1, m_x1, e2⟩ := gI_inv e1; obtain ⟨x2, m_x2, e3⟩ := gI_inv e2; obtain ⟨rfl, ez⟩ := sE_inv e3; exact gm_fewer (e_X9_entry_29 E  a0 x1 x2 h ez) (mem_cons m_a0 (mem_cons m_x1 (mem_cons m_x2 mem_nil)))) k0_ok)) (FI_X9_entry_ok E) (fV0_ok E) (fL0_ok E) (rtI_ok rfl)
theorem c_X9_entry {l : Launch} {D : va_G} {dA : Nat → ClassId} {z : Nat} {sa : Nat → Nat} {Hz : Heap} (E : StrOK qLen qCh l D dA z sa Hz) {a0 : Nat} {x1 : Int32} {x2 : Int32} {h fin : AH} {x : Int32} (hd : p_X9_entry a0 x1 x2 h = some (x, fin)) : CalOK l D dA z sa Hz q_X9_entry [.ref a0, .int x1, .int x2] h (some (.int x)) fin := calOf (by decide +kernel) (Nat.le_of_ble_eq_true rfl) (e_X9_entry_0 E a0 x1 x2 h hd)
def I_X9_isMap_47 : List AI := [(.ireturn, 1, [], 0)]
theorem ok_X9_isMap_47 : vBL MT qLen qCh false q_X9_isMap.2.2.2.2.1 q_X9_isMap.2.2.2.2.2.1 q_X9_isMap.2.2.1 q_X9_isMap.1.cls q_X9_isMap.1.name q_X9_isMap.2.1 0 47 I_X9_isMap_47 = true := by decide +kernel
def p_X9_isMap_47 (y0 : Int32) (h : AH) : Option (Int32 × AH) :=
  if y0 &&& 1 = y0 then some (y0, h) else none
set_option maxRecDepth 100000 in
theorem e_X9_isMap_47 {l : Launch} {D : va_G} {dA : Nat → ClassId} {z : Nat} {sa : Nat → Nat} {Hz : Heap} (E : StrOK qLen qCh l D dA z sa Hz) {h0 fin : AH} {x : Int32}  : ∀ (y0 : Int32) (h : AH), p_X9_isMap_47 y0 h = some (x, fin) → GM l D dA z sa Hz q_X9_isMap h0 (some (.int x)) fin 47 [] [.int y0] h := by
  intro y0 h hd
  exact step E (is := I_X9_isMap_47) (pc := 47) (K := k0) (FI := fI0) (FV := fV0) (FL := fL0) (rt := rtZ) (ft := 0) (by exact hd) ok_X9_isMap_47 k0_ok (fI0_ok E) (fV0_ok E) (fL0_ok E) (rtZ_ok rfl)
def I_X9_isMap_46 : List AI := [(.iconst 0, 1, [], 0)]
theorem ok_X9_isMap_46 : vBL MT qLen qCh false q_X9_isMap.2.2.2.2.1 q_X9_isMap.2.2.2.2.2.1 q_X9_isMap.2.2.1 q_X9_isMap.1.cls q_X9_isMap.1.name q_X9_isMap.2.1 47 46 I_X9_isMap_46 = true := by decide +kernel
def p_X9_isMap_46 (h : AH) : Option (Int32 × AH) :=
  p_X9_isMap_47 ((0 : Int32)) h
set_option maxRecDepth 100000 in
theorem e_X9_isMap_46 {l : Launch} {D : va_G} {dA : Nat → ClassId} {z : Nat} {sa : Nat → Nat} {Hz : Heap} (E : StrOK qLen qCh l D dA z sa Hz) {h0 fin : AH} {x : Int32}  : ∀  (h : AH), p_X9_isMap_46 h = some (x, fin) → GM l D dA z sa Hz q_X9_isMap h0 (some (.int x)) fin 46 [] [] h := by
  intro h hd
  exact step E (is := I_X9_isMap_46) (pc := 46) (K := (kx 47 (fun la st h => sI st fun y0 st => sE st (p_X9_isMap_47 y0 h)) k0)) (FI := fI0) (FV := fV0) (FL := fL0) (rt := rtZ) (ft := 47) (by exact hd) ok_X9_isMap_46 (kx_ok (fun la st h e => by obtain ⟨y0, _, rfl, e1⟩ := sI_inv e; obtain ⟨rfl, ez⟩ := sE_inv e1; exact gm_fewer (e_X9_isMap_47 E  y0 h ez) mem_nil) k0_ok) (fI0_ok E) (fV0_ok E) (fL0_ok E) (rtZ_ok rfl)
def I_X9_isMap_0 : List AI := [(.aload_n 0, 1, [], 0), (.getfield 21, 3, [8, 16, 2, 1361], 0), (.sipush 147, 3, [], 147), (.iload_n 1, 1, [], 0), (.sipush 179, 3, [], 179), (.isub, 1, [], 0), (.bipush 8, 2, [], 8), (.idiv, 1, [], 0), (.iadd, 1, [], 0), (.iaload, 1, [], 0), (.ifCond .le 29, 3, [46], 0), (.aload_n 0, 1, [], 0), (.getfield 21, 3, [8, 16, 2, 1361], 0), (.iload_n 1, 1, [], 0), (.iaload, 1, [], 0), (.iconst (-1), 1, [], (-1)), (.if_icmp .eq 19, 3, [46], 0), (.aload_n 0, 1, [], 0), (.getfield 21, 3, [8, 16, 2, 1361], 0), (.iload_n 1, 1, [], 0), (.iaload, 1, [], 0), (.iconst 4, 1, [], 4), (.idiv, 1, [], 0), (.iload_n 2, 1, [], 0), (.if_icmp .ne 7, 3, [46], 0), (.iconst 1, 1, [], 1), (.goto 4, 3, [47], 0)]
theorem ok_X9_isMap_0 : vBL MT qLen qCh false q_X9_isMap.2.2.2.2.1 q_X9_isMap.2.2.2.2.2.1 q_X9_isMap.2.2.1 q_X9_isMap.1.cls q_X9_isMap.1.name q_X9_isMap.2.1 0 0 I_X9_isMap_0 = true := by decide +kernel
def p_X9_isMap (a0 : Nat) (x1 : Int32) (x2 : Int32) (h : AH) : Option (Int32 × AH) :=
  if (tg h a0).1 = 8 then (if ((8 : Int32)) = 0 then none else
  if inB h (rR h a0 16) 100 (((147 : Int32)) + ((x1 - ((179 : Int32))) / ((8 : Int32)))) then (if 0 < (rI h (rR h a0 16) (((147 : Int32)) + ((x1 - ((179 : Int32))) / ((8 : Int32)))).toNatClampNeg) then (if (tg h a0).1 = 8 then (if inB h (rR h a0 16) 100 x1 then (if (rI h (rR h a0 16) x1.toNatClampNeg) = ((-1 : Int32)) then (p_X9_isMap_46 h)
  else
  if (tg h a0).1 = 8 then (if inB h (rR h a0 16) 100 x1 then (if ((4 : Int32)) = 0 then none else
  if ((rI h (rR h a0 16) x1.toNatClampNeg) / ((4 : Int32))) = x2 then (p_X9_isMap_47 ((1 : Int32)) h)
  else
  p_X9_isMap_46 h) else none) else none) else none) else none)
  else
  p_X9_isMap_46 h) else none) else none
set_option maxRecDepth 100000 in
theorem e_X9_isMap_0 {l : Launch} {D : va_G} {dA : Nat → ClassId} {z : Nat} {sa : Nat → Nat} {Hz : Heap} (E : StrOK qLen qCh l D dA z sa Hz) {h0 fin : AH} {x : Int32}  : ∀ (a0 : Nat) (x1 : Int32) (x2 : Int32) (h : AH), p_X9_isMap a0 x1 x2 h = some (x, fin) → GM l D dA z sa Hz q_X9_isMap h0 (some (.int x)) fin 0 [(0, .ref a0), (1, .int x1), (2, .int x2)] [] h := by
  intro a0 x1 x2 h hd
  exact step E (is := I_X9_isMap_0) (pc := 0) (K := (kx 46 (fun la st h => sE st (p_X9_isMap_46 h)) (kx 47 (fun la st h => sI st fun y0 st => sE st (p_X9_isMap_47 y0 h)) k0))) (FI := fI0) (FV := fV0) (FL := fL0) (rt := rtZ) (ft := 0) (by exact hd) ok_X9_isMap_0 (kx_ok (fun la st h e => by obtain ⟨rfl, ez⟩ := sE_inv e; exact gm_fewer (e_X9_isMap_46 E   h ez) mem_nil) (kx_ok (fun la st h e => by obtain ⟨y0, _, rfl, e1⟩ := sI_inv e; obtain ⟨rfl, ez⟩ := sE_inv e1; exact gm_fewer (e_X9_isMap_47 E  y0 h ez) mem_nil) k0_ok)) (fI0_ok E) (fV0_ok E) (fL0_ok E) (rtZ_ok rfl)
theorem c_X9_isMap {l : Launch} {D : va_G} {dA : Nat → ClassId} {z : Nat} {sa : Nat → Nat} {Hz : Heap} (E : StrOK qLen qCh l D dA z sa Hz) {a0 : Nat} {x1 : Int32} {x2 : Int32} {h fin : AH} {x : Int32} (hd : p_X9_isMap a0 x1 x2 h = some (x, fin)) : CalOK l D dA z sa Hz q_X9_isMap [.ref a0, .int x1, .int x2] h (some (.int x)) fin := calOf (by decide +kernel) (Nat.le_of_ble_eq_true rfl) (e_X9_isMap_0 E a0 x1 x2 h hd)
def FI_X9_mapsOf : Nat → List Value → AH → Option (Int32 × AH) := (cx 279 (fun As h => sR As fun a0 As => sI As fun x1 As => sI As fun x2 As => sE As (p_X9_isMap a0 x1 x2 h)) (cx 247 (fun As h => sI As fun x0 As => sI As fun x1 As => sE As (p_X9_has x0 x1 h)) fI0))
theorem FI_X9_mapsOf_ok {l : Launch} {D : va_G} {dA : Nat → ClassId} {z : Nat} {sa : Nat → Nat} {Hz : Heap} (E : StrOK qLen qCh l D dA z sa Hz) : ∀ mi As h x h', FI_X9_mapsOf mi As h = some (x, h') → CalOK l D dA z sa Hz (MT mi) As h (some (.int x)) h' := (cxI_ok (fun As h x h2 e => by obtain ⟨_, _, rfl, e0⟩ := sR_inv e; obtain ⟨_, _, rfl, e1⟩ := sI_inv e0; obtain ⟨_, _, rfl, e2⟩ := sI_inv e1; obtain ⟨rfl, ez⟩ := sE_inv e2; exact c_X9_isMap E ez) ((cxI_ok (fun As h x h2 e => by obtain ⟨_, _, rfl, e0⟩ := sI_inv e; obtain ⟨_, _, rfl, e1⟩ := sI_inv e0; obtain ⟨rfl, ez⟩ := sE_inv e1; exact c_X9_has E ez) (fI0_ok E))))
def I_X9_mapsOf_53 : List AI := [(.iload_n 3, 1, [], 0), (.ireturn, 1, [], 0)]
theorem ok_X9_mapsOf_53 : vBL MT qLen qCh false q_X9_mapsOf.2.2.2.2.1 q_X9_mapsOf.2.2.2.2.2.1 q_X9_mapsOf.2.2.1 q_X9_mapsOf.1.cls q_X9_mapsOf.1.name q_X9_mapsOf.2.1 0 53 I_X9_mapsOf_53 = true := by decide +kernel
def p_X9_mapsOf_53 (x3 : Int32) (h : AH) : Option (Int32 × AH) :=
  some (x3, h)
set_option maxRecDepth 100000 in
theorem e_X9_mapsOf_53 {l : Launch} {D : va_G} {dA : Nat → ClassId} {z : Nat} {sa : Nat → Nat} {Hz : Heap} (E : StrOK qLen qCh l D dA z sa Hz) {h0 fin : AH} {x : Int32}  : ∀ (x3 : Int32) (h : AH), p_X9_mapsOf_53 x3 h = some (x, fin) → GM l D dA z sa Hz q_X9_mapsOf h0 (some (.int x)) fin 53 [(3, .int x3)] [] h := by
  intro x3 h hd
  exact step E (is := I_X9_mapsOf_53) (pc := 53) (K := k0) (FI := FI_X9_mapsOf) (FV := fV0) (FL := fL0) (rt := rtI) (ft := 0) (by exact hd) ok_X9_mapsOf_53 k0_ok (FI_X9_mapsOf_ok E) (fV0_ok E) (fL0_ok E) (rtI_ok rfl)
def I_X9_mapsOf_45 : List AI := [(.iadd, 1, [], 0), (.istore_n 3, 1, [], 0), (.iinc 4 1, 3, [], 1), (.goto (-43), 3, [7], 0)]
theorem ok_X9_mapsOf_45 : vBL MT qLen qCh false q_X9_mapsOf.2.2.2.2.1 q_X9_mapsOf.2.2.2.2.2.1 q_X9_mapsOf.2.2.1 q_X9_mapsOf.1.cls q_X9_mapsOf.1.name q_X9_mapsOf.2.1 0 45 I_X9_mapsOf_45 = true := by decide +kernel
def p_X9_mapsOf_45 (k7 : Nat → Int32 → Int32 → Int32 → Int32 → AH → Option (Int32 × AH)) (a0 : Nat) (x1 : Int32) (x2 : Int32) (x4 : Int32) (y0 : Int32) (y1 : Int32) (h : AH) : Option (Int32 × AH) :=
  let x101 := y1 + y0
  k7 a0 x1 x2 x101 (x4 + (1 : Int32)) h
set_option maxRecDepth 100000 in
theorem e_X9_mapsOf_45 {l : Launch} {D : va_G} {dA : Nat → ClassId} {z : Nat} {sa : Nat → Nat} {Hz : Heap} (E : StrOK qLen qCh l D dA z sa Hz) {h0 fin : AH} {x : Int32}  {k7 : Nat → Int32 → Int32 → Int32 → Int32 → AH → Option (Int32 × AH)} (hk7 : ∀ (a0 : Nat) (x1 : Int32) (x2 : Int32) (x3 : Int32) (x4 : Int32) (h : AH), k7 a0 x1 x2 x3 x4 h = some (x, fin) → GM l D dA z sa Hz q_X9_mapsOf h0 (some (.int x)) fin 7 [(0, .ref a0), (1, .int x1), (2, .int x2), (3, .int x3), (4, .int x4)] [] h) : ∀ (a0 : Nat) (x1 : Int32) (x2 : Int32) (x4 : Int32) (y0 : Int32) (y1 : Int32) (h : AH), p_X9_mapsOf_45 k7 a0 x1 x2 x4 y0 y1 h = some (x, fin) → GM l D dA z sa Hz q_X9_mapsOf h0 (some (.int x)) fin 45 [(0, .ref a0), (1, .int x1), (2, .int x2), (4, .int x4)] [.int y0, .int y1] h := by
  intro a0 x1 x2 x4 y0 y1 h hd
  exact step E (is := I_X9_mapsOf_45) (pc := 45) (K := (kx 7 (fun la st h => gR la 0 fun a0 => gI la 1 fun x1 => gI la 2 fun x2 => gI la 3 fun x3 => gI la 4 fun x4 => sE st (k7 a0 x1 x2 x3 x4 h)) k0)) (FI := FI_X9_mapsOf) (FV := fV0) (FL := fL0) (rt := rtI) (ft := 0) (by exact hd) ok_X9_mapsOf_45 (kx_ok (fun la st h e => by obtain ⟨a0, m_a0, e1⟩ := gR_inv e; obtain ⟨x1, m_x1, e2⟩ := gI_inv e1; obtain ⟨x2, m_x2, e3⟩ := gI_inv e2; obtain ⟨x3, m_x3, e4⟩ := gI_inv e3; obtain ⟨x4, m_x4, e5⟩ := gI_inv e4; obtain ⟨rfl, ez⟩ := sE_inv e5; exact gm_fewer (hk7 a0 x1 x2 x3 x4 h ez) (mem_cons m_a0 (mem_cons m_x1 (mem_cons m_x2 (mem_cons m_x3 (mem_cons m_x4 mem_nil)))))) k0_ok) (FI_X9_mapsOf_ok E) (fV0_ok E) (fL0_ok E) (rtI_ok rfl)
def I_X9_mapsOf_44 : List AI := [(.iconst 0, 1, [], 0)]
theorem ok_X9_mapsOf_44 : vBL MT qLen qCh false q_X9_mapsOf.2.2.2.2.1 q_X9_mapsOf.2.2.2.2.2.1 q_X9_mapsOf.2.2.1 q_X9_mapsOf.1.cls q_X9_mapsOf.1.name q_X9_mapsOf.2.1 45 44 I_X9_mapsOf_44 = true := by decide +kernel
def p_X9_mapsOf_44 (k7 : Nat → Int32 → Int32 → Int32 → Int32 → AH → Option (Int32 × AH)) (a0 : Nat) (x1 : Int32) (x2 : Int32) (x4 : Int32) (y0 : Int32) (h : AH) : Option (Int32 × AH) :=
  p_X9_mapsOf_45 k7 a0 x1 x2 x4 ((0 : Int32)) y0 h
set_option maxRecDepth 100000 in
theorem e_X9_mapsOf_44 {l : Launch} {D : va_G} {dA : Nat → ClassId} {z : Nat} {sa : Nat → Nat} {Hz : Heap} (E : StrOK qLen qCh l D dA z sa Hz) {h0 fin : AH} {x : Int32}  {k7 : Nat → Int32 → Int32 → Int32 → Int32 → AH → Option (Int32 × AH)} (hk7 : ∀ (a0 : Nat) (x1 : Int32) (x2 : Int32) (x3 : Int32) (x4 : Int32) (h : AH), k7 a0 x1 x2 x3 x4 h = some (x, fin) → GM l D dA z sa Hz q_X9_mapsOf h0 (some (.int x)) fin 7 [(0, .ref a0), (1, .int x1), (2, .int x2), (3, .int x3), (4, .int x4)] [] h) : ∀ (a0 : Nat) (x1 : Int32) (x2 : Int32) (x4 : Int32) (y0 : Int32) (h : AH), p_X9_mapsOf_44 k7 a0 x1 x2 x4 y0 h = some (x, fin) → GM l D dA z sa Hz q_X9_mapsOf h0 (some (.int x)) fin 44 [(0, .ref a0), (1, .int x1), (2, .int x2), (4, .int x4)] [.int y0] h := by
  intro a0 x1 x2 x4 y0 h hd
  exact step E (is := I_X9_mapsOf_44) (pc := 44) (K := (kx 45 (fun la st h => gR la 0 fun a0 => gI la 1 fun x1 => gI la 2 fun x2 => gI la 4 fun x4 => sI st fun y0 st => sI st fun y1 st => sE st (p_X9_mapsOf_45 k7 a0 x1 x2 x4 y0 y1 h)) k0)) (FI := FI_X9_mapsOf) (FV := fV0) (FL := fL0) (rt := rtI) (ft := 45) (by exact hd) ok_X9_mapsOf_44 (kx_ok (fun la st h e => by obtain ⟨a0, m_a0, e1⟩ := gR_inv e; obtain ⟨x1, m_x1, e2⟩ := gI_inv e1; obtain ⟨x2, m_x2, e3⟩ := gI_inv e2; obtain ⟨x4, m_x4, e4⟩ := gI_inv e3; obtain ⟨y0, _, rfl, e5⟩ := sI_inv e4; obtain ⟨y1, _, rfl, e6⟩ := sI_inv e5; obtain ⟨rfl, ez⟩ := sE_inv e6; exact gm_fewer (e_X9_mapsOf_45 E hk7 a0 x1 x2 x4 y0 y1 h ez) (mem_cons m_a0 (mem_cons m_x1 (mem_cons m_x2 (mem_cons m_x4 mem_nil))))) k0_ok) (FI_X9_mapsOf_ok E) (fV0_ok E) (fL0_ok E) (rtI_ok rfl)
def I_X9_mapsOf_7 : List AI := [(.iload 4, 2, [], 0), (.sipush 243, 3, [], 243), (.if_icmp .ge 41, 3, [53], 0), (.iload_n 3, 1, [], 0), (.aload_n 0, 1, [], 0), (.iload 4, 2, [], 0), (.iload_n 1, 1, [], 0), (.invokevirtual 350, 3, [1, 279, 3, 8, 1875], 0), (.ifCond .eq 21, 3, [44], 0), (.aload_n 0, 1, [], 0), (.getfield 21, 3, [8, 16, 2, 1361], 0), (.iload 4, 2, [], 0), (.iaload, 1, [], 0), (.iload_n 2, 1, [], 0), (.invokestatic 316, 3, [1, 247, 2, 1749], 0), (.ifCond .eq 7, 3, [44], 0), (.iconst 1, 1, [], 1), (.goto 4, 3, [45], 0)]
theorem ok_X9_mapsOf_7 : vBL MT qLen qCh false q_X9_mapsOf.2.2.2.2.1 q_X9_mapsOf.2.2.2.2.2.1 q_X9_mapsOf.2.2.1 q_X9_mapsOf.1.cls q_X9_mapsOf.1.name q_X9_mapsOf.2.1 0 7 I_X9_mapsOf_7 = true := by decide +kernel
def p_X9_mapsOf_7 : Nat → Nat → Int32 → Int32 → Int32 → Int32 → AH → Option (Int32 × AH)
  | 0, _, _, _, _, _, _ => none
  | n + 1, a0, x1, x2, x3, x4, h => if x4 < ((243 : Int32)) then (if (tg h a0).1 = 8 then ((p_X9_isMap a0 x4 x1 h).bind fun q102 =>
    if q102.1 = 0 then (p_X9_mapsOf_44 (p_X9_mapsOf_7 n) a0 x1 x2 x4 x3 q102.2)
    else
    if (tg q102.2 a0).1 = 8 then (if inB q102.2 (rR q102.2 a0 16) 100 x4 then ((p_X9_has (rI q102.2 (rR q102.2 a0 16) x4.toNatClampNeg) x2 q102.2).bind fun q103 =>
    if q103.1 = 0 then (p_X9_mapsOf_44 (p_X9_mapsOf_7 n) a0 x1 x2 x4 x3 q103.2)
    else
    p_X9_mapsOf_45 (p_X9_mapsOf_7 n) a0 x1 x2 x4 ((1 : Int32)) x3 q103.2) else none) else none) else none)
    else
    some (x3, h)
set_option maxRecDepth 100000 in
theorem e_X9_mapsOf_7 {l : Launch} {D : va_G} {dA : Nat → ClassId} {z : Nat} {sa : Nat → Nat} {Hz : Heap} (E : StrOK qLen qCh l D dA z sa Hz) {h0 fin : AH} {x : Int32}  : ∀ (n : Nat) (a0 : Nat) (x1 : Int32) (x2 : Int32) (x3 : Int32) (x4 : Int32) (h : AH), p_X9_mapsOf_7 n a0 x1 x2 x3 x4 h = some (x, fin) → GM l D dA z sa Hz q_X9_mapsOf h0 (some (.int x)) fin 7 [(0, .ref a0), (1, .int x1), (2, .int x2), (3, .int x3), (4, .int x4)] [] h := by
  intro n
  induction n with
  | zero => intro a0 x1 x2 x3 x4 h hd; exact nomatch hd
  | succ n ih =>
    intro a0 x1 x2 x3 x4 h hd
    exact step E (is := I_X9_mapsOf_7) (pc := 7) (K := (kx 53 (fun la st h => gI la 3 fun x3 => sE st (p_X9_mapsOf_53 x3 h)) (kx 44 (fun la st h => gR la 0 fun a0 => gI la 1 fun x1 => gI la 2 fun x2 => gI la 4 fun x4 => sI st fun y0 st => sE st (p_X9_mapsOf_44 (p_X9_mapsOf_7 n) a0 x1 x2 x4 y0 h)) (kx 45 (fun la st h => gR la 0 fun a0 => gI la 1 fun x1 => gI la 2 fun x2 => gI la 4 fun x4 => sI st fun y0 st => sI st fun y1 st => sE st (p_X9_mapsOf_45 (p_X9_mapsOf_7 n) a0 x1 x2 x4 y0 y1 h)) k0)))) (FI := FI_X9_mapsOf) (FV := fV0) (FL := fL0) (rt := rtI) (ft := 0) (by exact hd) ok_X9_mapsOf_7 (kx_ok (fun la st h e => by obtain ⟨x3, m_x3, e1⟩ := gI_inv e; obtain ⟨rfl, ez⟩ := sE_inv e1; exact gm_fewer (e_X9_mapsOf_53 E  x3 h ez) (mem_cons m_x3 mem_nil)) (kx_ok (fun la st h e => by obtain ⟨a0, m_a0, e1⟩ := gR_inv e; obtain ⟨x1, m_x1, e2⟩ := gI_inv e1; obtain ⟨x2, m_x2, e3⟩ := gI_inv e2; obtain ⟨x4, m_x4, e4⟩ := gI_inv e3; obtain ⟨y0, _, rfl, e5⟩ := sI_inv e4; obtain ⟨rfl, ez⟩ := sE_inv e5; exact gm_fewer (e_X9_mapsOf_44 E ih a0 x1 x2 x4 y0 h ez) (mem_cons m_a0 (mem_cons m_x1 (mem_cons m_x2 (mem_cons m_x4 mem_nil))))) (kx_ok (fun la st h e => by obtain ⟨a0, m_a0, e1⟩ := gR_inv e; obtain ⟨x1, m_x1, e2⟩ := gI_inv e1; obtain ⟨x2, m_x2, e3⟩ := gI_inv e2; obtain ⟨x4, m_x4, e4⟩ := gI_inv e3; obtain ⟨y0, _, rfl, e5⟩ := sI_inv e4; obtain ⟨y1, _, rfl, e6⟩ := sI_inv e5; obtain ⟨rfl, ez⟩ := sE_inv e6; exact gm_fewer (e_X9_mapsOf_45 E ih a0 x1 x2 x4 y0 y1 h ez) (mem_cons m_a0 (mem_cons m_x1 (mem_cons m_x2 (mem_cons m_x4 mem_nil))))) k0_ok))) (FI_X9_mapsOf_ok E) (fV0_ok E) (fL0_ok E) (rtI_ok rfl)
def I_X9_mapsOf_0 : List AI := [(.iconst 0, 1, [], 0), (.istore_n 3, 1, [], 0), (.sipush 179, 3, [], 179), (.istore 4, 2, [], 0)]
theorem ok_X9_mapsOf_0 : vBL MT qLen qCh false q_X9_mapsOf.2.2.2.2.1 q_X9_mapsOf.2.2.2.2.2.1 q_X9_mapsOf.2.2.1 q_X9_mapsOf.1.cls q_X9_mapsOf.1.name q_X9_mapsOf.2.1 7 0 I_X9_mapsOf_0 = true := by decide +kernel
def p_X9_mapsOf (a0 : Nat) (x1 : Int32) (x2 : Int32) (h : AH) : Option (Int32 × AH) :=
  p_X9_mapsOf_7 FU a0 x1 x2 ((0 : Int32)) ((179 : Int32)) h
set_option maxRecDepth 100000 in
theorem e_X9_mapsOf_0 {l : Launch} {D : va_G} {dA : Nat → ClassId} {z : Nat} {sa : Nat → Nat} {Hz : Heap} (E : StrOK qLen qCh l D dA z sa Hz) {h0 fin : AH} {x : Int32}  : ∀ (a0 : Nat) (x1 : Int32) (x2 : Int32) (h : AH), p_X9_mapsOf a0 x1 x2 h = some (x, fin) → GM l D dA z sa Hz q_X9_mapsOf h0 (some (.int x)) fin 0 [(0, .ref a0), (1, .int x1), (2, .int x2)] [] h := by
  intro a0 x1 x2 h hd
  exact step E (is := I_X9_mapsOf_0) (pc := 0) (K := (kx 7 (fun la st h => gR la 0 fun a0 => gI la 1 fun x1 => gI la 2 fun x2 => gI la 3 fun x3 => gI la 4 fun x4 => sE st (p_X9_mapsOf_7 FU a0 x1 x2 x3 x4 h)) k0)) (FI := FI_X9_mapsOf) (FV := fV0) (FL := fL0) (rt := rtI) (ft := 7) (by exact hd) ok_X9_mapsOf_0 (kx_ok (fun la st h e => by obtain ⟨a0, m_a0, e1⟩ := gR_inv e; obtain ⟨x1, m_x1, e2⟩ := gI_inv e1; obtain ⟨x2, m_x2, e3⟩ := gI_inv e2; obtain ⟨x3, m_x3, e4⟩ := gI_inv e3; obtain ⟨x4, m_x4, e5⟩ := gI_inv e4; obtain ⟨rfl, ez⟩ := sE_inv e5; exact gm_fewer (e_X9_mapsOf_7 E  FU a0 x1 x2 x3 x4 h ez) (mem_cons m_a0 (mem_cons m_x1 (mem_cons m_x2 (mem_cons m_x3 (mem_cons m_x4 mem_nil)))))) k0_ok) (FI_X9_mapsOf_ok E) (fV0_ok E) (fL0_ok E) (rtI_ok rfl)
theorem c_X9_mapsOf {l : Launch} {D : va_G} {dA : Nat → ClassId} {z : Nat} {sa : Nat → Nat} {Hz : Heap} (E : StrOK qLen qCh l D dA z sa Hz) {a0 : Nat} {x1 : Int32} {x2 : Int32} {h fin : AH} {x : Int32} (hd : p_X9_mapsOf a0 x1 x2 h = some (x, fin)) : CalOK l D dA z sa Hz q_X9_mapsOf [.ref a0, .int x1, .int x2] h (some (.int x)) fin := calOf (by decide +kernel) (Nat.le_of_ble_eq_true rfl) (e_X9_mapsOf_0 E a0 x1 x2 h hd)
def FI_X9_maps : Nat → List Value → AH → Option (Int32 × AH) := (cx 237 (fun As h => sI As fun x0 As => sE As (p_X9_isFrame x0 h)) (cx 201 (fun As h => sR As fun a0 As => sI As fun x1 As => sE As (p_X9_refused a0 x1 h)) (cx 280 (fun As h => sR As fun a0 As => sI As fun x1 As => sI As fun x2 As => sE As (p_X9_mapsOf a0 x1 x2 h)) (cx 233 (fun As h => sR As fun a0 As => sI As fun x1 As => sE As (p_X9_good a0 x1 h)) fI0))))
theorem FI_X9_maps_ok {l : Launch} {D : va_G} {dA : Nat → ClassId} {z : Nat} {sa : Nat → Nat} {Hz : Heap} (E : StrOK qLen qCh l D dA z sa Hz) : ∀ mi As h x h', FI_X9_maps mi As h = some (x, h') → CalOK l D dA z sa Hz (MT mi) As h (some (.int x)) h' := (cxI_ok (fun As h x h2 e => by obtain ⟨_, _, rfl, e0⟩ := sI_inv e; obtain ⟨rfl, ez⟩ := sE_inv e0; exact c_X9_isFrame E ez) ((cxI_ok (fun As h x h2 e => by obtain ⟨_, _, rfl, e0⟩ := sR_inv e; obtain ⟨_, _, rfl, e1⟩ := sI_inv e0; obtain ⟨rfl, ez⟩ := sE_inv e1; exact c_X9_refused E ez) ((cxI_ok (fun As h x h2 e => by obtain ⟨_, _, rfl, e0⟩ := sR_inv e; obtain ⟨_, _, rfl, e1⟩ := sI_inv e0; obtain ⟨_, _, rfl, e2⟩ := sI_inv e1; obtain ⟨rfl, ez⟩ := sE_inv e2; exact c_X9_mapsOf E ez) ((cxI_ok (fun As h x h2 e => by obtain ⟨_, _, rfl, e0⟩ := sR_inv e; obtain ⟨_, _, rfl, e1⟩ := sI_inv e0; obtain ⟨rfl, ez⟩ := sE_inv e1; exact c_X9_good E ez) (fI0_ok E))))))))
def FV_X9_maps : Nat → List Value → AH → Option (AH) := (cx 239 (fun As h => sR As fun a0 As => sE As (p_X9_works a0 h)) fV0)
theorem FV_X9_maps_ok {l : Launch} {D : va_G} {dA : Nat → ClassId} {z : Nat} {sa : Nat → Nat} {Hz : Heap} (E : StrOK qLen qCh l D dA z sa Hz) : ∀ mi As h h', FV_X9_maps mi As h = some h' → CalOK l D dA z sa Hz (MT mi) As h none h' := (cxV_ok (fun As h h2 e => by obtain ⟨_, _, rfl, e0⟩ := sR_inv e; obtain ⟨rfl, ez⟩ := sE_inv e0; exact c_X9_works E ez) (fV0_ok E))
def I_X9_maps_19 : List AI := [(.aload_n 0, 1, [], 0), (.iconst 1, 1, [], 1), (.invokevirtual 39, 3, [1, 201, 2, 8, 1481], 0), (.ireturn, 1, [], 0)]
theorem ok_X9_maps_19 : vBL MT qLen qCh false q_X9_maps.2.2.2.2.1 q_X9_maps.2.2.2.2.2.1 q_X9_maps.2.2.1 q_X9_maps.1.cls q_X9_maps.1.name q_X9_maps.2.1 0 19 I_X9_maps_19 = true := by decide +kernel
def p_X9_maps_19 (a0 : Nat) (h : AH) : Option (Int32 × AH) :=
  if (tg h a0).1 = 8 then ((p_X9_refused a0 ((1 : Int32)) h).bind fun q101 =>
  some (q101.1, q101.2)) else none
set_option maxRecDepth 100000 in
theorem e_X9_maps_19 {l : Launch} {D : va_G} {dA : Nat → ClassId} {z : Nat} {sa : Nat → Nat} {Hz : Heap} (E : StrOK qLen qCh l D dA z sa Hz) {h0 fin : AH} {x : Int32}  : ∀ (a0 : Nat) (h : AH), p_X9_maps_19 a0 h = some (x, fin) → GM l D dA z sa Hz q_X9_maps h0 (some (.int x)) fin 19 [(0, .ref a0)] [] h := by
  intro a0 h hd
  exact step E (is := I_X9_maps_19) (pc := 19) (K := k0) (FI := FI_X9_maps) (FV := FV_X9_maps) (FL := fL0) (rt := rtI) (ft := 0) (by exact hd) ok_X9_maps_19 k0_ok (FI_X9_maps_ok E) (FV_X9_maps_ok E) (fL0_ok E) (rtI_ok rfl)
def I_X9_maps_25 : List AI := [(.aload_n 0, 1, [], 0), (.invokevirtual 398, 3, [2, 239, 1, 8, 1717], 0), (.aload_n 0, 1, [], 0), (.aload_n 0, 1, [], 0), (.iload_n 1, 1, [], 0), (.iconst 0, 1, [], 0), (.invokevirtual 434, 3, [1, 280, 3, 8, 1871], 0), (.invokevirtual 43, 3, [1, 233, 2, 8, 1694], 0), (.ireturn, 1, [], 0)]
theorem ok_X9_maps_25 : vBL MT qLen qCh false q_X9_maps.2.2.2.2.1 q_X9_maps.2.2.2.2.2.1 q_X9_maps.2.2.1 q_X9_maps.1.cls q_X9_maps.1.name q_X9_maps.2.1 0 25 I_X9_maps_25 = true := by decide +kernel
def p_X9_maps_25 (a0 : Nat) (x1 : Int32) (h : AH) : Option (Int32 × AH) :=
  if (tg h a0).1 = 8 then ((p_X9_works a0 h).bind fun h102 =>
  if (tg h102 a0).1 = 8 then ((p_X9_mapsOf a0 x1 ((0 : Int32)) h102).bind fun q103 =>
  if (tg q103.2 a0).1 = 8 then ((p_X9_good a0 q103.1 q103.2).bind fun q104 =>
  some (q104.1, q104.2)) else none) else none) else none
set_option maxRecDepth 100000 in
theorem e_X9_maps_25 {l : Launch} {D : va_G} {dA : Nat → ClassId} {z : Nat} {sa : Nat → Nat} {Hz : Heap} (E : StrOK qLen qCh l D dA z sa Hz) {h0 fin : AH} {x : Int32}  : ∀ (a0 : Nat) (x1 : Int32) (h : AH), p_X9_maps_25 a0 x1 h = some (x, fin) → GM l D dA z sa Hz q_X9_maps h0 (some (.int x)) fin 25 [(0, .ref a0), (1, .int x1)] [] h := by
  intro a0 x1 h hd
  exact step E (is := I_X9_maps_25) (pc := 25) (K := k0) (FI := FI_X9_maps) (FV := FV_X9_maps) (FL := fL0) (rt := rtI) (ft := 0) (by exact hd) ok_X9_maps_25 k0_ok (FI_X9_maps_ok E) (FV_X9_maps_ok E) (fL0_ok E) (rtI_ok rfl)
def I_X9_maps_0 : List AI := [(.aload_n 0, 1, [], 0), (.iconst 0, 1, [], 0), (.putfield 33, 3, [8, 0, 0, 1345], 0), (.aload_n 0, 1, [], 0), (.getfield 265, 3, [8, 3, 2, 1348], 0), (.ifnull 10, 3, [19], 0), (.iload_n 1, 1, [], 0), (.invokestatic 395, 3, [1, 237, 1, 1710], 0), (.ifCond .ne 9, 3, [25], 0)]
theorem ok_X9_maps_0 : vBL MT qLen qCh false q_X9_maps.2.2.2.2.1 q_X9_maps.2.2.2.2.2.1 q_X9_maps.2.2.1 q_X9_maps.1.cls q_X9_maps.1.name q_X9_maps.2.1 19 0 I_X9_maps_0 = true := by decide +kernel
def p_X9_maps (a0 : Nat) (x1 : Int32) (h : AH) : Option (Int32 × AH) :=
  if (tg h a0).1 = 8 then (let h105 := wI h a0 0 ((0 : Int32))
  if (tg h105 a0).1 = 8 then (if (rR h105 a0 3) = 0 then (p_X9_maps_19 a0 h105)
  else
  (p_X9_isFrame x1 h105).bind fun q106 =>
  if q106.1 = 0 then (p_X9_maps_19 a0 q106.2)
  else
  if (tg q106.2 a0).1 = 8 then ((p_X9_works a0 q106.2).bind fun h107 =>
  if (tg h107 a0).1 = 8 then ((p_X9_mapsOf a0 x1 ((0 : Int32)) h107).bind fun q108 =>
  if (tg q108.2 a0).1 = 8 then ((p_X9_good a0 q108.1 q108.2).bind fun q109 =>
  some (q109.1, q109.2)) else none) else none) else none) else none) else none
set_option maxRecDepth 100000 in
theorem e_X9_maps_0 {l : Launch} {D : va_G} {dA : Nat → ClassId} {z : Nat} {sa : Nat → Nat} {Hz : Heap} (E : StrOK qLen qCh l D dA z sa Hz) {h0 fin : AH} {x : Int32}  : ∀ (a0 : Nat) (x1 : Int32) (h : AH), p_X9_maps a0 x1 h = some (x, fin) → GM l D dA z sa Hz q_X9_maps h0 (some (.int x)) fin 0 [(0, .ref a0), (1, .int x1)] [] h := by
  intro a0 x1 h hd
  exact step E (is := I_X9_maps_0) (pc := 0) (K := (kx 19 (fun la st h => gR la 0 fun a0 => sE st (p_X9_maps_19 a0 h)) (kx 25 (fun la st h => gR la 0 fun a0 => gI la 1 fun x1 => sE st (p_X9_maps_25 a0 x1 h)) k0))) (FI := FI_X9_maps) (FV := FV_X9_maps) (FL := fL0) (rt := rtI) (ft := 19) (by exact hd) ok_X9_maps_0 (kx_ok (fun la st h e => by obtain ⟨a0, m_a0, e1⟩ := gR_inv e; obtain ⟨rfl, ez⟩ := sE_inv e1; exact gm_fewer (e_X9_maps_19 E  a0 h ez) (mem_cons m_a0 mem_nil)) (kx_ok (fun la st h e => by obtain ⟨a0, m_a0, e1⟩ := gR_inv e; obtain ⟨x1, m_x1, e2⟩ := gI_inv e1; obtain ⟨rfl, ez⟩ := sE_inv e2; exact gm_fewer (e_X9_maps_25 E  a0 x1 h ez) (mem_cons m_a0 (mem_cons m_x1 mem_nil))) k0_ok)) (FI_X9_maps_ok E) (FV_X9_maps_ok E) (fL0_ok E) (rtI_ok rfl)
theorem c_X9_maps {l : Launch} {D : va_G} {dA : Nat → ClassId} {z : Nat} {sa : Nat → Nat} {Hz : Heap} (E : StrOK qLen qCh l D dA z sa Hz) {a0 : Nat} {x1 : Int32} {h fin : AH} {x : Int32} (hd : p_X9_maps a0 x1 h = some (x, fin)) : CalOK l D dA z sa Hz q_X9_maps [.ref a0, .int x1] h (some (.int x)) fin := calOf (by decide +kernel) (Nat.le_of_ble_eq_true rfl) (e_X9_maps_0 E a0 x1 h hd)
def FI_X9_writers : Nat → List Value → AH → Option (Int32 × AH) := (cx 237 (fun As h => sI As fun x0 As => sE As (p_X9_isFrame x0 h)) (cx 201 (fun As h => sR As fun a0 As => sI As fun x1 As => sE As (p_X9_refused a0 x1 h)) (cx 280 (fun As h => sR As fun a0 As => sI As fun x1 As => sI As fun x2 As => sE As (p_X9_mapsOf a0 x1 x2 h)) (cx 233 (fun As h => sR As fun a0 As => sI As fun x1 As => sE As (p_X9_good a0 x1 h)) fI0))))
theorem FI_X9_writers_ok {l : Launch} {D : va_G} {dA : Nat → ClassId} {z : Nat} {sa : Nat → Nat} {Hz : Heap} (E : StrOK qLen qCh l D dA z sa Hz) : ∀ mi As h x h', FI_X9_writers mi As h = some (x, h') → CalOK l D dA z sa Hz (MT mi) As h (some (.int x)) h' := (cxI_ok (fun As h x h2 e => by obtain ⟨_, _, rfl, e0⟩ := sI_inv e; obtain ⟨rfl, ez⟩ := sE_inv e0; exact c_X9_isFrame E ez) ((cxI_ok (fun As h x h2 e => by obtain ⟨_, _, rfl, e0⟩ := sR_inv e; obtain ⟨_, _, rfl, e1⟩ := sI_inv e0; obtain ⟨rfl, ez⟩ := sE_inv e1; exact c_X9_refused E ez) ((cxI_ok (fun As h x h2 e => by obtain ⟨_, _, rfl, e0⟩ := sR_inv e; obtain ⟨_, _, rfl, e1⟩ := sI_inv e0; obtain ⟨_, _, rfl, e2⟩ := sI_inv e1; obtain ⟨rfl, ez⟩ := sE_inv e2; exact c_X9_mapsOf E ez) ((cxI_ok (fun As h x h2 e => by obtain ⟨_, _, rfl, e0⟩ := sR_inv e; obtain ⟨_, _, rfl, e1⟩ := sI_inv e0; obtain ⟨rfl, ez⟩ := sE_inv e1; exact c_X9_good E ez) (fI0_ok E))))))))
def FV_X9_writers : Nat → List Value → AH → Option (AH) := (cx 239 (fun As h => sR As fun a0 As => sE As (p_X9_works a0 h)) fV0)
theorem FV_X9_writers_ok {l : Launch} {D : va_G} {dA : Nat → ClassId} {z : Nat} {sa : Nat → Nat} {Hz : Heap} (E : StrOK qLen qCh l D dA z sa Hz) : ∀ mi As h h', FV_X9_writers mi As h = some h' → CalOK l D dA z sa Hz (MT mi) As h none h' := (cxV_ok (fun As h h2 e => by obtain ⟨_, _, rfl, e0⟩ := sR_inv e; obtain ⟨rfl, ez⟩ := sE_inv e0; exact c_X9_works E ez) (fV0_ok E))
def I_X9_writers_19 : List AI := [(.aload_n 0, 1, [], 0), (.iconst 1, 1, [], 1), (.invokevirtual 39, 3, [1, 201, 2, 8, 1481], 0), (.ireturn, 1, [], 0)]
theorem ok_X9_writers_19 : vBL MT qLen qCh false q_X9_writers.2.2.2.2.1 q_X9_writers.2.2.2.2.2.1 q_X9_writers.2.2.1 q_X9_writers.1.cls q_X9_writers.1.name q_X9_writers.2.1 0 19 I_X9_writers_19 = true := by decide +kernel
def p_X9_writers_19 (a0 : Nat) (h : AH) : Option (Int32 × AH) :=
  if (tg h a0).1 = 8 then ((p_X9_refused a0 ((1 : Int32)) h).bind fun q101 =>
  some (q101.1, q101.2)) else none
set_option maxRecDepth 100000 in
theorem e_X9_writers_19 {l : Launch} {D : va_G} {dA : Nat → ClassId} {z : Nat} {sa : Nat → Nat} {Hz : Heap} (E : StrOK qLen qCh l D dA z sa Hz) {h0 fin : AH} {x : Int32}  : ∀ (a0 : Nat) (h : AH), p_X9_writers_19 a0 h = some (x, fin) → GM l D dA z sa Hz q_X9_writers h0 (some (.int x)) fin 19 [(0, .ref a0)] [] h := by
  intro a0 h hd
  exact step E (is := I_X9_writers_19) (pc := 19) (K := k0) (FI := FI_X9_writers) (FV := FV_X9_writers) (FL := fL0) (rt := rtI) (ft := 0) (by exact hd) ok_X9_writers_19 k0_ok (FI_X9_writers_ok E) (FV_X9_writers_ok E) (fL0_ok E) (rtI_ok rfl)
def I_X9_writers_25 : List AI := [(.aload_n 0, 1, [], 0), (.invokevirtual 398, 3, [2, 239, 1, 8, 1717], 0), (.aload_n 0, 1, [], 0), (.aload_n 0, 1, [], 0), (.iload_n 1, 1, [], 0), (.iconst 2, 1, [], 2), (.invokevirtual 434, 3, [1, 280, 3, 8, 1871], 0), (.invokevirtual 43, 3, [1, 233, 2, 8, 1694], 0), (.ireturn, 1, [], 0)]
theorem ok_X9_writers_25 : vBL MT qLen qCh false q_X9_writers.2.2.2.2.1 q_X9_writers.2.2.2.2.2.1 q_X9_writers.2.2.1 q_X9_writers.1.cls q_X9_writers.1.name q_X9_writers.2.1 0 25 I_X9_writers_25 = true := by decide +kernel
def p_X9_writers_25 (a0 : Nat) (x1 : Int32) (h : AH) : Option (Int32 × AH) :=
  if (tg h a0).1 = 8 then ((p_X9_works a0 h).bind fun h102 =>
  if (tg h102 a0).1 = 8 then ((p_X9_mapsOf a0 x1 ((2 : Int32)) h102).bind fun q103 =>
  if (tg q103.2 a0).1 = 8 then ((p_X9_good a0 q103.1 q103.2).bind fun q104 =>
  some (q104.1, q104.2)) else none) else none) else none
set_option maxRecDepth 100000 in
theorem e_X9_writers_25 {l : Launch} {D : va_G} {dA : Nat → ClassId} {z : Nat} {sa : Nat → Nat} {Hz : Heap} (E : StrOK qLen qCh l D dA z sa Hz) {h0 fin : AH} {x : Int32}  : ∀ (a0 : Nat) (x1 : Int32) (h : AH), p_X9_writers_25 a0 x1 h = some (x, fin) → GM l D dA z sa Hz q_X9_writers h0 (some (.int x)) fin 25 [(0, .ref a0), (1, .int x1)] [] h := by
  intro a0 x1 h hd
  exact step E (is := I_X9_writers_25) (pc := 25) (K := k0) (FI := FI_X9_writers) (FV := FV_X9_writers) (FL := fL0) (rt := rtI) (ft := 0) (by exact hd) ok_X9_writers_25 k0_ok (FI_X9_writers_ok E) (FV_X9_writers_ok E) (fL0_ok E) (rtI_ok rfl)
def I_X9_writers_0 : List AI := [(.aload_n 0, 1, [], 0), (.iconst 0, 1, [], 0), (.putfield 33, 3, [8, 0, 0, 1345], 0), (.aload_n 0, 1, [], 0), (.getfield 265, 3, [8, 3, 2, 1348], 0), (.ifnull 10, 3, [19], 0), (.iload_n 1, 1, [], 0), (.invokestatic 395, 3, [1, 237, 1, 1710], 0), (.ifCond .ne 9, 3, [25], 0)]
theorem ok_X9_writers_0 : vBL MT qLen qCh false q_X9_writers.2.2.2.2.1 q_X9_writers.2.2.2.2.2.1 q_X9_writers.2.2.1 q_X9_writers.1.cls q_X9_writers.1.name q_X9_writers.2.1 19 0 I_X9_writers_0 = true := by decide +kernel
def p_X9_writers (a0 : Nat) (x1 : Int32) (h : AH) : Option (Int32 × AH) :=
  if (tg h a0).1 = 8 then (let h105 := wI h a0 0 ((0 : Int32))
  if (tg h105 a0).1 = 8 then (if (rR h105 a0 3) = 0 then (p_X9_writers_19 a0 h105)
  else
  (p_X9_isFrame x1 h105).bind fun q106 =>
  if q106.1 = 0 then (p_X9_writers_19 a0 q106.2)
  else
  if (tg q106.2 a0).1 = 8 then ((p_X9_works a0 q106.2).bind fun h107 =>
  if (tg h107 a0).1 = 8 then ((p_X9_mapsOf a0 x1 ((2 : Int32)) h107).bind fun q108 =>
  if (tg q108.2 a0).1 = 8 then ((p_X9_good a0 q108.1 q108.2).bind fun q109 =>
  some (q109.1, q109.2)) else none) else none) else none) else none) else none
set_option maxRecDepth 100000 in
theorem e_X9_writers_0 {l : Launch} {D : va_G} {dA : Nat → ClassId} {z : Nat} {sa : Nat → Nat} {Hz : Heap} (E : StrOK qLen qCh l D dA z sa Hz) {h0 fin : AH} {x : Int32}  : ∀ (a0 : Nat) (x1 : Int32) (h : AH), p_X9_writers a0 x1 h = some (x, fin) → GM l D dA z sa Hz q_X9_writers h0 (some (.int x)) fin 0 [(0, .ref a0), (1, .int x1)] [] h := by
  intro a0 x1 h hd
  exact step E (is := I_X9_writers_0) (pc := 0) (K := (kx 19 (fun la st h => gR la 0 fun a0 => sE st (p_X9_writers_19 a0 h)) (kx 25 (fun la st h => gR la 0 fun a0 => gI la 1 fun x1 => sE st (p_X9_writers_25 a0 x1 h)) k0))) (FI := FI_X9_writers) (FV := FV_X9_writers) (FL := fL0) (rt := rtI) (ft := 19) (by exact hd) ok_X9_writers_0 (kx_ok (fun la st h e => by obtain ⟨a0, m_a0, e1⟩ := gR_inv e; obtain ⟨rfl, ez⟩ := sE_inv e1; exact gm_fewer (e_X9_writers_19 E  a0 h ez) (mem_cons m_a0 mem_nil)) (kx_ok (fun la st h e => by obtain ⟨a0, m_a0, e1⟩ := gR_inv e; obtain ⟨x1, m_x1, e2⟩ := gI_inv e1; obtain ⟨rfl, ez⟩ := sE_inv e2; exact gm_fewer (e_X9_writers_25 E  a0 x1 h ez) (mem_cons m_a0 (mem_cons m_x1 mem_nil))) k0_ok)) (FI_X9_writers_ok E) (FV_X9_writers_ok E) (fL0_ok E) (rtI_ok rfl)
theorem c_X9_writers {l : Launch} {D : va_G} {dA : Nat → ClassId} {z : Nat} {sa : Nat → Nat} {Hz : Heap} (E : StrOK qLen qCh l D dA z sa Hz) {a0 : Nat} {x1 : Int32} {h fin : AH} {x : Int32} (hd : p_X9_writers a0 x1 h = some (x, fin)) : CalOK l D dA z sa Hz q_X9_writers [.ref a0, .int x1] h (some (.int x)) fin := calOf (by decide +kernel) (Nat.le_of_ble_eq_true rfl) (e_X9_writers_0 E a0 x1 h hd)
def FI_X9_isWatched : Nat → List Value → AH → Option (Int32 × AH) := (cx 265 (fun As h => sR As fun a0 As => sI As fun x1 As => sI As fun x2 As => sE As (p_X9_tableOf a0 x1 x2 h)) fI0)
theorem FI_X9_isWatched_ok {l : Launch} {D : va_G} {dA : Nat → ClassId} {z : Nat} {sa : Nat → Nat} {Hz : Heap} (E : StrOK qLen qCh l D dA z sa Hz) : ∀ mi As h x h', FI_X9_isWatched mi As h = some (x, h') → CalOK l D dA z sa Hz (MT mi) As h (some (.int x)) h' := (cxI_ok (fun As h x h2 e => by obtain ⟨_, _, rfl, e0⟩ := sR_inv e; obtain ⟨_, _, rfl, e1⟩ := sI_inv e0; obtain ⟨_, _, rfl, e2⟩ := sI_inv e1; obtain ⟨rfl, ez⟩ := sE_inv e2; exact c_X9_tableOf E ez) (fI0_ok E))
def I_X9_isWatched_40 : List AI := [(.ireturn, 1, [], 0)]
theorem ok_X9_isWatched_40 : vBL MT qLen qCh false q_X9_isWatched.2.2.2.2.1 q_X9_isWatched.2.2.2.2.2.1 q_X9_isWatched.2.2.1 q_X9_isWatched.1.cls q_X9_isWatched.1.name q_X9_isWatched.2.1 0 40 I_X9_isWatched_40 = true := by decide +kernel
def p_X9_isWatched_40 (y0 : Int32) (h : AH) : Option (Int32 × AH) :=
  if y0 &&& 1 = y0 then some (y0, h) else none
set_option maxRecDepth 100000 in
theorem e_X9_isWatched_40 {l : Launch} {D : va_G} {dA : Nat → ClassId} {z : Nat} {sa : Nat → Nat} {Hz : Heap} (E : StrOK qLen qCh l D dA z sa Hz) {h0 fin : AH} {x : Int32}  : ∀ (y0 : Int32) (h : AH), p_X9_isWatched_40 y0 h = some (x, fin) → GM l D dA z sa Hz q_X9_isWatched h0 (some (.int x)) fin 40 [] [.int y0] h := by
  intro y0 h hd
  exact step E (is := I_X9_isWatched_40) (pc := 40) (K := k0) (FI := FI_X9_isWatched) (FV := fV0) (FL := fL0) (rt := rtZ) (ft := 0) (by exact hd) ok_X9_isWatched_40 k0_ok (FI_X9_isWatched_ok E) (fV0_ok E) (fL0_ok E) (rtZ_ok rfl)
def I_X9_isWatched_35 : List AI := [(.iconst 1, 1, [], 1), (.goto 4, 3, [40], 0)]
theorem ok_X9_isWatched_35 : vBL MT qLen qCh false q_X9_isWatched.2.2.2.2.1 q_X9_isWatched.2.2.2.2.2.1 q_X9_isWatched.2.2.1 q_X9_isWatched.1.cls q_X9_isWatched.1.name q_X9_isWatched.2.1 0 35 I_X9_isWatched_35 = true := by decide +kernel
def p_X9_isWatched_35 (h : AH) : Option (Int32 × AH) :=
  p_X9_isWatched_40 ((1 : Int32)) h
set_option maxRecDepth 100000 in
theorem e_X9_isWatched_35 {l : Launch} {D : va_G} {dA : Nat → ClassId} {z : Nat} {sa : Nat → Nat} {Hz : Heap} (E : StrOK qLen qCh l D dA z sa Hz) {h0 fin : AH} {x : Int32}  : ∀  (h : AH), p_X9_isWatched_35 h = some (x, fin) → GM l D dA z sa Hz q_X9_isWatched h0 (some (.int x)) fin 35 [] [] h := by
  intro h hd
  exact step E (is := I_X9_isWatched_35) (pc := 35) (K := (kx 40 (fun la st h => sI st fun y0 st => sE st (p_X9_isWatched_40 y0 h)) k0)) (FI := FI_X9_isWatched) (FV := fV0) (FL := fL0) (rt := rtZ) (ft := 0) (by exact hd) ok_X9_isWatched_35 (kx_ok (fun la st h e => by obtain ⟨y0, _, rfl, e1⟩ := sI_inv e; obtain ⟨rfl, ez⟩ := sE_inv e1; exact gm_fewer (e_X9_isWatched_40 E  y0 h ez) mem_nil) k0_ok) (FI_X9_isWatched_ok E) (fV0_ok E) (fL0_ok E) (rtZ_ok rfl)
def I_X9_isWatched_39 : List AI := [(.iconst 0, 1, [], 0)]
theorem ok_X9_isWatched_39 : vBL MT qLen qCh false q_X9_isWatched.2.2.2.2.1 q_X9_isWatched.2.2.2.2.2.1 q_X9_isWatched.2.2.1 q_X9_isWatched.1.cls q_X9_isWatched.1.name q_X9_isWatched.2.1 40 39 I_X9_isWatched_39 = true := by decide +kernel
def p_X9_isWatched_39 (h : AH) : Option (Int32 × AH) :=
  p_X9_isWatched_40 ((0 : Int32)) h
set_option maxRecDepth 100000 in
theorem e_X9_isWatched_39 {l : Launch} {D : va_G} {dA : Nat → ClassId} {z : Nat} {sa : Nat → Nat} {Hz : Heap} (E : StrOK qLen qCh l D dA z sa Hz) {h0 fin : AH} {x : Int32}  : ∀  (h : AH), p_X9_isWatched_39 h = some (x, fin) → GM l D dA z sa Hz q_X9_isWatched h0 (some (.int x)) fin 39 [] [] h := by
  intro h hd
  exact step E (is := I_X9_isWatched_39) (pc := 39) (K := (kx 40 (fun la st h => sI st fun y0 st => sE st (p_X9_isWatched_40 y0 h)) k0)) (FI := FI_X9_isWatched) (FV := fV0) (FL := fL0) (rt := rtZ) (ft := 40) (by exact hd) ok_X9_isWatched_39 (kx_ok (fun la st h e => by obtain ⟨y0, _, rfl, e1⟩ := sI_inv e; obtain ⟨rfl, ez⟩ := sE_inv e1; exact gm_fewer (e_X9_isWatched_40 E  y0 h ez) mem_nil) k0_ok) (FI_X9_isWatched_ok E) (fV0_ok E) (fL0_ok E) (rtZ_ok rfl)
def I_X9_isWatched_0 : List AI := [(.aload_n 0, 1, [], 0), (.iconst 1, 1, [], 1), (.iload_n 1, 1, [], 0), (.invokevirtual 347, 3, [1, 265, 3, 8, 1819], 0), (.istore_n 2, 1, [], 0), (.aload_n 0, 1, [], 0), (.iconst 0, 1, [], 0), (.iload_n 1, 1, [], 0), (.invokevirtual 347, 3, [1, 265, 3, 8, 1819], 0), (.iconst (-1), 1, [], (-1)), (.if_icmp .ne 21, 3, [35], 0), (.iload_n 2, 1, [], 0), (.iconst (-1), 1, [], (-1)), (.if_icmp .eq 20, 3, [39], 0), (.aload_n 0, 1, [], 0), (.getfield 21, 3, [8, 16, 2, 1361], 0), (.sipush 171, 3, [], 171), (.iload_n 2, 1, [], 0), (.iadd, 1, [], 0), (.iaload, 1, [], 0), (.ifCond .ne 7, 3, [39], 0)]
theorem ok_X9_isWatched_0 : vBL MT qLen qCh false q_X9_isWatched.2.2.2.2.1 q_X9_isWatched.2.2.2.2.2.1 q_X9_isWatched.2.2.1 q_X9_isWatched.1.cls q_X9_isWatched.1.name q_X9_isWatched.2.1 35 0 I_X9_isWatched_0 = true := by decide +kernel
def p_X9_isWatched (a0 : Nat) (x1 : Int32) (h : AH) : Option (Int32 × AH) :=
  if (tg h a0).1 = 8 then ((p_X9_tableOf a0 ((1 : Int32)) x1 h).bind fun q101 =>
  if (tg q101.2 a0).1 = 8 then ((p_X9_tableOf a0 ((0 : Int32)) x1 q101.2).bind fun q102 =>
  if q102.1 = ((-1 : Int32)) then (if q101.1 = ((-1 : Int32)) then (p_X9_isWatched_39 q102.2)
  else
  if (tg q102.2 a0).1 = 8 then (if inB q102.2 (rR q102.2 a0 16) 100 (((171 : Int32)) + q101.1) then (if (rI q102.2 (rR q102.2 a0 16) (((171 : Int32)) + q101.1).toNatClampNeg) = 0 then (p_X9_isWatched_35 q102.2)
  else
  p_X9_isWatched_39 q102.2) else none) else none)
  else
  p_X9_isWatched_35 q102.2) else none) else none
set_option maxRecDepth 100000 in
theorem e_X9_isWatched_0 {l : Launch} {D : va_G} {dA : Nat → ClassId} {z : Nat} {sa : Nat → Nat} {Hz : Heap} (E : StrOK qLen qCh l D dA z sa Hz) {h0 fin : AH} {x : Int32}  : ∀ (a0 : Nat) (x1 : Int32) (h : AH), p_X9_isWatched a0 x1 h = some (x, fin) → GM l D dA z sa Hz q_X9_isWatched h0 (some (.int x)) fin 0 [(0, .ref a0), (1, .int x1)] [] h := by
  intro a0 x1 h hd
  exact step E (is := I_X9_isWatched_0) (pc := 0) (K := (kx 35 (fun la st h => sE st (p_X9_isWatched_35 h)) (kx 39 (fun la st h => sE st (p_X9_isWatched_39 h)) k0))) (FI := FI_X9_isWatched) (FV := fV0) (FL := fL0) (rt := rtZ) (ft := 35) (by exact hd) ok_X9_isWatched_0 (kx_ok (fun la st h e => by obtain ⟨rfl, ez⟩ := sE_inv e; exact gm_fewer (e_X9_isWatched_35 E   h ez) mem_nil) (kx_ok (fun la st h e => by obtain ⟨rfl, ez⟩ := sE_inv e; exact gm_fewer (e_X9_isWatched_39 E   h ez) mem_nil) k0_ok)) (FI_X9_isWatched_ok E) (fV0_ok E) (fL0_ok E) (rtZ_ok rfl)
theorem c_X9_isWatched {l : Launch} {D : va_G} {dA : Nat → ClassId} {z : Nat} {sa : Nat → Nat} {Hz : Heap} (E : StrOK qLen qCh l D dA z sa Hz) {a0 : Nat} {x1 : Int32} {h fin : AH} {x : Int32} (hd : p_X9_isWatched a0 x1 h = some (x, fin)) : CalOK l D dA z sa Hz q_X9_isWatched [.ref a0, .int x1] h (some (.int x)) fin := calOf (by decide +kernel) (Nat.le_of_ble_eq_true rfl) (e_X9_isWatched_0 E a0 x1 h hd)
def FI_X9_watched : Nat → List Value → AH → Option (Int32 × AH) := (cx 237 (fun As h => sI As fun x0 As => sE As (p_X9_isFrame x0 h)) (cx 201 (fun As h => sR As fun a0 As => sI As fun x1 As => sE As (p_X9_refused a0 x1 h)) (cx 283 (fun As h => sR As fun a0 As => sI As fun x1 As => sE As (p_X9_isWatched a0 x1 h)) (cx 233 (fun As h => sR As fun a0 As => sI As fun x1 As => sE As (p_X9_good a0 x1 h)) fI0))))
theorem FI_X9_watched_ok {l : Launch} {D : va_G} {dA : Nat → ClassId} {z : Nat} {sa : Nat → Nat} {Hz : Heap} (E : StrOK qLen qCh l D dA z sa Hz) : ∀ mi As h x h', FI_X9_watched mi As h = some (x, h') → CalOK l D dA z sa Hz (MT mi) As h (some (.int x)) h' := (cxI_ok (fun As h x h2 e => by obtain ⟨_, _, rfl, e0⟩ := sI_inv e; obtain ⟨rfl, ez⟩ := sE_inv e0; exact c_X9_isFrame E ez) ((cxI_ok (fun As h x h2 e => by obtain ⟨_, _, rfl, e0⟩ := sR_inv e; obtain ⟨_, _, rfl, e1⟩ := sI_inv e0; obtain ⟨rfl, ez⟩ := sE_inv e1; exact c_X9_refused E ez) ((cxI_ok (fun As h x h2 e => by obtain ⟨_, _, rfl, e0⟩ := sR_inv e; obtain ⟨_, _, rfl, e1⟩ := sI_inv e0; obtain ⟨rfl, ez⟩ := sE_inv e1; exact c_X9_isWatched E ez) ((cxI_ok (fun As h x h2 e => by obtain ⟨_, _, rfl, e0⟩ := sR_inv e; obtain ⟨_, _, rfl, e1⟩ := sI_inv e0; obtain ⟨rfl, ez⟩ := sE_inv e1; exact c_X9_good E ez) (fI0_ok E))))))))
def FV_X9_watched : Nat → List Value → AH → Option (AH) := (cx 239 (fun As h => sR As fun a0 As => sE As (p_X9_works a0 h)) fV0)
theorem FV_X9_watched_ok {l : Launch} {D : va_G} {dA : Nat → ClassId} {z : Nat} {sa : Nat → Nat} {Hz : Heap} (E : StrOK qLen qCh l D dA z sa Hz) : ∀ mi As h h', FV_X9_watched mi As h = some h' → CalOK l D dA z sa Hz (MT mi) As h none h' := (cxV_ok (fun As h h2 e => by obtain ⟨_, _, rfl, e0⟩ := sR_inv e; obtain ⟨rfl, ez⟩ := sE_inv e0; exact c_X9_works E ez) (fV0_ok E))
def I_X9_watched_19 : List AI := [(.aload_n 0, 1, [], 0), (.iconst 1, 1, [], 1), (.invokevirtual 39, 3, [1, 201, 2, 8, 1481], 0), (.ireturn, 1, [], 0)]
theorem ok_X9_watched_19 : vBL MT qLen qCh false q_X9_watched.2.2.2.2.1 q_X9_watched.2.2.2.2.2.1 q_X9_watched.2.2.1 q_X9_watched.1.cls q_X9_watched.1.name q_X9_watched.2.1 0 19 I_X9_watched_19 = true := by decide +kernel
def p_X9_watched_19 (a0 : Nat) (h : AH) : Option (Int32 × AH) :=
  if (tg h a0).1 = 8 then ((p_X9_refused a0 ((1 : Int32)) h).bind fun q101 =>
  some (q101.1, q101.2)) else none
set_option maxRecDepth 100000 in
theorem e_X9_watched_19 {l : Launch} {D : va_G} {dA : Nat → ClassId} {z : Nat} {sa : Nat → Nat} {Hz : Heap} (E : StrOK qLen qCh l D dA z sa Hz) {h0 fin : AH} {x : Int32}  : ∀ (a0 : Nat) (h : AH), p_X9_watched_19 a0 h = some (x, fin) → GM l D dA z sa Hz q_X9_watched h0 (some (.int x)) fin 19 [(0, .ref a0)] [] h := by
  intro a0 h hd
  exact step E (is := I_X9_watched_19) (pc := 19) (K := k0) (FI := FI_X9_watched) (FV := FV_X9_watched) (FL := fL0) (rt := rtI) (ft := 0) (by exact hd) ok_X9_watched_19 k0_ok (FI_X9_watched_ok E) (FV_X9_watched_ok E) (fL0_ok E) (rtI_ok rfl)
def I_X9_watched_43 : List AI := [(.invokevirtual 43, 3, [1, 233, 2, 8, 1694], 0), (.ireturn, 1, [], 0)]
theorem ok_X9_watched_43 : vBL MT qLen qCh false q_X9_watched.2.2.2.2.1 q_X9_watched.2.2.2.2.2.1 q_X9_watched.2.2.1 q_X9_watched.1.cls q_X9_watched.1.name q_X9_watched.2.1 0 43 I_X9_watched_43 = true := by decide +kernel
def p_X9_watched_43 (y0 : Int32) (b1 : Nat) (h : AH) : Option (Int32 × AH) :=
  if (tg h b1).1 = 8 then ((p_X9_good b1 y0 h).bind fun q102 =>
  some (q102.1, q102.2)) else none
set_option maxRecDepth 100000 in
theorem e_X9_watched_43 {l : Launch} {D : va_G} {dA : Nat → ClassId} {z : Nat} {sa : Nat → Nat} {Hz : Heap} (E : StrOK qLen qCh l D dA z sa Hz) {h0 fin : AH} {x : Int32}  : ∀ (y0 : Int32) (b1 : Nat) (h : AH), p_X9_watched_43 y0 b1 h = some (x, fin) → GM l D dA z sa Hz q_X9_watched h0 (some (.int x)) fin 43 [] [.int y0, .ref b1] h := by
  intro y0 b1 h hd
  exact step E (is := I_X9_watched_43) (pc := 43) (K := k0) (FI := FI_X9_watched) (FV := FV_X9_watched) (FL := fL0) (rt := rtI) (ft := 0) (by exact hd) ok_X9_watched_43 k0_ok (FI_X9_watched_ok E) (FV_X9_watched_ok E) (fL0_ok E) (rtI_ok rfl)
def I_X9_watched_42 : List AI := [(.iconst 0, 1, [], 0)]
theorem ok_X9_watched_42 : vBL MT qLen qCh false q_X9_watched.2.2.2.2.1 q_X9_watched.2.2.2.2.2.1 q_X9_watched.2.2.1 q_X9_watched.1.cls q_X9_watched.1.name q_X9_watched.2.1 43 42 I_X9_watched_42 = true := by decide +kernel
def p_X9_watched_42 (b0 : Nat) (h : AH) : Option (Int32 × AH) :=
  p_X9_watched_43 ((0 : Int32)) b0 h
set_option maxRecDepth 100000 in
theorem e_X9_watched_42 {l : Launch} {D : va_G} {dA : Nat → ClassId} {z : Nat} {sa : Nat → Nat} {Hz : Heap} (E : StrOK qLen qCh l D dA z sa Hz) {h0 fin : AH} {x : Int32}  : ∀ (b0 : Nat) (h : AH), p_X9_watched_42 b0 h = some (x, fin) → GM l D dA z sa Hz q_X9_watched h0 (some (.int x)) fin 42 [] [.ref b0] h := by
  intro b0 h hd
  exact step E (is := I_X9_watched_42) (pc := 42) (K := (kx 43 (fun la st h => sI st fun y0 st => sR st fun b1 st => sE st (p_X9_watched_43 y0 b1 h)) k0)) (FI := FI_X9_watched) (FV := FV_X9_watched) (FL := fL0) (rt := rtI) (ft := 43) (by exact hd) ok_X9_watched_42 (kx_ok (fun la st h e => by obtain ⟨y0, _, rfl, e1⟩ := sI_inv e; obtain ⟨b1, _, rfl, e2⟩ := sR_inv e1; obtain ⟨rfl, ez⟩ := sE_inv e2; exact gm_fewer (e_X9_watched_43 E  y0 b1 h ez) mem_nil) k0_ok) (FI_X9_watched_ok E) (FV_X9_watched_ok E) (fL0_ok E) (rtI_ok rfl)
def I_X9_watched_25 : List AI := [(.aload_n 0, 1, [], 0), (.invokevirtual 398, 3, [2, 239, 1, 8, 1717], 0), (.aload_n 0, 1, [], 0), (.aload_n 0, 1, [], 0), (.iload_n 1, 1, [], 0), (.invokevirtual 386, 3, [1, 283, 2, 8, 1887], 0), (.ifCond .eq 7, 3, [42], 0), (.iconst 1, 1, [], 1), (.goto 4, 3, [43], 0)]
theorem ok_X9_watched_25 : vBL MT qLen qCh false q_X9_watched.2.2.2.2.1 q_X9_watched.2.2.2.2.2.1 q_X9_watched.2.2.1 q_X9_watched.1.cls q_X9_watched.1.name q_X9_watched.2.1 0 25 I_X9_watched_25 = true := by decide +kernel
def p_X9_watched_25 (a0 : Nat) (x1 : Int32) (h : AH) : Option (Int32 × AH) :=
  if (tg h a0).1 = 8 then ((p_X9_works a0 h).bind fun h103 =>
  if (tg h103 a0).1 = 8 then ((p_X9_isWatched a0 x1 h103).bind fun q104 =>
  if q104.1 = 0 then (p_X9_watched_43 ((0 : Int32)) a0 q104.2)
  else
  p_X9_watched_43 ((1 : Int32)) a0 q104.2) else none) else none
set_option maxRecDepth 100000 in
theorem e_X9_watched_25 {l : Launch} {D : va_G} {dA : Nat → ClassId} {z : Nat} {sa : Nat → Nat} {Hz : Heap} (E : StrOK qLen qCh l D dA z sa Hz) {h0 fin : AH} {x : Int32}  : ∀ (a0 : Nat) (x1 : Int32) (h : AH), p_X9_watched_25 a0 x1 h = some (x, fin) → GM l D dA z sa Hz q_X9_watched h0 (some (.int x)) fin 25 [(0, .ref a0), (1, .int x1)] [] h := by
  intro a0 x1 h hd
  exact step E (is := I_X9_watched_25) (pc := 25) (K := (kx 42 (fun la st h => sR st fun b0 st => sE st (p_X9_watched_42 b0 h)) (kx 43 (fun la st h => sI st fun y0 st => sR st fun b1 st => sE st (p_X9_watched_43 y0 b1 h)) k0))) (FI := FI_X9_watched) (FV := FV_X9_watched) (FL := fL0) (rt := rtI) (ft := 0) (by exact hd) ok_X9_watched_25 (kx_ok (fun la st h e => by obtain ⟨b0, _, rfl, e1⟩ := sR_inv e; obtain ⟨rfl, ez⟩ := sE_inv e1; exact gm_fewer (e_X9_watched_42 E  b0 h ez) mem_nil) (kx_ok (fun la st h e => by obtain ⟨y0, _, rfl, e1⟩ := sI_inv e; obtain ⟨b1, _, rfl, e2⟩ := sR_inv e1; obtain ⟨rfl, ez⟩ := sE_inv e2; exact gm_fewer (e_X9_watched_43 E  y0 b1 h ez) mem_nil) k0_ok)) (FI_X9_watched_ok E) (FV_X9_watched_ok E) (fL0_ok E) (rtI_ok rfl)
def I_X9_watched_0 : List AI := [(.aload_n 0, 1, [], 0), (.iconst 0, 1, [], 0), (.putfield 33, 3, [8, 0, 0, 1345], 0), (.aload_n 0, 1, [], 0), (.getfield 265, 3, [8, 3, 2, 1348], 0), (.ifnull 10, 3, [19], 0), (.iload_n 1, 1, [], 0), (.invokestatic 395, 3, [1, 237, 1, 1710], 0), (.ifCond .ne 9, 3, [25], 0)]
theorem ok_X9_watched_0 : vBL MT qLen qCh false q_X9_watched.2.2.2.2.1 q_X9_watched.2.2.2.2.2.1 q_X9_watched.2.2.1 q_X9_watched.1.cls q_X9_watched.1.name q_X9_watched.2.1 19 0 I_X9_watched_0 = true := by decide +kernel
def p_X9_watched (a0 : Nat) (x1 : Int32) (h : AH) : Option (Int32 × AH) :=
  if (tg h a0).1 = 8 then (let h105 := wI h a0 0 ((0 : Int32))
  if (tg h105 a0).1 = 8 then (if (rR h105 a0 3) = 0 then (p_X9_watched_19 a0 h105)
  else
  (p_X9_isFrame x1 h105).bind fun q106 =>
  if q106.1 = 0 then (p_X9_watched_19 a0 q106.2)
  else
  if (tg q106.2 a0).1 = 8 then ((p_X9_works a0 q106.2).bind fun h107 =>
  if (tg h107 a0).1 = 8 then ((p_X9_isWatched a0 x1 h107).bind fun q108 =>
  if q108.1 = 0 then (p_X9_watched_43 ((0 : Int32)) a0 q108.2)
  else
  p_X9_watched_43 ((1 : Int32)) a0 q108.2) else none) else none) else none) else none
set_option maxRecDepth 100000 in
theorem e_X9_watched_0 {l : Launch} {D : va_G} {dA : Nat → ClassId} {z : Nat} {sa : Nat → Nat} {Hz : Heap} (E : StrOK qLen qCh l D dA z sa Hz) {h0 fin : AH} {x : Int32}  : ∀ (a0 : Nat) (x1 : Int32) (h : AH), p_X9_watched a0 x1 h = some (x, fin) → GM l D dA z sa Hz q_X9_watched h0 (some (.int x)) fin 0 [(0, .ref a0), (1, .int x1)] [] h := by
  intro a0 x1 h hd
  exact step E (is := I_X9_watched_0) (pc := 0) (K := (kx 19 (fun la st h => gR la 0 fun a0 => sE st (p_X9_watched_19 a0 h)) (kx 25 (fun la st h => gR la 0 fun a0 => gI la 1 fun x1 => sE st (p_X9_watched_25 a0 x1 h)) k0))) (FI := FI_X9_watched) (FV := FV_X9_watched) (FL := fL0) (rt := rtI) (ft := 19) (by exact hd) ok_X9_watched_0 (kx_ok (fun la st h e => by obtain ⟨a0, m_a0, e1⟩ := gR_inv e; obtain ⟨rfl, ez⟩ := sE_inv e1; exact gm_fewer (e_X9_watched_19 E  a0 h ez) (mem_cons m_a0 mem_nil)) (kx_ok (fun la st h e => by obtain ⟨a0, m_a0, e1⟩ := gR_inv e; obtain ⟨x1, m_x1, e2⟩ := gI_inv e1; obtain ⟨rfl, ez⟩ := sE_inv e2; exact gm_fewer (e_X9_watched_25 E  a0 x1 h ez) (mem_cons m_a0 (mem_cons m_x1 mem_nil))) k0_ok)) (FI_X9_watched_ok E) (FV_X9_watched_ok E) (fL0_ok E) (rtI_ok rfl)
theorem c_X9_watched {l : Launch} {D : va_G} {dA : Nat → ClassId} {z : Nat} {sa : Nat → Nat} {Hz : Heap} (E : StrOK qLen qCh l D dA z sa Hz) {a0 : Nat} {x1 : Int32} {h fin : AH} {x : Int32} (hd : p_X9_watched a0 x1 h = some (x, fin)) : CalOK l D dA z sa Hz q_X9_watched [.ref a0, .int x1] h (some (.int x)) fin := calOf (by decide +kernel) (Nat.le_of_ble_eq_true rfl) (e_X9_watched_0 E a0 x1 h hd)
def FI_X9_outOfStep : Nat → List Value → AH → Option (Int32 × AH) := (cx 201 (fun As h => sR As fun a0 As => sI As fun x1 As => sE As (p_X9_refused a0 x1 h)) (cx 233 (fun As h => sR As fun a0 As => sI As fun x1 As => sE As (p_X9_good a0 x1 h)) fI0))
theorem FI_X9_outOfStep_ok {l : Launch} {D : va_G} {dA : Nat → ClassId} {z : Nat} {sa : Nat → Nat} {Hz : Heap} (E : StrOK qLen qCh l D dA z sa Hz) : ∀ mi As h x h', FI_X9_outOfStep mi As h = some (x, h') → CalOK l D dA z sa Hz (MT mi) As h (some (.int x)) h' := (cxI_ok (fun As h x h2 e => by obtain ⟨_, _, rfl, e0⟩ := sR_inv e; obtain ⟨_, _, rfl, e1⟩ := sI_inv e0; obtain ⟨rfl, ez⟩ := sE_inv e1; exact c_X9_refused E ez) ((cxI_ok (fun As h x h2 e => by obtain ⟨_, _, rfl, e0⟩ := sR_inv e; obtain ⟨_, _, rfl, e1⟩ := sI_inv e0; obtain ⟨rfl, ez⟩ := sE_inv e1; exact c_X9_good E ez) (fI0_ok E))))
def I_X9_outOfStep_58 : List AI := [(.aload_n 0, 1, [], 0), (.iload_n 1, 1, [], 0), (.invokevirtual 43, 3, [1, 233, 2, 8, 1694], 0), (.ireturn, 1, [], 0)]
theorem ok_X9_outOfStep_58 : vBL MT qLen qCh false q_X9_outOfStep.2.2.2.2.1 q_X9_outOfStep.2.2.2.2.2.1 q_X9_outOfStep.2.2.1 q_X9_outOfStep.1.cls q_X9_outOfStep.1.name q_X9_outOfStep.2.1 0 58 I_X9_outOfStep_58 = true := by decide +kernel
def p_X9_outOfStep_58 (a0 : Nat) (x1 : Int32) (h : AH) : Option (Int32 × AH) :=
  if (tg h a0).1 = 8 then ((p_X9_good a0 x1 h).bind fun q101 =>
  some (q101.1, q101.2)) else none
set_option maxRecDepth 100000 in
theorem e_X9_outOfStep_58 {l : Launch} {D : va_G} {dA : Nat → ClassId} {z : Nat} {sa : Nat → Nat} {Hz : Heap} (E : StrOK qLen qCh l D dA z sa Hz) {h0 fin : AH} {x : Int32}  : ∀ (a0 : Nat) (x1 : Int32) (h : AH), p_X9_outOfStep_58 a0 x1 h = some (x, fin) → GM l D dA z sa Hz q_X9_outOfStep h0 (some (.int x)) fin 58 [(0, .ref a0), (1, .int x1)] [] h := by
  intro a0 x1 h hd
  exact step E (is := I_X9_outOfStep_58) (pc := 58) (K := k0) (FI := FI_X9_outOfStep) (FV := fV0) (FL := fL0) (rt := rtI) (ft := 0) (by exact hd) ok_X9_outOfStep_58 k0_ok (FI_X9_outOfStep_ok E) (fV0_ok E) (fL0_ok E) (rtI_ok rfl)
def I_X9_outOfStep_50 : List AI := [(.ior, 1, [], 0), (.istore_n 1, 1, [], 0), (.iinc 2 1, 3, [], 1), (.goto (-33), 3, [22], 0)]
theorem ok_X9_outOfStep_50 : vBL MT qLen qCh false q_X9_outOfStep.2.2.2.2.1 q_X9_outOfStep.2.2.2.2.2.1 q_X9_outOfStep.2.2.1 q_X9_outOfStep.1.cls q_X9_outOfStep.1.name q_X9_outOfStep.2.1 0 50 I_X9_outOfStep_50 = true := by decide +kernel
def p_X9_outOfStep_50 (k22 : Nat → Int32 → Int32 → AH → Option (Int32 × AH)) (a0 : Nat) (x2 : Int32) (y0 : Int32) (y1 : Int32) (h : AH) : Option (Int32 × AH) :=
  let x102 := y1 ||| y0
  k22 a0 x102 (x2 + (1 : Int32)) h
set_option maxRecDepth 100000 in
theorem e_X9_outOfStep_50 {l : Launch} {D : va_G} {dA : Nat → ClassId} {z : Nat} {sa : Nat → Nat} {Hz : Heap} (E : StrOK qLen qCh l D dA z sa Hz) {h0 fin : AH} {x : Int32}  {k22 : Nat → Int32 → Int32 → AH → Option (Int32 × AH)} (hk22 : ∀ (a0 : Nat) (x1 : Int32) (x2 : Int32) (h : AH), k22 a0 x1 x2 h = some (x, fin) → GM l D dA z sa Hz q_X9_outOfStep h0 (some (.int x)) fin 22 [(0, .ref a0), (1, .int x1), (2, .int x2)] [] h) : ∀ (a0 : Nat) (x2 : Int32) (y0 : Int32) (y1 : Int32) (h : AH), p_X9_outOfStep_50 k22 a0 x2 y0 y1 h = some (x, fin) → GM l D dA z sa Hz q_X9_outOfStep h0 (some (.int x)) fin 50 [(0, .ref a0), (2, .int x2)] [.int y0, .int y1] h := by
  intro a0 x2 y0 y1 h hd
  exact step E (is := I_X9_outOfStep_50) (pc := 50) (K := (kx 22 (fun la st h => gR la 0 fun a0 => gI la 1 fun x1 => gI la 2 fun x2 => sE st (k22 a0 x1 x2 h)) k0)) (FI := FI_X9_outOfStep) (FV := fV0) (FL := fL0) (rt := rtI) (ft := 0) (by exact hd) ok_X9_outOfStep_50 (kx_ok (fun la st h e => by obtain ⟨a0, m_a0, e1⟩ := gR_inv e; obtain ⟨x1, m_x1, e2⟩ := gI_inv e1; obtain ⟨x2, m_x2, e3⟩ := gI_inv e2; obtain ⟨rfl, ez⟩ := sE_inv e3; exact gm_fewer (hk22 a0 x1 x2 h ez) (mem_cons m_a0 (mem_cons m_x1 (mem_cons m_x2 mem_nil)))) k0_ok) (FI_X9_outOfStep_ok E) (fV0_ok E) (fL0_ok E) (rtI_ok rfl)
def I_X9_outOfStep_49 : List AI := [(.iconst 0, 1, [], 0)]
theorem ok_X9_outOfStep_49 : vBL MT qLen qCh false q_X9_outOfStep.2.2.2.2.1 q_X9_outOfStep.2.2.2.2.2.1 q_X9_outOfStep.2.2.1 q_X9_outOfStep.1.cls q_X9_outOfStep.1.name q_X9_outOfStep.2.1 50 49 I_X9_outOfStep_49 = true := by decide +kernel
def p_X9_outOfStep_49 (k22 : Nat → Int32 → Int32 → AH → Option (Int32 × AH)) (a0 : Nat) (x2 : Int32) (y0 : Int32) (h : AH) : Option (Int32 × AH) :=
  p_X9_outOfStep_50 k22 a0 x2 ((0 : Int32)) y0 h
set_option maxRecDepth 100000 in
theorem e_X9_outOfStep_49 {l : Launch} {D : va_G} {dA : Nat → ClassId} {z : Nat} {sa : Nat → Nat} {Hz : Heap} (E : StrOK qLen qCh l D dA z sa Hz) {h0 fin : AH} {x : Int32}  {k22 : Nat → Int32 → Int32 → AH → Option (Int32 × AH)} (hk22 : ∀ (a0 : Nat) (x1 : Int32) (x2 : Int32) (h : AH), k22 a0 x1 x2 h = some (x, fin) → GM l D dA z sa Hz q_X9_outOfStep h0 (some (.int x)) fin 22 [(0, .ref a0), (1, .int x1), (2, .int x2)] [] h) : ∀ (a0 : Nat) (x2 : Int32) (y0 : Int32) (h : AH), p_X9_outOfStep_49 k22 a0 x2 y0 h = some (x, fin) → GM l D dA z sa Hz q_X9_outOfStep h0 (some (.int x)) fin 49 [(0, .ref a0), (2, .int x2)] [.int y0] h := by
  intro a0 x2 y0 h hd
  exact step E (is := I_X9_outOfStep_49) (pc := 49) (K := (kx 50 (fun la st h => gR la 0 fun a0 => gI la 2 fun x2 => sI st fun y0 st => sI st fun y1 st => sE st (p_X9_outOfStep_50 k22 a0 x2 y0 y1 h)) k0)) (FI := FI_X9_outOfStep) (FV := fV0) (FL := fL0) (rt := rtI) (ft := 50) (by exact hd) ok_X9_outOfStep_49 (kx_ok (fun la st h e => by obtain ⟨a0, m_a0, e1⟩ := gR_inv e; obtain ⟨x2, m_x2, e2⟩ := gI_inv e1; obtain ⟨y0, _, rfl, e3⟩ := sI_inv e2; obtain ⟨y1, _, rfl, e4⟩ := sI_inv e3; obtain ⟨rfl, ez⟩ := sE_inv e4; exact gm_fewer (e_X9_outOfStep_50 E hk22 a0 x2 y0 y1 h ez) (mem_cons m_a0 (mem_cons m_x2 mem_nil))) k0_ok) (FI_X9_outOfStep_ok E) (fV0_ok E) (fL0_ok E) (rtI_ok rfl)
def I_X9_outOfStep_22 : List AI := [(.iload_n 2, 1, [], 0), (.bipush 8, 2, [], 8), (.if_icmp .ge 33, 3, [58], 0), (.iload_n 1, 1, [], 0), (.aload_n 0, 1, [], 0), (.getfield 17, 3, [8, 15, 2, 1360], 0), (.sipush 171, 3, [], 171), (.iload_n 2, 1, [], 0), (.iadd, 1, [], 0), (.iaload, 1, [], 0), (.iconst 1, 1, [], 1), (.if_icmp .ne 9, 3, [49], 0), (.iconst 1, 1, [], 1), (.iload_n 2, 1, [], 0), (.ishl, 1, [], 0), (.goto 4, 3, [50], 0)]
theorem ok_X9_outOfStep_22 : vBL MT qLen qCh false q_X9_outOfStep.2.2.2.2.1 q_X9_outOfStep.2.2.2.2.2.1 q_X9_outOfStep.2.2.1 q_X9_outOfStep.1.cls q_X9_outOfStep.1.name q_X9_outOfStep.2.1 0 22 I_X9_outOfStep_22 = true := by decide +kernel
def p_X9_outOfStep_22 : Nat → Nat → Int32 → Int32 → AH → Option (Int32 × AH)
  | 0, _, _, _, _ => none
  | n + 1, a0, x1, x2, h => if x2 < ((8 : Int32)) then (if (tg h a0).1 = 8 then (if inB h (rR h a0 15) 100 (((171 : Int32)) + x2) then (if (rI h (rR h a0 15) (((171 : Int32)) + x2).toNatClampNeg) = ((1 : Int32)) then (p_X9_outOfStep_50 (p_X9_outOfStep_22 n) a0 x2 (((1 : Int32)) <<< (x2 &&& 31)) x1 h)
    else
    p_X9_outOfStep_50 (p_X9_outOfStep_22 n) a0 x2 ((0 : Int32)) x1 h) else none) else none)
    else
    if (tg h a0).1 = 8 then ((p_X9_good a0 x1 h).bind fun q103 =>
    some (q103.1, q103.2)) else none
set_option maxRecDepth 100000 in
theorem e_X9_outOfStep_22 {l : Launch} {D : va_G} {dA : Nat → ClassId} {z : Nat} {sa : Nat → Nat} {Hz : Heap} (E : StrOK qLen qCh l D dA z sa Hz) {h0 fin : AH} {x : Int32}  : ∀ (n : Nat) (a0 : Nat) (x1 : Int32) (x2 : Int32) (h : AH), p_X9_outOfStep_22 n a0 x1 x2 h = some (x, fin) → GM l D dA z sa Hz q_X9_outOfStep h0 (some (.int x)) fin 22 [(0, .ref a0), (1, .int x1), (2, .int x2)] [] h := by
  intro n
  induction n with
  | zero => intro a0 x1 x2 h hd; exact nomatch hd
  | succ n ih =>
    intro a0 x1 x2 h hd
    exact step E (is := I_X9_outOfStep_22) (pc := 22) (K := (kx 58 (fun la st h => gR la 0 fun a0 => gI la 1 fun x1 => sE st (p_X9_outOfStep_58 a0 x1 h)) (kx 49 (fun la st h => gR la 0 fun a0 => gI la 2 fun x2 => sI st fun y0 st => sE st (p_X9_outOfStep_49 (p_X9_outOfStep_22 n) a0 x2 y0 h)) (kx 50 (fun la st h => gR la 0 fun a0 => gI la 2 fun x2 => sI st fun y0 st => sI st fun y1 st => sE st (p_X9_outOfStep_50 (p_X9_outOfStep_22 n) a0 x2 y0 y1 h)) k0)))) (FI := FI_X9_outOfStep) (FV := fV0) (FL := fL0) (rt := rtI) (ft := 0) (by exact hd) ok_X9_outOfStep_22 (kx_ok (fun la st h e => by obtain ⟨a0, m_a0, e1⟩ := gR_inv e; obtain ⟨x1, m_x1, e2⟩ := gI_inv e1; obtain ⟨rfl, ez⟩ := sE_inv e2; exact gm_fewer (e_X9_outOfStep_58 E  a0 x1 h ez) (mem_cons m_a0 (mem_cons m_x1 mem_nil))) (kx_ok (fun la st h e => by obtain ⟨a0, m_a0, e1⟩ := gR_inv e; obtain ⟨x2, m_x2, e2⟩ := gI_inv e1; obtain ⟨y0, _, rfl, e3⟩ := sI_inv e2; obtain ⟨rfl, ez⟩ := sE_inv e3; exact gm_fewer (e_X9_outOfStep_49 E ih a0 x2 y0 h ez) (mem_cons m_a0 (mem_cons m_x2 mem_nil))) (kx_ok (fun la st h e => by obtain ⟨a0, m_a0, e1⟩ := gR_inv e; obtain ⟨x2, m_x2, e2⟩ := gI_inv e1; obtain ⟨y0, _, rfl, e3⟩ := sI_inv e2; obtain ⟨y1, _, rfl, e4⟩ := sI_inv e3; obtain ⟨rfl, ez⟩ := sE_inv e4; exact gm_fewer (e_X9_outOfStep_50 E ih a0 x2 y0 y1 h ez) (mem_cons m_a0 (mem_cons m_x2 mem_nil))) k0_ok))) (FI_X9_outOfStep_ok E) (fV0_ok E) (fL0_ok E) (rtI_ok rfl)
def I_X9_outOfStep_18 : List AI := [(.iconst 0, 1, [], 0), (.istore_n 1, 1, [], 0), (.iconst 0, 1, [], 0), (.istore_n 2, 1, [], 0)]
theorem ok_X9_outOfStep_18 : vBL MT qLen qCh false q_X9_outOfStep.2.2.2.2.1 q_X9_outOfStep.2.2.2.2.2.1 q_X9_outOfStep.2.2.1 q_X9_outOfStep.1.cls q_X9_outOfStep.1.name q_X9_outOfStep.2.1 22 18 I_X9_outOfStep_18 = true := by decide +kernel
def p_X9_outOfStep_18 (a0 : Nat) (h : AH) : Option (Int32 × AH) :=
  p_X9_outOfStep_22 FU a0 ((0 : Int32)) ((0 : Int32)) h
set_option maxRecDepth 100000 in
theorem e_X9_outOfStep_18 {l : Launch} {D : va_G} {dA : Nat → ClassId} {z : Nat} {sa : Nat → Nat} {Hz : Heap} (E : StrOK qLen qCh l D dA z sa Hz) {h0 fin : AH} {x : Int32}  : ∀ (a0 : Nat) (h : AH), p_X9_outOfStep_18 a0 h = some (x, fin) → GM l D dA z sa Hz q_X9_outOfStep h0 (some (.int x)) fin 18 [(0, .ref a0)] [] h := by
  intro a0 h hd
  exact step E (is := I_X9_outOfStep_18) (pc := 18) (K := (kx 22 (fun la st h => gR la 0 fun a0 => gI la 1 fun x1 => gI la 2 fun x2 => sE st (p_X9_outOfStep_22 FU a0 x1 x2 h)) k0)) (FI := FI_X9_outOfStep) (FV := fV0) (FL := fL0) (rt := rtI) (ft := 22) (by exact hd) ok_X9_outOfStep_18 (kx_ok (fun la st h e => by obtain ⟨a0, m_a0, e1⟩ := gR_inv e; obtain ⟨x1, m_x1, e2⟩ := gI_inv e1; obtain ⟨x2, m_x2, e3⟩ := gI_inv e2; obtain ⟨rfl, ez⟩ := sE_inv e3; exact gm_fewer (e_X9_outOfStep_22 E  FU a0 x1 x2 h ez) (mem_cons m_a0 (mem_cons m_x1 (mem_cons m_x2 mem_nil)))) k0_ok) (FI_X9_outOfStep_ok E) (fV0_ok E) (fL0_ok E) (rtI_ok rfl)
def I_X9_outOfStep_0 : List AI := [(.aload_n 0, 1, [], 0), (.iconst 0, 1, [], 0), (.putfield 33, 3, [8, 0, 0, 1345], 0), (.aload_n 0, 1, [], 0), (.getfield 265, 3, [8, 3, 2, 1348], 0), (.ifnonnull 9, 3, [18], 0), (.aload_n 0, 1, [], 0), (.iconst 1, 1, [], 1), (.invokevirtual 39, 3, [1, 201, 2, 8, 1481], 0), (.ireturn, 1, [], 0)]
theorem ok_X9_outOfStep_0 : vBL MT qLen qCh false q_X9_outOfStep.2.2.2.2.1 q_X9_outOfStep.2.2.2.2.2.1 q_X9_outOfStep.2.2.1 q_X9_outOfStep.1.cls q_X9_outOfStep.1.name q_X9_outOfStep.2.1 0 0 I_X9_outOfStep_0 = true := by decide +kernel
def p_X9_outOfStep (a0 : Nat) (h : AH) : Option (Int32 × AH) :=
  if (tg h a0).1 = 8 then (let h104 := wI h a0 0 ((0 : Int32))
  if (tg h104 a0).1 = 8 then (if (rR h104 a0 3) = 0 then (if (tg h104 a0).1 = 8 then ((p_X9_refused a0 ((1 : Int32)) h104).bind fun q105 =>
  some (q105.1, q105.2)) else none)
  else
  p_X9_outOfStep_22 FU a0 ((0 : Int32)) ((0 : Int32)) h104) else none) else none
set_option maxRecDepth 100000 in
theorem e_X9_outOfStep_0 {l : Launch} {D : va_G} {dA : Nat → ClassId} {z : Nat} {sa : Nat → Nat} {Hz : Heap} (E : StrOK qLen qCh l D dA z sa Hz) {h0 fin : AH} {x : Int32}  : ∀ (a0 : Nat) (h : AH), p_X9_outOfStep a0 h = some (x, fin) → GM l D dA z sa Hz q_X9_outOfStep h0 (some (.int x)) fin 0 [(0, .ref a0)] [] h := by
  intro a0 h hd
  exact step E (is := I_X9_outOfStep_0) (pc := 0) (K := (kx 18 (fun la st h => gR la 0 fun a0 => sE st (p_X9_outOfStep_18 a0 h)) k0)) (FI := FI_X9_outOfStep) (FV := fV0) (FL := fL0) (rt := rtI) (ft := 0) (by exact hd) ok_X9_outOfStep_0 (kx_ok (fun la st h e => by obtain ⟨a0, m_a0, e1⟩ := gR_inv e; obtain ⟨rfl, ez⟩ := sE_inv e1; exact gm_fewer (e_X9_outOfStep_18 E  a0 h ez) (mem_cons m_a0 mem_nil)) k0_ok) (FI_X9_outOfStep_ok E) (fV0_ok E) (fL0_ok E) (rtI_ok rfl)
theorem c_X9_outOfStep {l : Launch} {D : va_G} {dA : Nat → ClassId} {z : Nat} {sa : Nat → Nat} {Hz : Heap} (E : StrOK qLen qCh l D dA z sa Hz) {a0 : Nat} {h fin : AH} {x : Int32} (hd : p_X9_outOfStep a0 h = some (x, fin)) : CalOK l D dA z sa Hz q_X9_outOfStep [.ref a0] h (some (.int x)) fin := calOf (by decide +kernel) (Nat.le_of_ble_eq_true rfl) (e_X9_outOfStep_0 E a0 h hd)
def I_X9_freeOne_33 : List AI := [(.iconst (-1), 1, [], (-1)), (.ireturn, 1, [], 0)]
theorem ok_X9_freeOne_33 : vBL MT qLen qCh false q_X9_freeOne.2.2.2.2.1 q_X9_freeOne.2.2.2.2.2.1 q_X9_freeOne.2.2.1 q_X9_freeOne.1.cls q_X9_freeOne.1.name q_X9_freeOne.2.1 0 33 I_X9_freeOne_33 = true := by decide +kernel
def p_X9_freeOne_33 (h : AH) : Option (Int32 × AH) :=
  some (((-1 : Int32)), h)
set_option maxRecDepth 100000 in
theorem e_X9_freeOne_33 {l : Launch} {D : va_G} {dA : Nat → ClassId} {z : Nat} {sa : Nat → Nat} {Hz : Heap} (E : StrOK qLen qCh l D dA z sa Hz) {h0 fin : AH} {x : Int32}  : ∀  (h : AH), p_X9_freeOne_33 h = some (x, fin) → GM l D dA z sa Hz q_X9_freeOne h0 (some (.int x)) fin 33 [] [] h := by
  intro h hd
  exact step E (is := I_X9_freeOne_33) (pc := 33) (K := k0) (FI := fI0) (FV := fV0) (FL := fL0) (rt := rtI) (ft := 0) (by exact hd) ok_X9_freeOne_33 k0_ok (fI0_ok E) (fV0_ok E) (fL0_ok E) (rtI_ok rfl)
def I_X9_freeOne_27 : List AI := [(.iinc 1 1, 3, [], 1), (.goto (-28), 3, [2], 0)]
theorem ok_X9_freeOne_27 : vBL MT qLen qCh false q_X9_freeOne.2.2.2.2.1 q_X9_freeOne.2.2.2.2.2.1 q_X9_freeOne.2.2.1 q_X9_freeOne.1.cls q_X9_freeOne.1.name q_X9_freeOne.2.1 0 27 I_X9_freeOne_27 = true := by decide +kernel
def p_X9_freeOne_27 (k2 : Nat → Int32 → AH → Option (Int32 × AH)) (a0 : Nat) (x1 : Int32) (h : AH) : Option (Int32 × AH) :=
  k2 a0 (x1 + (1 : Int32)) h
set_option maxRecDepth 100000 in
theorem e_X9_freeOne_27 {l : Launch} {D : va_G} {dA : Nat → ClassId} {z : Nat} {sa : Nat → Nat} {Hz : Heap} (E : StrOK qLen qCh l D dA z sa Hz) {h0 fin : AH} {x : Int32}  {k2 : Nat → Int32 → AH → Option (Int32 × AH)} (hk2 : ∀ (a0 : Nat) (x1 : Int32) (h : AH), k2 a0 x1 h = some (x, fin) → GM l D dA z sa Hz q_X9_freeOne h0 (some (.int x)) fin 2 [(0, .ref a0), (1, .int x1)] [] h) : ∀ (a0 : Nat) (x1 : Int32) (h : AH), p_X9_freeOne_27 k2 a0 x1 h = some (x, fin) → GM l D dA z sa Hz q_X9_freeOne h0 (some (.int x)) fin 27 [(0, .ref a0), (1, .int x1)] [] h := by
  intro a0 x1 h hd
  exact step E (is := I_X9_freeOne_27) (pc := 27) (K := (kx 2 (fun la st h => gR la 0 fun a0 => gI la 1 fun x1 => sE st (k2 a0 x1 h)) k0)) (FI := fI0) (FV := fV0) (FL := fL0) (rt := rtI) (ft := 0) (by exact hd) ok_X9_freeOne_27 (kx_ok (fun la st h e => by obtain ⟨a0, m_a0, e1⟩ := gR_inv e; obtain ⟨x1, m_x1, e2⟩ := gI_inv e1; obtain ⟨rfl, ez⟩ := sE_inv e2; exact gm_fewer (hk2 a0 x1 h ez) (mem_cons m_a0 (mem_cons m_x1 mem_nil))) k0_ok) (fI0_ok E) (fV0_ok E) (fL0_ok E) (rtI_ok rfl)
def I_X9_freeOne_2 : List AI := [(.iload_n 1, 1, [], 0), (.aload_n 0, 1, [], 0), (.getfield 297, 3, [8, 26, 0, 1371], 0), (.if_icmp .ge 26, 3, [33], 0), (.aload_n 0, 1, [], 0), (.getfield 21, 3, [8, 16, 2, 1361], 0), (.sipush 147, 3, [], 147), (.iload_n 1, 1, [], 0), (.iadd, 1, [], 0), (.iaload, 1, [], 0), (.bipush (-2), 2, [], (-2)), (.if_icmp .ne 5, 3, [27], 0), (.iload_n 1, 1, [], 0), (.ireturn, 1, [], 0)]
theorem ok_X9_freeOne_2 : vBL MT qLen qCh false q_X9_freeOne.2.2.2.2.1 q_X9_freeOne.2.2.2.2.2.1 q_X9_freeOne.2.2.1 q_X9_freeOne.1.cls q_X9_freeOne.1.name q_X9_freeOne.2.1 0 2 I_X9_freeOne_2 = true := by decide +kernel
def p_X9_freeOne_2 : Nat → Nat → Int32 → AH → Option (Int32 × AH)
  | 0, _, _, _ => none
  | n + 1, a0, x1, h => if (tg h a0).1 = 8 then (if x1 < (rI h a0 26) then (if (tg h a0).1 = 8 then (if inB h (rR h a0 16) 100 (((147 : Int32)) + x1) then (if (rI h (rR h a0 16) (((147 : Int32)) + x1).toNatClampNeg) = ((-2 : Int32)) then (some (x1, h))
    else
    p_X9_freeOne_2 n a0 (x1 + (1 : Int32)) h) else none) else none)
    else
    some (((-1 : Int32)), h)) else none
set_option maxRecDepth 100000 in
theorem e_X9_freeOne_2 {l : Launch} {D : va_G} {dA : Nat → ClassId} {z : Nat} {sa : Nat → Nat} {Hz : Heap} (E : StrOK qLen qCh l D dA z sa Hz) {h0 fin : AH} {x : Int32}  : ∀ (n : Nat) (a0 : Nat) (x1 : Int32) (h : AH), p_X9_freeOne_2 n a0 x1 h = some (x, fin) → GM l D dA z sa Hz q_X9_freeOne h0 (some (.int x)) fin 2 [(0, .ref a0), (1, .int x1)] [] h := by
  intro n
  induction n with
  | zero => intro a0 x1 h hd; exact nomatch hd
  | succ n ih =>
    intro a0 x1 h hd
    exact step E (is := I_X9_freeOne_2) (pc := 2) (K := (kx 33 (fun la st h => sE st (p_X9_freeOne_33 h)) (kx 27 (fun la st h => gR la 0 fun a0 => gI la 1 fun x1 => sE st (p_X9_freeOne_27 (p_X9_freeOne_2 n) a0 x1 h)) k0))) (FI := fI0) (FV := fV0) (FL := fL0) (rt := rtI) (ft := 0) (by exact hd) ok_X9_freeOne_2 (kx_ok (fun la st h e => by obtain ⟨rfl, ez⟩ := sE_inv e; exact gm_fewer (e_X9_freeOne_33 E   h ez) mem_nil) (kx_ok (fun la st h e => by obtain ⟨a0, m_a0, e1⟩ := gR_inv e; obtain ⟨x1, m_x1, e2⟩ := gI_inv e1; obtain ⟨rfl, ez⟩ := sE_inv e2; exact gm_fewer (e_X9_freeOne_27 E ih a0 x1 h ez) (mem_cons m_a0 (mem_cons m_x1 mem_nil))) k0_ok)) (fI0_ok E) (fV0_ok E) (fL0_ok E) (rtI_ok rfl)
def I_X9_freeOne_0 : List AI := [(.iconst 0, 1, [], 0), (.istore_n 1, 1, [], 0)]
theorem ok_X9_freeOne_0 : vBL MT qLen qCh false q_X9_freeOne.2.2.2.2.1 q_X9_freeOne.2.2.2.2.2.1 q_X9_freeOne.2.2.1 q_X9_freeOne.1.cls q_X9_freeOne.1.name q_X9_freeOne.2.1 2 0 I_X9_freeOne_0 = true := by decide +kernel
def p_X9_freeOne (a0 : Nat) (h : AH) : Option (Int32 × AH) :=
  p_X9_freeOne_2 FU a0 ((0 : Int32)) h
set_option maxRecDepth 100000 in
theorem e_X9_freeOne_0 {l : Launch} {D : va_G} {dA : Nat → ClassId} {z : Nat} {sa : Nat → Nat} {Hz : Heap} (E : StrOK qLen qCh l D dA z sa Hz) {h0 fin : AH} {x : Int32}  : ∀ (a0 : Nat) (h : AH), p_X9_freeOne a0 h = some (x, fin) → GM l D dA z sa Hz q_X9_freeOne h0 (some (.int x)) fin 0 [(0, .ref a0)] [] h := by
  intro a0 h hd
  exact step E (is := I_X9_freeOne_0) (pc := 0) (K := (kx 2 (fun la st h => gR la 0 fun a0 => gI la 1 fun x1 => sE st (p_X9_freeOne_2 FU a0 x1 h)) k0)) (FI := fI0) (FV := fV0) (FL := fL0) (rt := rtI) (ft := 2) (by exact hd) ok_X9_freeOne_0 (kx_ok (fun la st h e => by obtain ⟨a0, m_a0, e1⟩ := gR_inv e; obtain ⟨x1, m_x1, e2⟩ := gI_inv e1; obtain ⟨rfl, ez⟩ := sE_inv e2; exact gm_fewer (e_X9_freeOne_2 E  FU a0 x1 h ez) (mem_cons m_a0 (mem_cons m_x1 mem_nil))) k0_ok) (fI0_ok E) (fV0_ok E) (fL0_ok E) (rtI_ok rfl)
theorem c_X9_freeOne {l : Launch} {D : va_G} {dA : Nat → ClassId} {z : Nat} {sa : Nat → Nat} {Hz : Heap} (E : StrOK qLen qCh l D dA z sa Hz) {a0 : Nat} {h fin : AH} {x : Int32} (hd : p_X9_freeOne a0 h = some (x, fin)) : CalOK l D dA z sa Hz q_X9_freeOne [.ref a0] h (some (.int x)) fin := calOf (by decide +kernel) (Nat.le_of_ble_eq_true rfl) (e_X9_freeOne_0 E a0 h hd)
def I_X9_longestAgo_100 : List AI := [(.iload_n 1, 1, [], 0), (.ireturn, 1, [], 0)]
theorem ok_X9_longestAgo_100 : vBL MT qLen qCh false q_X9_longestAgo.2.2.2.2.1 q_X9_longestAgo.2.2.2.2.2.1 q_X9_longestAgo.2.2.1 q_X9_longestAgo.1.cls q_X9_longestAgo.1.name q_X9_longestAgo.2.1 0 100 I_X9_longestAgo_100 = true := by decide +kernel
def p_X9_longestAgo_100 (x1 : Int32) (h : AH) : Option (Int32 × AH) :=
  some (x1, h)
set_option maxRecDepth 100000 in
theorem e_X9_longestAgo_100 {l : Launch} {D : va_G} {dA : Nat → ClassId} {z : Nat} {sa : Nat → Nat} {Hz : Heap} (E : StrOK qLen qCh l D dA z sa Hz) {h0 fin : AH} {x : Int32}  : ∀ (x1 : Int32) (h : AH), p_X9_longestAgo_100 x1 h = some (x, fin) → GM l D dA z sa Hz q_X9_longestAgo h0 (some (.int x)) fin 100 [(1, .int x1)] [] h := by
  intro x1 h hd
  exact step E (is := I_X9_longestAgo_100) (pc := 100) (K := k0) (FI := fI0) (FV := fV0) (FL := fL0) (rt := rtI) (ft := 0) (by exact hd) ok_X9_longestAgo_100 k0_ok (fI0_ok E) (fV0_ok E) (fL0_ok E) (rtI_ok rfl)
def I_X9_longestAgo_94 : List AI := [(.iinc 2 1, 3, [], 1), (.goto (-93), 3, [4], 0)]
theorem ok_X9_longestAgo_94 : vBL MT qLen qCh false q_X9_longestAgo.2.2.2.2.1 q_X9_longestAgo.2.2.2.2.2.1 q_X9_longestAgo.2.2.1 q_X9_longestAgo.1.cls q_X9_longestAgo.1.name q_X9_longestAgo.2.1 0 94 I_X9_longestAgo_94 = true := by decide +kernel
def p_X9_longestAgo_94 (k4 : Nat → Int32 → Int32 → AH → Option (Int32 × AH)) (a0 : Nat) (x1 : Int32) (x2 : Int32) (h : AH) : Option (Int32 × AH) :=
  k4 a0 x1 (x2 + (1 : Int32)) h
set_option maxRecDepth 100000 in
theorem e_X9_longestAgo_94 {l : Launch} {D : va_G} {dA : Nat → ClassId} {z : Nat} {sa : Nat → Nat} {Hz : Heap} (E : StrOK qLen qCh l D dA z sa Hz) {h0 fin : AH} {x : Int32}  {k4 : Nat → Int32 → Int32 → AH → Option (Int32 × AH)} (hk4 : ∀ (a0 : Nat) (x1 : Int32) (x2 : Int32) (h : AH), k4 a0 x1 x2 h = some (x, fin) → GM l D dA z sa Hz q_X9_longestAgo h0 (some (.int x)) fin 4 [(0, .ref a0), (1, .int x1), (2, .int x2)] [] h) : ∀ (a0 : Nat) (x1 : Int32) (x2 : Int32) (h : AH), p_X9_longestAgo_94 k4 a0 x1 x2 h = some (x, fin) → GM l D dA z sa Hz q_X9_longestAgo h0 (some (.int x)) fin 94 [(0, .ref a0), (1, .int x1), (2, .int x2)] [] h := by
  intro a0 x1 x2 h hd
  exact step E (is := I_X9_longestAgo_94) (pc := 94) (K := (kx 4 (fun la st h => gR la 0 fun a0 => gI la 1 fun x1 => gI la 2 fun x2 => sE st (k4 a0 x1 x2 h)) k0)) (FI := fI0) (FV := fV0) (FL := fL0) (rt := rtI) (ft := 0) (by exact hd) ok_X9_longestAgo_94 (kx_ok (fun la st h e => by obtain ⟨a0, m_a0, e1⟩ := gR_inv e; obtain ⟨x1, m_x1, e2⟩ := gI_inv e1; obtain ⟨x2, m_x2, e3⟩ := gI_inv e2; obtain ⟨rfl, ez⟩ := sE_inv e3; exact gm_fewer (hk4 a0 x1 x2 h ez) (mem_cons m_a0 (mem_cons m_x1 (mem_cons m_x2 mem_nil)))) k0_ok) (fI0_ok E) (fV0_ok E) (fL0_ok E) (rtI_ok rfl)
def I_X9_longestAgo_92 : List AI := [(.iload_n 2, 1, [], 0), (.istore_n 1, 1, [], 0)]
theorem ok_X9_longestAgo_92 : vBL MT qLen qCh false q_X9_longestAgo.2.2.2.2.1 q_X9_longestAgo.2.2.2.2.2.1 q_X9_longestAgo.2.2.1 q_X9_longestAgo.1.cls q_X9_longestAgo.1.name q_X9_longestAgo.2.1 94 92 I_X9_longestAgo_92 = true := by decide +kernel
def p_X9_longestAgo_92 (k4 : Nat → Int32 → Int32 → AH → Option (Int32 × AH)) (a0 : Nat) (x2 : Int32) (h : AH) : Option (Int32 × AH) :=
  p_X9_longestAgo_94 k4 a0 x2 x2 h
set_option maxRecDepth 100000 in
theorem e_X9_longestAgo_92 {l : Launch} {D : va_G} {dA : Nat → ClassId} {z : Nat} {sa : Nat → Nat} {Hz : Heap} (E : StrOK qLen qCh l D dA z sa Hz) {h0 fin : AH} {x : Int32}  {k4 : Nat → Int32 → Int32 → AH → Option (Int32 × AH)} (hk4 : ∀ (a0 : Nat) (x1 : Int32) (x2 : Int32) (h : AH), k4 a0 x1 x2 h = some (x, fin) → GM l D dA z sa Hz q_X9_longestAgo h0 (some (.int x)) fin 4 [(0, .ref a0), (1, .int x1), (2, .int x2)] [] h) : ∀ (a0 : Nat) (x2 : Int32) (h : AH), p_X9_longestAgo_92 k4 a0 x2 h = some (x, fin) → GM l D dA z sa Hz q_X9_longestAgo h0 (some (.int x)) fin 92 [(0, .ref a0), (2, .int x2)] [] h := by
  intro a0 x2 h hd
  exact step E (is := I_X9_longestAgo_92) (pc := 92) (K := (kx 94 (fun la st h => gR la 0 fun a0 => gI la 1 fun x1 => gI la 2 fun x2 => sE st (p_X9_longestAgo_94 k4 a0 x1 x2 h)) k0)) (FI := fI0) (FV := fV0) (FL := fL0) (rt := rtI) (ft := 94) (by exact hd) ok_X9_longestAgo_92 (kx_ok (fun la st h e => by obtain ⟨a0, m_a0, e1⟩ := gR_inv e; obtain ⟨x1, m_x1, e2⟩ := gI_inv e1; obtain ⟨x2, m_x2, e3⟩ := gI_inv e2; obtain ⟨rfl, ez⟩ := sE_inv e3; exact gm_fewer (e_X9_longestAgo_94 E hk4 a0 x1 x2 h ez) (mem_cons m_a0 (mem_cons m_x1 (mem_cons m_x2 mem_nil)))) k0_ok) (fI0_ok E) (fV0_ok E) (fL0_ok E) (rtI_ok rfl)
def I_X9_longestAgo_64 : List AI := [(.iload_n 1, 1, [], 0), (.iconst (-1), 1, [], (-1)), (.if_icmp .eq 26, 3, [92], 0), (.aload_n 0, 1, [], 0), (.getfield 21, 3, [8, 16, 2, 1361], 0), (.sipush 163, 3, [], 163), (.iload_n 2, 1, [], 0), (.iadd, 1, [], 0), (.iaload, 1, [], 0), (.aload_n 0, 1, [], 0), (.getfield 21, 3, [8, 16, 2, 1361], 0), (.sipush 163, 3, [], 163), (.iload_n 1, 1, [], 0), (.iadd, 1, [], 0), (.iaload, 1, [], 0), (.if_icmp .ge 5, 3, [94], 0)]
theorem ok_X9_longestAgo_64 : vBL MT qLen qCh false q_X9_longestAgo.2.2.2.2.1 q_X9_longestAgo.2.2.2.2.2.1 q_X9_longestAgo.2.2.1 q_X9_longestAgo.1.cls q_X9_longestAgo.1.name q_X9_longestAgo.2.1 92 64 I_X9_longestAgo_64 = true := by decide +kernel
def p_X9_longestAgo_64 (k4 : Nat → Int32 → Int32 → AH → Option (Int32 × AH)) (a0 : Nat) (x1 : Int32) (x2 : Int32) (h : AH) : Option (Int32 × AH) :=
  if x1 = ((-1 : Int32)) then (p_X9_longestAgo_92 k4 a0 x2 h)
  else
  if (tg h a0).1 = 8 then (if inB h (rR h a0 16) 100 (((163 : Int32)) + x2) then (if (tg h a0).1 = 8 then (if inB h (rR h a0 16) 100 (((163 : Int32)) + x1) then (if (rI h (rR h a0 16) (((163 : Int32)) + x2).toNatClampNeg) < (rI h (rR h a0 16) (((163 : Int32)) + x1).toNatClampNeg) then (p_X9_longestAgo_92 k4 a0 x2 h)
  else
  p_X9_longestAgo_94 k4 a0 x1 x2 h) else none) else none) else none) else none
set_option maxRecDepth 100000 in
theorem e_X9_longestAgo_64 {l : Launch} {D : va_G} {dA : Nat → ClassId} {z : Nat} {sa : Nat → Nat} {Hz : Heap} (E : StrOK qLen qCh l D dA z sa Hz) {h0 fin : AH} {x : Int32}  {k4 : Nat → Int32 → Int32 → AH → Option (Int32 × AH)} (hk4 : ∀ (a0 : Nat) (x1 : Int32) (x2 : Int32) (h : AH), k4 a0 x1 x2 h = some (x, fin) → GM l D dA z sa Hz q_X9_longestAgo h0 (some (.int x)) fin 4 [(0, .ref a0), (1, .int x1), (2, .int x2)] [] h) : ∀ (a0 : Nat) (x1 : Int32) (x2 : Int32) (h : AH), p_X9_longestAgo_64 k4 a0 x1 x2 h = some (x, fin) → GM l D dA z sa Hz q_X9_longestAgo h0 (some (.int x)) fin 64 [(0, .ref a0), (1, .int x1), (2, .int x2)] [] h := by
  intro a0 x1 x2 h hd
  exact step E (is := I_X9_longestAgo_64) (pc := 64) (K := (kx 92 (fun la st h => gR la 0 fun a0 => gI la 2 fun x2 => sE st (p_X9_longestAgo_92 k4 a0 x2 h)) (kx 94 (fun la st h => gR la 0 fun a0 => gI la 1 fun x1 => gI la 2 fun x2 => sE st (p_X9_longestAgo_94 k4 a0 x1 x2 h)) k0))) (FI := fI0) (FV := fV0) (FL := fL0) (rt := rtI) (ft := 92) (by exact hd) ok_X9_longestAgo_64 (kx_ok (fun la st h e => by obtain ⟨a0, m_a0, e1⟩ := gR_inv e; obtain ⟨x2, m_x2, e2⟩ := gI_inv e1; obtain ⟨rfl, ez⟩ := sE_inv e2; exact gm_fewer (e_X9_longestAgo_92 E hk4 a0 x2 h ez) (mem_cons m_a0 (mem_cons m_x2 mem_nil))) (kx_ok (fun la st h e => by obtain ⟨a0, m_a0, e1⟩ := gR_inv e; obtain ⟨x1, m_x1, e2⟩ := gI_inv e1; obtain ⟨x2, m_x2, e3⟩ := gI_inv e2; obtain ⟨rfl, ez⟩ := sE_inv e3; exact gm_fewer (e_X9_longestAgo_94 E hk4 a0 x1 x2 h ez) (mem_cons m_a0 (mem_cons m_x1 (mem_cons m_x2 mem_nil)))) k0_ok)) (fI0_ok E) (fV0_ok E) (fL0_ok E) (rtI_ok rfl)
def I_X9_longestAgo_4 : List AI := [(.iload_n 2, 1, [], 0), (.aload_n 0, 1, [], 0), (.getfield 297, 3, [8, 26, 0, 1371], 0), (.if_icmp .ge 91, 3, [100], 0), (.aload_n 0, 1, [], 0), (.getfield 21, 3, [8, 16, 2, 1361], 0), (.sipush 147, 3, [], 147), (.iload_n 2, 1, [], 0), (.iadd, 1, [], 0), (.iaload, 1, [], 0), (.bipush (-2), 2, [], (-2)), (.if_icmp .eq 70, 3, [94], 0), (.aload_n 0, 1, [], 0), (.getfield 21, 3, [8, 16, 2, 1361], 0), (.sipush 147, 3, [], 147), (.iload_n 2, 1, [], 0), (.iadd, 1, [], 0), (.iaload, 1, [], 0), (.ifCond .ne 27, 3, [64], 0), (.aload_n 0, 1, [], 0), (.getfield 21, 3, [8, 16, 2, 1361], 0), (.sipush 155, 3, [], 155), (.iload_n 2, 1, [], 0), (.iadd, 1, [], 0), (.iaload, 1, [], 0), (.aload_n 0, 1, [], 0), (.getfield 21, 3, [8, 16, 2, 1361], 0), (.sipush 146, 3, [], 146), (.iaload, 1, [], 0), (.if_icmp .ne 6, 3, [64], 0), (.goto 33, 3, [94], 0)]
theorem ok_X9_longestAgo_4 : vBL MT qLen qCh false q_X9_longestAgo.2.2.2.2.1 q_X9_longestAgo.2.2.2.2.2.1 q_X9_longestAgo.2.2.1 q_X9_longestAgo.1.cls q_X9_longestAgo.1.name q_X9_longestAgo.2.1 0 4 I_X9_longestAgo_4 = true := by decide +kernel
def p_X9_longestAgo_4 : Nat → Nat → Int32 → Int32 → AH → Option (Int32 × AH)
  | 0, _, _, _, _ => none
  | n + 1, a0, x1, x2, h => if (tg h a0).1 = 8 then (if x2 < (rI h a0 26) then (if (tg h a0).1 = 8 then (if inB h (rR h a0 16) 100 (((147 : Int32)) + x2) then (if (rI h (rR h a0 16) (((147 : Int32)) + x2).toNatClampNeg) = ((-2 : Int32)) then (p_X9_longestAgo_94 (p_X9_longestAgo_4 n) a0 x1 x2 h)
    else
    if (tg h a0).1 = 8 then (if inB h (rR h a0 16) 100 (((147 : Int32)) + x2) then (if (rI h (rR h a0 16) (((147 : Int32)) + x2).toNatClampNeg) = 0 then (if (tg h a0).1 = 8 then (if inB h (rR h a0 16) 100 (((155 : Int32)) + x2) then (if (tg h a0).1 = 8 then (if inB h (rR h a0 16) 100 ((146 : Int32)) then (if (rI h (rR h a0 16) (((155 : Int32)) + x2).toNatClampNeg) = (rI h (rR h a0 16) ((146 : Int32)).toNatClampNeg) then (p_X9_longestAgo_94 (p_X9_longestAgo_4 n) a0 x1 x2 h)
    else
    p_X9_longestAgo_64 (p_X9_longestAgo_4 n) a0 x1 x2 h) else none) else none) else none) else none)
    else
    p_X9_longestAgo_64 (p_X9_longestAgo_4 n) a0 x1 x2 h) else none) else none) else none) else none)
    else
    some (x1, h)) else none
set_option maxRecDepth 100000 in
theorem e_X9_longestAgo_4 {l : Launch} {D : va_G} {dA : Nat → ClassId} {z : Nat} {sa : Nat → Nat} {Hz : Heap} (E : StrOK qLen qCh l D dA z sa Hz) {h0 fin : AH} {x : Int32}  : ∀ (n : Nat) (a0 : Nat) (x1 : Int32) (x2 : Int32) (h : AH), p_X9_longestAgo_4 n a0 x1 x2 h = some (x, fin) → GM l D dA z sa Hz q_X9_longestAgo h0 (some (.int x)) fin 4 [(0, .ref a0), (1, .int x1), (2, .int x2)] [] h := by
  intro n
  induction n with
  | zero => intro a0 x1 x2 h hd; exact nomatch hd
  | succ n ih =>
    intro a0 x1 x2 h hd
    exact step E (is := I_X9_longestAgo_4) (pc := 4) (K := (kx 100 (fun la st h => gI la 1 fun x1 => sE st (p_X9_longestAgo_100 x1 h)) (kx 94 (fun la st h => gR la 0 fun a0 => gI la 1 fun x1 => gI la 2 fun x2 => sE st (p_X9_longestAgo_94 (p_X9_longestAgo_4 n) a0 x1 x2 h)) (kx 64 (fun la st h => gR la 0 fun a0 => gI la 1 fun x1 => gI la 2 fun x2 => sE st (p_X9_longestAgo_64 (p_X9_longestAgo_4 n) a0 x1 x2 h)) k0)))) (FI := fI0) (FV := fV0) (FL := fL0) (rt := rtI) (ft := 0) (by exact hd) ok_X9_longestAgo_4 (kx_ok (fun la st h e => by obtain ⟨x1, m_x1, e1⟩ := gI_inv e; obtain ⟨rfl, ez⟩ := sE_inv e1; exact gm_fewer (e_X9_longestAgo_100 E  x1 h ez) (mem_cons m_x1 mem_nil)) (kx_ok (fun la st h e => by obtain ⟨a0, m_a0, e1⟩ := gR_inv e; obtain ⟨x1, m_x1, e2⟩ := gI_inv e1; obtain ⟨x2, m_x2, e3⟩ := gI_inv e2; obtain ⟨rfl, ez⟩ := sE_inv e3; exact gm_fewer (e_X9_longestAgo_94 E ih a0 x1 x2 h ez) (mem_cons m_a0 (mem_cons m_x1 (mem_cons m_x2 mem_nil)))) (kx_ok (fun la st h e => by obtain ⟨a0, m_a0, e1⟩ := gR_inv e; obtain ⟨x1, m_x1, e2⟩ := gI_inv e1; obtain ⟨x2, m_x2, e3⟩ := gI_inv e2; obtain ⟨rfl, ez⟩ := sE_inv e3; exact gm_fewer (e_X9_longestAgo_64 E ih a0 x1 x2 h ez) (mem_cons m_a0 (mem_cons m_x1 (mem_cons m_x2 mem_nil)))) k0_ok))) (fI0_ok E) (fV0_ok E) (fL0_ok E) (rtI_ok rfl)
def I_X9_longestAgo_0 : List AI := [(.iconst (-1), 1, [], (-1)), (.istore_n 1, 1, [], 0), (.iconst 0, 1, [], 0), (.istore_n 2, 1, [], 0)]
theorem ok_X9_longestAgo_0 : vBL MT qLen qCh false q_X9_longestAgo.2.2.2.2.1 q_X9_longestAgo.2.2.2.2.2.1 q_X9_longestAgo.2.2.1 q_X9_longestAgo.1.cls q_X9_longestAgo.1.name q_X9_longestAgo.2.1 4 0 I_X9_longestAgo_0 = true := by decide +kernel
def p_X9_longestAgo (a0 : Nat) (h : AH) : Option (Int32 × AH) :=
  p_X9_longestAgo_4 FU a0 ((-1 : Int32)) ((0 : Int32)) h
set_option maxRecDepth 100000 in
theorem e_X9_longestAgo_0 {l : Launch} {D : va_G} {dA : Nat → ClassId} {z : Nat} {sa : Nat → Nat} {Hz : Heap} (E : StrOK qLen qCh l D dA z sa Hz) {h0 fin : AH} {x : Int32}  : ∀ (a0 : Nat) (h : AH), p_X9_longestAgo a0 h = some (x, fin) → GM l D dA z sa Hz q_X9_longestAgo h0 (some (.int x)) fin 0 [(0, .ref a0)] [] h := by
  intro a0 h hd
  exact step E (is := I_X9_longestAgo_0) (pc := 0) (K := (kx 4 (fun la st h => gR la 0 fun a0 => gI la 1 fun x1 => gI la 2 fun x2 => sE st (p_X9_longestAgo_4 FU a0 x1 x2 h)) k0)) (FI := fI0) (FV := fV0) (FL := fL0) (rt := rtI) (ft := 4) (by exact hd) ok_X9_longestAgo_0 (kx_ok (fun la st h e => by obtain ⟨a0, m_a0, e1⟩ := gR_inv e; obtain ⟨x1, m_x1, e2⟩ := gI_inv e1; obtain ⟨x2, m_x2, e3⟩ := gI_inv e2; obtain ⟨rfl, ez⟩ := sE_inv e3; exact gm_fewer (e_X9_longestAgo_4 E  FU a0 x1 x2 h ez) (mem_cons m_a0 (mem_cons m_x1 (mem_cons m_x2 mem_nil)))) k0_ok) (fI0_ok E) (fV0_ok E) (fL0_ok E) (rtI_ok rfl)
theorem c_X9_longestAgo {l : Launch} {D : va_G} {dA : Nat → ClassId} {z : Nat} {sa : Nat → Nat} {Hz : Heap} (E : StrOK qLen qCh l D dA z sa Hz) {a0 : Nat} {h fin : AH} {x : Int32} (hd : p_X9_longestAgo a0 h = some (x, fin)) : CalOK l D dA z sa Hz q_X9_longestAgo [.ref a0] h (some (.int x)) fin := calOf (by decide +kernel) (Nat.le_of_ble_eq_true rfl) (e_X9_longestAgo_0 E a0 h hd)
def FI_X9_dropsNext : Nat → List Value → AH → Option (Int32 × AH) := (cx 201 (fun As h => sR As fun a0 As => sI As fun x1 As => sE As (p_X9_refused a0 x1 h)) (cx 286 (fun As h => sR As fun a0 As => sE As (p_X9_freeOne a0 h)) (cx 287 (fun As h => sR As fun a0 As => sE As (p_X9_longestAgo a0 h)) (cx 233 (fun As h => sR As fun a0 As => sI As fun x1 As => sE As (p_X9_good a0 x1 h)) fI0))))
theorem FI_X9_dropsNext_ok {l : Launch} {D : va_G} {dA : Nat → ClassId} {z : Nat} {sa : Nat → Nat} {Hz : Heap} (E : StrOK qLen qCh l D dA z sa Hz) : ∀ mi As h x h', FI_X9_dropsNext mi As h = some (x, h') → CalOK l D dA z sa Hz (MT mi) As h (some (.int x)) h' := (cxI_ok (fun As h x h2 e => by obtain ⟨_, _, rfl, e0⟩ := sR_inv e; obtain ⟨_, _, rfl, e1⟩ := sI_inv e0; obtain ⟨rfl, ez⟩ := sE_inv e1; exact c_X9_refused E ez) ((cxI_ok (fun As h x h2 e => by obtain ⟨_, _, rfl, e0⟩ := sR_inv e; obtain ⟨rfl, ez⟩ := sE_inv e0; exact c_X9_freeOne E ez) ((cxI_ok (fun As h x h2 e => by obtain ⟨_, _, rfl, e0⟩ := sR_inv e; obtain ⟨rfl, ez⟩ := sE_inv e0; exact c_X9_longestAgo E ez) ((cxI_ok (fun As h x h2 e => by obtain ⟨_, _, rfl, e0⟩ := sR_inv e; obtain ⟨_, _, rfl, e1⟩ := sI_inv e0; obtain ⟨rfl, ez⟩ := sE_inv e1; exact c_X9_good E ez) (fI0_ok E))))))))
def FV_X9_dropsNext : Nat → List Value → AH → Option (AH) := (cx 239 (fun As h => sR As fun a0 As => sE As (p_X9_works a0 h)) fV0)
theorem FV_X9_dropsNext_ok {l : Launch} {D : va_G} {dA : Nat → ClassId} {z : Nat} {sa : Nat → Nat} {Hz : Heap} (E : StrOK qLen qCh l D dA z sa Hz) : ∀ mi As h h', FV_X9_dropsNext mi As h = some h' → CalOK l D dA z sa Hz (MT mi) As h none h' := (cxV_ok (fun As h h2 e => by obtain ⟨_, _, rfl, e0⟩ := sR_inv e; obtain ⟨rfl, ez⟩ := sE_inv e0; exact c_X9_works E ez) (fV0_ok E))
def I_X9_dropsNext_40 : List AI := [(.invokevirtual 43, 3, [1, 233, 2, 8, 1694], 0), (.ireturn, 1, [], 0)]
theorem ok_X9_dropsNext_40 : vBL MT qLen qCh false q_X9_dropsNext.2.2.2.2.1 q_X9_dropsNext.2.2.2.2.2.1 q_X9_dropsNext.2.2.1 q_X9_dropsNext.1.cls q_X9_dropsNext.1.name q_X9_dropsNext.2.1 0 40 I_X9_dropsNext_40 = true := by decide +kernel
def p_X9_dropsNext_40 (y0 : Int32) (b1 : Nat) (h : AH) : Option (Int32 × AH) :=
  if (tg h b1).1 = 8 then ((p_X9_good b1 y0 h).bind fun q101 =>
  some (q101.1, q101.2)) else none
set_option maxRecDepth 100000 in
theorem e_X9_dropsNext_40 {l : Launch} {D : va_G} {dA : Nat → ClassId} {z : Nat} {sa : Nat → Nat} {Hz : Heap} (E : StrOK qLen qCh l D dA z sa Hz) {h0 fin : AH} {x : Int32}  : ∀ (y0 : Int32) (b1 : Nat) (h : AH), p_X9_dropsNext_40 y0 b1 h = some (x, fin) → GM l D dA z sa Hz q_X9_dropsNext h0 (some (.int x)) fin 40 [] [.int y0, .ref b1] h := by
  intro y0 b1 h hd
  exact step E (is := I_X9_dropsNext_40) (pc := 40) (K := k0) (FI := FI_X9_dropsNext) (FV := FV_X9_dropsNext) (FL := fL0) (rt := rtI) (ft := 0) (by exact hd) ok_X9_dropsNext_40 k0_ok (FI_X9_dropsNext_ok E) (FV_X9_dropsNext_ok E) (fL0_ok E) (rtI_ok rfl)
def I_X9_dropsNext_36 : List AI := [(.aload_n 0, 1, [], 0), (.invokevirtual 356, 3, [1, 287, 1, 8, 1903], 0)]
theorem ok_X9_dropsNext_36 : vBL MT qLen qCh false q_X9_dropsNext.2.2.2.2.1 q_X9_dropsNext.2.2.2.2.2.1 q_X9_dropsNext.2.2.1 q_X9_dropsNext.1.cls q_X9_dropsNext.1.name q_X9_dropsNext.2.1 40 36 I_X9_dropsNext_36 = true := by decide +kernel
def p_X9_dropsNext_36 (a0 : Nat) (b0 : Nat) (h : AH) : Option (Int32 × AH) :=
  if (tg h a0).1 = 8 then ((p_X9_longestAgo a0 h).bind fun q102 =>
  p_X9_dropsNext_40 q102.1 b0 q102.2) else none
set_option maxRecDepth 100000 in
theorem e_X9_dropsNext_36 {l : Launch} {D : va_G} {dA : Nat → ClassId} {z : Nat} {sa : Nat → Nat} {Hz : Heap} (E : StrOK qLen qCh l D dA z sa Hz) {h0 fin : AH} {x : Int32}  : ∀ (a0 : Nat) (b0 : Nat) (h : AH), p_X9_dropsNext_36 a0 b0 h = some (x, fin) → GM l D dA z sa Hz q_X9_dropsNext h0 (some (.int x)) fin 36 [(0, .ref a0)] [.ref b0] h := by
  intro a0 b0 h hd
  exact step E (is := I_X9_dropsNext_36) (pc := 36) (K := (kx 40 (fun la st h => sI st fun y0 st => sR st fun b1 st => sE st (p_X9_dropsNext_40 y0 b1 h)) k0)) (FI := FI_X9_dropsNext) (FV := FV_X9_dropsNext) (FL := fL0) (rt := rtI) (ft := 40) (by exact hd) ok_X9_dropsNext_36 (kx_ok (fun la st h e => by obtain ⟨y0, _, rfl, e1⟩ := sI_inv e; obtain ⟨b1, _, rfl, e2⟩ := sR_inv e1; obtain ⟨rfl, ez⟩ := sE_inv e2; exact gm_fewer (e_X9_dropsNext_40 E  y0 b1 h ez) mem_nil) k0_ok) (FI_X9_dropsNext_ok E) (FV_X9_dropsNext_ok E) (fL0_ok E) (rtI_ok rfl)
def I_X9_dropsNext_18 : List AI := [(.aload_n 0, 1, [], 0), (.invokevirtual 398, 3, [2, 239, 1, 8, 1717], 0), (.aload_n 0, 1, [], 0), (.aload_n 0, 1, [], 0), (.invokevirtual 353, 3, [1, 286, 1, 8, 1899], 0), (.iconst (-1), 1, [], (-1)), (.if_icmp .eq 8, 3, [36], 0), (.bipush (-2), 2, [], (-2)), (.goto 7, 3, [40], 0)]
theorem ok_X9_dropsNext_18 : vBL MT qLen qCh false q_X9_dropsNext.2.2.2.2.1 q_X9_dropsNext.2.2.2.2.2.1 q_X9_dropsNext.2.2.1 q_X9_dropsNext.1.cls q_X9_dropsNext.1.name q_X9_dropsNext.2.1 0 18 I_X9_dropsNext_18 = true := by decide +kernel
def p_X9_dropsNext_18 (a0 : Nat) (h : AH) : Option (Int32 × AH) :=
  if (tg h a0).1 = 8 then ((p_X9_works a0 h).bind fun h103 =>
  if (tg h103 a0).1 = 8 then ((p_X9_freeOne a0 h103).bind fun q104 =>
  if q104.1 = ((-1 : Int32)) then (if (tg q104.2 a0).1 = 8 then ((p_X9_longestAgo a0 q104.2).bind fun q105 =>
  p_X9_dropsNext_40 q105.1 a0 q105.2) else none)
  else
  p_X9_dropsNext_40 ((-2 : Int32)) a0 q104.2) else none) else none
set_option maxRecDepth 100000 in
theorem e_X9_dropsNext_18 {l : Launch} {D : va_G} {dA : Nat → ClassId} {z : Nat} {sa : Nat → Nat} {Hz : Heap} (E : StrOK qLen qCh l D dA z sa Hz) {h0 fin : AH} {x : Int32}  : ∀ (a0 : Nat) (h : AH), p_X9_dropsNext_18 a0 h = some (x, fin) → GM l D dA z sa Hz q_X9_dropsNext h0 (some (.int x)) fin 18 [(0, .ref a0)] [] h := by
  intro a0 h hd
  exact step E (is := I_X9_dropsNext_18) (pc := 18) (K := (kx 36 (fun la st h => gR la 0 fun a0 => sR st fun b0 st => sE st (p_X9_dropsNext_36 a0 b0 h)) (kx 40 (fun la st h => sI st fun y0 st => sR st fun b1 st => sE st (p_X9_dropsNext_40 y0 b1 h)) k0))) (FI := FI_X9_dropsNext) (FV := FV_X9_dropsNext) (FL := fL0) (rt := rtI) (ft := 0) (by exact hd) ok_X9_dropsNext_18 (kx_ok (fun la st h e => by obtain ⟨a0, m_a0, e1⟩ := gR_inv e; obtain ⟨b0, _, rfl, e2⟩ := sR_inv e1; obtain ⟨rfl, ez⟩ := sE_inv e2; exact gm_fewer (e_X9_dropsNext_36 E  a0 b0 h ez) (mem_cons m_a0 mem_nil)) (kx_ok (fun la st h e => by obtain ⟨y0, _, rfl, e1⟩ := sI_inv e; obtain ⟨b1, _, rfl, e2⟩ := sR_inv e1; obtain ⟨rfl, ez⟩ := sE_inv e2; exact gm_fewer (e_X9_dropsNext_40 E  y0 b1 h ez) mem_nil) k0_ok)) (FI_X9_dropsNext_ok E) (FV_X9_dropsNext_ok E) (fL0_ok E) (rtI_ok rfl)
def I_X9_dropsNext_0 : List AI := [(.aload_n 0, 1, [], 0), (.iconst 0, 1, [], 0), (.putfield 33, 3, [8, 0, 0, 1345], 0), (.aload_n 0, 1, [], 0), (.getfield 265, 3, [8, 3, 2, 1348], 0), (.ifnonnull 9, 3, [18], 0), (.aload_n 0, 1, [], 0), (.iconst 1, 1, [], 1), (.invokevirtual 39, 3, [1, 201, 2, 8, 1481], 0), (.ireturn, 1, [], 0)]
theorem ok_X9_dropsNext_0 : vBL MT qLen qCh false q_X9_dropsNext.2.2.2.2.1 q_X9_dropsNext.2.2.2.2.2.1 q_X9_dropsNext.2.2.1 q_X9_dropsNext.1.cls q_X9_dropsNext.1.name q_X9_dropsNext.2.1 0 0 I_X9_dropsNext_0 = true := by decide +kernel
def p_X9_dropsNext (a0 : Nat) (h : AH) : Option (Int32 × AH) :=
  if (tg h a0).1 = 8 then (let h106 := wI h a0 0 ((0 : Int32))
  if (tg h106 a0).1 = 8 then (if (rR h106 a0 3) = 0 then (if (tg h106 a0).1 = 8 then ((p_X9_refused a0 ((1 : Int32)) h106).bind fun q110 =>
  some (q110.1, q110.2)) else none)
  else
  if (tg h106 a0).1 = 8 then ((p_X9_works a0 h106).bind fun h107 =>
  if (tg h107 a0).1 = 8 then ((p_X9_freeOne a0 h107).bind fun q108 =>
  if q108.1 = ((-1 : Int32)) then (if (tg q108.2 a0).1 = 8 then ((p_X9_longestAgo a0 q108.2).bind fun q109 =>
  p_X9_dropsNext_40 q109.1 a0 q109.2) else none)
  else
  p_X9_dropsNext_40 ((-2 : Int32)) a0 q108.2) else none) else none) else none) else none
set_option maxRecDepth 100000 in
theorem e_X9_dropsNext_0 {l : Launch} {D : va_G} {dA : Nat → ClassId} {z : Nat} {sa : Nat → Nat} {Hz : Heap} (E : StrOK qLen qCh l D dA z sa Hz) {h0 fin : AH} {x : Int32}  : ∀ (a0 : Nat) (h : AH), p_X9_dropsNext a0 h = some (x, fin) → GM l D dA z sa Hz q_X9_dropsNext h0 (some (.int x)) fin 0 [(0, .ref a0)] [] h := by
  intro a0 h hd
  exact step E (is := I_X9_dropsNext_0) (pc := 0) (K := (kx 18 (fun la st h => gR la 0 fun a0 => sE st (p_X9_dropsNext_18 a0 h)) k0)) (FI := FI_X9_dropsNext) (FV := FV_X9_dropsNext) (FL := fL0) (rt := rtI) (ft := 0) (by exact hd) ok_X9_dropsNext_0 (kx_ok (fun la st h e => by obtain ⟨a0, m_a0, e1⟩ := gR_inv e; obtain ⟨rfl, ez⟩ := sE_inv e1; exact gm_fewer (e_X9_dropsNext_18 E  a0 h ez) (mem_cons m_a0 mem_nil)) k0_ok) (FI_X9_dropsNext_ok E) (FV_X9_dropsNext_ok E) (fL0_ok E) (rtI_ok rfl)
theorem c_X9_dropsNext {l : Launch} {D : va_G} {dA : Nat → ClassId} {z : Nat} {sa : Nat → Nat} {Hz : Heap} (E : StrOK qLen qCh l D dA z sa Hz) {a0 : Nat} {h fin : AH} {x : Int32} (hd : p_X9_dropsNext a0 h = some (x, fin)) : CalOK l D dA z sa Hz q_X9_dropsNext [.ref a0] h (some (.int x)) fin := calOf (by decide +kernel) (Nat.le_of_ble_eq_true rfl) (e_X9_dropsNext_0 E a0 h hd)
def FI_X9_refusesPool : Nat → List Value → AH → Option (Int32 × AH) := (cx 211 (fun As h => sI As fun x0 As => sI As fun x1 As => sI As fun x2 As => sE As (p_X9_in x0 x1 x2 h)) fI0)
theorem FI_X9_refusesPool_ok {l : Launch} {D : va_G} {dA : Nat → ClassId} {z : Nat} {sa : Nat → Nat} {Hz : Heap} (E : StrOK qLen qCh l D dA z sa Hz) : ∀ mi As h x h', FI_X9_refusesPool mi As h = some (x, h') → CalOK l D dA z sa Hz (MT mi) As h (some (.int x)) h' := (cxI_ok (fun As h x h2 e => by obtain ⟨_, _, rfl, e0⟩ := sI_inv e; obtain ⟨_, _, rfl, e1⟩ := sI_inv e0; obtain ⟨_, _, rfl, e2⟩ := sI_inv e1; obtain ⟨rfl, ez⟩ := sE_inv e2; exact c_X9_in E ez) (fI0_ok E))
def I_X9_refusesPool_26 : List AI := [(.ireturn, 1, [], 0)]
theorem ok_X9_refusesPool_26 : vBL MT qLen qCh false q_X9_refusesPool.2.2.2.2.1 q_X9_refusesPool.2.2.2.2.2.1 q_X9_refusesPool.2.2.1 q_X9_refusesPool.1.cls q_X9_refusesPool.1.name q_X9_refusesPool.2.1 0 26 I_X9_refusesPool_26 = true := by decide +kernel
def p_X9_refusesPool_26 (y0 : Int32) (h : AH) : Option (Int32 × AH) :=
  some (y0, h)
set_option maxRecDepth 100000 in
theorem e_X9_refusesPool_26 {l : Launch} {D : va_G} {dA : Nat → ClassId} {z : Nat} {sa : Nat → Nat} {Hz : Heap} (E : StrOK qLen qCh l D dA z sa Hz) {h0 fin : AH} {x : Int32}  : ∀ (y0 : Int32) (h : AH), p_X9_refusesPool_26 y0 h = some (x, fin) → GM l D dA z sa Hz q_X9_refusesPool h0 (some (.int x)) fin 26 [] [.int y0] h := by
  intro y0 h hd
  exact step E (is := I_X9_refusesPool_26) (pc := 26) (K := k0) (FI := FI_X9_refusesPool) (FV := fV0) (FL := fL0) (rt := rtI) (ft := 0) (by exact hd) ok_X9_refusesPool_26 k0_ok (FI_X9_refusesPool_ok E) (fV0_ok E) (fL0_ok E) (rtI_ok rfl)
def I_X9_refusesPool_25 : List AI := [(.iconst 2, 1, [], 2)]
theorem ok_X9_refusesPool_25 : vBL MT qLen qCh false q_X9_refusesPool.2.2.2.2.1 q_X9_refusesPool.2.2.2.2.2.1 q_X9_refusesPool.2.2.1 q_X9_refusesPool.1.cls q_X9_refusesPool.1.name q_X9_refusesPool.2.1 26 25 I_X9_refusesPool_25 = true := by decide +kernel
def p_X9_refusesPool_25 (h : AH) : Option (Int32 × AH) :=
  p_X9_refusesPool_26 ((2 : Int32)) h
set_option maxRecDepth 100000 in
theorem e_X9_refusesPool_25 {l : Launch} {D : va_G} {dA : Nat → ClassId} {z : Nat} {sa : Nat → Nat} {Hz : Heap} (E : StrOK qLen qCh l D dA z sa Hz) {h0 fin : AH} {x : Int32}  : ∀  (h : AH), p_X9_refusesPool_25 h = some (x, fin) → GM l D dA z sa Hz q_X9_refusesPool h0 (some (.int x)) fin 25 [] [] h := by
  intro h hd
  exact step E (is := I_X9_refusesPool_25) (pc := 25) (K := (kx 26 (fun la st h => sI st fun y0 st => sE st (p_X9_refusesPool_26 y0 h)) k0)) (FI := FI_X9_refusesPool) (FV := fV0) (FL := fL0) (rt := rtI) (ft := 26) (by exact hd) ok_X9_refusesPool_25 (kx_ok (fun la st h e => by obtain ⟨y0, _, rfl, e1⟩ := sI_inv e; obtain ⟨rfl, ez⟩ := sE_inv e1; exact gm_fewer (e_X9_refusesPool_26 E  y0 h ez) mem_nil) k0_ok) (FI_X9_refusesPool_ok E) (fV0_ok E) (fL0_ok E) (rtI_ok rfl)
def I_X9_refusesPool_11 : List AI := [(.iload_n 1, 1, [], 0), (.iconst 3, 1, [], 3), (.bipush 8, 2, [], 8), (.invokestatic 112, 3, [1, 211, 3, 1612], 0), (.ifCond .eq 7, 3, [25], 0), (.iconst 0, 1, [], 0), (.goto 4, 3, [26], 0)]
theorem ok_X9_refusesPool_11 : vBL MT qLen qCh false q_X9_refusesPool.2.2.2.2.1 q_X9_refusesPool.2.2.2.2.2.1 q_X9_refusesPool.2.2.1 q_X9_refusesPool.1.cls q_X9_refusesPool.1.name q_X9_refusesPool.2.1 0 11 I_X9_refusesPool_11 = true := by decide +kernel
def p_X9_refusesPool_11 (x1 : Int32) (h : AH) : Option (Int32 × AH) :=
  (p_X9_in x1 ((3 : Int32)) ((8 : Int32)) h).bind fun q101 =>
  if q101.1 = 0 then (p_X9_refusesPool_26 ((2 : Int32)) q101.2)
  else
  p_X9_refusesPool_26 ((0 : Int32)) q101.2
set_option maxRecDepth 100000 in
theorem e_X9_refusesPool_11 {l : Launch} {D : va_G} {dA : Nat → ClassId} {z : Nat} {sa : Nat → Nat} {Hz : Heap} (E : StrOK qLen qCh l D dA z sa Hz) {h0 fin : AH} {x : Int32}  : ∀ (x1 : Int32) (h : AH), p_X9_refusesPool_11 x1 h = some (x, fin) → GM l D dA z sa Hz q_X9_refusesPool h0 (some (.int x)) fin 11 [(1, .int x1)] [] h := by
  intro x1 h hd
  exact step E (is := I_X9_refusesPool_11) (pc := 11) (K := (kx 25 (fun la st h => sE st (p_X9_refusesPool_25 h)) (kx 26 (fun la st h => sI st fun y0 st => sE st (p_X9_refusesPool_26 y0 h)) k0))) (FI := FI_X9_refusesPool) (FV := fV0) (FL := fL0) (rt := rtI) (ft := 0) (by exact hd) ok_X9_refusesPool_11 (kx_ok (fun la st h e => by obtain ⟨rfl, ez⟩ := sE_inv e; exact gm_fewer (e_X9_refusesPool_25 E   h ez) mem_nil) (kx_ok (fun la st h e => by obtain ⟨y0, _, rfl, e1⟩ := sI_inv e; obtain ⟨rfl, ez⟩ := sE_inv e1; exact gm_fewer (e_X9_refusesPool_26 E  y0 h ez) mem_nil) k0_ok)) (FI_X9_refusesPool_ok E) (fV0_ok E) (fL0_ok E) (rtI_ok rfl)
def I_X9_refusesPool_0 : List AI := [(.aload_n 0, 1, [], 0), (.getfield 265, 3, [8, 3, 2, 1348], 0), (.ifnonnull 7, 3, [11], 0), (.iconst 1, 1, [], 1), (.goto 18, 3, [26], 0)]
theorem ok_X9_refusesPool_0 : vBL MT qLen qCh false q_X9_refusesPool.2.2.2.2.1 q_X9_refusesPool.2.2.2.2.2.1 q_X9_refusesPool.2.2.1 q_X9_refusesPool.1.cls q_X9_refusesPool.1.name q_X9_refusesPool.2.1 0 0 I_X9_refusesPool_0 = true := by decide +kernel
def p_X9_refusesPool (a0 : Nat) (x1 : Int32) (h : AH) : Option (Int32 × AH) :=
  if (tg h a0).1 = 8 then (if (rR h a0 3) = 0 then (p_X9_refusesPool_26 ((1 : Int32)) h)
  else
  (p_X9_in x1 ((3 : Int32)) ((8 : Int32)) h).bind fun q102 =>
  if q102.1 = 0 then (p_X9_refusesPool_26 ((2 : Int32)) q102.2)
  else
  p_X9_refusesPool_26 ((0 : Int32)) q102.2) else none
set_option maxRecDepth 100000 in
theorem e_X9_refusesPool_0 {l : Launch} {D : va_G} {dA : Nat → ClassId} {z : Nat} {sa : Nat → Nat} {Hz : Heap} (E : StrOK qLen qCh l D dA z sa Hz) {h0 fin : AH} {x : Int32}  : ∀ (a0 : Nat) (x1 : Int32) (h : AH), p_X9_refusesPool a0 x1 h = some (x, fin) → GM l D dA z sa Hz q_X9_refusesPool h0 (some (.int x)) fin 0 [(0, .ref a0), (1, .int x1)] [] h := by
  intro a0 x1 h hd
  exact step E (is := I_X9_refusesPool_0) (pc := 0) (K := (kx 11 (fun la st h => gI la 1 fun x1 => sE st (p_X9_refusesPool_11 x1 h)) (kx 26 (fun la st h => sI st fun y0 st => sE st (p_X9_refusesPool_26 y0 h)) k0))) (FI := FI_X9_refusesPool) (FV := fV0) (FL := fL0) (rt := rtI) (ft := 0) (by exact hd) ok_X9_refusesPool_0 (kx_ok (fun la st h e => by obtain ⟨x1, m_x1, e1⟩ := gI_inv e; obtain ⟨rfl, ez⟩ := sE_inv e1; exact gm_fewer (e_X9_refusesPool_11 E  x1 h ez) (mem_cons m_x1 mem_nil)) (kx_ok (fun la st h e => by obtain ⟨y0, _, rfl, e1⟩ := sI_inv e; obtain ⟨rfl, ez⟩ := sE_inv e1; exact gm_fewer (e_X9_refusesPool_26 E  y0 h ez) mem_nil) k0_ok)) (FI_X9_refusesPool_ok E) (fV0_ok E) (fL0_ok E) (rtI_ok rfl)
theorem c_X9_refusesPool {l : Launch} {D : va_G} {dA : Nat → ClassId} {z : Nat} {sa : Nat → Nat} {Hz : Heap} (E : StrOK qLen qCh l D dA z sa Hz) {a0 : Nat} {x1 : Int32} {h fin : AH} {x : Int32} (hd : p_X9_refusesPool a0 x1 h = some (x, fin)) : CalOK l D dA z sa Hz q_X9_refusesPool [.ref a0, .int x1] h (some (.int x)) fin := calOf (by decide +kernel) (Nat.le_of_ble_eq_true rfl) (e_X9_refusesPool_0 E a0 x1 h hd)
def FV_X9_dropped : Nat → List Value → AH → Option (AH) := (cx 229 (fun As h => sR As fun a0 As => sI As fun x1 As => sE As (p_X9_frees a0 x1 h)) fV0)
theorem FV_X9_dropped_ok {l : Launch} {D : va_G} {dA : Nat → ClassId} {z : Nat} {sa : Nat → Nat} {Hz : Heap} (E : StrOK qLen qCh l D dA z sa Hz) : ∀ mi As h h', FV_X9_dropped mi As h = some h' → CalOK l D dA z sa Hz (MT mi) As h none h' := (cxV_ok (fun As h h2 e => by obtain ⟨_, _, rfl, e0⟩ := sR_inv e; obtain ⟨_, _, rfl, e1⟩ := sI_inv e0; obtain ⟨rfl, ez⟩ := sE_inv e1; exact c_X9_frees E ez) (fV0_ok E))
def I_X9_dropped_66 : List AI := [(.aload_n 0, 1, [], 0), (.iload_n 1, 1, [], 0), (.invokevirtual 310, 3, [2, 229, 2, 8, 1682], 0), (.aload_n 0, 1, [], 0), (.dup, 1, [], 0), (.getfield 301, 3, [8, 28, 0, 1373], 0), (.iconst 1, 1, [], 1), (.iadd, 1, [], 0), (.putfield 301, 3, [8, 28, 0, 1373], 0), (.return_, 1, [], 0)]
theorem ok_X9_dropped_66 : vBL MT qLen qCh false q_X9_dropped.2.2.2.2.1 q_X9_dropped.2.2.2.2.2.1 q_X9_dropped.2.2.1 q_X9_dropped.1.cls q_X9_dropped.1.name q_X9_dropped.2.1 0 66 I_X9_dropped_66 = true := by decide +kernel
def p_X9_dropped_66 (a0 : Nat) (x1 : Int32) (h : AH) : Option (AH) :=
  if (tg h a0).1 = 8 then ((p_X9_frees a0 x1 h).bind fun h101 =>
  if (tg h101 a0).1 = 8 then (if (tg h101 a0).1 = 8 then (let h102 := wI h101 a0 28 ((rI h101 a0 28) + ((1 : Int32)))
  some h102) else none) else none) else none
set_option maxRecDepth 100000 in
theorem e_X9_dropped_66 {l : Launch} {D : va_G} {dA : Nat → ClassId} {z : Nat} {sa : Nat → Nat} {Hz : Heap} (E : StrOK qLen qCh l D dA z sa Hz) {h0 fin : AH}  : ∀ (a0 : Nat) (x1 : Int32) (h : AH), p_X9_dropped_66 a0 x1 h = some fin → GM l D dA z sa Hz q_X9_dropped h0 none fin 66 [(0, .ref a0), (1, .int x1)] [] h := by
  intro a0 x1 h hd
  exact step E (is := I_X9_dropped_66) (pc := 66) (K := k0) (FI := fI0) (FV := FV_X9_dropped) (FL := fL0) (rt := rtV) (ft := 0) (by exact hd) ok_X9_dropped_66 k0_ok (fI0_ok E) (FV_X9_dropped_ok E) (fL0_ok E) (rtV_ok rfl)
def I_X9_dropped_60 : List AI := [(.iinc 2 1, 3, [], 1), (.goto (-59), 3, [4], 0)]
theorem ok_X9_dropped_60 : vBL MT qLen qCh false q_X9_dropped.2.2.2.2.1 q_X9_dropped.2.2.2.2.2.1 q_X9_dropped.2.2.1 q_X9_dropped.1.cls q_X9_dropped.1.name q_X9_dropped.2.1 0 60 I_X9_dropped_60 = true := by decide +kernel
def p_X9_dropped_60 (k4 : Nat → Int32 → Int32 → AH → Option (AH)) (a0 : Nat) (x1 : Int32) (x2 : Int32) (h : AH) : Option (AH) :=
  k4 a0 x1 (x2 + (1 : Int32)) h
set_option maxRecDepth 100000 in
theorem e_X9_dropped_60 {l : Launch} {D : va_G} {dA : Nat → ClassId} {z : Nat} {sa : Nat → Nat} {Hz : Heap} (E : StrOK qLen qCh l D dA z sa Hz) {h0 fin : AH}  {k4 : Nat → Int32 → Int32 → AH → Option (AH)} (hk4 : ∀ (a0 : Nat) (x1 : Int32) (x2 : Int32) (h : AH), k4 a0 x1 x2 h = some fin → GM l D dA z sa Hz q_X9_dropped h0 none fin 4 [(0, .ref a0), (1, .int x1), (2, .int x2)] [] h) : ∀ (a0 : Nat) (x1 : Int32) (x2 : Int32) (h : AH), p_X9_dropped_60 k4 a0 x1 x2 h = some fin → GM l D dA z sa Hz q_X9_dropped h0 none fin 60 [(0, .ref a0), (1, .int x1), (2, .int x2)] [] h := by
  intro a0 x1 x2 h hd
  exact step E (is := I_X9_dropped_60) (pc := 60) (K := (kx 4 (fun la st h => gR la 0 fun a0 => gI la 1 fun x1 => gI la 2 fun x2 => sE st (k4 a0 x1 x2 h)) k0)) (FI := fI0) (FV := FV_X9_dropped) (FL := fL0) (rt := rtV) (ft := 0) (by exact hd) ok_X9_dropped_60 (kx_ok (fun la st h e => by obtain ⟨a0, m_a0, e1⟩ := gR_inv e; obtain ⟨x1, m_x1, e2⟩ := gI_inv e1; obtain ⟨x2, m_x2, e3⟩ := gI_inv e2; obtain ⟨rfl, ez⟩ := sE_inv e3; exact gm_fewer (hk4 a0 x1 x2 h ez) (mem_cons m_a0 (mem_cons m_x1 (mem_cons m_x2 mem_nil)))) k0_ok) (fI0_ok E) (FV_X9_dropped_ok E) (fL0_ok E) (rtV_ok rfl)
def I_X9_dropped_4 : List AI := [(.iload_n 2, 1, [], 0), (.sipush 243, 3, [], 243), (.if_icmp .ge 58, 3, [66], 0), (.aload_n 0, 1, [], 0), (.getfield 21, 3, [8, 16, 2, 1361], 0), (.sipush 147, 3, [], 147), (.iload_n 2, 1, [], 0), (.sipush 179, 3, [], 179), (.isub, 1, [], 0), (.bipush 8, 2, [], 8), (.idiv, 1, [], 0), (.iadd, 1, [], 0), (.iaload, 1, [], 0), (.ifCond .ne 32, 3, [60], 0), (.aload_n 0, 1, [], 0), (.getfield 21, 3, [8, 16, 2, 1361], 0), (.iload_n 2, 1, [], 0), (.iaload, 1, [], 0), (.iconst (-1), 1, [], (-1)), (.if_icmp .eq 22, 3, [60], 0), (.aload_n 0, 1, [], 0), (.getfield 21, 3, [8, 16, 2, 1361], 0), (.iload_n 2, 1, [], 0), (.iaload, 1, [], 0), (.iconst 4, 1, [], 4), (.idiv, 1, [], 0), (.iload_n 1, 1, [], 0), (.if_icmp .ne 10, 3, [60], 0), (.aload_n 0, 1, [], 0), (.getfield 21, 3, [8, 16, 2, 1361], 0), (.iload_n 2, 1, [], 0), (.iconst (-1), 1, [], (-1)), (.iastore, 1, [], 0)]
theorem ok_X9_dropped_4 : vBL MT qLen qCh false q_X9_dropped.2.2.2.2.1 q_X9_dropped.2.2.2.2.2.1 q_X9_dropped.2.2.1 q_X9_dropped.1.cls q_X9_dropped.1.name q_X9_dropped.2.1 60 4 I_X9_dropped_4 = true := by decide +kernel
def p_X9_dropped_4 : Nat → Nat → Int32 → Int32 → AH → Option (AH)
  | 0, _, _, _, _ => none
  | n + 1, a0, x1, x2, h => if x2 < ((243 : Int32)) then (if (tg h a0).1 = 8 then (if ((8 : Int32)) = 0 then none else
    if inB h (rR h a0 16) 100 (((147 : Int32)) + ((x2 - ((179 : Int32))) / ((8 : Int32)))) then (if (rI h (rR h a0 16) (((147 : Int32)) + ((x2 - ((179 : Int32))) / ((8 : Int32)))).toNatClampNeg) = 0 then (if (tg h a0).1 = 8 then (if inB h (rR h a0 16) 100 x2 then (if (rI h (rR h a0 16) x2.toNatClampNeg) = ((-1 : Int32)) then (p_X9_dropped_60 (p_X9_dropped_4 n) a0 x1 x2 h)
    else
    if (tg h a0).1 = 8 then (if inB h (rR h a0 16) 100 x2 then (if ((4 : Int32)) = 0 then none else
    if ((rI h (rR h a0 16) x2.toNatClampNeg) / ((4 : Int32))) = x1 then (if (tg h a0).1 = 8 then (if inB h (rR h a0 16) 100 x2 then (let h105 := wI h (rR h a0 16) x2.toNatClampNeg ((-1 : Int32))
    p_X9_dropped_60 (p_X9_dropped_4 n) a0 x1 x2 h105) else none) else none)
    else
    p_X9_dropped_60 (p_X9_dropped_4 n) a0 x1 x2 h) else none) else none) else none) else none)
    else
    p_X9_dropped_60 (p_X9_dropped_4 n) a0 x1 x2 h) else none) else none)
    else
    if (tg h a0).1 = 8 then ((p_X9_frees a0 x1 h).bind fun h103 =>
    if (tg h103 a0).1 = 8 then (if (tg h103 a0).1 = 8 then (let h104 := wI h103 a0 28 ((rI h103 a0 28) + ((1 : Int32)))
    some h104) else none) else none) else none
set_option maxRecDepth 100000 in
theorem e_X9_dropped_4 {l : Launch} {D : va_G} {dA : Nat → ClassId} {z : Nat} {sa : Nat → Nat} {Hz : Heap} (E : StrOK qLen qCh l D dA z sa Hz) {h0 fin : AH}  : ∀ (n : Nat) (a0 : Nat) (x1 : Int32) (x2 : Int32) (h : AH), p_X9_dropped_4 n a0 x1 x2 h = some fin → GM l D dA z sa Hz q_X9_dropped h0 none fin 4 [(0, .ref a0), (1, .int x1), (2, .int x2)] [] h := by
  intro n
  induction n with
  | zero => intro a0 x1 x2 h hd; exact nomatch hd
  | succ n ih =>
    intro a0 x1 x2 h hd
    exact step E (is := I_X9_dropped_4) (pc := 4) (K := (kx 66 (fun la st h => gR la 0 fun a0 => gI la 1 fun x1 => sE st (p_X9_dropped_66 a0 x1 h)) (kx 60 (fun la st h => gR la 0 fun a0 => gI la 1 fun x1 => gI la 2 fun x2 => sE st (p_X9_dropped_60 (p_X9_dropped_4 n) a0 x1 x2 h)) k0))) (FI := fI0) (FV := FV_X9_dropped) (FL := fL0) (rt := rtV) (ft := 60) (by exact hd) ok_X9_dropped_4 (kx_ok (fun la st h e => by obtain ⟨a0, m_a0, e1⟩ := gR_inv e; obtain ⟨x1, m_x1, e2⟩ := gI_inv e1; obtain ⟨rfl, ez⟩ := sE_inv e2; exact gm_fewer (e_X9_dropped_66 E  a0 x1 h ez) (mem_cons m_a0 (mem_cons m_x1 mem_nil))) (kx_ok (fun la st h e => by obtain ⟨a0, m_a0, e1⟩ := gR_inv e; obtain ⟨x1, m_x1, e2⟩ := gI_inv e1; obtain ⟨x2, m_x2, e3⟩ := gI_inv e2; obtain ⟨rfl, ez⟩ := sE_inv e3; exact gm_fewer (e_X9_dropped_60 E ih a0 x1 x2 h ez) (mem_cons m_a0 (mem_cons m_x1 (mem_cons m_x2 mem_nil)))) k0_ok)) (fI0_ok E) (FV_X9_dropped_ok E) (fL0_ok E) (rtV_ok rfl)
def I_X9_dropped_0 : List AI := [(.sipush 179, 3, [], 179), (.istore_n 2, 1, [], 0)]
theorem ok_X9_dropped_0 : vBL MT qLen qCh false q_X9_dropped.2.2.2.2.1 q_X9_dropped.2.2.2.2.2.1 q_X9_dropped.2.2.1 q_X9_dropped.1.cls q_X9_dropped.1.name q_X9_dropped.2.1 4 0 I_X9_dropped_0 = true := by decide +kernel
def p_X9_dropped (a0 : Nat) (x1 : Int32) (h : AH) : Option (AH) :=
  p_X9_dropped_4 FU a0 x1 ((179 : Int32)) h
set_option maxRecDepth 100000 in
theorem e_X9_dropped_0 {l : Launch} {D : va_G} {dA : Nat → ClassId} {z : Nat} {sa : Nat → Nat} {Hz : Heap} (E : StrOK qLen qCh l D dA z sa Hz) {h0 fin : AH}  : ∀ (a0 : Nat) (x1 : Int32) (h : AH), p_X9_dropped a0 x1 h = some fin → GM l D dA z sa Hz q_X9_dropped h0 none fin 0 [(0, .ref a0), (1, .int x1)] [] h := by
  intro a0 x1 h hd
  exact step E (is := I_X9_dropped_0) (pc := 0) (K := (kx 4 (fun la st h => gR la 0 fun a0 => gI la 1 fun x1 => gI la 2 fun x2 => sE st (p_X9_dropped_4 FU a0 x1 x2 h)) k0)) (FI := fI0) (FV := FV_X9_dropped) (FL := fL0) (rt := rtV) (ft := 4) (by exact hd) ok_X9_dropped_0 (kx_ok (fun la st h e => by obtain ⟨a0, m_a0, e1⟩ := gR_inv e; obtain ⟨x1, m_x1, e2⟩ := gI_inv e1; obtain ⟨x2, m_x2, e3⟩ := gI_inv e2; obtain ⟨rfl, ez⟩ := sE_inv e3; exact gm_fewer (e_X9_dropped_4 E  FU a0 x1 x2 h ez) (mem_cons m_a0 (mem_cons m_x1 (mem_cons m_x2 mem_nil)))) k0_ok) (fI0_ok E) (FV_X9_dropped_ok E) (fL0_ok E) (rtV_ok rfl)
theorem c_X9_dropped {l : Launch} {D : va_G} {dA : Nat → ClassId} {z : Nat} {sa : Nat → Nat} {Hz : Heap} (E : StrOK qLen qCh l D dA z sa Hz) {a0 : Nat} {x1 : Int32} {h fin : AH} (hd : p_X9_dropped a0 x1 h = some fin) : CalOK l D dA z sa Hz q_X9_dropped [.ref a0, .int x1] h none fin := calOf (by decide +kernel) (Nat.le_of_ble_eq_true rfl) (e_X9_dropped_0 E a0 x1 h hd)
def FI_X9_losesW : Nat → List Value → AH → Option (Int32 × AH) := (cx 279 (fun As h => sR As fun a0 As => sI As fun x1 As => sI As fun x2 As => sE As (p_X9_isMap a0 x1 x2 h)) (cx 247 (fun As h => sI As fun x0 As => sI As fun x1 As => sE As (p_X9_has x0 x1 h)) fI0))
theorem FI_X9_losesW_ok {l : Launch} {D : va_G} {dA : Nat → ClassId} {z : Nat} {sa : Nat → Nat} {Hz : Heap} (E : StrOK qLen qCh l D dA z sa Hz) : ∀ mi As h x h', FI_X9_losesW mi As h = some (x, h') → CalOK l D dA z sa Hz (MT mi) As h (some (.int x)) h' := (cxI_ok (fun As h x h2 e => by obtain ⟨_, _, rfl, e0⟩ := sR_inv e; obtain ⟨_, _, rfl, e1⟩ := sI_inv e0; obtain ⟨_, _, rfl, e2⟩ := sI_inv e1; obtain ⟨rfl, ez⟩ := sE_inv e2; exact c_X9_isMap E ez) ((cxI_ok (fun As h x h2 e => by obtain ⟨_, _, rfl, e0⟩ := sI_inv e; obtain ⟨_, _, rfl, e1⟩ := sI_inv e0; obtain ⟨rfl, ez⟩ := sE_inv e1; exact c_X9_has E ez) (fI0_ok E))))
def I_X9_losesW_57 : List AI := [(.iload_n 2, 1, [], 0), (.ireturn, 1, [], 0)]
theorem ok_X9_losesW_57 : vBL MT qLen qCh false q_X9_losesW.2.2.2.2.1 q_X9_losesW.2.2.2.2.2.1 q_X9_losesW.2.2.1 q_X9_losesW.1.cls q_X9_losesW.1.name q_X9_losesW.2.1 0 57 I_X9_losesW_57 = true := by decide +kernel
def p_X9_losesW_57 (x2 : Int32) (h : AH) : Option (Int32 × AH) :=
  some (x2, h)
set_option maxRecDepth 100000 in
theorem e_X9_losesW_57 {l : Launch} {D : va_G} {dA : Nat → ClassId} {z : Nat} {sa : Nat → Nat} {Hz : Heap} (E : StrOK qLen qCh l D dA z sa Hz) {h0 fin : AH} {x : Int32}  : ∀ (x2 : Int32) (h : AH), p_X9_losesW_57 x2 h = some (x, fin) → GM l D dA z sa Hz q_X9_losesW h0 (some (.int x)) fin 57 [(2, .int x2)] [] h := by
  intro x2 h hd
  exact step E (is := I_X9_losesW_57) (pc := 57) (K := k0) (FI := FI_X9_losesW) (FV := fV0) (FL := fL0) (rt := rtI) (ft := 0) (by exact hd) ok_X9_losesW_57 k0_ok (FI_X9_losesW_ok E) (fV0_ok E) (fL0_ok E) (rtI_ok rfl)
def I_X9_losesW_51 : List AI := [(.iinc 3 1, 3, [], 1), (.goto (-48), 3, [6], 0)]
theorem ok_X9_losesW_51 : vBL MT qLen qCh false q_X9_losesW.2.2.2.2.1 q_X9_losesW.2.2.2.2.2.1 q_X9_losesW.2.2.1 q_X9_losesW.1.cls q_X9_losesW.1.name q_X9_losesW.2.1 0 51 I_X9_losesW_51 = true := by decide +kernel
def p_X9_losesW_51 (k6 : Nat → Int32 → Int32 → Int32 → AH → Option (Int32 × AH)) (a0 : Nat) (x1 : Int32) (x2 : Int32) (x3 : Int32) (h : AH) : Option (Int32 × AH) :=
  k6 a0 x1 x2 (x3 + (1 : Int32)) h
set_option maxRecDepth 100000 in
theorem e_X9_losesW_51 {l : Launch} {D : va_G} {dA : Nat → ClassId} {z : Nat} {sa : Nat → Nat} {Hz : Heap} (E : StrOK qLen qCh l D dA z sa Hz) {h0 fin : AH} {x : Int32}  {k6 : Nat → Int32 → Int32 → Int32 → AH → Option (Int32 × AH)} (hk6 : ∀ (a0 : Nat) (x1 : Int32) (x2 : Int32) (x3 : Int32) (h : AH), k6 a0 x1 x2 x3 h = some (x, fin) → GM l D dA z sa Hz q_X9_losesW h0 (some (.int x)) fin 6 [(0, .ref a0), (1, .int x1), (2, .int x2), (3, .int x3)] [] h) : ∀ (a0 : Nat) (x1 : Int32) (x2 : Int32) (x3 : Int32) (h : AH), p_X9_losesW_51 k6 a0 x1 x2 x3 h = some (x, fin) → GM l D dA z sa Hz q_X9_losesW h0 (some (.int x)) fin 51 [(0, .ref a0), (1, .int x1), (2, .int x2), (3, .int x3)] [] h := by
  intro a0 x1 x2 x3 h hd
  exact step E (is := I_X9_losesW_51) (pc := 51) (K := (kx 6 (fun la st h => gR la 0 fun a0 => gI la 1 fun x1 => gI la 2 fun x2 => gI la 3 fun x3 => sE st (k6 a0 x1 x2 x3 h)) k0)) (FI := FI_X9_losesW) (FV := fV0) (FL := fL0) (rt := rtI) (ft := 0) (by exact hd) ok_X9_losesW_51 (kx_ok (fun la st h e => by obtain ⟨a0, m_a0, e1⟩ := gR_inv e; obtain ⟨x1, m_x1, e2⟩ := gI_inv e1; obtain ⟨x2, m_x2, e3⟩ := gI_inv e2; obtain ⟨x3, m_x3, e4⟩ := gI_inv e3; obtain ⟨rfl, ez⟩ := sE_inv e4; exact gm_fewer (hk6 a0 x1 x2 x3 h ez) (mem_cons m_a0 (mem_cons m_x1 (mem_cons m_x2 (mem_cons m_x3 mem_nil))))) k0_ok) (FI_X9_losesW_ok E) (fV0_ok E) (fL0_ok E) (rtI_ok rfl)
def I_X9_losesW_38 : List AI := [(.aload_n 0, 1, [], 0), (.getfield 21, 3, [8, 16, 2, 1361], 0), (.iload_n 3, 1, [], 0), (.dup2, 1, [], 0), (.iaload, 1, [], 0), (.iconst 2, 1, [], 2), (.isub, 1, [], 0), (.iastore, 1, [], 0), (.iinc 2 1, 3, [], 1)]
theorem ok_X9_losesW_38 : vBL MT qLen qCh false q_X9_losesW.2.2.2.2.1 q_X9_losesW.2.2.2.2.2.1 q_X9_losesW.2.2.1 q_X9_losesW.1.cls q_X9_losesW.1.name q_X9_losesW.2.1 51 38 I_X9_losesW_38 = true := by decide +kernel
def p_X9_losesW_38 (k6 : Nat → Int32 → Int32 → Int32 → AH → Option (Int32 × AH)) (a0 : Nat) (x1 : Int32) (x2 : Int32) (x3 : Int32) (h : AH) : Option (Int32 × AH) :=
  if (tg h a0).1 = 8 then (if inB h (rR h a0 16) 100 x3 then (if inB h (rR h a0 16) 100 x3 then (let h101 := wI h (rR h a0 16) x3.toNatClampNeg ((rI h (rR h a0 16) x3.toNatClampNeg) - ((2 : Int32)))
  p_X9_losesW_51 k6 a0 x1 (x2 + (1 : Int32)) x3 h101) else none) else none) else none
set_option maxRecDepth 100000 in
theorem e_X9_losesW_38 {l : Launch} {D : va_G} {dA : Nat → ClassId} {z : Nat} {sa : Nat → Nat} {Hz : Heap} (E : StrOK qLen qCh l D dA z sa Hz) {h0 fin : AH} {x : Int32}  {k6 : Nat → Int32 → Int32 → Int32 → AH → Option (Int32 × AH)} (hk6 : ∀ (a0 : Nat) (x1 : Int32) (x2 : Int32) (x3 : Int32) (h : AH), k6 a0 x1 x2 x3 h = some (x, fin) → GM l D dA z sa Hz q_X9_losesW h0 (some (.int x)) fin 6 [(0, .ref a0), (1, .int x1), (2, .int x2), (3, .int x3)] [] h) : ∀ (a0 : Nat) (x1 : Int32) (x2 : Int32) (x3 : Int32) (h : AH), p_X9_losesW_38 k6 a0 x1 x2 x3 h = some (x, fin) → GM l D dA z sa Hz q_X9_losesW h0 (some (.int x)) fin 38 [(0, .ref a0), (1, .int x1), (2, .int x2), (3, .int x3)] [] h := by
  intro a0 x1 x2 x3 h hd
  exact step E (is := I_X9_losesW_38) (pc := 38) (K := (kx 51 (fun la st h => gR la 0 fun a0 => gI la 1 fun x1 => gI la 2 fun x2 => gI la 3 fun x3 => sE st (p_X9_losesW_51 k6 a0 x1 x2 x3 h)) k0)) (FI := FI_X9_losesW) (FV := fV0) (FL := fL0) (rt := rtI) (ft := 51) (by exact hd) ok_X9_losesW_38 (kx_ok (fun la st h e => by obtain ⟨a0, m_a0, e1⟩ := gR_inv e; obtain ⟨x1, m_x1, e2⟩ := gI_inv e1; obtain ⟨x2, m_x2, e3⟩ := gI_inv e2; obtain ⟨x3, m_x3, e4⟩ := gI_inv e3; obtain ⟨rfl, ez⟩ := sE_inv e4; exact gm_fewer (e_X9_losesW_51 E hk6 a0 x1 x2 x3 h ez) (mem_cons m_a0 (mem_cons m_x1 (mem_cons m_x2 (mem_cons m_x3 mem_nil))))) k0_ok) (FI_X9_losesW_ok E) (fV0_ok E) (fL0_ok E) (rtI_ok rfl)
def I_X9_losesW_6 : List AI := [(.iload_n 3, 1, [], 0), (.sipush 243, 3, [], 243), (.if_icmp .ge 47, 3, [57], 0), (.aload_n 0, 1, [], 0), (.iload_n 3, 1, [], 0), (.iload_n 1, 1, [], 0), (.invokevirtual 350, 3, [1, 279, 3, 8, 1875], 0), (.ifCond .eq 32, 3, [51], 0), (.aload_n 0, 1, [], 0), (.getfield 21, 3, [8, 16, 2, 1361], 0), (.iload_n 3, 1, [], 0), (.iaload, 1, [], 0), (.iconst 2, 1, [], 2), (.invokestatic 316, 3, [1, 247, 2, 1749], 0), (.ifCond .ne 6, 3, [38], 0), (.goto 16, 3, [51], 0)]
theorem ok_X9_losesW_6 : vBL MT qLen qCh false q_X9_losesW.2.2.2.2.1 q_X9_losesW.2.2.2.2.2.1 q_X9_losesW.2.2.1 q_X9_losesW.1.cls q_X9_losesW.1.name q_X9_losesW.2.1 0 6 I_X9_losesW_6 = true := by decide +kernel
def p_X9_losesW_6 : Nat → Nat → Int32 → Int32 → Int32 → AH → Option (Int32 × AH)
  | 0, _, _, _, _, _ => none
  | n + 1, a0, x1, x2, x3, h => if x3 < ((243 : Int32)) then (if (tg h a0).1 = 8 then ((p_X9_isMap a0 x3 x1 h).bind fun q102 =>
    if q102.1 = 0 then (p_X9_losesW_51 (p_X9_losesW_6 n) a0 x1 x2 x3 q102.2)
    else
    if (tg q102.2 a0).1 = 8 then (if inB q102.2 (rR q102.2 a0 16) 100 x3 then ((p_X9_has (rI q102.2 (rR q102.2 a0 16) x3.toNatClampNeg) ((2 : Int32)) q102.2).bind fun q103 =>
    if q103.1 = 0 then (p_X9_losesW_51 (p_X9_losesW_6 n) a0 x1 x2 x3 q103.2)
    else
    if (tg q103.2 a0).1 = 8 then (if inB q103.2 (rR q103.2 a0 16) 100 x3 then (if inB q103.2 (rR q103.2 a0 16) 100 x3 then (let h104 := wI q103.2 (rR q103.2 a0 16) x3.toNatClampNeg ((rI q103.2 (rR q103.2 a0 16) x3.toNatClampNeg) - ((2 : Int32)))
    p_X9_losesW_51 (p_X9_losesW_6 n) a0 x1 (x2 + (1 : Int32)) x3 h104) else none) else none) else none) else none) else none) else none)
    else
    some (x2, h)
set_option maxRecDepth 100000 in
theorem e_X9_losesW_6 {l : Launch} {D : va_G} {dA : Nat → ClassId} {z : Nat} {sa : Nat → Nat} {Hz : Heap} (E : StrOK qLen qCh l D dA z sa Hz) {h0 fin : AH} {x : Int32}  : ∀ (n : Nat) (a0 : Nat) (x1 : Int32) (x2 : Int32) (x3 : Int32) (h : AH), p_X9_losesW_6 n a0 x1 x2 x3 h = some (x, fin) → GM l D dA z sa Hz q_X9_losesW h0 (some (.int x)) fin 6 [(0, .ref a0), (1, .int x1), (2, .int x2), (3, .int x3)] [] h := by
  intro n
  induction n with
  | zero => intro a0 x1 x2 x3 h hd; exact nomatch hd
  | succ n ih =>
    intro a0 x1 x2 x3 h hd
    exact step E (is := I_X9_losesW_6) (pc := 6) (K := (kx 57 (fun la st h => gI la 2 fun x2 => sE st (p_X9_losesW_57 x2 h)) (kx 51 (fun la st h => gR la 0 fun a0 => gI la 1 fun x1 => gI la 2 fun x2 => gI la 3 fun x3 => sE st (p_X9_losesW_51 (p_X9_losesW_6 n) a0 x1 x2 x3 h)) (kx 38 (fun la st h => gR la 0 fun a0 => gI la 1 fun x1 => gI la 2 fun x2 => gI la 3 fun x3 => sE st (p_X9_losesW_38 (p_X9_losesW_6 n) a0 x1 x2 x3 h)) k0)))) (FI := FI_X9_losesW) (FV := fV0) (FL := fL0) (rt := rtI) (ft := 0) (by exact hd) ok_X9_losesW_6 (kx_ok (fun la st h e => by obtain ⟨x2, m_x2, e1⟩ := gI_inv e; obtain ⟨rfl, ez⟩ := sE_inv e1; exact gm_fewer (e_X9_losesW_57 E  x2 h ez) (mem_cons m_x2 mem_nil)) (kx_ok (fun la st h e => by obtain ⟨a0, m_a0, e1⟩ := gR_inv e; obtain ⟨x1, m_x1, e2⟩ := gI_inv e1; obtain ⟨x2, m_x2, e3⟩ := gI_inv e2; obtain ⟨x3, m_x3, e4⟩ := gI_inv e3; obtain ⟨rfl, ez⟩ := sE_inv e4; exact gm_fewer (e_X9_losesW_51 E ih a0 x1 x2 x3 h ez) (mem_cons m_a0 (mem_cons m_x1 (mem_cons m_x2 (mem_cons m_x3 mem_nil))))) (kx_ok (fun la st h e => by obtain ⟨a0, m_a0, e1⟩ := gR_inv e; obtain ⟨x1, m_x1, e2⟩ := gI_inv e1; obtain ⟨x2, m_x2, e3⟩ := gI_inv e2; obtain ⟨x3, m_x3, e4⟩ := gI_inv e3; obtain ⟨rfl, ez⟩ := sE_inv e4; exact gm_fewer (e_X9_losesW_38 E ih a0 x1 x2 x3 h ez) (mem_cons m_a0 (mem_cons m_x1 (mem_cons m_x2 (mem_cons m_x3 mem_nil))))) k0_ok))) (FI_X9_losesW_ok E) (fV0_ok E) (fL0_ok E) (rtI_ok rfl)
def I_X9_losesW_0 : List AI := [(.iconst 0, 1, [], 0), (.istore_n 2, 1, [], 0), (.sipush 179, 3, [], 179), (.istore_n 3, 1, [], 0)]
theorem ok_X9_losesW_0 : vBL MT qLen qCh false q_X9_losesW.2.2.2.2.1 q_X9_losesW.2.2.2.2.2.1 q_X9_losesW.2.2.1 q_X9_losesW.1.cls q_X9_losesW.1.name q_X9_losesW.2.1 6 0 I_X9_losesW_0 = true := by decide +kernel
def p_X9_losesW (a0 : Nat) (x1 : Int32) (h : AH) : Option (Int32 × AH) :=
  p_X9_losesW_6 FU a0 x1 ((0 : Int32)) ((179 : Int32)) h
set_option maxRecDepth 100000 in
theorem e_X9_losesW_0 {l : Launch} {D : va_G} {dA : Nat → ClassId} {z : Nat} {sa : Nat → Nat} {Hz : Heap} (E : StrOK qLen qCh l D dA z sa Hz) {h0 fin : AH} {x : Int32}  : ∀ (a0 : Nat) (x1 : Int32) (h : AH), p_X9_losesW a0 x1 h = some (x, fin) → GM l D dA z sa Hz q_X9_losesW h0 (some (.int x)) fin 0 [(0, .ref a0), (1, .int x1)] [] h := by
  intro a0 x1 h hd
  exact step E (is := I_X9_losesW_0) (pc := 0) (K := (kx 6 (fun la st h => gR la 0 fun a0 => gI la 1 fun x1 => gI la 2 fun x2 => gI la 3 fun x3 => sE st (p_X9_losesW_6 FU a0 x1 x2 x3 h)) k0)) (FI := FI_X9_losesW) (FV := fV0) (FL := fL0) (rt := rtI) (ft := 6) (by exact hd) ok_X9_losesW_0 (kx_ok (fun la st h e => by obtain ⟨a0, m_a0, e1⟩ := gR_inv e; obtain ⟨x1, m_x1, e2⟩ := gI_inv e1; obtain ⟨x2, m_x2, e3⟩ := gI_inv e2; obtain ⟨x3, m_x3, e4⟩ := gI_inv e3; obtain ⟨rfl, ez⟩ := sE_inv e4; exact gm_fewer (e_X9_losesW_6 E  FU a0 x1 x2 x3 h ez) (mem_cons m_a0 (mem_cons m_x1 (mem_cons m_x2 (mem_cons m_x3 mem_nil))))) k0_ok) (FI_X9_losesW_ok E) (fV0_ok E) (fL0_ok E) (rtI_ok rfl)
theorem c_X9_losesW {l : Launch} {D : va_G} {dA : Nat → ClassId} {z : Nat} {sa : Nat → Nat} {Hz : Heap} (E : StrOK qLen qCh l D dA z sa Hz) {a0 : Nat} {x1 : Int32} {h fin : AH} {x : Int32} (hd : p_X9_losesW a0 x1 h = some (x, fin)) : CalOK l D dA z sa Hz q_X9_losesW [.ref a0, .int x1] h (some (.int x)) fin := calOf (by decide +kernel) (Nat.le_of_ble_eq_true rfl) (e_X9_losesW_0 E a0 x1 h hd)
def FI_X9_needsTable : Nat → List Value → AH → Option (Int32 × AH) := (cx 265 (fun As h => sR As fun a0 As => sI As fun x1 As => sI As fun x2 As => sE As (p_X9_tableOf a0 x1 x2 h)) (cx 286 (fun As h => sR As fun a0 As => sE As (p_X9_freeOne a0 h)) (cx 287 (fun As h => sR As fun a0 As => sE As (p_X9_longestAgo a0 h)) (cx 291 (fun As h => sR As fun a0 As => sI As fun x1 As => sE As (p_X9_losesW a0 x1 h)) fI0))))
theorem FI_X9_needsTable_ok {l : Launch} {D : va_G} {dA : Nat → ClassId} {z : Nat} {sa : Nat → Nat} {Hz : Heap} (E : StrOK qLen qCh l D dA z sa Hz) : ∀ mi As h x h', FI_X9_needsTable mi As h = some (x, h') → CalOK l D dA z sa Hz (MT mi) As h (some (.int x)) h' := (cxI_ok (fun As h x h2 e => by obtain ⟨_, _, rfl, e0⟩ := sR_inv e; obtain ⟨_, _, rfl, e1⟩ := sI_inv e0; obtain ⟨_, _, rfl, e2⟩ := sI_inv e1; obtain ⟨rfl, ez⟩ := sE_inv e2; exact c_X9_tableOf E ez) ((cxI_ok (fun As h x h2 e => by obtain ⟨_, _, rfl, e0⟩ := sR_inv e; obtain ⟨rfl, ez⟩ := sE_inv e0; exact c_X9_freeOne E ez) ((cxI_ok (fun As h x h2 e => by obtain ⟨_, _, rfl, e0⟩ := sR_inv e; obtain ⟨rfl, ez⟩ := sE_inv e0; exact c_X9_longestAgo E ez) ((cxI_ok (fun As h x h2 e => by obtain ⟨_, _, rfl, e0⟩ := sR_inv e; obtain ⟨_, _, rfl, e1⟩ := sI_inv e0; obtain ⟨rfl, ez⟩ := sE_inv e1; exact c_X9_losesW E ez) (fI0_ok E))))))))
def FV_X9_needsTable : Nat → List Value → AH → Option (AH) := (cx 290 (fun As h => sR As fun a0 As => sI As fun x1 As => sE As (p_X9_dropped a0 x1 h)) fV0)
theorem FV_X9_needsTable_ok {l : Launch} {D : va_G} {dA : Nat → ClassId} {z : Nat} {sa : Nat → Nat} {Hz : Heap} (E : StrOK qLen qCh l D dA z sa Hz) : ∀ mi As h h', FV_X9_needsTable mi As h = some h' → CalOK l D dA z sa Hz (MT mi) As h none h' := (cxV_ok (fun As h h2 e => by obtain ⟨_, _, rfl, e0⟩ := sR_inv e; obtain ⟨_, _, rfl, e1⟩ := sI_inv e0; obtain ⟨rfl, ez⟩ := sE_inv e1; exact c_X9_dropped E ez) (fV0_ok E))
def I_X9_needsTable_102 : List AI := [(.iload 4, 2, [], 0), (.ireturn, 1, [], 0)]
theorem ok_X9_needsTable_102 : vBL MT qLen qCh false q_X9_needsTable.2.2.2.2.1 q_X9_needsTable.2.2.2.2.2.1 q_X9_needsTable.2.2.1 q_X9_needsTable.1.cls q_X9_needsTable.1.name q_X9_needsTable.2.1 0 102 I_X9_needsTable_102 = true := by decide +kernel
def p_X9_needsTable_102 (x4 : Int32) (h : AH) : Option (Int32 × AH) :=
  some (x4, h)
set_option maxRecDepth 100000 in
theorem e_X9_needsTable_102 {l : Launch} {D : va_G} {dA : Nat → ClassId} {z : Nat} {sa : Nat → Nat} {Hz : Heap} (E : StrOK qLen qCh l D dA z sa Hz) {h0 fin : AH} {x : Int32}  : ∀ (x4 : Int32) (h : AH), p_X9_needsTable_102 x4 h = some (x, fin) → GM l D dA z sa Hz q_X9_needsTable h0 (some (.int x)) fin 102 [(4, .int x4)] [] h := by
  intro x4 h hd
  exact step E (is := I_X9_needsTable_102) (pc := 102) (K := k0) (FI := FI_X9_needsTable) (FV := FV_X9_needsTable) (FL := fL0) (rt := rtI) (ft := 0) (by exact hd) ok_X9_needsTable_102 k0_ok (FI_X9_needsTable_ok E) (FV_X9_needsTable_ok E) (fL0_ok E) (rtI_ok rfl)
def I_X9_needsTable_30 : List AI := [(.aload_n 0, 1, [], 0), (.invokevirtual 353, 3, [1, 286, 1, 8, 1899], 0), (.istore 4, 2, [], 0), (.aload_n 0, 1, [], 0), (.getfield 21, 3, [8, 16, 2, 1361], 0), (.sipush 243, 3, [], 243), (.dup2, 1, [], 0), (.iaload, 1, [], 0), (.iconst 1, 1, [], 1), (.iadd, 1, [], 0), (.iastore, 1, [], 0), (.aload_n 0, 1, [], 0), (.getfield 21, 3, [8, 16, 2, 1361], 0), (.sipush 147, 3, [], 147), (.iload 4, 2, [], 0), (.iadd, 1, [], 0), (.iload_n 1, 1, [], 0), (.iastore, 1, [], 0), (.aload_n 0, 1, [], 0), (.getfield 21, 3, [8, 16, 2, 1361], 0), (.sipush 155, 3, [], 155), (.iload 4, 2, [], 0), (.iadd, 1, [], 0), (.iload_n 2, 1, [], 0), (.iastore, 1, [], 0), (.aload_n 0, 1, [], 0), (.getfield 21, 3, [8, 16, 2, 1361], 0), (.sipush 163, 3, [], 163), (.iload 4, 2, [], 0), (.iadd, 1, [], 0), (.aload_n 0, 1, [], 0), (.getfield 21, 3, [8, 16, 2, 1361], 0), (.sipush 243, 3, [], 243), (.iaload, 1, [], 0), (.iastore, 1, [], 0), (.iload_n 1, 1, [], 0), (.iconst 2, 1, [], 2), (.if_icmp .eq 9, 3, [102], 0), (.aload_n 0, 1, [], 0), (.iload_n 2, 1, [], 0), (.invokevirtual 362, 3, [1, 291, 2, 8, 1935], 0), (.pop, 1, [], 0)]
theorem ok_X9_needsTable_30 : vBL MT qLen qCh false q_X9_needsTable.2.2.2.2.1 q_X9_needsTable.2.2.2.2.2.1 q_X9_needsTable.2.2.1 q_X9_needsTable.1.cls q_X9_needsTable.1.name q_X9_needsTable.2.1 102 30 I_X9_needsTable_30 = true := by decide +kernel
def p_X9_needsTable_30 (a0 : Nat) (x1 : Int32) (x2 : Int32) (h : AH) : Option (Int32 × AH) :=
  if (tg h a0).1 = 8 then ((p_X9_freeOne a0 h).bind fun q101 =>
  if (tg q101.2 a0).1 = 8 then (if inB q101.2 (rR q101.2 a0 16) 100 ((243 : Int32)) then (if inB q101.2 (rR q101.2 a0 16) 100 ((243 : Int32)) then (let h102 := wI q101.2 (rR q101.2 a0 16) ((243 : Int32)).toNatClampNeg ((rI q101.2 (rR q101.2 a0 16) ((243 : Int32)).toNatClampNeg) + ((1 : Int32)))
  if (tg h102 a0).1 = 8 then (if inB h102 (rR h102 a0 16) 100 (((147 : Int32)) + q101.1) then (let h103 := wI h102 (rR h102 a0 16) (((147 : Int32)) + q101.1).toNatClampNeg x1
  if (tg h103 a0).1 = 8 then (if inB h103 (rR h103 a0 16) 100 (((155 : Int32)) + q101.1) then (let h104 := wI h103 (rR h103 a0 16) (((155 : Int32)) + q101.1).toNatClampNeg x2
  if (tg h104 a0).1 = 8 then (if (tg h104 a0).1 = 8 then (if inB h104 (rR h104 a0 16) 100 ((243 : Int32)) then (if inB h104 (rR h104 a0 16) 100 (((163 : Int32)) + q101.1) then (let h105 := wI h104 (rR h104 a0 16) (((163 : Int32)) + q101.1).toNatClampNeg (rI h104 (rR h104 a0 16) ((243 : Int32)).toNatClampNeg)
  if x1 = ((2 : Int32)) then (p_X9_needsTable_102 q101.1 h105)
  else
  if (tg h105 a0).1 = 8 then ((p_X9_losesW a0 x2 h105).bind fun q106 =>
  p_X9_needsTable_102 q101.1 q106.2) else none) else none) else none) else none) else none) else none) else none) else none) else none) else none) else none) else none) else none
set_option maxRecDepth 100000 in
theorem e_X9_needsTable_30 {l : Launch} {D : va_G} {dA : Nat → ClassId} {z : Nat} {sa : Nat → Nat} {Hz : Heap} (E : StrOK qLen qCh l D dA z sa Hz) {h0 fin : AH} {x : Int32}  : ∀ (a0 : Nat) (x1 : Int32) (x2 : Int32) (h : AH), p_X9_needsTable_30 a0 x1 x2 h = some (x, fin) → GM l D dA z sa Hz q_X9_needsTable h0 (some (.int x)) fin 30 [(0, .ref a0), (1, .int x1), (2, .int x2)] [] h := by
  intro a0 x1 x2 h hd
  exact step E (is := I_X9_needsTable_30) (pc := 30) (K := (kx 102 (fun la st h => gI la 4 fun x4 => sE st (p_X9_needsTable_102 x4 h)) k0)) (FI := FI_X9_needsTable) (FV := FV_X9_needsTable) (FL := fL0) (rt := rtI) (ft := 102) (by exact hd) ok_X9_needsTable_30 (kx_ok (fun la st h e => by obtain ⟨x4, m_x4, e1⟩ := gI_inv e; obtain ⟨rfl, ez⟩ := sE_inv e1; exact gm_fewer (e_X9_needsTable_102 E  x4 h ez) (mem_cons m_x4 mem_nil)) k0_ok) (FI_X9_needsTable_ok E) (FV_X9_needsTable_ok E) (fL0_ok E) (rtI_ok rfl)
def I_X9_needsTable_14 : List AI := [(.aload_n 0, 1, [], 0), (.invokevirtual 353, 3, [1, 286, 1, 8, 1899], 0), (.iconst (-1), 1, [], (-1)), (.if_icmp .ne 11, 3, [30], 0), (.aload_n 0, 1, [], 0), (.aload_n 0, 1, [], 0), (.invokevirtual 356, 3, [1, 287, 1, 8, 1903], 0), (.invokevirtual 359, 3, [2, 290, 2, 8, 1931], 0)]
theorem ok_X9_needsTable_14 : vBL MT qLen qCh false q_X9_needsTable.2.2.2.2.1 q_X9_needsTable.2.2.2.2.2.1 q_X9_needsTable.2.2.1 q_X9_needsTable.1.cls q_X9_needsTable.1.name q_X9_needsTable.2.1 30 14 I_X9_needsTable_14 = true := by decide +kernel
def p_X9_needsTable_14 (a0 : Nat) (x1 : Int32) (x2 : Int32) (h : AH) : Option (Int32 × AH) :=
  if (tg h a0).1 = 8 then ((p_X9_freeOne a0 h).bind fun q107 =>
  if q107.1 = ((-1 : Int32)) then (if (tg q107.2 a0).1 = 8 then ((p_X9_longestAgo a0 q107.2).bind fun q108 =>
  if (tg q108.2 a0).1 = 8 then ((p_X9_dropped a0 q108.1 q108.2).bind fun h109 =>
  p_X9_needsTable_30 a0 x1 x2 h109) else none) else none)
  else
  p_X9_needsTable_30 a0 x1 x2 q107.2) else none
set_option maxRecDepth 100000 in
theorem e_X9_needsTable_14 {l : Launch} {D : va_G} {dA : Nat → ClassId} {z : Nat} {sa : Nat → Nat} {Hz : Heap} (E : StrOK qLen qCh l D dA z sa Hz) {h0 fin : AH} {x : Int32}  : ∀ (a0 : Nat) (x1 : Int32) (x2 : Int32) (h : AH), p_X9_needsTable_14 a0 x1 x2 h = some (x, fin) → GM l D dA z sa Hz q_X9_needsTable h0 (some (.int x)) fin 14 [(0, .ref a0), (1, .int x1), (2, .int x2)] [] h := by
  intro a0 x1 x2 h hd
  exact step E (is := I_X9_needsTable_14) (pc := 14) (K := (kx 30 (fun la st h => gR la 0 fun a0 => gI la 1 fun x1 => gI la 2 fun x2 => sE st (p_X9_needsTable_30 a0 x1 x2 h)) k0)) (FI := FI_X9_needsTable) (FV := FV_X9_needsTable) (FL := fL0) (rt := rtI) (ft := 30) (by exact hd) ok_X9_needsTable_14 (kx_ok (fun la st h e => by obtain ⟨a0, m_a0, e1⟩ := gR_inv e; obtain ⟨x1, m_x1, e2⟩ := gI_inv e1; obtain ⟨x2, m_x2, e3⟩ := gI_inv e2; obtain ⟨rfl, ez⟩ := sE_inv e3; exact gm_fewer (e_X9_needsTable_30 E  a0 x1 x2 h ez) (mem_cons m_a0 (mem_cons m_x1 (mem_cons m_x2 mem_nil)))) k0_ok) (FI_X9_needsTable_ok E) (FV_X9_needsTable_ok E) (fL0_ok E) (rtI_ok rfl)
def I_X9_needsTable_0 : List AI := [(.aload_n 0, 1, [], 0), (.iload_n 1, 1, [], 0), (.iload_n 2, 1, [], 0), (.invokevirtual 347, 3, [1, 265, 3, 8, 1819], 0), (.istore_n 3, 1, [], 0), (.iload_n 3, 1, [], 0), (.iconst (-1), 1, [], (-1)), (.if_icmp .eq 5, 3, [14], 0), (.iload_n 3, 1, [], 0), (.ireturn, 1, [], 0)]
theorem ok_X9_needsTable_0 : vBL MT qLen qCh false q_X9_needsTable.2.2.2.2.1 q_X9_needsTable.2.2.2.2.2.1 q_X9_needsTable.2.2.1 q_X9_needsTable.1.cls q_X9_needsTable.1.name q_X9_needsTable.2.1 0 0 I_X9_needsTable_0 = true := by decide +kernel
def p_X9_needsTable (a0 : Nat) (x1 : Int32) (x2 : Int32) (h : AH) : Option (Int32 × AH) :=
  if (tg h a0).1 = 8 then ((p_X9_tableOf a0 x1 x2 h).bind fun q110 =>
  if q110.1 = ((-1 : Int32)) then (if (tg q110.2 a0).1 = 8 then ((p_X9_freeOne a0 q110.2).bind fun q111 =>
  if q111.1 = ((-1 : Int32)) then (if (tg q111.2 a0).1 = 8 then ((p_X9_longestAgo a0 q111.2).bind fun q112 =>
  if (tg q112.2 a0).1 = 8 then ((p_X9_dropped a0 q112.1 q112.2).bind fun h113 =>
  p_X9_needsTable_30 a0 x1 x2 h113) else none) else none)
  else
  p_X9_needsTable_30 a0 x1 x2 q111.2) else none)
  else
  some (q110.1, q110.2)) else none
set_option maxRecDepth 100000 in
theorem e_X9_needsTable_0 {l : Launch} {D : va_G} {dA : Nat → ClassId} {z : Nat} {sa : Nat → Nat} {Hz : Heap} (E : StrOK qLen qCh l D dA z sa Hz) {h0 fin : AH} {x : Int32}  : ∀ (a0 : Nat) (x1 : Int32) (x2 : Int32) (h : AH), p_X9_needsTable a0 x1 x2 h = some (x, fin) → GM l D dA z sa Hz q_X9_needsTable h0 (some (.int x)) fin 0 [(0, .ref a0), (1, .int x1), (2, .int x2)] [] h := by
  intro a0 x1 x2 h hd
  exact step E (is := I_X9_needsTable_0) (pc := 0) (K := (kx 14 (fun la st h => gR la 0 fun a0 => gI la 1 fun x1 => gI la 2 fun x2 => sE st (p_X9_needsTable_14 a0 x1 x2 h)) k0)) (FI := FI_X9_needsTable) (FV := FV_X9_needsTable) (FL := fL0) (rt := rtI) (ft := 0) (by exact hd) ok_X9_needsTable_0 (kx_ok (fun la st h e => by obtain ⟨a0, m_a0, e1⟩ := gR_inv e; obtain ⟨x1, m_x1, e2⟩ := gI_inv e1; obtain ⟨x2, m_x2, e3⟩ := gI_inv e2; obtain ⟨rfl, ez⟩ := sE_inv e3; exact gm_fewer (e_X9_needsTable_14 E  a0 x1 x2 h ez) (mem_cons m_a0 (mem_cons m_x1 (mem_cons m_x2 mem_nil)))) k0_ok) (FI_X9_needsTable_ok E) (FV_X9_needsTable_ok E) (fL0_ok E) (rtI_ok rfl)
theorem c_X9_needsTable {l : Launch} {D : va_G} {dA : Nat → ClassId} {z : Nat} {sa : Nat → Nat} {Hz : Heap} (E : StrOK qLen qCh l D dA z sa Hz) {a0 : Nat} {x1 : Int32} {x2 : Int32} {h fin : AH} {x : Int32} (hd : p_X9_needsTable a0 x1 x2 h = some (x, fin)) : CalOK l D dA z sa Hz q_X9_needsTable [.ref a0, .int x1, .int x2] h (some (.int x)) fin := calOf (by decide +kernel) (Nat.le_of_ble_eq_true rfl) (e_X9_needsTable_0 E a0 x1 x2 h hd)
def FI_X9_filled : Nat → List Value → AH → Option (Int32 × AH) := (cx 257 (fun As h => sR As fun a0 As => sI As fun x1 As => sE As (p_X9_leadsTo a0 x1 h)) (cx 253 (fun As h => sI As fun x0 As => sE As (p_X9_isLarge x0 h)) (cx 254 (fun As h => sI As fun x0 As => sE As (p_X9_tells x0 h)) (cx 292 (fun As h => sR As fun a0 As => sI As fun x1 As => sI As fun x2 As => sE As (p_X9_needsTable a0 x1 x2 h)) (cx 256 (fun As h => sI As fun x0 As => sI As fun x1 As => sE As (p_X9_largeFrame x0 x1 h)) (cx 247 (fun As h => sI As fun x0 As => sI As fun x1 As => sE As (p_X9_has x0 x1 h)) (cx 243 (fun As h => sR As fun a0 As => sI As fun x1 As => sE As (p_X9_isRw a0 x1 h)) (cx 228 (fun As h => sI As fun x0 As => sI As fun x1 As => sE As (p_X9_bit x0 x1 h)) (cx 283 (fun As h => sR As fun a0 As => sI As fun x1 As => sE As (p_X9_isWatched a0 x1 h)) fI0)))))))))
theorem FI_X9_filled_ok {l : Launch} {D : va_G} {dA : Nat → ClassId} {z : Nat} {sa : Nat → Nat} {Hz : Heap} (E : StrOK qLen qCh l D dA z sa Hz) : ∀ mi As h x h', FI_X9_filled mi As h = some (x, h') → CalOK l D dA z sa Hz (MT mi) As h (some (.int x)) h' := (cxI_ok (fun As h x h2 e => by obtain ⟨_, _, rfl, e0⟩ := sR_inv e; obtain ⟨_, _, rfl, e1⟩ := sI_inv e0; obtain ⟨rfl, ez⟩ := sE_inv e1; exact c_X9_leadsTo E ez) ((cxI_ok (fun As h x h2 e => by obtain ⟨_, _, rfl, e0⟩ := sI_inv e; obtain ⟨rfl, ez⟩ := sE_inv e0; exact c_X9_isLarge E ez) ((cxI_ok (fun As h x h2 e => by obtain ⟨_, _, rfl, e0⟩ := sI_inv e; obtain ⟨rfl, ez⟩ := sE_inv e0; exact c_X9_tells E ez) ((cxI_ok (fun As h x h2 e => by obtain ⟨_, _, rfl, e0⟩ := sR_inv e; obtain ⟨_, _, rfl, e1⟩ := sI_inv e0; obtain ⟨_, _, rfl, e2⟩ := sI_inv e1; obtain ⟨rfl, ez⟩ := sE_inv e2; exact c_X9_needsTable E ez) ((cxI_ok (fun As h x h2 e => by obtain ⟨_, _, rfl, e0⟩ := sI_inv e; obtain ⟨_, _, rfl, e1⟩ := sI_inv e0; obtain ⟨rfl, ez⟩ := sE_inv e1; exact c_X9_largeFrame E ez) ((cxI_ok (fun As h x h2 e => by obtain ⟨_, _, rfl, e0⟩ := sI_inv e; obtain ⟨_, _, rfl, e1⟩ := sI_inv e0; obtain ⟨rfl, ez⟩ := sE_inv e1; exact c_X9_has E ez) ((cxI_ok (fun As h x h2 e => by obtain ⟨_, _, rfl, e0⟩ := sR_inv e; obtain ⟨_, _, rfl, e1⟩ := sI_inv e0; obtain ⟨rfl, ez⟩ := sE_inv e1; exact c_X9_isRw E ez) ((cxI_ok (fun As h x h2 e => by obtain ⟨_, _, rfl, e0⟩ := sI_inv e; obtain ⟨_, _, rfl, e1⟩ := sI_inv e0; obtain ⟨rfl, ez⟩ := sE_inv e1; exact c_X9_bit E ez) ((cxI_ok (fun As h x h2 e => by obtain ⟨_, _, rfl, e0⟩ := sR_inv e; obtain ⟨_, _, rfl, e1⟩ := sI_inv e0; obtain ⟨rfl, ez⟩ := sE_inv e1; exact c_X9_isWatched E ez) (fI0_ok E))))))))))))))))))
def I_X9_filled_372 : List AI := [(.iadd, 1, [], 0), (.iastore, 1, [], 0), (.return_, 1, [], 0)]
theorem ok_X9_filled_372 : vBL MT qLen qCh false q_X9_filled.2.2.2.2.1 q_X9_filled.2.2.2.2.2.1 q_X9_filled.2.2.1 q_X9_filled.1.cls q_X9_filled.1.name q_X9_filled.2.1 0 372 I_X9_filled_372 = true := by decide +kernel
def p_X9_filled_372 (y0 : Int32) (y1 : Int32) (y2 : Int32) (b3 : Nat) (h : AH) : Option (AH) :=
  if inB h b3 100 y2 then (let h101 := wI h b3 y2.toNatClampNeg (y1 + y0)
  some h101) else none
set_option maxRecDepth 100000 in
theorem e_X9_filled_372 {l : Launch} {D : va_G} {dA : Nat → ClassId} {z : Nat} {sa : Nat → Nat} {Hz : Heap} (E : StrOK qLen qCh l D dA z sa Hz) {h0 fin : AH}  : ∀ (y0 : Int32) (y1 : Int32) (y2 : Int32) (b3 : Nat) (h : AH), p_X9_filled_372 y0 y1 y2 b3 h = some fin → GM l D dA z sa Hz q_X9_filled h0 none fin 372 [] [.int y0, .int y1, .int y2, .ref b3] h := by
  intro y0 y1 y2 b3 h hd
  exact step E (is := I_X9_filled_372) (pc := 372) (K := k0) (FI := FI_X9_filled) (FV := fV0) (FL := fL0) (rt := rtV) (ft := 0) (by exact hd) ok_X9_filled_372 k0_ok (FI_X9_filled_ok E) (fV0_ok E) (fL0_ok E) (rtV_ok rfl)
def I_X9_filled_367 : List AI := [(.iconst 1, 1, [], 1), (.goto 4, 3, [372], 0)]
theorem ok_X9_filled_367 : vBL MT qLen qCh false q_X9_filled.2.2.2.2.1 q_X9_filled.2.2.2.2.2.1 q_X9_filled.2.2.1 q_X9_filled.1.cls q_X9_filled.1.name q_X9_filled.2.1 0 367 I_X9_filled_367 = true := by decide +kernel
def p_X9_filled_367 (y0 : Int32) (y1 : Int32) (b2 : Nat) (h : AH) : Option (AH) :=
  p_X9_filled_372 ((1 : Int32)) y0 y1 b2 h
set_option maxRecDepth 100000 in
theorem e_X9_filled_367 {l : Launch} {D : va_G} {dA : Nat → ClassId} {z : Nat} {sa : Nat → Nat} {Hz : Heap} (E : StrOK qLen qCh l D dA z sa Hz) {h0 fin : AH}  : ∀ (y0 : Int32) (y1 : Int32) (b2 : Nat) (h : AH), p_X9_filled_367 y0 y1 b2 h = some fin → GM l D dA z sa Hz q_X9_filled h0 none fin 367 [] [.int y0, .int y1, .ref b2] h := by
  intro y0 y1 b2 h hd
  exact step E (is := I_X9_filled_367) (pc := 367) (K := (kx 372 (fun la st h => sI st fun y0 st => sI st fun y1 st => sI st fun y2 st => sR st fun b3 st => sE st (p_X9_filled_372 y0 y1 y2 b3 h)) k0)) (FI := FI_X9_filled) (FV := fV0) (FL := fL0) (rt := rtV) (ft := 0) (by exact hd) ok_X9_filled_367 (kx_ok (fun la st h e => by obtain ⟨y0, _, rfl, e1⟩ := sI_inv e; obtain ⟨y1, _, rfl, e2⟩ := sI_inv e1; obtain ⟨y2, _, rfl, e3⟩ := sI_inv e2; obtain ⟨b3, _, rfl, e4⟩ := sR_inv e3; obtain ⟨rfl, ez⟩ := sE_inv e4; exact gm_fewer (e_X9_filled_372 E  y0 y1 y2 b3 h ez) mem_nil) k0_ok) (FI_X9_filled_ok E) (fV0_ok E) (fL0_ok E) (rtV_ok rfl)
def I_X9_filled_371 : List AI := [(.iconst 0, 1, [], 0)]
theorem ok_X9_filled_371 : vBL MT qLen qCh false q_X9_filled.2.2.2.2.1 q_X9_filled.2.2.2.2.2.1 q_X9_filled.2.2.1 q_X9_filled.1.cls q_X9_filled.1.name q_X9_filled.2.1 372 371 I_X9_filled_371 = true := by decide +kernel
def p_X9_filled_371 (y0 : Int32) (y1 : Int32) (b2 : Nat) (h : AH) : Option (AH) :=
  p_X9_filled_372 ((0 : Int32)) y0 y1 b2 h
set_option maxRecDepth 100000 in
theorem e_X9_filled_371 {l : Launch} {D : va_G} {dA : Nat → ClassId} {z : Nat} {sa : Nat → Nat} {Hz : Heap} (E : StrOK qLen qCh l D dA z sa Hz) {h0 fin : AH}  : ∀ (y0 : Int32) (y1 : Int32) (b2 : Nat) (h : AH), p_X9_filled_371 y0 y1 b2 h = some fin → GM l D dA z sa Hz q_X9_filled h0 none fin 371 [] [.int y0, .int y1, .ref b2] h := by
  intro y0 y1 b2 h hd
  exact step E (is := I_X9_filled_371) (pc := 371) (K := (kx 372 (fun la st h => sI st fun y0 st => sI st fun y1 st => sI st fun y2 st => sR st fun b3 st => sE st (p_X9_filled_372 y0 y1 y2 b3 h)) k0)) (FI := FI_X9_filled) (FV := fV0) (FL := fL0) (rt := rtV) (ft := 372) (by exact hd) ok_X9_filled_371 (kx_ok (fun la st h e => by obtain ⟨y0, _, rfl, e1⟩ := sI_inv e; obtain ⟨y1, _, rfl, e2⟩ := sI_inv e1; obtain ⟨y2, _, rfl, e3⟩ := sI_inv e2; obtain ⟨b3, _, rfl, e4⟩ := sR_inv e3; obtain ⟨rfl, ez⟩ := sE_inv e4; exact gm_fewer (e_X9_filled_372 E  y0 y1 y2 b3 h ez) mem_nil) k0_ok) (FI_X9_filled_ok E) (fV0_ok E) (fL0_ok E) (rtV_ok rfl)
def I_X9_filled_347 : List AI := [(.iadd, 1, [], 0), (.iload 5, 2, [], 0), (.ifCond .ne 17, 3, [367], 0), (.aload_n 0, 1, [], 0), (.getfield 21, 3, [8, 16, 2, 1361], 0), (.iload 6, 2, [], 0), (.iaload, 1, [], 0), (.iconst 4, 1, [], 4), (.invokestatic 316, 3, [1, 247, 2, 1749], 0), (.ifCond .eq 7, 3, [371], 0)]
theorem ok_X9_filled_347 : vBL MT qLen qCh false q_X9_filled.2.2.2.2.1 q_X9_filled.2.2.2.2.2.1 q_X9_filled.2.2.1 q_X9_filled.1.cls q_X9_filled.1.name q_X9_filled.2.1 367 347 I_X9_filled_347 = true := by decide +kernel
def p_X9_filled_347 (a0 : Nat) (x5 : Int32) (x6 : Int32) (y0 : Int32) (y1 : Int32) (y2 : Int32) (b3 : Nat) (h : AH) : Option (AH) :=
  if x5 = 0 then (if (tg h a0).1 = 8 then (if inB h (rR h a0 16) 100 x6 then ((p_X9_has (rI h (rR h a0 16) x6.toNatClampNeg) ((4 : Int32)) h).bind fun q102 =>
  if q102.1 = 0 then (p_X9_filled_372 ((0 : Int32)) (y1 + y0) y2 b3 q102.2)
  else
  p_X9_filled_367 (y1 + y0) y2 b3 q102.2) else none) else none)
  else
  p_X9_filled_367 (y1 + y0) y2 b3 h
set_option maxRecDepth 100000 in
theorem e_X9_filled_347 {l : Launch} {D : va_G} {dA : Nat → ClassId} {z : Nat} {sa : Nat → Nat} {Hz : Heap} (E : StrOK qLen qCh l D dA z sa Hz) {h0 fin : AH}  : ∀ (a0 : Nat) (x5 : Int32) (x6 : Int32) (y0 : Int32) (y1 : Int32) (y2 : Int32) (b3 : Nat) (h : AH), p_X9_filled_347 a0 x5 x6 y0 y1 y2 b3 h = some fin → GM l D dA z sa Hz q_X9_filled h0 none fin 347 [(0, .ref a0), (5, .int x5), (6, .int x6)] [.int y0, .int y1, .int y2, .ref b3] h := by
  intro a0 x5 x6 y0 y1 y2 b3 h hd
  exact step E (is := I_X9_filled_347) (pc := 347) (K := (kx 367 (fun la st h => sI st fun y0 st => sI st fun y1 st => sR st fun b2 st => sE st (p_X9_filled_367 y0 y1 b2 h)) (kx 371 (fun la st h => sI st fun y0 st => sI st fun y1 st => sR st fun b2 st => sE st (p_X9_filled_371 y0 y1 b2 h)) k0))) (FI := FI_X9_filled) (FV := fV0) (FL := fL0) (rt := rtV) (ft := 367) (by exact hd) ok_X9_filled_347 (kx_ok (fun la st h e => by obtain ⟨y0, _, rfl, e1⟩ := sI_inv e; obtain ⟨y1, _, rfl, e2⟩ := sI_inv e1; obtain ⟨b2, _, rfl, e3⟩ := sR_inv e2; obtain ⟨rfl, ez⟩ := sE_inv e3; exact gm_fewer (e_X9_filled_367 E  y0 y1 b2 h ez) mem_nil) (kx_ok (fun la st h e => by obtain ⟨y0, _, rfl, e1⟩ := sI_inv e; obtain ⟨y1, _, rfl, e2⟩ := sI_inv e1; obtain ⟨b2, _, rfl, e3⟩ := sR_inv e2; obtain ⟨rfl, ez⟩ := sE_inv e3; exact gm_fewer (e_X9_filled_371 E  y0 y1 b2 h ez) mem_nil) k0_ok)) (FI_X9_filled_ok E) (fV0_ok E) (fL0_ok E) (rtV_ok rfl)
def I_X9_filled_346 : List AI := [(.iconst 0, 1, [], 0)]
theorem ok_X9_filled_346 : vBL MT qLen qCh false q_X9_filled.2.2.2.2.1 q_X9_filled.2.2.2.2.2.1 q_X9_filled.2.2.1 q_X9_filled.1.cls q_X9_filled.1.name q_X9_filled.2.1 347 346 I_X9_filled_346 = true := by decide +kernel
def p_X9_filled_346 (a0 : Nat) (x5 : Int32) (x6 : Int32) (y0 : Int32) (y1 : Int32) (b2 : Nat) (h : AH) : Option (AH) :=
  p_X9_filled_347 a0 x5 x6 ((0 : Int32)) y0 y1 b2 h
set_option maxRecDepth 100000 in
theorem e_X9_filled_346 {l : Launch} {D : va_G} {dA : Nat → ClassId} {z : Nat} {sa : Nat → Nat} {Hz : Heap} (E : StrOK qLen qCh l D dA z sa Hz) {h0 fin : AH}  : ∀ (a0 : Nat) (x5 : Int32) (x6 : Int32) (y0 : Int32) (y1 : Int32) (b2 : Nat) (h : AH), p_X9_filled_346 a0 x5 x6 y0 y1 b2 h = some fin → GM l D dA z sa Hz q_X9_filled h0 none fin 346 [(0, .ref a0), (5, .int x5), (6, .int x6)] [.int y0, .int y1, .ref b2] h := by
  intro a0 x5 x6 y0 y1 b2 h hd
  exact step E (is := I_X9_filled_346) (pc := 346) (K := (kx 347 (fun la st h => gR la 0 fun a0 => gI la 5 fun x5 => gI la 6 fun x6 => sI st fun y0 st => sI st fun y1 st => sI st fun y2 st => sR st fun b3 st => sE st (p_X9_filled_347 a0 x5 x6 y0 y1 y2 b3 h)) k0)) (FI := FI_X9_filled) (FV := fV0) (FL := fL0) (rt := rtV) (ft := 347) (by exact hd) ok_X9_filled_346 (kx_ok (fun la st h e => by obtain ⟨a0, m_a0, e1⟩ := gR_inv e; obtain ⟨x5, m_x5, e2⟩ := gI_inv e1; obtain ⟨x6, m_x6, e3⟩ := gI_inv e2; obtain ⟨y0, _, rfl, e4⟩ := sI_inv e3; obtain ⟨y1, _, rfl, e5⟩ := sI_inv e4; obtain ⟨y2, _, rfl, e6⟩ := sI_inv e5; obtain ⟨b3, _, rfl, e7⟩ := sR_inv e6; obtain ⟨rfl, ez⟩ := sE_inv e7; exact gm_fewer (e_X9_filled_347 E  a0 x5 x6 y0 y1 y2 b3 h ez) (mem_cons m_a0 (mem_cons m_x5 (mem_cons m_x6 mem_nil)))) k0_ok) (FI_X9_filled_ok E) (fV0_ok E) (fL0_ok E) (rtV_ok rfl)
def I_X9_filled_306 : List AI := [(.istore 10, 2, [], 0), (.aload_n 0, 1, [], 0), (.sipush 179, 3, [], 179), (.bipush 8, 2, [], 8), (.iload 8, 2, [], 0), (.imul, 1, [], 0), (.iadd, 1, [], 0), (.iload_n 1, 1, [], 0), (.bipush 8, 2, [], 8), (.irem, 1, [], 0), (.iadd, 1, [], 0), (.putfield 369, 3, [8, 30, 0, 1375], 0), (.aload_n 0, 1, [], 0), (.getfield 21, 3, [8, 16, 2, 1361], 0), (.aload_n 0, 1, [], 0), (.getfield 369, 3, [8, 30, 0, 1375], 0), (.iconst 4, 1, [], 4), (.iload_n 3, 1, [], 0), (.imul, 1, [], 0), (.iload 10, 2, [], 0), (.ifCond .eq 7, 3, [346], 0), (.iconst 2, 1, [], 2), (.goto 4, 3, [347], 0)]
theorem ok_X9_filled_306 : vBL MT qLen qCh false q_X9_filled.2.2.2.2.1 q_X9_filled.2.2.2.2.2.1 q_X9_filled.2.2.1 q_X9_filled.1.cls q_X9_filled.1.name q_X9_filled.2.1 0 306 I_X9_filled_306 = true := by decide +kernel
def p_X9_filled_306 (a0 : Nat) (x1 : Int32) (x3 : Int32) (x5 : Int32) (x6 : Int32) (x8 : Int32) (y0 : Int32) (h : AH) : Option (AH) :=
  if ((8 : Int32)) = 0 then none else
  if (tg h a0).1 = 8 then (let h103 := wI h a0 30 ((((179 : Int32)) + (((8 : Int32)) * x8)) + (irm x1 ((8 : Int32))))
  if (tg h103 a0).1 = 8 then (if (tg h103 a0).1 = 8 then (if y0 = 0 then (p_X9_filled_347 a0 x5 x6 ((0 : Int32)) (((4 : Int32)) * x3) (rI h103 a0 30) (rR h103 a0 16) h103)
  else
  p_X9_filled_347 a0 x5 x6 ((2 : Int32)) (((4 : Int32)) * x3) (rI h103 a0 30) (rR h103 a0 16) h103) else none) else none) else none
set_option maxRecDepth 100000 in
theorem e_X9_filled_306 {l : Launch} {D : va_G} {dA : Nat → ClassId} {z : Nat} {sa : Nat → Nat} {Hz : Heap} (E : StrOK qLen qCh l D dA z sa Hz) {h0 fin : AH}  : ∀ (a0 : Nat) (x1 : Int32) (x3 : Int32) (x5 : Int32) (x6 : Int32) (x8 : Int32) (y0 : Int32) (h : AH), p_X9_filled_306 a0 x1 x3 x5 x6 x8 y0 h = some fin → GM l D dA z sa Hz q_X9_filled h0 none fin 306 [(0, .ref a0), (1, .int x1), (3, .int x3), (5, .int x5), (6, .int x6), (8, .int x8)] [.int y0] h := by
  intro a0 x1 x3 x5 x6 x8 y0 h hd
  exact step E (is := I_X9_filled_306) (pc := 306) (K := (kx 346 (fun la st h => gR la 0 fun a0 => gI la 5 fun x5 => gI la 6 fun x6 => sI st fun y0 st => sI st fun y1 st => sR st fun b2 st => sE st (p_X9_filled_346 a0 x5 x6 y0 y1 b2 h)) (kx 347 (fun la st h => gR la 0 fun a0 => gI la 5 fun x5 => gI la 6 fun x6 => sI st fun y0 st => sI st fun y1 st => sI st fun y2 st => sR st fun b3 st => sE st (p_X9_filled_347 a0 x5 x6 y0 y1 y2 b3 h)) k0))) (FI := FI_X9_filled) (FV := fV0) (FL := fL0) (rt := rtV) (ft := 0) (by exact hd) ok_X9_filled_306 (kx_ok (fun la st h e => by obtain ⟨a0, m_a0, e1⟩ := gR_inv e; obtain ⟨x5, m_x5, e2⟩ := gI_inv e1; obtain ⟨x6, m_x6, e3⟩ := gI_inv e2; obtain ⟨y0, _, rfl, e4⟩ := sI_inv e3; obtain ⟨y1, _, rfl, e5⟩ := sI_inv e4; obtain ⟨b2, _, rfl, e6⟩ := sR_inv e5; obtain ⟨rfl, ez⟩ := sE_inv e6; exact gm_fewer (e_X9_filled_346 E  a0 x5 x6 y0 y1 b2 h ez) (mem_cons m_a0 (mem_cons m_x5 (mem_cons m_x6 mem_nil)))) (kx_ok (fun la st h e => by obtain ⟨a0, m_a0, e1⟩ := gR_inv e; obtain ⟨x5, m_x5, e2⟩ := gI_inv e1; obtain ⟨x6, m_x6, e3⟩ := gI_inv e2; obtain ⟨y0, _, rfl, e4⟩ := sI_inv e3; obtain ⟨y1, _, rfl, e5⟩ := sI_inv e4; obtain ⟨y2, _, rfl, e6⟩ := sI_inv e5; obtain ⟨b3, _, rfl, e7⟩ := sR_inv e6; obtain ⟨rfl, ez⟩ := sE_inv e7; exact gm_fewer (e_X9_filled_347 E  a0 x5 x6 y0 y1 y2 b3 h ez) (mem_cons m_a0 (mem_cons m_x5 (mem_cons m_x6 mem_nil)))) k0_ok)) (FI_X9_filled_ok E) (fV0_ok E) (fL0_ok E) (rtV_ok rfl)
def I_X9_filled_305 : List AI := [(.iconst 0, 1, [], 0)]
theorem ok_X9_filled_305 : vBL MT qLen qCh false q_X9_filled.2.2.2.2.1 q_X9_filled.2.2.2.2.2.1 q_X9_filled.2.2.1 q_X9_filled.1.cls q_X9_filled.1.name q_X9_filled.2.1 306 305 I_X9_filled_305 = true := by decide +kernel
def p_X9_filled_305 (a0 : Nat) (x1 : Int32) (x3 : Int32) (x5 : Int32) (x6 : Int32) (x8 : Int32) (h : AH) : Option (AH) :=
  p_X9_filled_306 a0 x1 x3 x5 x6 x8 ((0 : Int32)) h
set_option maxRecDepth 100000 in
theorem e_X9_filled_305 {l : Launch} {D : va_G} {dA : Nat → ClassId} {z : Nat} {sa : Nat → Nat} {Hz : Heap} (E : StrOK qLen qCh l D dA z sa Hz) {h0 fin : AH}  : ∀ (a0 : Nat) (x1 : Int32) (x3 : Int32) (x5 : Int32) (x6 : Int32) (x8 : Int32) (h : AH), p_X9_filled_305 a0 x1 x3 x5 x6 x8 h = some fin → GM l D dA z sa Hz q_X9_filled h0 none fin 305 [(0, .ref a0), (1, .int x1), (3, .int x3), (5, .int x5), (6, .int x6), (8, .int x8)] [] h := by
  intro a0 x1 x3 x5 x6 x8 h hd
  exact step E (is := I_X9_filled_305) (pc := 305) (K := (kx 306 (fun la st h => gR la 0 fun a0 => gI la 1 fun x1 => gI la 3 fun x3 => gI la 5 fun x5 => gI la 6 fun x6 => gI la 8 fun x8 => sI st fun y0 st => sE st (p_X9_filled_306 a0 x1 x3 x5 x6 x8 y0 h)) k0)) (FI := FI_X9_filled) (FV := fV0) (FL := fL0) (rt := rtV) (ft := 306) (by exact hd) ok_X9_filled_305 (kx_ok (fun la st h e => by obtain ⟨a0, m_a0, e1⟩ := gR_inv e; obtain ⟨x1, m_x1, e2⟩ := gI_inv e1; obtain ⟨x3, m_x3, e3⟩ := gI_inv e2; obtain ⟨x5, m_x5, e4⟩ := gI_inv e3; obtain ⟨x6, m_x6, e5⟩ := gI_inv e4; obtain ⟨x8, m_x8, e6⟩ := gI_inv e5; obtain ⟨y0, _, rfl, e7⟩ := sI_inv e6; obtain ⟨rfl, ez⟩ := sE_inv e7; exact gm_fewer (e_X9_filled_306 E  a0 x1 x3 x5 x6 x8 y0 h ez) (mem_cons m_a0 (mem_cons m_x1 (mem_cons m_x3 (mem_cons m_x5 (mem_cons m_x6 (mem_cons m_x8 mem_nil))))))) k0_ok) (FI_X9_filled_ok E) (fV0_ok E) (fL0_ok E) (rtV_ok rfl)
def I_X9_filled_270 : List AI := [(.aload_n 0, 1, [], 0), (.iload_n 3, 1, [], 0), (.invokevirtual 341, 3, [1, 243, 2, 8, 1733], 0), (.ifCond .eq 30, 3, [305], 0), (.aload_n 0, 1, [], 0), (.getfield 21, 3, [8, 16, 2, 1361], 0), (.sipush 145, 3, [], 145), (.iaload, 1, [], 0), (.iload_n 3, 1, [], 0), (.invokestatic 307, 3, [1, 228, 2, 1679], 0), (.ifCond .eq 15, 3, [305], 0), (.aload_n 0, 1, [], 0), (.iload_n 3, 1, [], 0), (.invokevirtual 386, 3, [1, 283, 2, 8, 1887], 0), (.ifCond .ne 7, 3, [305], 0), (.iconst 1, 1, [], 1), (.goto 4, 3, [306], 0)]
theorem ok_X9_filled_270 : vBL MT qLen qCh false q_X9_filled.2.2.2.2.1 q_X9_filled.2.2.2.2.2.1 q_X9_filled.2.2.1 q_X9_filled.1.cls q_X9_filled.1.name q_X9_filled.2.1 0 270 I_X9_filled_270 = true := by decide +kernel
def p_X9_filled_270 (a0 : Nat) (x1 : Int32) (x3 : Int32) (x5 : Int32) (x6 : Int32) (x8 : Int32) (h : AH) : Option (AH) :=
  if (tg h a0).1 = 8 then ((p_X9_isRw a0 x3 h).bind fun q104 =>
  if q104.1 = 0 then (p_X9_filled_305 a0 x1 x3 x5 x6 x8 q104.2)
  else
  if (tg q104.2 a0).1 = 8 then (if inB q104.2 (rR q104.2 a0 16) 100 ((145 : Int32)) then ((p_X9_bit (rI q104.2 (rR q104.2 a0 16) ((145 : Int32)).toNatClampNeg) x3 q104.2).bind fun q105 =>
  if q105.1 = 0 then (p_X9_filled_305 a0 x1 x3 x5 x6 x8 q105.2)
  else
  if (tg q105.2 a0).1 = 8 then ((p_X9_isWatched a0 x3 q105.2).bind fun q106 =>
  if q106.1 = 0 then (p_X9_filled_306 a0 x1 x3 x5 x6 x8 ((1 : Int32)) q106.2)
  else
  p_X9_filled_305 a0 x1 x3 x5 x6 x8 q106.2) else none) else none) else none) else none
set_option maxRecDepth 100000 in
theorem e_X9_filled_270 {l : Launch} {D : va_G} {dA : Nat → ClassId} {z : Nat} {sa : Nat → Nat} {Hz : Heap} (E : StrOK qLen qCh l D dA z sa Hz) {h0 fin : AH}  : ∀ (a0 : Nat) (x1 : Int32) (x3 : Int32) (x5 : Int32) (x6 : Int32) (x8 : Int32) (h : AH), p_X9_filled_270 a0 x1 x3 x5 x6 x8 h = some fin → GM l D dA z sa Hz q_X9_filled h0 none fin 270 [(0, .ref a0), (1, .int x1), (3, .int x3), (5, .int x5), (6, .int x6), (8, .int x8)] [] h := by
  intro a0 x1 x3 x5 x6 x8 h hd
  exact step E (is := I_X9_filled_270) (pc := 270) (K := (kx 305 (fun la st h => gR la 0 fun a0 => gI la 1 fun x1 => gI la 3 fun x3 => gI la 5 fun x5 => gI la 6 fun x6 => gI la 8 fun x8 => sE st (p_X9_filled_305 a0 x1 x3 x5 x6 x8 h)) (kx 306 (fun la st h => gR la 0 fun a0 => gI la 1 fun x1 => gI la 3 fun x3 => gI la 5 fun x5 => gI la 6 fun x6 => gI la 8 fun x8 => sI st fun y0 st => sE st (p_X9_filled_306 a0 x1 x3 x5 x6 x8 y0 h)) k0))) (FI := FI_X9_filled) (FV := fV0) (FL := fL0) (rt := rtV) (ft := 0) (by exact hd) ok_X9_filled_270 (kx_ok (fun la st h e => by obtain ⟨a0, m_a0, e1⟩ := gR_inv e; obtain ⟨x1, m_x1, e2⟩ := gI_inv e1; obtain ⟨x3, m_x3, e3⟩ := gI_inv e2; obtain ⟨x5, m_x5, e4⟩ := gI_inv e3; obtain ⟨x6, m_x6, e5⟩ := gI_inv e4; obtain ⟨x8, m_x8, e6⟩ := gI_inv e5; obtain ⟨rfl, ez⟩ := sE_inv e6; exact gm_fewer (e_X9_filled_305 E  a0 x1 x3 x5 x6 x8 h ez) (mem_cons m_a0 (mem_cons m_x1 (mem_cons m_x3 (mem_cons m_x5 (mem_cons m_x6 (mem_cons m_x8 mem_nil))))))) (kx_ok (fun la st h e => by obtain ⟨a0, m_a0, e1⟩ := gR_inv e; obtain ⟨x1, m_x1, e2⟩ := gI_inv e1; obtain ⟨x3, m_x3, e3⟩ := gI_inv e2; obtain ⟨x5, m_x5, e4⟩ := gI_inv e3; obtain ⟨x6, m_x6, e5⟩ := gI_inv e4; obtain ⟨x8, m_x8, e6⟩ := gI_inv e5; obtain ⟨y0, _, rfl, e7⟩ := sI_inv e6; obtain ⟨rfl, ez⟩ := sE_inv e7; exact gm_fewer (e_X9_filled_306 E  a0 x1 x3 x5 x6 x8 y0 h ez) (mem_cons m_a0 (mem_cons m_x1 (mem_cons m_x3 (mem_cons m_x5 (mem_cons m_x6 (mem_cons m_x8 mem_nil))))))) k0_ok)) (FI_X9_filled_ok E) (fV0_ok E) (fL0_ok E) (rtV_ok rfl)
def I_X9_filled_248 : List AI := [(.iadd, 1, [], 0), (.iastore, 1, [], 0), (.iload 5, 2, [], 0), (.ifCond .ne 18, 3, [270], 0), (.aload_n 0, 1, [], 0), (.getfield 21, 3, [8, 16, 2, 1361], 0), (.iload 6, 2, [], 0), (.iaload, 1, [], 0), (.bipush 18, 2, [], 18), (.invokestatic 316, 3, [1, 247, 2, 1749], 0), (.ifCond .eq 38, 3, [305], 0)]
theorem ok_X9_filled_248 : vBL MT qLen qCh false q_X9_filled.2.2.2.2.1 q_X9_filled.2.2.2.2.2.1 q_X9_filled.2.2.1 q_X9_filled.1.cls q_X9_filled.1.name q_X9_filled.2.1 270 248 I_X9_filled_248 = true := by decide +kernel
def p_X9_filled_248 (a0 : Nat) (x1 : Int32) (x3 : Int32) (x5 : Int32) (x6 : Int32) (x8 : Int32) (y0 : Int32) (y1 : Int32) (y2 : Int32) (b3 : Nat) (h : AH) : Option (AH) :=
  if inB h b3 100 y2 then (let h107 := wI h b3 y2.toNatClampNeg (y1 + y0)
  if x5 = 0 then (if (tg h107 a0).1 = 8 then (if inB h107 (rR h107 a0 16) 100 x6 then ((p_X9_has (rI h107 (rR h107 a0 16) x6.toNatClampNeg) ((18 : Int32)) h107).bind fun q108 =>
  if q108.1 = 0 then (p_X9_filled_305 a0 x1 x3 x5 x6 x8 q108.2)
  else
  p_X9_filled_270 a0 x1 x3 x5 x6 x8 q108.2) else none) else none)
  else
  p_X9_filled_270 a0 x1 x3 x5 x6 x8 h107) else none
set_option maxRecDepth 100000 in
theorem e_X9_filled_248 {l : Launch} {D : va_G} {dA : Nat → ClassId} {z : Nat} {sa : Nat → Nat} {Hz : Heap} (E : StrOK qLen qCh l D dA z sa Hz) {h0 fin : AH}  : ∀ (a0 : Nat) (x1 : Int32) (x3 : Int32) (x5 : Int32) (x6 : Int32) (x8 : Int32) (y0 : Int32) (y1 : Int32) (y2 : Int32) (b3 : Nat) (h : AH), p_X9_filled_248 a0 x1 x3 x5 x6 x8 y0 y1 y2 b3 h = some fin → GM l D dA z sa Hz q_X9_filled h0 none fin 248 [(0, .ref a0), (1, .int x1), (3, .int x3), (5, .int x5), (6, .int x6), (8, .int x8)] [.int y0, .int y1, .int y2, .ref b3] h := by
  intro a0 x1 x3 x5 x6 x8 y0 y1 y2 b3 h hd
  exact step E (is := I_X9_filled_248) (pc := 248) (K := (kx 270 (fun la st h => gR la 0 fun a0 => gI la 1 fun x1 => gI la 3 fun x3 => gI la 5 fun x5 => gI la 6 fun x6 => gI la 8 fun x8 => sE st (p_X9_filled_270 a0 x1 x3 x5 x6 x8 h)) (kx 305 (fun la st h => gR la 0 fun a0 => gI la 1 fun x1 => gI la 3 fun x3 => gI la 5 fun x5 => gI la 6 fun x6 => gI la 8 fun x8 => sE st (p_X9_filled_305 a0 x1 x3 x5 x6 x8 h)) k0))) (FI := FI_X9_filled) (FV := fV0) (FL := fL0) (rt := rtV) (ft := 270) (by exact hd) ok_X9_filled_248 (kx_ok (fun la st h e => by obtain ⟨a0, m_a0, e1⟩ := gR_inv e; obtain ⟨x1, m_x1, e2⟩ := gI_inv e1; obtain ⟨x3, m_x3, e3⟩ := gI_inv e2; obtain ⟨x5, m_x5, e4⟩ := gI_inv e3; obtain ⟨x6, m_x6, e5⟩ := gI_inv e4; obtain ⟨x8, m_x8, e6⟩ := gI_inv e5; obtain ⟨rfl, ez⟩ := sE_inv e6; exact gm_fewer (e_X9_filled_270 E  a0 x1 x3 x5 x6 x8 h ez) (mem_cons m_a0 (mem_cons m_x1 (mem_cons m_x3 (mem_cons m_x5 (mem_cons m_x6 (mem_cons m_x8 mem_nil))))))) (kx_ok (fun la st h e => by obtain ⟨a0, m_a0, e1⟩ := gR_inv e; obtain ⟨x1, m_x1, e2⟩ := gI_inv e1; obtain ⟨x3, m_x3, e3⟩ := gI_inv e2; obtain ⟨x5, m_x5, e4⟩ := gI_inv e3; obtain ⟨x6, m_x6, e5⟩ := gI_inv e4; obtain ⟨x8, m_x8, e6⟩ := gI_inv e5; obtain ⟨rfl, ez⟩ := sE_inv e6; exact gm_fewer (e_X9_filled_305 E  a0 x1 x3 x5 x6 x8 h ez) (mem_cons m_a0 (mem_cons m_x1 (mem_cons m_x3 (mem_cons m_x5 (mem_cons m_x6 (mem_cons m_x8 mem_nil))))))) k0_ok)) (FI_X9_filled_ok E) (fV0_ok E) (fL0_ok E) (rtV_ok rfl)
def I_X9_filled_247 : List AI := [(.iconst 0, 1, [], 0)]
theorem ok_X9_filled_247 : vBL MT qLen qCh false q_X9_filled.2.2.2.2.1 q_X9_filled.2.2.2.2.2.1 q_X9_filled.2.2.1 q_X9_filled.1.cls q_X9_filled.1.name q_X9_filled.2.1 248 247 I_X9_filled_247 = true := by decide +kernel
def p_X9_filled_247 (a0 : Nat) (x1 : Int32) (x3 : Int32) (x5 : Int32) (x6 : Int32) (x8 : Int32) (y0 : Int32) (y1 : Int32) (b2 : Nat) (h : AH) : Option (AH) :=
  p_X9_filled_248 a0 x1 x3 x5 x6 x8 ((0 : Int32)) y0 y1 b2 h
set_option maxRecDepth 100000 in
theorem e_X9_filled_247 {l : Launch} {D : va_G} {dA : Nat → ClassId} {z : Nat} {sa : Nat → Nat} {Hz : Heap} (E : StrOK qLen qCh l D dA z sa Hz) {h0 fin : AH}  : ∀ (a0 : Nat) (x1 : Int32) (x3 : Int32) (x5 : Int32) (x6 : Int32) (x8 : Int32) (y0 : Int32) (y1 : Int32) (b2 : Nat) (h : AH), p_X9_filled_247 a0 x1 x3 x5 x6 x8 y0 y1 b2 h = some fin → GM l D dA z sa Hz q_X9_filled h0 none fin 247 [(0, .ref a0), (1, .int x1), (3, .int x3), (5, .int x5), (6, .int x6), (8, .int x8)] [.int y0, .int y1, .ref b2] h := by
  intro a0 x1 x3 x5 x6 x8 y0 y1 b2 h hd
  exact step E (is := I_X9_filled_247) (pc := 247) (K := (kx 248 (fun la st h => gR la 0 fun a0 => gI la 1 fun x1 => gI la 3 fun x3 => gI la 5 fun x5 => gI la 6 fun x6 => gI la 8 fun x8 => sI st fun y0 st => sI st fun y1 st => sI st fun y2 st => sR st fun b3 st => sE st (p_X9_filled_248 a0 x1 x3 x5 x6 x8 y0 y1 y2 b3 h)) k0)) (FI := FI_X9_filled) (FV := fV0) (FL := fL0) (rt := rtV) (ft := 248) (by exact hd) ok_X9_filled_247 (kx_ok (fun la st h e => by obtain ⟨a0, m_a0, e1⟩ := gR_inv e; obtain ⟨x1, m_x1, e2⟩ := gI_inv e1; obtain ⟨x3, m_x3, e3⟩ := gI_inv e2; obtain ⟨x5, m_x5, e4⟩ := gI_inv e3; obtain ⟨x6, m_x6, e5⟩ := gI_inv e4; obtain ⟨x8, m_x8, e6⟩ := gI_inv e5; obtain ⟨y0, _, rfl, e7⟩ := sI_inv e6; obtain ⟨y1, _, rfl, e8⟩ := sI_inv e7; obtain ⟨y2, _, rfl, e9⟩ := sI_inv e8; obtain ⟨b3, _, rfl, e10⟩ := sR_inv e9; obtain ⟨rfl, ez⟩ := sE_inv e10; exact gm_fewer (e_X9_filled_248 E  a0 x1 x3 x5 x6 x8 y0 y1 y2 b3 h ez) (mem_cons m_a0 (mem_cons m_x1 (mem_cons m_x3 (mem_cons m_x5 (mem_cons m_x6 (mem_cons m_x8 mem_nil))))))) k0_ok) (FI_X9_filled_ok E) (fV0_ok E) (fL0_ok E) (rtV_ok rfl)
def I_X9_filled_228 : List AI := [(.iadd, 1, [], 0), (.aload_n 0, 1, [], 0), (.getfield 21, 3, [8, 16, 2, 1361], 0), (.iload 4, 2, [], 0), (.iaload, 1, [], 0), (.iconst 4, 1, [], 4), (.invokestatic 316, 3, [1, 247, 2, 1749], 0), (.ifCond .eq 7, 3, [247], 0), (.iconst 1, 1, [], 1), (.goto 4, 3, [248], 0)]
theorem ok_X9_filled_228 : vBL MT qLen qCh false q_X9_filled.2.2.2.2.1 q_X9_filled.2.2.2.2.2.1 q_X9_filled.2.2.1 q_X9_filled.1.cls q_X9_filled.1.name q_X9_filled.2.1 0 228 I_X9_filled_228 = true := by decide +kernel
def p_X9_filled_228 (a0 : Nat) (x1 : Int32) (x3 : Int32) (x4 : Int32) (x5 : Int32) (x6 : Int32) (x8 : Int32) (y0 : Int32) (y1 : Int32) (y2 : Int32) (b3 : Nat) (h : AH) : Option (AH) :=
  if (tg h a0).1 = 8 then (if inB h (rR h a0 16) 100 x4 then ((p_X9_has (rI h (rR h a0 16) x4.toNatClampNeg) ((4 : Int32)) h).bind fun q109 =>
  if q109.1 = 0 then (p_X9_filled_248 a0 x1 x3 x5 x6 x8 ((0 : Int32)) (y1 + y0) y2 b3 q109.2)
  else
  p_X9_filled_248 a0 x1 x3 x5 x6 x8 ((1 : Int32)) (y1 + y0) y2 b3 q109.2) else none) else none
set_option maxRecDepth 100000 in
theorem e_X9_filled_228 {l : Launch} {D : va_G} {dA : Nat → ClassId} {z : Nat} {sa : Nat → Nat} {Hz : Heap} (E : StrOK qLen qCh l D dA z sa Hz) {h0 fin : AH}  : ∀ (a0 : Nat) (x1 : Int32) (x3 : Int32) (x4 : Int32) (x5 : Int32) (x6 : Int32) (x8 : Int32) (y0 : Int32) (y1 : Int32) (y2 : Int32) (b3 : Nat) (h : AH), p_X9_filled_228 a0 x1 x3 x4 x5 x6 x8 y0 y1 y2 b3 h = some fin → GM l D dA z sa Hz q_X9_filled h0 none fin 228 [(0, .ref a0), (1, .int x1), (3, .int x3), (4, .int x4), (5, .int x5), (6, .int x6), (8, .int x8)] [.int y0, .int y1, .int y2, .ref b3] h := by
  intro a0 x1 x3 x4 x5 x6 x8 y0 y1 y2 b3 h hd
  exact step E (is := I_X9_filled_228) (pc := 228) (K := (kx 247 (fun la st h => gR la 0 fun a0 => gI la 1 fun x1 => gI la 3 fun x3 => gI la 5 fun x5 => gI la 6 fun x6 => gI la 8 fun x8 => sI st fun y0 st => sI st fun y1 st => sR st fun b2 st => sE st (p_X9_filled_247 a0 x1 x3 x5 x6 x8 y0 y1 b2 h)) (kx 248 (fun la st h => gR la 0 fun a0 => gI la 1 fun x1 => gI la 3 fun x3 => gI la 5 fun x5 => gI la 6 fun x6 => gI la 8 fun x8 => sI st fun y0 st => sI st fun y1 st => sI st fun y2 st => sR st fun b3 st => sE st (p_X9_filled_248 a0 x1 x3 x5 x6 x8 y0 y1 y2 b3 h)) k0))) (FI := FI_X9_filled) (FV := fV0) (FL := fL0) (rt := rtV) (ft := 0) (by exact hd) ok_X9_filled_228 (kx_ok (fun la st h e => by obtain ⟨a0, m_a0, e1⟩ := gR_inv e; obtain ⟨x1, m_x1, e2⟩ := gI_inv e1; obtain ⟨x3, m_x3, e3⟩ := gI_inv e2; obtain ⟨x5, m_x5, e4⟩ := gI_inv e3; obtain ⟨x6, m_x6, e5⟩ := gI_inv e4; obtain ⟨x8, m_x8, e6⟩ := gI_inv e5; obtain ⟨y0, _, rfl, e7⟩ := sI_inv e6; obtain ⟨y1, _, rfl, e8⟩ := sI_inv e7; obtain ⟨b2, _, rfl, e9⟩ := sR_inv e8; obtain ⟨rfl, ez⟩ := sE_inv e9; exact gm_fewer (e_X9_filled_247 E  a0 x1 x3 x5 x6 x8 y0 y1 b2 h ez) (mem_cons m_a0 (mem_cons m_x1 (mem_cons m_x3 (mem_cons m_x5 (mem_cons m_x6 (mem_cons m_x8 mem_nil))))))) (kx_ok (fun la st h e => by obtain ⟨a0, m_a0, e1⟩ := gR_inv e; obtain ⟨x1, m_x1, e2⟩ := gI_inv e1; obtain ⟨x3, m_x3, e3⟩ := gI_inv e2; obtain ⟨x5, m_x5, e4⟩ := gI_inv e3; obtain ⟨x6, m_x6, e5⟩ := gI_inv e4; obtain ⟨x8, m_x8, e6⟩ := gI_inv e5; obtain ⟨y0, _, rfl, e7⟩ := sI_inv e6; obtain ⟨y1, _, rfl, e8⟩ := sI_inv e7; obtain ⟨y2, _, rfl, e9⟩ := sI_inv e8; obtain ⟨b3, _, rfl, e10⟩ := sR_inv e9; obtain ⟨rfl, ez⟩ := sE_inv e10; exact gm_fewer (e_X9_filled_248 E  a0 x1 x3 x5 x6 x8 y0 y1 y2 b3 h ez) (mem_cons m_a0 (mem_cons m_x1 (mem_cons m_x3 (mem_cons m_x5 (mem_cons m_x6 (mem_cons m_x8 mem_nil))))))) k0_ok)) (FI_X9_filled_ok E) (fV0_ok E) (fL0_ok E) (rtV_ok rfl)
def I_X9_filled_227 : List AI := [(.iconst 0, 1, [], 0)]
theorem ok_X9_filled_227 : vBL MT qLen qCh false q_X9_filled.2.2.2.2.1 q_X9_filled.2.2.2.2.2.1 q_X9_filled.2.2.1 q_X9_filled.1.cls q_X9_filled.1.name q_X9_filled.2.1 228 227 I_X9_filled_227 = true := by decide +kernel
def p_X9_filled_227 (a0 : Nat) (x1 : Int32) (x3 : Int32) (x4 : Int32) (x5 : Int32) (x6 : Int32) (x8 : Int32) (y0 : Int32) (y1 : Int32) (b2 : Nat) (h : AH) : Option (AH) :=
  p_X9_filled_228 a0 x1 x3 x4 x5 x6 x8 ((0 : Int32)) y0 y1 b2 h
set_option maxRecDepth 100000 in
theorem e_X9_filled_227 {l : Launch} {D : va_G} {dA : Nat → ClassId} {z : Nat} {sa : Nat → Nat} {Hz : Heap} (E : StrOK qLen qCh l D dA z sa Hz) {h0 fin : AH}  : ∀ (a0 : Nat) (x1 : Int32) (x3 : Int32) (x4 : Int32) (x5 : Int32) (x6 : Int32) (x8 : Int32) (y0 : Int32) (y1 : Int32) (b2 : Nat) (h : AH), p_X9_filled_227 a0 x1 x3 x4 x5 x6 x8 y0 y1 b2 h = some fin → GM l D dA z sa Hz q_X9_filled h0 none fin 227 [(0, .ref a0), (1, .int x1), (3, .int x3), (4, .int x4), (5, .int x5), (6, .int x6), (8, .int x8)] [.int y0, .int y1, .ref b2] h := by
  intro a0 x1 x3 x4 x5 x6 x8 y0 y1 b2 h hd
  exact step E (is := I_X9_filled_227) (pc := 227) (K := (kx 228 (fun la st h => gR la 0 fun a0 => gI la 1 fun x1 => gI la 3 fun x3 => gI la 4 fun x4 => gI la 5 fun x5 => gI la 6 fun x6 => gI la 8 fun x8 => sI st fun y0 st => sI st fun y1 st => sI st fun y2 st => sR st fun b3 st => sE st (p_X9_filled_228 a0 x1 x3 x4 x5 x6 x8 y0 y1 y2 b3 h)) k0)) (FI := FI_X9_filled) (FV := fV0) (FL := fL0) (rt := rtV) (ft := 228) (by exact hd) ok_X9_filled_227 (kx_ok (fun la st h e => by obtain ⟨a0, m_a0, e1⟩ := gR_inv e; obtain ⟨x1, m_x1, e2⟩ := gI_inv e1; obtain ⟨x3, m_x3, e3⟩ := gI_inv e2; obtain ⟨x4, m_x4, e4⟩ := gI_inv e3; obtain ⟨x5, m_x5, e5⟩ := gI_inv e4; obtain ⟨x6, m_x6, e6⟩ := gI_inv e5; obtain ⟨x8, m_x8, e7⟩ := gI_inv e6; obtain ⟨y0, _, rfl, e8⟩ := sI_inv e7; obtain ⟨y1, _, rfl, e9⟩ := sI_inv e8; obtain ⟨y2, _, rfl, e10⟩ := sI_inv e9; obtain ⟨b3, _, rfl, e11⟩ := sR_inv e10; obtain ⟨rfl, ez⟩ := sE_inv e11; exact gm_fewer (e_X9_filled_228 E  a0 x1 x3 x4 x5 x6 x8 y0 y1 y2 b3 h ez) (mem_cons m_a0 (mem_cons m_x1 (mem_cons m_x3 (mem_cons m_x4 (mem_cons m_x5 (mem_cons m_x6 (mem_cons m_x8 mem_nil)))))))) k0_ok) (FI_X9_filled_ok E) (fV0_ok E) (fL0_ok E) (rtV_ok rfl)
def I_X9_filled_191 : List AI := [(.invokestatic 316, 3, [1, 247, 2, 1749], 0), (.istore 9, 2, [], 0), (.aload_n 0, 1, [], 0), (.getfield 21, 3, [8, 16, 2, 1361], 0), (.sipush 179, 3, [], 179), (.bipush 8, 2, [], 8), (.iload 7, 2, [], 0), (.imul, 1, [], 0), (.iadd, 1, [], 0), (.iload_n 1, 1, [], 0), (.bipush 8, 2, [], 8), (.idiv, 1, [], 0), (.iadd, 1, [], 0), (.iconst 4, 1, [], 4), (.iload 8, 2, [], 0), (.imul, 1, [], 0), (.iload 9, 2, [], 0), (.ifCond .eq 7, 3, [227], 0), (.iconst 2, 1, [], 2), (.goto 4, 3, [228], 0)]
theorem ok_X9_filled_191 : vBL MT qLen qCh false q_X9_filled.2.2.2.2.1 q_X9_filled.2.2.2.2.2.1 q_X9_filled.2.2.1 q_X9_filled.1.cls q_X9_filled.1.name q_X9_filled.2.1 0 191 I_X9_filled_191 = true := by decide +kernel
def p_X9_filled_191 (a0 : Nat) (x1 : Int32) (x3 : Int32) (x4 : Int32) (x5 : Int32) (x6 : Int32) (x7 : Int32) (x8 : Int32) (y0 : Int32) (y1 : Int32) (h : AH) : Option (AH) :=
  (p_X9_has y1 y0 h).bind fun q110 =>
  if (tg q110.2 a0).1 = 8 then (if ((8 : Int32)) = 0 then none else
  if q110.1 = 0 then (p_X9_filled_228 a0 x1 x3 x4 x5 x6 x8 ((0 : Int32)) (((4 : Int32)) * x8) ((((179 : Int32)) + (((8 : Int32)) * x7)) + (x1 / ((8 : Int32)))) (rR q110.2 a0 16) q110.2)
  else
  p_X9_filled_228 a0 x1 x3 x4 x5 x6 x8 ((2 : Int32)) (((4 : Int32)) * x8) ((((179 : Int32)) + (((8 : Int32)) * x7)) + (x1 / ((8 : Int32)))) (rR q110.2 a0 16) q110.2) else none
set_option maxRecDepth 100000 in
theorem e_X9_filled_191 {l : Launch} {D : va_G} {dA : Nat → ClassId} {z : Nat} {sa : Nat → Nat} {Hz : Heap} (E : StrOK qLen qCh l D dA z sa Hz) {h0 fin : AH}  : ∀ (a0 : Nat) (x1 : Int32) (x3 : Int32) (x4 : Int32) (x5 : Int32) (x6 : Int32) (x7 : Int32) (x8 : Int32) (y0 : Int32) (y1 : Int32) (h : AH), p_X9_filled_191 a0 x1 x3 x4 x5 x6 x7 x8 y0 y1 h = some fin → GM l D dA z sa Hz q_X9_filled h0 none fin 191 [(0, .ref a0), (1, .int x1), (3, .int x3), (4, .int x4), (5, .int x5), (6, .int x6), (7, .int x7), (8, .int x8)] [.int y0, .int y1] h := by
  intro a0 x1 x3 x4 x5 x6 x7 x8 y0 y1 h hd
  exact step E (is := I_X9_filled_191) (pc := 191) (K := (kx 227 (fun la st h => gR la 0 fun a0 => gI la 1 fun x1 => gI la 3 fun x3 => gI la 4 fun x4 => gI la 5 fun x5 => gI la 6 fun x6 => gI la 8 fun x8 => sI st fun y0 st => sI st fun y1 st => sR st fun b2 st => sE st (p_X9_filled_227 a0 x1 x3 x4 x5 x6 x8 y0 y1 b2 h)) (kx 228 (fun la st h => gR la 0 fun a0 => gI la 1 fun x1 => gI la 3 fun x3 => gI la 4 fun x4 => gI la 5 fun x5 => gI la 6 fun x6 => gI la 8 fun x8 => sI st fun y0 st => sI st fun y1 st => sI st fun y2 st => sR st fun b3 st => sE st (p_X9_filled_228 a0 x1 x3 x4 x5 x6 x8 y0 y1 y2 b3 h)) k0))) (FI := FI_X9_filled) (FV := fV0) (FL := fL0) (rt := rtV) (ft := 0) (by exact hd) ok_X9_filled_191 (kx_ok (fun la st h e => by obtain ⟨a0, m_a0, e1⟩ := gR_inv e; obtain ⟨x1, m_x1, e2⟩ := gI_inv e1; obtain ⟨x3, m_x3, e3⟩ := gI_inv e2; obtain ⟨x4, m_x4, e4⟩ := gI_inv e3; obtain ⟨x5, m_x5, e5⟩ := gI_inv e4; obtain ⟨x6, m_x6, e6⟩ := gI_inv e5; obtain ⟨x8, m_x8, e7⟩ := gI_inv e6; obtain ⟨y0, _, rfl, e8⟩ := sI_inv e7; obtain ⟨y1, _, rfl, e9⟩ := sI_inv e8; obtain ⟨b2, _, rfl, e10⟩ := sR_inv e9; obtain ⟨rfl, ez⟩ := sE_inv e10; exact gm_fewer (e_X9_filled_227 E  a0 x1 x3 x4 x5 x6 x8 y0 y1 b2 h ez) (mem_cons m_a0 (mem_cons m_x1 (mem_cons m_x3 (mem_cons m_x4 (mem_cons m_x5 (mem_cons m_x6 (mem_cons m_x8 mem_nil)))))))) (kx_ok (fun la st h e => by obtain ⟨a0, m_a0, e1⟩ := gR_inv e; obtain ⟨x1, m_x1, e2⟩ := gI_inv e1; obtain ⟨x3, m_x3, e3⟩ := gI_inv e2; obtain ⟨x4, m_x4, e4⟩ := gI_inv e3; obtain ⟨x5, m_x5, e5⟩ := gI_inv e4; obtain ⟨x6, m_x6, e6⟩ := gI_inv e5; obtain ⟨x8, m_x8, e7⟩ := gI_inv e6; obtain ⟨y0, _, rfl, e8⟩ := sI_inv e7; obtain ⟨y1, _, rfl, e9⟩ := sI_inv e8; obtain ⟨y2, _, rfl, e10⟩ := sI_inv e9; obtain ⟨b3, _, rfl, e11⟩ := sR_inv e10; obtain ⟨rfl, ez⟩ := sE_inv e11; exact gm_fewer (e_X9_filled_228 E  a0 x1 x3 x4 x5 x6 x8 y0 y1 y2 b3 h ez) (mem_cons m_a0 (mem_cons m_x1 (mem_cons m_x3 (mem_cons m_x4 (mem_cons m_x5 (mem_cons m_x6 (mem_cons m_x8 mem_nil)))))))) k0_ok)) (FI_X9_filled_ok E) (fV0_ok E) (fL0_ok E) (rtV_ok rfl)
def I_X9_filled_190 : List AI := [(.iconst 2, 1, [], 2)]
theorem ok_X9_filled_190 : vBL MT qLen qCh false q_X9_filled.2.2.2.2.1 q_X9_filled.2.2.2.2.2.1 q_X9_filled.2.2.1 q_X9_filled.1.cls q_X9_filled.1.name q_X9_filled.2.1 191 190 I_X9_filled_190 = true := by decide +kernel
def p_X9_filled_190 (a0 : Nat) (x1 : Int32) (x3 : Int32) (x4 : Int32) (x5 : Int32) (x6 : Int32) (x7 : Int32) (x8 : Int32) (y0 : Int32) (h : AH) : Option (AH) :=
  p_X9_filled_191 a0 x1 x3 x4 x5 x6 x7 x8 ((2 : Int32)) y0 h
set_option maxRecDepth 100000 in
theorem e_X9_filled_190 {l : Launch} {D : va_G} {dA : Nat → ClassId} {z : Nat} {sa : Nat → Nat} {Hz : Heap} (E : StrOK qLen qCh l D dA z sa Hz) {h0 fin : AH}  : ∀ (a0 : Nat) (x1 : Int32) (x3 : Int32) (x4 : Int32) (x5 : Int32) (x6 : Int32) (x7 : Int32) (x8 : Int32) (y0 : Int32) (h : AH), p_X9_filled_190 a0 x1 x3 x4 x5 x6 x7 x8 y0 h = some fin → GM l D dA z sa Hz q_X9_filled h0 none fin 190 [(0, .ref a0), (1, .int x1), (3, .int x3), (4, .int x4), (5, .int x5), (6, .int x6), (7, .int x7), (8, .int x8)] [.int y0] h := by
  intro a0 x1 x3 x4 x5 x6 x7 x8 y0 h hd
  exact step E (is := I_X9_filled_190) (pc := 190) (K := (kx 191 (fun la st h => gR la 0 fun a0 => gI la 1 fun x1 => gI la 3 fun x3 => gI la 4 fun x4 => gI la 5 fun x5 => gI la 6 fun x6 => gI la 7 fun x7 => gI la 8 fun x8 => sI st fun y0 st => sI st fun y1 st => sE st (p_X9_filled_191 a0 x1 x3 x4 x5 x6 x7 x8 y0 y1 h)) k0)) (FI := FI_X9_filled) (FV := fV0) (FL := fL0) (rt := rtV) (ft := 191) (by exact hd) ok_X9_filled_190 (kx_ok (fun la st h e => by obtain ⟨a0, m_a0, e1⟩ := gR_inv e; obtain ⟨x1, m_x1, e2⟩ := gI_inv e1; obtain ⟨x3, m_x3, e3⟩ := gI_inv e2; obtain ⟨x4, m_x4, e4⟩ := gI_inv e3; obtain ⟨x5, m_x5, e5⟩ := gI_inv e4; obtain ⟨x6, m_x6, e6⟩ := gI_inv e5; obtain ⟨x7, m_x7, e7⟩ := gI_inv e6; obtain ⟨x8, m_x8, e8⟩ := gI_inv e7; obtain ⟨y0, _, rfl, e9⟩ := sI_inv e8; obtain ⟨y1, _, rfl, e10⟩ := sI_inv e9; obtain ⟨rfl, ez⟩ := sE_inv e10; exact gm_fewer (e_X9_filled_191 E  a0 x1 x3 x4 x5 x6 x7 x8 y0 y1 h ez) (mem_cons m_a0 (mem_cons m_x1 (mem_cons m_x3 (mem_cons m_x4 (mem_cons m_x5 (mem_cons m_x6 (mem_cons m_x7 (mem_cons m_x8 mem_nil))))))))) k0_ok) (FI_X9_filled_ok E) (fV0_ok E) (fL0_ok E) (rtV_ok rfl)
def I_X9_filled_171 : List AI := [(.istore 8, 2, [], 0), (.aload_n 0, 1, [], 0), (.getfield 21, 3, [8, 16, 2, 1361], 0), (.iload 4, 2, [], 0), (.iaload, 1, [], 0), (.iload 5, 2, [], 0), (.ifCond .eq 8, 3, [190], 0), (.bipush 18, 2, [], 18), (.goto 4, 3, [191], 0)]
theorem ok_X9_filled_171 : vBL MT qLen qCh false q_X9_filled.2.2.2.2.1 q_X9_filled.2.2.2.2.2.1 q_X9_filled.2.2.1 q_X9_filled.1.cls q_X9_filled.1.name q_X9_filled.2.1 0 171 I_X9_filled_171 = true := by decide +kernel
def p_X9_filled_171 (a0 : Nat) (x1 : Int32) (x3 : Int32) (x4 : Int32) (x5 : Int32) (x6 : Int32) (x7 : Int32) (y0 : Int32) (h : AH) : Option (AH) :=
  if (tg h a0).1 = 8 then (if inB h (rR h a0 16) 100 x4 then (if x5 = 0 then (p_X9_filled_191 a0 x1 x3 x4 x5 x6 x7 y0 ((2 : Int32)) (rI h (rR h a0 16) x4.toNatClampNeg) h)
  else
  p_X9_filled_191 a0 x1 x3 x4 x5 x6 x7 y0 ((18 : Int32)) (rI h (rR h a0 16) x4.toNatClampNeg) h) else none) else none
set_option maxRecDepth 100000 in
theorem e_X9_filled_171 {l : Launch} {D : va_G} {dA : Nat → ClassId} {z : Nat} {sa : Nat → Nat} {Hz : Heap} (E : StrOK qLen qCh l D dA z sa Hz) {h0 fin : AH}  : ∀ (a0 : Nat) (x1 : Int32) (x3 : Int32) (x4 : Int32) (x5 : Int32) (x6 : Int32) (x7 : Int32) (y0 : Int32) (h : AH), p_X9_filled_171 a0 x1 x3 x4 x5 x6 x7 y0 h = some fin → GM l D dA z sa Hz q_X9_filled h0 none fin 171 [(0, .ref a0), (1, .int x1), (3, .int x3), (4, .int x4), (5, .int x5), (6, .int x6), (7, .int x7)] [.int y0] h := by
  intro a0 x1 x3 x4 x5 x6 x7 y0 h hd
  exact step E (is := I_X9_filled_171) (pc := 171) (K := (kx 190 (fun la st h => gR la 0 fun a0 => gI la 1 fun x1 => gI la 3 fun x3 => gI la 4 fun x4 => gI la 5 fun x5 => gI la 6 fun x6 => gI la 7 fun x7 => gI la 8 fun x8 => sI st fun y0 st => sE st (p_X9_filled_190 a0 x1 x3 x4 x5 x6 x7 x8 y0 h)) (kx 191 (fun la st h => gR la 0 fun a0 => gI la 1 fun x1 => gI la 3 fun x3 => gI la 4 fun x4 => gI la 5 fun x5 => gI la 6 fun x6 => gI la 7 fun x7 => gI la 8 fun x8 => sI st fun y0 st => sI st fun y1 st => sE st (p_X9_filled_191 a0 x1 x3 x4 x5 x6 x7 x8 y0 y1 h)) k0))) (FI := FI_X9_filled) (FV := fV0) (FL := fL0) (rt := rtV) (ft := 0) (by exact hd) ok_X9_filled_171 (kx_ok (fun la st h e => by obtain ⟨a0, m_a0, e1⟩ := gR_inv e; obtain ⟨x1, m_x1, e2⟩ := gI_inv e1; obtain ⟨x3, m_x3, e3⟩ := gI_inv e2; obtain ⟨x4, m_x4, e4⟩ := gI_inv e3; obtain ⟨x5, m_x5, e5⟩ := gI_inv e4; obtain ⟨x6, m_x6, e6⟩ := gI_inv e5; obtain ⟨x7, m_x7, e7⟩ := gI_inv e6; obtain ⟨x8, m_x8, e8⟩ := gI_inv e7; obtain ⟨y0, _, rfl, e9⟩ := sI_inv e8; obtain ⟨rfl, ez⟩ := sE_inv e9; exact gm_fewer (e_X9_filled_190 E  a0 x1 x3 x4 x5 x6 x7 x8 y0 h ez) (mem_cons m_a0 (mem_cons m_x1 (mem_cons m_x3 (mem_cons m_x4 (mem_cons m_x5 (mem_cons m_x6 (mem_cons m_x7 (mem_cons m_x8 mem_nil))))))))) (kx_ok (fun la st h e => by obtain ⟨a0, m_a0, e1⟩ := gR_inv e; obtain ⟨x1, m_x1, e2⟩ := gI_inv e1; obtain ⟨x3, m_x3, e3⟩ := gI_inv e2; obtain ⟨x4, m_x4, e4⟩ := gI_inv e3; obtain ⟨x5, m_x5, e5⟩ := gI_inv e4; obtain ⟨x6, m_x6, e6⟩ := gI_inv e5; obtain ⟨x7, m_x7, e7⟩ := gI_inv e6; obtain ⟨x8, m_x8, e8⟩ := gI_inv e7; obtain ⟨y0, _, rfl, e9⟩ := sI_inv e8; obtain ⟨y1, _, rfl, e10⟩ := sI_inv e9; obtain ⟨rfl, ez⟩ := sE_inv e10; exact gm_fewer (e_X9_filled_191 E  a0 x1 x3 x4 x5 x6 x7 x8 y0 y1 h ez) (mem_cons m_a0 (mem_cons m_x1 (mem_cons m_x3 (mem_cons m_x4 (mem_cons m_x5 (mem_cons m_x6 (mem_cons m_x7 (mem_cons m_x8 mem_nil))))))))) k0_ok)) (FI_X9_filled_ok E) (fV0_ok E) (fL0_ok E) (rtV_ok rfl)
def I_X9_filled_156 : List AI := [(.aload_n 0, 1, [], 0), (.iconst 1, 1, [], 1), (.aload_n 0, 1, [], 0), (.getfield 21, 3, [8, 16, 2, 1361], 0), (.iload 4, 2, [], 0), (.iaload, 1, [], 0), (.invokestatic 319, 3, [1, 254, 1, 1781], 0), (.invokevirtual 383, 3, [1, 292, 3, 8, 1927], 0)]
theorem ok_X9_filled_156 : vBL MT qLen qCh false q_X9_filled.2.2.2.2.1 q_X9_filled.2.2.2.2.2.1 q_X9_filled.2.2.1 q_X9_filled.1.cls q_X9_filled.1.name q_X9_filled.2.1 171 156 I_X9_filled_156 = true := by decide +kernel
def p_X9_filled_156 (a0 : Nat) (x1 : Int32) (x3 : Int32) (x4 : Int32) (x5 : Int32) (x6 : Int32) (x7 : Int32) (h : AH) : Option (AH) :=
  if (tg h a0).1 = 8 then (if inB h (rR h a0 16) 100 x4 then ((p_X9_tells (rI h (rR h a0 16) x4.toNatClampNeg) h).bind fun q111 =>
  if (tg q111.2 a0).1 = 8 then ((p_X9_needsTable a0 ((1 : Int32)) q111.1 q111.2).bind fun q112 =>
  p_X9_filled_171 a0 x1 x3 x4 x5 x6 x7 q112.1 q112.2) else none) else none) else none
set_option maxRecDepth 100000 in
theorem e_X9_filled_156 {l : Launch} {D : va_G} {dA : Nat → ClassId} {z : Nat} {sa : Nat → Nat} {Hz : Heap} (E : StrOK qLen qCh l D dA z sa Hz) {h0 fin : AH}  : ∀ (a0 : Nat) (x1 : Int32) (x3 : Int32) (x4 : Int32) (x5 : Int32) (x6 : Int32) (x7 : Int32) (h : AH), p_X9_filled_156 a0 x1 x3 x4 x5 x6 x7 h = some fin → GM l D dA z sa Hz q_X9_filled h0 none fin 156 [(0, .ref a0), (1, .int x1), (3, .int x3), (4, .int x4), (5, .int x5), (6, .int x6), (7, .int x7)] [] h := by
  intro a0 x1 x3 x4 x5 x6 x7 h hd
  exact step E (is := I_X9_filled_156) (pc := 156) (K := (kx 171 (fun la st h => gR la 0 fun a0 => gI la 1 fun x1 => gI la 3 fun x3 => gI la 4 fun x4 => gI la 5 fun x5 => gI la 6 fun x6 => gI la 7 fun x7 => sI st fun y0 st => sE st (p_X9_filled_171 a0 x1 x3 x4 x5 x6 x7 y0 h)) k0)) (FI := FI_X9_filled) (FV := fV0) (FL := fL0) (rt := rtV) (ft := 171) (by exact hd) ok_X9_filled_156 (kx_ok (fun la st h e => by obtain ⟨a0, m_a0, e1⟩ := gR_inv e; obtain ⟨x1, m_x1, e2⟩ := gI_inv e1; obtain ⟨x3, m_x3, e3⟩ := gI_inv e2; obtain ⟨x4, m_x4, e4⟩ := gI_inv e3; obtain ⟨x5, m_x5, e5⟩ := gI_inv e4; obtain ⟨x6, m_x6, e6⟩ := gI_inv e5; obtain ⟨x7, m_x7, e7⟩ := gI_inv e6; obtain ⟨y0, _, rfl, e8⟩ := sI_inv e7; obtain ⟨rfl, ez⟩ := sE_inv e8; exact gm_fewer (e_X9_filled_171 E  a0 x1 x3 x4 x5 x6 x7 y0 h ez) (mem_cons m_a0 (mem_cons m_x1 (mem_cons m_x3 (mem_cons m_x4 (mem_cons m_x5 (mem_cons m_x6 (mem_cons m_x7 mem_nil)))))))) k0_ok) (FI_X9_filled_ok E) (fV0_ok E) (fL0_ok E) (rtV_ok rfl)
def I_X9_filled_117 : List AI := [(.aload_n 0, 1, [], 0), (.iconst 0, 1, [], 0), (.aload_n 0, 1, [], 0), (.getfield 21, 3, [8, 16, 2, 1361], 0), (.sipush 146, 3, [], 146), (.iaload, 1, [], 0), (.invokevirtual 383, 3, [1, 292, 3, 8, 1927], 0), (.istore 7, 2, [], 0), (.iload 5, 2, [], 0), (.ifCond .eq 22, 3, [156], 0), (.aload_n 0, 1, [], 0), (.iconst 2, 1, [], 2), (.aload_n 0, 1, [], 0), (.getfield 21, 3, [8, 16, 2, 1361], 0), (.iload 4, 2, [], 0), (.iaload, 1, [], 0), (.iconst 0, 1, [], 0), (.invokestatic 328, 3, [1, 256, 2, 1788], 0), (.invokevirtual 383, 3, [1, 292, 3, 8, 1927], 0), (.goto 18, 3, [171], 0)]
theorem ok_X9_filled_117 : vBL MT qLen qCh false q_X9_filled.2.2.2.2.1 q_X9_filled.2.2.2.2.2.1 q_X9_filled.2.2.1 q_X9_filled.1.cls q_X9_filled.1.name q_X9_filled.2.1 0 117 I_X9_filled_117 = true := by decide +kernel
def p_X9_filled_117 (a0 : Nat) (x1 : Int32) (x3 : Int32) (x4 : Int32) (x5 : Int32) (x6 : Int32) (h : AH) : Option (AH) :=
  if (tg h a0).1 = 8 then (if inB h (rR h a0 16) 100 ((146 : Int32)) then (if (tg h a0).1 = 8 then ((p_X9_needsTable a0 ((0 : Int32)) (rI h (rR h a0 16) ((146 : Int32)).toNatClampNeg) h).bind fun q113 =>
  if x5 = 0 then (if (tg q113.2 a0).1 = 8 then (if inB q113.2 (rR q113.2 a0 16) 100 x4 then ((p_X9_tells (rI q113.2 (rR q113.2 a0 16) x4.toNatClampNeg) q113.2).bind fun q114 =>
  if (tg q114.2 a0).1 = 8 then ((p_X9_needsTable a0 ((1 : Int32)) q114.1 q114.2).bind fun q115 =>
  p_X9_filled_171 a0 x1 x3 x4 x5 x6 q113.1 q115.1 q115.2) else none) else none) else none)
  else
  if (tg q113.2 a0).1 = 8 then (if inB q113.2 (rR q113.2 a0 16) 100 x4 then ((p_X9_largeFrame (rI q113.2 (rR q113.2 a0 16) x4.toNatClampNeg) ((0 : Int32)) q113.2).bind fun q116 =>
  if (tg q116.2 a0).1 = 8 then ((p_X9_needsTable a0 ((2 : Int32)) q116.1 q116.2).bind fun q117 =>
  p_X9_filled_171 a0 x1 x3 x4 x5 x6 q113.1 q117.1 q117.2) else none) else none) else none) else none) else none) else none
set_option maxRecDepth 100000 in
theorem e_X9_filled_117 {l : Launch} {D : va_G} {dA : Nat → ClassId} {z : Nat} {sa : Nat → Nat} {Hz : Heap} (E : StrOK qLen qCh l D dA z sa Hz) {h0 fin : AH}  : ∀ (a0 : Nat) (x1 : Int32) (x3 : Int32) (x4 : Int32) (x5 : Int32) (x6 : Int32) (h : AH), p_X9_filled_117 a0 x1 x3 x4 x5 x6 h = some fin → GM l D dA z sa Hz q_X9_filled h0 none fin 117 [(0, .ref a0), (1, .int x1), (3, .int x3), (4, .int x4), (5, .int x5), (6, .int x6)] [] h := by
  intro a0 x1 x3 x4 x5 x6 h hd
  exact step E (is := I_X9_filled_117) (pc := 117) (K := (kx 156 (fun la st h => gR la 0 fun a0 => gI la 1 fun x1 => gI la 3 fun x3 => gI la 4 fun x4 => gI la 5 fun x5 => gI la 6 fun x6 => gI la 7 fun x7 => sE st (p_X9_filled_156 a0 x1 x3 x4 x5 x6 x7 h)) (kx 171 (fun la st h => gR la 0 fun a0 => gI la 1 fun x1 => gI la 3 fun x3 => gI la 4 fun x4 => gI la 5 fun x5 => gI la 6 fun x6 => gI la 7 fun x7 => sI st fun y0 st => sE st (p_X9_filled_171 a0 x1 x3 x4 x5 x6 x7 y0 h)) k0))) (FI := FI_X9_filled) (FV := fV0) (FL := fL0) (rt := rtV) (ft := 0) (by exact hd) ok_X9_filled_117 (kx_ok (fun la st h e => by obtain ⟨a0, m_a0, e1⟩ := gR_inv e; obtain ⟨x1, m_x1, e2⟩ := gI_inv e1; obtain ⟨x3, m_x3, e3⟩ := gI_inv e2; obtain ⟨x4, m_x4, e4⟩ := gI_inv e3; obtain ⟨x5, m_x5, e5⟩ := gI_inv e4; obtain ⟨x6, m_x6, e6⟩ := gI_inv e5; obtain ⟨x7, m_x7, e7⟩ := gI_inv e6; obtain ⟨rfl, ez⟩ := sE_inv e7; exact gm_fewer (e_X9_filled_156 E  a0 x1 x3 x4 x5 x6 x7 h ez) (mem_cons m_a0 (mem_cons m_x1 (mem_cons m_x3 (mem_cons m_x4 (mem_cons m_x5 (mem_cons m_x6 (mem_cons m_x7 mem_nil)))))))) (kx_ok (fun la st h e => by obtain ⟨a0, m_a0, e1⟩ := gR_inv e; obtain ⟨x1, m_x1, e2⟩ := gI_inv e1; obtain ⟨x3, m_x3, e3⟩ := gI_inv e2; obtain ⟨x4, m_x4, e4⟩ := gI_inv e3; obtain ⟨x5, m_x5, e5⟩ := gI_inv e4; obtain ⟨x6, m_x6, e6⟩ := gI_inv e5; obtain ⟨x7, m_x7, e7⟩ := gI_inv e6; obtain ⟨y0, _, rfl, e8⟩ := sI_inv e7; obtain ⟨rfl, ez⟩ := sE_inv e8; exact gm_fewer (e_X9_filled_171 E  a0 x1 x3 x4 x5 x6 x7 y0 h ez) (mem_cons m_a0 (mem_cons m_x1 (mem_cons m_x3 (mem_cons m_x4 (mem_cons m_x5 (mem_cons m_x6 (mem_cons m_x7 mem_nil)))))))) k0_ok)) (FI_X9_filled_ok E) (fV0_ok E) (fL0_ok E) (rtV_ok rfl)
def I_X9_filled_97 : List AI := [(.ior, 1, [], 0), (.iastore, 1, [], 0), (.iload_n 2, 1, [], 0), (.ifCond .eq 17, 3, [117], 0), (.aload_n 0, 1, [], 0), (.getfield 21, 3, [8, 16, 2, 1361], 0), (.sipush 145, 3, [], 145), (.dup2, 1, [], 0), (.iaload, 1, [], 0), (.iconst 1, 1, [], 1), (.iload_n 3, 1, [], 0), (.ishl, 1, [], 0), (.ior, 1, [], 0), (.iastore, 1, [], 0)]
theorem ok_X9_filled_97 : vBL MT qLen qCh false q_X9_filled.2.2.2.2.1 q_X9_filled.2.2.2.2.2.1 q_X9_filled.2.2.1 q_X9_filled.1.cls q_X9_filled.1.name q_X9_filled.2.1 117 97 I_X9_filled_97 = true := by decide +kernel
def p_X9_filled_97 (a0 : Nat) (x1 : Int32) (x2 : Int32) (x3 : Int32) (x4 : Int32) (x5 : Int32) (x6 : Int32) (y0 : Int32) (y1 : Int32) (y2 : Int32) (b3 : Nat) (h : AH) : Option (AH) :=
  if inB h b3 100 y2 then (let h118 := wI h b3 y2.toNatClampNeg (y1 ||| y0)
  if x2 = 0 then (p_X9_filled_117 a0 x1 x3 x4 x5 x6 h118)
  else
  if (tg h118 a0).1 = 8 then (if inB h118 (rR h118 a0 16) 100 ((145 : Int32)) then (if inB h118 (rR h118 a0 16) 100 ((145 : Int32)) then (let h119 := wI h118 (rR h118 a0 16) ((145 : Int32)).toNatClampNeg ((rI h118 (rR h118 a0 16) ((145 : Int32)).toNatClampNeg) ||| (((1 : Int32)) <<< (x3 &&& 31)))
  p_X9_filled_117 a0 x1 x3 x4 x5 x6 h119) else none) else none) else none) else none
set_option maxRecDepth 100000 in
theorem e_X9_filled_97 {l : Launch} {D : va_G} {dA : Nat → ClassId} {z : Nat} {sa : Nat → Nat} {Hz : Heap} (E : StrOK qLen qCh l D dA z sa Hz) {h0 fin : AH}  : ∀ (a0 : Nat) (x1 : Int32) (x2 : Int32) (x3 : Int32) (x4 : Int32) (x5 : Int32) (x6 : Int32) (y0 : Int32) (y1 : Int32) (y2 : Int32) (b3 : Nat) (h : AH), p_X9_filled_97 a0 x1 x2 x3 x4 x5 x6 y0 y1 y2 b3 h = some fin → GM l D dA z sa Hz q_X9_filled h0 none fin 97 [(0, .ref a0), (1, .int x1), (2, .int x2), (3, .int x3), (4, .int x4), (5, .int x5), (6, .int x6)] [.int y0, .int y1, .int y2, .ref b3] h := by
  intro a0 x1 x2 x3 x4 x5 x6 y0 y1 y2 b3 h hd
  exact step E (is := I_X9_filled_97) (pc := 97) (K := (kx 117 (fun la st h => gR la 0 fun a0 => gI la 1 fun x1 => gI la 3 fun x3 => gI la 4 fun x4 => gI la 5 fun x5 => gI la 6 fun x6 => sE st (p_X9_filled_117 a0 x1 x3 x4 x5 x6 h)) k0)) (FI := FI_X9_filled) (FV := fV0) (FL := fL0) (rt := rtV) (ft := 117) (by exact hd) ok_X9_filled_97 (kx_ok (fun la st h e => by obtain ⟨a0, m_a0, e1⟩ := gR_inv e; obtain ⟨x1, m_x1, e2⟩ := gI_inv e1; obtain ⟨x3, m_x3, e3⟩ := gI_inv e2; obtain ⟨x4, m_x4, e4⟩ := gI_inv e3; obtain ⟨x5, m_x5, e5⟩ := gI_inv e4; obtain ⟨x6, m_x6, e6⟩ := gI_inv e5; obtain ⟨rfl, ez⟩ := sE_inv e6; exact gm_fewer (e_X9_filled_117 E  a0 x1 x3 x4 x5 x6 h ez) (mem_cons m_a0 (mem_cons m_x1 (mem_cons m_x3 (mem_cons m_x4 (mem_cons m_x5 (mem_cons m_x6 mem_nil))))))) k0_ok) (FI_X9_filled_ok E) (fV0_ok E) (fL0_ok E) (rtV_ok rfl)
def I_X9_filled_95 : List AI := [(.bipush 8, 2, [], 8)]
theorem ok_X9_filled_95 : vBL MT qLen qCh false q_X9_filled.2.2.2.2.1 q_X9_filled.2.2.2.2.2.1 q_X9_filled.2.2.1 q_X9_filled.1.cls q_X9_filled.1.name q_X9_filled.2.1 97 95 I_X9_filled_95 = true := by decide +kernel
def p_X9_filled_95 (a0 : Nat) (x1 : Int32) (x2 : Int32) (x3 : Int32) (x4 : Int32) (x5 : Int32) (x6 : Int32) (y0 : Int32) (y1 : Int32) (b2 : Nat) (h : AH) : Option (AH) :=
  p_X9_filled_97 a0 x1 x2 x3 x4 x5 x6 ((8 : Int32)) y0 y1 b2 h
set_option maxRecDepth 100000 in
theorem e_X9_filled_95 {l : Launch} {D : va_G} {dA : Nat → ClassId} {z : Nat} {sa : Nat → Nat} {Hz : Heap} (E : StrOK qLen qCh l D dA z sa Hz) {h0 fin : AH}  : ∀ (a0 : Nat) (x1 : Int32) (x2 : Int32) (x3 : Int32) (x4 : Int32) (x5 : Int32) (x6 : Int32) (y0 : Int32) (y1 : Int32) (b2 : Nat) (h : AH), p_X9_filled_95 a0 x1 x2 x3 x4 x5 x6 y0 y1 b2 h = some fin → GM l D dA z sa Hz q_X9_filled h0 none fin 95 [(0, .ref a0), (1, .int x1), (2, .int x2), (3, .int x3), (4, .int x4), (5, .int x5), (6, .int x6)] [.int y0, .int y1, .ref b2] h := by
  intro a0 x1 x2 x3 x4 x5 x6 y0 y1 b2 h hd
  exact step E (is := I_X9_filled_95) (pc := 95) (K := (kx 97 (fun la st h => gR la 0 fun a0 => gI la 1 fun x1 => gI la 2 fun x2 => gI la 3 fun x3 => gI la 4 fun x4 => gI la 5 fun x5 => gI la 6 fun x6 => sI st fun y0 st => sI st fun y1 st => sI st fun y2 st => sR st fun b3 st => sE st (p_X9_filled_97 a0 x1 x2 x3 x4 x5 x6 y0 y1 y2 b3 h)) k0)) (FI := FI_X9_filled) (FV := fV0) (FL := fL0) (rt := rtV) (ft := 97) (by exact hd) ok_X9_filled_95 (kx_ok (fun la st h e => by obtain ⟨a0, m_a0, e1⟩ := gR_inv e; obtain ⟨x1, m_x1, e2⟩ := gI_inv e1; obtain ⟨x2, m_x2, e3⟩ := gI_inv e2; obtain ⟨x3, m_x3, e4⟩ := gI_inv e3; obtain ⟨x4, m_x4, e5⟩ := gI_inv e4; obtain ⟨x5, m_x5, e6⟩ := gI_inv e5; obtain ⟨x6, m_x6, e7⟩ := gI_inv e6; obtain ⟨y0, _, rfl, e8⟩ := sI_inv e7; obtain ⟨y1, _, rfl, e9⟩ := sI_inv e8; obtain ⟨y2, _, rfl, e10⟩ := sI_inv e9; obtain ⟨b3, _, rfl, e11⟩ := sR_inv e10; obtain ⟨rfl, ez⟩ := sE_inv e11; exact gm_fewer (e_X9_filled_97 E  a0 x1 x2 x3 x4 x5 x6 y0 y1 y2 b3 h ez) (mem_cons m_a0 (mem_cons m_x1 (mem_cons m_x2 (mem_cons m_x3 (mem_cons m_x4 (mem_cons m_x5 (mem_cons m_x6 mem_nil)))))))) k0_ok) (FI_X9_filled_ok E) (fV0_ok E) (fL0_ok E) (rtV_ok rfl)
def I_X9_filled_64 : List AI := [(.istore 6, 2, [], 0), (.aload_n 0, 1, [], 0), (.getfield 21, 3, [8, 16, 2, 1361], 0), (.iload 4, 2, [], 0), (.dup2, 1, [], 0), (.iaload, 1, [], 0), (.bipush 8, 2, [], 8), (.ior, 1, [], 0), (.iastore, 1, [], 0), (.aload_n 0, 1, [], 0), (.getfield 21, 3, [8, 16, 2, 1361], 0), (.iload 6, 2, [], 0), (.dup2, 1, [], 0), (.iaload, 1, [], 0), (.iload_n 2, 1, [], 0), (.ifCond .eq 8, 3, [95], 0), (.bipush 24, 2, [], 24), (.goto 5, 3, [97], 0)]
theorem ok_X9_filled_64 : vBL MT qLen qCh false q_X9_filled.2.2.2.2.1 q_X9_filled.2.2.2.2.2.1 q_X9_filled.2.2.1 q_X9_filled.1.cls q_X9_filled.1.name q_X9_filled.2.1 0 64 I_X9_filled_64 = true := by decide +kernel
def p_X9_filled_64 (a0 : Nat) (x1 : Int32) (x2 : Int32) (x3 : Int32) (x4 : Int32) (x5 : Int32) (y0 : Int32) (h : AH) : Option (AH) :=
  if (tg h a0).1 = 8 then (if inB h (rR h a0 16) 100 x4 then (if inB h (rR h a0 16) 100 x4 then (let h120 := wI h (rR h a0 16) x4.toNatClampNeg ((rI h (rR h a0 16) x4.toNatClampNeg) ||| ((8 : Int32)))
  if (tg h120 a0).1 = 8 then (if inB h120 (rR h120 a0 16) 100 y0 then (if x2 = 0 then (p_X9_filled_97 a0 x1 x2 x3 x4 x5 y0 ((8 : Int32)) (rI h120 (rR h120 a0 16) y0.toNatClampNeg) y0 (rR h120 a0 16) h120)
  else
  p_X9_filled_97 a0 x1 x2 x3 x4 x5 y0 ((24 : Int32)) (rI h120 (rR h120 a0 16) y0.toNatClampNeg) y0 (rR h120 a0 16) h120) else none) else none) else none) else none) else none
set_option maxRecDepth 100000 in
theorem e_X9_filled_64 {l : Launch} {D : va_G} {dA : Nat → ClassId} {z : Nat} {sa : Nat → Nat} {Hz : Heap} (E : StrOK qLen qCh l D dA z sa Hz) {h0 fin : AH}  : ∀ (a0 : Nat) (x1 : Int32) (x2 : Int32) (x3 : Int32) (x4 : Int32) (x5 : Int32) (y0 : Int32) (h : AH), p_X9_filled_64 a0 x1 x2 x3 x4 x5 y0 h = some fin → GM l D dA z sa Hz q_X9_filled h0 none fin 64 [(0, .ref a0), (1, .int x1), (2, .int x2), (3, .int x3), (4, .int x4), (5, .int x5)] [.int y0] h := by
  intro a0 x1 x2 x3 x4 x5 y0 h hd
  exact step E (is := I_X9_filled_64) (pc := 64) (K := (kx 95 (fun la st h => gR la 0 fun a0 => gI la 1 fun x1 => gI la 2 fun x2 => gI la 3 fun x3 => gI la 4 fun x4 => gI la 5 fun x5 => gI la 6 fun x6 => sI st fun y0 st => sI st fun y1 st => sR st fun b2 st => sE st (p_X9_filled_95 a0 x1 x2 x3 x4 x5 x6 y0 y1 b2 h)) (kx 97 (fun la st h => gR la 0 fun a0 => gI la 1 fun x1 => gI la 2 fun x2 => gI la 3 fun x3 => gI la 4 fun x4 => gI la 5 fun x5 => gI la 6 fun x6 => sI st fun y0 st => sI st fun y1 st => sI st fun y2 st => sR st fun b3 st => sE st (p_X9_filled_97 a0 x1 x2 x3 x4 x5 x6 y0 y1 y2 b3 h)) k0))) (FI := FI_X9_filled) (FV := fV0) (FL := fL0) (rt := rtV) (ft := 0) (by exact hd) ok_X9_filled_64 (kx_ok (fun la st h e => by obtain ⟨a0, m_a0, e1⟩ := gR_inv e; obtain ⟨x1, m_x1, e2⟩ := gI_inv e1; obtain ⟨x2, m_x2, e3⟩ := gI_inv e2; obtain ⟨x3, m_x3, e4⟩ := gI_inv e3; obtain ⟨x4, m_x4, e5⟩ := gI_inv e4; obtain ⟨x5, m_x5, e6⟩ := gI_inv e5; obtain ⟨x6, m_x6, e7⟩ := gI_inv e6; obtain ⟨y0, _, rfl, e8⟩ := sI_inv e7; obtain ⟨y1, _, rfl, e9⟩ := sI_inv e8; obtain ⟨b2, _, rfl, e10⟩ := sR_inv e9; obtain ⟨rfl, ez⟩ := sE_inv e10; exact gm_fewer (e_X9_filled_95 E  a0 x1 x2 x3 x4 x5 x6 y0 y1 b2 h ez) (mem_cons m_a0 (mem_cons m_x1 (mem_cons m_x2 (mem_cons m_x3 (mem_cons m_x4 (mem_cons m_x5 (mem_cons m_x6 mem_nil)))))))) (kx_ok (fun la st h e => by obtain ⟨a0, m_a0, e1⟩ := gR_inv e; obtain ⟨x1, m_x1, e2⟩ := gI_inv e1; obtain ⟨x2, m_x2, e3⟩ := gI_inv e2; obtain ⟨x3, m_x3, e4⟩ := gI_inv e3; obtain ⟨x4, m_x4, e5⟩ := gI_inv e4; obtain ⟨x5, m_x5, e6⟩ := gI_inv e5; obtain ⟨x6, m_x6, e7⟩ := gI_inv e6; obtain ⟨y0, _, rfl, e8⟩ := sI_inv e7; obtain ⟨y1, _, rfl, e9⟩ := sI_inv e8; obtain ⟨y2, _, rfl, e10⟩ := sI_inv e9; obtain ⟨b3, _, rfl, e11⟩ := sR_inv e10; obtain ⟨rfl, ez⟩ := sE_inv e11; exact gm_fewer (e_X9_filled_97 E  a0 x1 x2 x3 x4 x5 x6 y0 y1 y2 b3 h ez) (mem_cons m_a0 (mem_cons m_x1 (mem_cons m_x2 (mem_cons m_x3 (mem_cons m_x4 (mem_cons m_x5 (mem_cons m_x6 mem_nil)))))))) k0_ok)) (FI_X9_filled_ok E) (fV0_ok E) (fL0_ok E) (rtV_ok rfl)
def I_X9_filled_46 : List AI := [(.bipush 8, 2, [], 8), (.aload_n 0, 1, [], 0), (.getfield 21, 3, [8, 16, 2, 1361], 0), (.iload 4, 2, [], 0), (.iaload, 1, [], 0), (.invokestatic 319, 3, [1, 254, 1, 1781], 0), (.imul, 1, [], 0), (.iload_n 1, 1, [], 0), (.bipush 8, 2, [], 8), (.irem, 1, [], 0), (.iadd, 1, [], 0)]
theorem ok_X9_filled_46 : vBL MT qLen qCh false q_X9_filled.2.2.2.2.1 q_X9_filled.2.2.2.2.2.1 q_X9_filled.2.2.1 q_X9_filled.1.cls q_X9_filled.1.name q_X9_filled.2.1 64 46 I_X9_filled_46 = true := by decide +kernel
def p_X9_filled_46 (a0 : Nat) (x1 : Int32) (x2 : Int32) (x3 : Int32) (x4 : Int32) (x5 : Int32) (h : AH) : Option (AH) :=
  if (tg h a0).1 = 8 then (if inB h (rR h a0 16) 100 x4 then ((p_X9_tells (rI h (rR h a0 16) x4.toNatClampNeg) h).bind fun q121 =>
  if ((8 : Int32)) = 0 then none else
  p_X9_filled_64 a0 x1 x2 x3 x4 x5 ((((8 : Int32)) * q121.1) + (irm x1 ((8 : Int32)))) q121.2) else none) else none
set_option maxRecDepth 100000 in
theorem e_X9_filled_46 {l : Launch} {D : va_G} {dA : Nat → ClassId} {z : Nat} {sa : Nat → Nat} {Hz : Heap} (E : StrOK qLen qCh l D dA z sa Hz) {h0 fin : AH}  : ∀ (a0 : Nat) (x1 : Int32) (x2 : Int32) (x3 : Int32) (x4 : Int32) (x5 : Int32) (h : AH), p_X9_filled_46 a0 x1 x2 x3 x4 x5 h = some fin → GM l D dA z sa Hz q_X9_filled h0 none fin 46 [(0, .ref a0), (1, .int x1), (2, .int x2), (3, .int x3), (4, .int x4), (5, .int x5)] [] h := by
  intro a0 x1 x2 x3 x4 x5 h hd
  exact step E (is := I_X9_filled_46) (pc := 46) (K := (kx 64 (fun la st h => gR la 0 fun a0 => gI la 1 fun x1 => gI la 2 fun x2 => gI la 3 fun x3 => gI la 4 fun x4 => gI la 5 fun x5 => sI st fun y0 st => sE st (p_X9_filled_64 a0 x1 x2 x3 x4 x5 y0 h)) k0)) (FI := FI_X9_filled) (FV := fV0) (FL := fL0) (rt := rtV) (ft := 64) (by exact hd) ok_X9_filled_46 (kx_ok (fun la st h e => by obtain ⟨a0, m_a0, e1⟩ := gR_inv e; obtain ⟨x1, m_x1, e2⟩ := gI_inv e1; obtain ⟨x2, m_x2, e3⟩ := gI_inv e2; obtain ⟨x3, m_x3, e4⟩ := gI_inv e3; obtain ⟨x4, m_x4, e5⟩ := gI_inv e4; obtain ⟨x5, m_x5, e6⟩ := gI_inv e5; obtain ⟨y0, _, rfl, e7⟩ := sI_inv e6; obtain ⟨rfl, ez⟩ := sE_inv e7; exact gm_fewer (e_X9_filled_64 E  a0 x1 x2 x3 x4 x5 y0 h ez) (mem_cons m_a0 (mem_cons m_x1 (mem_cons m_x2 (mem_cons m_x3 (mem_cons m_x4 (mem_cons m_x5 mem_nil))))))) k0_ok) (FI_X9_filled_ok E) (fV0_ok E) (fL0_ok E) (rtV_ok rfl)
def I_X9_filled_0 : List AI := [(.aload_n 0, 1, [], 0), (.iload_n 1, 1, [], 0), (.invokevirtual 338, 3, [1, 257, 2, 8, 1784], 0), (.istore_n 3, 1, [], 0), (.bipush 8, 2, [], 8), (.aload_n 0, 1, [], 0), (.getfield 21, 3, [8, 16, 2, 1361], 0), (.sipush 146, 3, [], 146), (.iaload, 1, [], 0), (.imul, 1, [], 0), (.iload_n 1, 1, [], 0), (.bipush 8, 2, [], 8), (.idiv, 1, [], 0), (.iadd, 1, [], 0), (.istore 4, 2, [], 0), (.aload_n 0, 1, [], 0), (.getfield 21, 3, [8, 16, 2, 1361], 0), (.iload 4, 2, [], 0), (.iaload, 1, [], 0), (.invokestatic 325, 3, [1, 253, 1, 1774], 0), (.istore 5, 2, [], 0), (.iload 5, 2, [], 0), (.ifCond .eq 8, 3, [46], 0), (.iload 4, 2, [], 0), (.goto 21, 3, [64], 0)]
theorem ok_X9_filled_0 : vBL MT qLen qCh false q_X9_filled.2.2.2.2.1 q_X9_filled.2.2.2.2.2.1 q_X9_filled.2.2.1 q_X9_filled.1.cls q_X9_filled.1.name q_X9_filled.2.1 0 0 I_X9_filled_0 = true := by decide +kernel
def p_X9_filled (a0 : Nat) (x1 : Int32) (x2 : Int32) (h : AH) : Option (AH) :=
  if (tg h a0).1 = 8 then ((p_X9_leadsTo a0 x1 h).bind fun q122 =>
  if (tg q122.2 a0).1 = 8 then (if inB q122.2 (rR q122.2 a0 16) 100 ((146 : Int32)) then (if ((8 : Int32)) = 0 then none else
  let x123 := (((8 : Int32)) * (rI q122.2 (rR q122.2 a0 16) ((146 : Int32)).toNatClampNeg)) + (x1 / ((8 : Int32)))
  if (tg q122.2 a0).1 = 8 then (if inB q122.2 (rR q122.2 a0 16) 100 x123 then ((p_X9_isLarge (rI q122.2 (rR q122.2 a0 16) x123.toNatClampNeg) q122.2).bind fun q124 =>
  if q124.1 = 0 then (if (tg q124.2 a0).1 = 8 then (if inB q124.2 (rR q124.2 a0 16) 100 x123 then ((p_X9_tells (rI q124.2 (rR q124.2 a0 16) x123.toNatClampNeg) q124.2).bind fun q125 =>
  if ((8 : Int32)) = 0 then none else
  p_X9_filled_64 a0 x1 x2 q122.1 x123 q124.1 ((((8 : Int32)) * q125.1) + (irm x1 ((8 : Int32)))) q125.2) else none) else none)
  else
  p_X9_filled_64 a0 x1 x2 q122.1 x123 q124.1 x123 q124.2) else none) else none) else none) else none) else none
set_option maxRecDepth 100000 in
theorem e_X9_filled_0 {l : Launch} {D : va_G} {dA : Nat → ClassId} {z : Nat} {sa : Nat → Nat} {Hz : Heap} (E : StrOK qLen qCh l D dA z sa Hz) {h0 fin : AH}  : ∀ (a0 : Nat) (x1 : Int32) (x2 : Int32) (h : AH), p_X9_filled a0 x1 x2 h = some fin → GM l D dA z sa Hz q_X9_filled h0 none fin 0 [(0, .ref a0), (1, .int x1), (2, .int x2)] [] h := by
  intro a0 x1 x2 h hd
  exact step E (is := I_X9_filled_0) (pc := 0) (K := (kx 46 (fun la st h => gR la 0 fun a0 => gI la 1 fun x1 => gI la 2 fun x2 => gI la 3 fun x3 => gI la 4 fun x4 => gI la 5 fun x5 => sE st (p_X9_filled_46 a0 x1 x2 x3 x4 x5 h)) (kx 64 (fun la st h => gR la 0 fun a0 => gI la 1 fun x1 => gI la 2 fun x2 => gI la 3 fun x3 => gI la 4 fun x4 => gI la 5 fun x5 => sI st fun y0 st => sE st (p_X9_filled_64 a0 x1 x2 x3 x4 x5 y0 h)) k0))) (FI := FI_X9_filled) (FV := fV0) (FL := fL0) (rt := rtV) (ft := 0) (by exact hd) ok_X9_filled_0 (kx_ok (fun la st h e => by obtain ⟨a0, m_a0, e1⟩ := gR_inv e; obtain ⟨x1, m_x1, e2⟩ := gI_inv e1; obtain ⟨x2, m_x2, e3⟩ := gI_inv e2; obtain ⟨x3, m_x3, e4⟩ := gI_inv e3; obtain ⟨x4, m_x4, e5⟩ := gI_inv e4; obtain ⟨x5, m_x5, e6⟩ := gI_inv e5; obtain ⟨rfl, ez⟩ := sE_inv e6; exact gm_fewer (e_X9_filled_46 E  a0 x1 x2 x3 x4 x5 h ez) (mem_cons m_a0 (mem_cons m_x1 (mem_cons m_x2 (mem_cons m_x3 (mem_cons m_x4 (mem_cons m_x5 mem_nil))))))) (kx_ok (fun la st h e => by obtain ⟨a0, m_a0, e1⟩ := gR_inv e; obtain ⟨x1, m_x1, e2⟩ := gI_inv e1; obtain ⟨x2, m_x2, e3⟩ := gI_inv e2; obtain ⟨x3, m_x3, e4⟩ := gI_inv e3; obtain ⟨x4, m_x4, e5⟩ := gI_inv e4; obtain ⟨x5, m_x5, e6⟩ := gI_inv e5; obtain ⟨y0, _, rfl, e7⟩ := sI_inv e6; obtain ⟨rfl, ez⟩ := sE_inv e7; exact gm_fewer (e_X9_filled_64 E  a0 x1 x2 x3 x4 x5 y0 h ez) (mem_cons m_a0 (mem_cons m_x1 (mem_cons m_x2 (mem_cons m_x3 (mem_cons m_x4 (mem_cons m_x5 mem_nil))))))) k0_ok)) (FI_X9_filled_ok E) (fV0_ok E) (fL0_ok E) (rtV_ok rfl)
theorem c_X9_filled {l : Launch} {D : va_G} {dA : Nat → ClassId} {z : Nat} {sa : Nat → Nat} {Hz : Heap} (E : StrOK qLen qCh l D dA z sa Hz) {a0 : Nat} {x1 : Int32} {x2 : Int32} {h fin : AH} (hd : p_X9_filled a0 x1 x2 h = some fin) : CalOK l D dA z sa Hz q_X9_filled [.ref a0, .int x1, .int x2] h none fin := calOf (by decide +kernel) (Nat.le_of_ble_eq_true rfl) (e_X9_filled_0 E a0 x1 x2 h hd)
def FI_X9_reaches : Nat → List Value → AH → Option (Int32 × AH) := (cx 266 (fun As h => sR As fun a0 As => sI As fun x1 As => sI As fun x2 As => sI As fun x3 As => sE As (p_X9_hitAt a0 x1 x2 x3 h)) (cx 241 (fun As h => sR As fun a0 As => sI As fun x1 As => sE As (p_X9_hostOf a0 x1 h)) (cx 258 (fun As h => sR As fun a0 As => sI As fun x1 As => sI As fun x2 As => sI As fun x3 As => sE As (p_X9_looks a0 x1 x2 x3 h)) fI0)))
theorem FI_X9_reaches_ok {l : Launch} {D : va_G} {dA : Nat → ClassId} {z : Nat} {sa : Nat → Nat} {Hz : Heap} (E : StrOK qLen qCh l D dA z sa Hz) : ∀ mi As h x h', FI_X9_reaches mi As h = some (x, h') → CalOK l D dA z sa Hz (MT mi) As h (some (.int x)) h' := (cxI_ok (fun As h x h2 e => by obtain ⟨_, _, rfl, e0⟩ := sR_inv e; obtain ⟨_, _, rfl, e1⟩ := sI_inv e0; obtain ⟨_, _, rfl, e2⟩ := sI_inv e1; obtain ⟨_, _, rfl, e3⟩ := sI_inv e2; obtain ⟨rfl, ez⟩ := sE_inv e3; exact c_X9_hitAt E ez) ((cxI_ok (fun As h x h2 e => by obtain ⟨_, _, rfl, e0⟩ := sR_inv e; obtain ⟨_, _, rfl, e1⟩ := sI_inv e0; obtain ⟨rfl, ez⟩ := sE_inv e1; exact c_X9_hostOf E ez) ((cxI_ok (fun As h x h2 e => by obtain ⟨_, _, rfl, e0⟩ := sR_inv e; obtain ⟨_, _, rfl, e1⟩ := sI_inv e0; obtain ⟨_, _, rfl, e2⟩ := sI_inv e1; obtain ⟨_, _, rfl, e3⟩ := sI_inv e2; obtain ⟨rfl, ez⟩ := sE_inv e3; exact c_X9_looks E ez) (fI0_ok E))))))
def FV_X9_reaches : Nat → List Value → AH → Option (AH) := (cx 293 (fun As h => sR As fun a0 As => sI As fun x1 As => sI As fun x2 As => sE As (p_X9_filled a0 x1 x2 h)) fV0)
theorem FV_X9_reaches_ok {l : Launch} {D : va_G} {dA : Nat → ClassId} {z : Nat} {sa : Nat → Nat} {Hz : Heap} (E : StrOK qLen qCh l D dA z sa Hz) : ∀ mi As h h', FV_X9_reaches mi As h = some h' → CalOK l D dA z sa Hz (MT mi) As h none h' := (cxV_ok (fun As h h2 e => by obtain ⟨_, _, rfl, e0⟩ := sR_inv e; obtain ⟨_, _, rfl, e1⟩ := sI_inv e0; obtain ⟨_, _, rfl, e2⟩ := sI_inv e1; obtain ⟨rfl, ez⟩ := sE_inv e2; exact c_X9_filled E ez) (fV0_ok E))
def I_X9_reaches_88 : List AI := [(.aload_n 0, 1, [], 0), (.iload_n 1, 1, [], 0), (.iload_n 2, 1, [], 0), (.invokevirtual 379, 3, [2, 293, 3, 8, 1923], 0), (.iload 4, 2, [], 0), (.ireturn, 1, [], 0)]
theorem ok_X9_reaches_88 : vBL MT qLen qCh false q_X9_reaches.2.2.2.2.1 q_X9_reaches.2.2.2.2.2.1 q_X9_reaches.2.2.1 q_X9_reaches.1.cls q_X9_reaches.1.name q_X9_reaches.2.1 0 88 I_X9_reaches_88 = true := by decide +kernel
def p_X9_reaches_88 (a0 : Nat) (x1 : Int32) (x2 : Int32) (x4 : Int32) (h : AH) : Option (Int32 × AH) :=
  if (tg h a0).1 = 8 then ((p_X9_filled a0 x1 x2 h).bind fun h101 =>
  some (x4, h101)) else none
set_option maxRecDepth 100000 in
theorem e_X9_reaches_88 {l : Launch} {D : va_G} {dA : Nat → ClassId} {z : Nat} {sa : Nat → Nat} {Hz : Heap} (E : StrOK qLen qCh l D dA z sa Hz) {h0 fin : AH} {x : Int32}  : ∀ (a0 : Nat) (x1 : Int32) (x2 : Int32) (x4 : Int32) (h : AH), p_X9_reaches_88 a0 x1 x2 x4 h = some (x, fin) → GM l D dA z sa Hz q_X9_reaches h0 (some (.int x)) fin 88 [(0, .ref a0), (1, .int x1), (2, .int x2), (4, .int x4)] [] h := by
  intro a0 x1 x2 x4 h hd
  exact step E (is := I_X9_reaches_88) (pc := 88) (K := k0) (FI := FI_X9_reaches) (FV := FV_X9_reaches) (FL := fL0) (rt := rtI) (ft := 0) (by exact hd) ok_X9_reaches_88 k0_ok (FI_X9_reaches_ok E) (FV_X9_reaches_ok E) (fL0_ok E) (rtI_ok rfl)
def I_X9_reaches_51 : List AI := [(.aload_n 0, 1, [], 0), (.dup, 1, [], 0), (.getfield 298, 3, [8, 27, 0, 1372], 0), (.iconst 1, 1, [], 1), (.iadd, 1, [], 0), (.putfield 298, 3, [8, 27, 0, 1372], 0), (.aload_n 0, 1, [], 0), (.iload_n 1, 1, [], 0), (.iload_n 2, 1, [], 0), (.iload_n 3, 1, [], 0), (.invokevirtual 376, 3, [1, 258, 4, 8, 1763], 0), (.istore 4, 2, [], 0), (.iload 4, 2, [], 0), (.ifCond .ge 16, 3, [88], 0), (.aload_n 0, 1, [], 0), (.dup, 1, [], 0), (.getfield 304, 3, [8, 29, 0, 1374], 0), (.iconst 1, 1, [], 1), (.iadd, 1, [], 0), (.putfield 304, 3, [8, 29, 0, 1374], 0), (.iload 4, 2, [], 0), (.ireturn, 1, [], 0)]
theorem ok_X9_reaches_51 : vBL MT qLen qCh false q_X9_reaches.2.2.2.2.1 q_X9_reaches.2.2.2.2.2.1 q_X9_reaches.2.2.1 q_X9_reaches.1.cls q_X9_reaches.1.name q_X9_reaches.2.1 0 51 I_X9_reaches_51 = true := by decide +kernel
def p_X9_reaches_51 (a0 : Nat) (x1 : Int32) (x2 : Int32) (x3 : Int32) (h : AH) : Option (Int32 × AH) :=
  if (tg h a0).1 = 8 then (if (tg h a0).1 = 8 then (let h102 := wI h a0 27 ((rI h a0 27) + ((1 : Int32)))
  if (tg h102 a0).1 = 8 then ((p_X9_looks a0 x1 x2 x3 h102).bind fun q103 =>
  if q103.1 < 0 then (if (tg q103.2 a0).1 = 8 then (if (tg q103.2 a0).1 = 8 then (let h105 := wI q103.2 a0 29 ((rI q103.2 a0 29) + ((1 : Int32)))
  some (q103.1, h105)) else none) else none)
  else
  if (tg q103.2 a0).1 = 8 then ((p_X9_filled a0 x1 x2 q103.2).bind fun h104 =>
  some (q103.1, h104)) else none) else none) else none) else none
set_option maxRecDepth 100000 in
theorem e_X9_reaches_51 {l : Launch} {D : va_G} {dA : Nat → ClassId} {z : Nat} {sa : Nat → Nat} {Hz : Heap} (E : StrOK qLen qCh l D dA z sa Hz) {h0 fin : AH} {x : Int32}  : ∀ (a0 : Nat) (x1 : Int32) (x2 : Int32) (x3 : Int32) (h : AH), p_X9_reaches_51 a0 x1 x2 x3 h = some (x, fin) → GM l D dA z sa Hz q_X9_reaches h0 (some (.int x)) fin 51 [(0, .ref a0), (1, .int x1), (2, .int x2), (3, .int x3)] [] h := by
  intro a0 x1 x2 x3 h hd
  exact step E (is := I_X9_reaches_51) (pc := 51) (K := (kx 88 (fun la st h => gR la 0 fun a0 => gI la 1 fun x1 => gI la 2 fun x2 => gI la 4 fun x4 => sE st (p_X9_reaches_88 a0 x1 x2 x4 h)) k0)) (FI := FI_X9_reaches) (FV := FV_X9_reaches) (FL := fL0) (rt := rtI) (ft := 0) (by exact hd) ok_X9_reaches_51 (kx_ok (fun la st h e => by obtain ⟨a0, m_a0, e1⟩ := gR_inv e; obtain ⟨x1, m_x1, e2⟩ := gI_inv e1; obtain ⟨x2, m_x2, e3⟩ := gI_inv e2; obtain ⟨x4, m_x4, e4⟩ := gI_inv e3; obtain ⟨rfl, ez⟩ := sE_inv e4; exact gm_fewer (e_X9_reaches_88 E  a0 x1 x2 x4 h ez) (mem_cons m_a0 (mem_cons m_x1 (mem_cons m_x2 (mem_cons m_x4 mem_nil))))) k0_ok) (FI_X9_reaches_ok E) (FV_X9_reaches_ok E) (fL0_ok E) (rtI_ok rfl)
def I_X9_reaches_25 : List AI := [(.putfield 372, 3, [8, 31, 3, 1376], 0), (.aload_n 0, 1, [], 0), (.getfield 372, 3, [8, 31, 3, 1376], 0), (.ifCond .eq 19, 3, [51], 0), (.aload_n 0, 1, [], 0), (.aload_n 0, 1, [], 0), (.getfield 21, 3, [8, 16, 2, 1361], 0), (.aload_n 0, 1, [], 0), (.getfield 369, 3, [8, 30, 0, 1375], 0), (.iaload, 1, [], 0), (.iconst 4, 1, [], 4), (.idiv, 1, [], 0), (.invokevirtual 344, 3, [1, 241, 2, 8, 1725], 0), (.ireturn, 1, [], 0)]
theorem ok_X9_reaches_25 : vBL MT qLen qCh false q_X9_reaches.2.2.2.2.1 q_X9_reaches.2.2.2.2.2.1 q_X9_reaches.2.2.1 q_X9_reaches.1.cls q_X9_reaches.1.name q_X9_reaches.2.1 0 25 I_X9_reaches_25 = true := by decide +kernel
def p_X9_reaches_25 (a0 : Nat) (x1 : Int32) (x2 : Int32) (x3 : Int32) (y0 : Int32) (b1 : Nat) (h : AH) : Option (Int32 × AH) :=
  if (tg h b1).1 = 8 then (if y0 &&& 1 = y0 then (let h106 := wI h b1 31 y0
  if (tg h106 a0).1 = 8 then (if (rI h106 a0 31) = 0 then (if (tg h106 a0).1 = 8 then (if (tg h106 a0).1 = 8 then (let h107 := wI h106 a0 27 ((rI h106 a0 27) + ((1 : Int32)))
  if (tg h107 a0).1 = 8 then ((p_X9_looks a0 x1 x2 x3 h107).bind fun q108 =>
  if q108.1 < 0 then (if (tg q108.2 a0).1 = 8 then (if (tg q108.2 a0).1 = 8 then (let h110 := wI q108.2 a0 29 ((rI q108.2 a0 29) + ((1 : Int32)))
  some (q108.1, h110)) else none) else none)
  else
  if (tg q108.2 a0).1 = 8 then ((p_X9_filled a0 x1 x2 q108.2).bind fun h109 =>
  some (q108.1, h109)) else none) else none) else none) else none)
  else
  if (tg h106 a0).1 = 8 then (if (tg h106 a0).1 = 8 then (if inB h106 (rR h106 a0 16) 100 (rI h106 a0 30) then (if ((4 : Int32)) = 0 then none else
  if (tg h106 a0).1 = 8 then ((p_X9_hostOf a0 ((rI h106 (rR h106 a0 16) (rI h106 a0 30).toNatClampNeg) / ((4 : Int32))) h106).bind fun q111 =>
  some (q111.1, q111.2)) else none) else none) else none) else none) else none) else none) else none
set_option maxRecDepth 100000 in
theorem e_X9_reaches_25 {l : Launch} {D : va_G} {dA : Nat → ClassId} {z : Nat} {sa : Nat → Nat} {Hz : Heap} (E : StrOK qLen qCh l D dA z sa Hz) {h0 fin : AH} {x : Int32}  : ∀ (a0 : Nat) (x1 : Int32) (x2 : Int32) (x3 : Int32) (y0 : Int32) (b1 : Nat) (h : AH), p_X9_reaches_25 a0 x1 x2 x3 y0 b1 h = some (x, fin) → GM l D dA z sa Hz q_X9_reaches h0 (some (.int x)) fin 25 [(0, .ref a0), (1, .int x1), (2, .int x2), (3, .int x3)] [.int y0, .ref b1] h := by
  intro a0 x1 x2 x3 y0 b1 h hd
  exact step E (is := I_X9_reaches_25) (pc := 25) (K := (kx 51 (fun la st h => gR la 0 fun a0 => gI la 1 fun x1 => gI la 2 fun x2 => gI la 3 fun x3 => sE st (p_X9_reaches_51 a0 x1 x2 x3 h)) k0)) (FI := FI_X9_reaches) (FV := FV_X9_reaches) (FL := fL0) (rt := rtI) (ft := 0) (by exact hd) ok_X9_reaches_25 (kx_ok (fun la st h e => by obtain ⟨a0, m_a0, e1⟩ := gR_inv e; obtain ⟨x1, m_x1, e2⟩ := gI_inv e1; obtain ⟨x2, m_x2, e3⟩ := gI_inv e2; obtain ⟨x3, m_x3, e4⟩ := gI_inv e3; obtain ⟨rfl, ez⟩ := sE_inv e4; exact gm_fewer (e_X9_reaches_51 E  a0 x1 x2 x3 h ez) (mem_cons m_a0 (mem_cons m_x1 (mem_cons m_x2 (mem_cons m_x3 mem_nil))))) k0_ok) (FI_X9_reaches_ok E) (FV_X9_reaches_ok E) (fL0_ok E) (rtI_ok rfl)
def I_X9_reaches_24 : List AI := [(.iconst 0, 1, [], 0)]
theorem ok_X9_reaches_24 : vBL MT qLen qCh false q_X9_reaches.2.2.2.2.1 q_X9_reaches.2.2.2.2.2.1 q_X9_reaches.2.2.1 q_X9_reaches.1.cls q_X9_reaches.1.name q_X9_reaches.2.1 25 24 I_X9_reaches_24 = true := by decide +kernel
def p_X9_reaches_24 (a0 : Nat) (x1 : Int32) (x2 : Int32) (x3 : Int32) (b0 : Nat) (h : AH) : Option (Int32 × AH) :=
  p_X9_reaches_25 a0 x1 x2 x3 ((0 : Int32)) b0 h
set_option maxRecDepth 100000 in
theorem e_X9_reaches_24 {l : Launch} {D : va_G} {dA : Nat → ClassId} {z : Nat} {sa : Nat → Nat} {Hz : Heap} (E : StrOK qLen qCh l D dA z sa Hz) {h0 fin : AH} {x : Int32}  : ∀ (a0 : Nat) (x1 : Int32) (x2 : Int32) (x3 : Int32) (b0 : Nat) (h : AH), p_X9_reaches_24 a0 x1 x2 x3 b0 h = some (x, fin) → GM l D dA z sa Hz q_X9_reaches h0 (some (.int x)) fin 24 [(0, .ref a0), (1, .int x1), (2, .int x2), (3, .int x3)] [.ref b0] h := by
  intro a0 x1 x2 x3 b0 h hd
  exact step E (is := I_X9_reaches_24) (pc := 24) (K := (kx 25 (fun la st h => gR la 0 fun a0 => gI la 1 fun x1 => gI la 2 fun x2 => gI la 3 fun x3 => sI st fun y0 st => sR st fun b1 st => sE st (p_X9_reaches_25 a0 x1 x2 x3 y0 b1 h)) k0)) (FI := FI_X9_reaches) (FV := FV_X9_reaches) (FL := fL0) (rt := rtI) (ft := 25) (by exact hd) ok_X9_reaches_24 (kx_ok (fun la st h e => by obtain ⟨a0, m_a0, e1⟩ := gR_inv e; obtain ⟨x1, m_x1, e2⟩ := gI_inv e1; obtain ⟨x2, m_x2, e3⟩ := gI_inv e2; obtain ⟨x3, m_x3, e4⟩ := gI_inv e3; obtain ⟨y0, _, rfl, e5⟩ := sI_inv e4; obtain ⟨b1, _, rfl, e6⟩ := sR_inv e5; obtain ⟨rfl, ez⟩ := sE_inv e6; exact gm_fewer (e_X9_reaches_25 E  a0 x1 x2 x3 y0 b1 h ez) (mem_cons m_a0 (mem_cons m_x1 (mem_cons m_x2 (mem_cons m_x3 mem_nil))))) k0_ok) (FI_X9_reaches_ok E) (FV_X9_reaches_ok E) (fL0_ok E) (rtI_ok rfl)
def I_X9_reaches_0 : List AI := [(.aload_n 0, 1, [], 0), (.aload_n 0, 1, [], 0), (.iload_n 1, 1, [], 0), (.iload_n 2, 1, [], 0), (.iload_n 3, 1, [], 0), (.invokevirtual 365, 3, [1, 266, 4, 8, 1815], 0), (.putfield 369, 3, [8, 30, 0, 1375], 0), (.aload_n 0, 1, [], 0), (.aload_n 0, 1, [], 0), (.getfield 369, 3, [8, 30, 0, 1375], 0), (.iconst (-1), 1, [], (-1)), (.if_icmp .eq 7, 3, [24], 0), (.iconst 1, 1, [], 1), (.goto 4, 3, [25], 0)]
theorem ok_X9_reaches_0 : vBL MT qLen qCh false q_X9_reaches.2.2.2.2.1 q_X9_reaches.2.2.2.2.2.1 q_X9_reaches.2.2.1 q_X9_reaches.1.cls q_X9_reaches.1.name q_X9_reaches.2.1 0 0 I_X9_reaches_0 = true := by decide +kernel
def p_X9_reaches (a0 : Nat) (x1 : Int32) (x2 : Int32) (x3 : Int32) (h : AH) : Option (Int32 × AH) :=
  if (tg h a0).1 = 8 then ((p_X9_hitAt a0 x1 x2 x3 h).bind fun q112 =>
  if (tg q112.2 a0).1 = 8 then (let h113 := wI q112.2 a0 30 q112.1
  if (tg h113 a0).1 = 8 then (if (rI h113 a0 30) = ((-1 : Int32)) then (p_X9_reaches_25 a0 x1 x2 x3 ((0 : Int32)) a0 h113)
  else
  p_X9_reaches_25 a0 x1 x2 x3 ((1 : Int32)) a0 h113) else none) else none) else none
set_option maxRecDepth 100000 in
theorem e_X9_reaches_0 {l : Launch} {D : va_G} {dA : Nat → ClassId} {z : Nat} {sa : Nat → Nat} {Hz : Heap} (E : StrOK qLen qCh l D dA z sa Hz) {h0 fin : AH} {x : Int32}  : ∀ (a0 : Nat) (x1 : Int32) (x2 : Int32) (x3 : Int32) (h : AH), p_X9_reaches a0 x1 x2 x3 h = some (x, fin) → GM l D dA z sa Hz q_X9_reaches h0 (some (.int x)) fin 0 [(0, .ref a0), (1, .int x1), (2, .int x2), (3, .int x3)] [] h := by
  intro a0 x1 x2 x3 h hd
  exact step E (is := I_X9_reaches_0) (pc := 0) (K := (kx 24 (fun la st h => gR la 0 fun a0 => gI la 1 fun x1 => gI la 2 fun x2 => gI la 3 fun x3 => sR st fun b0 st => sE st (p_X9_reaches_24 a0 x1 x2 x3 b0 h)) (kx 25 (fun la st h => gR la 0 fun a0 => gI la 1 fun x1 => gI la 2 fun x2 => gI la 3 fun x3 => sI st fun y0 st => sR st fun b1 st => sE st (p_X9_reaches_25 a0 x1 x2 x3 y0 b1 h)) k0))) (FI := FI_X9_reaches) (FV := FV_X9_reaches) (FL := fL0) (rt := rtI) (ft := 0) (by exact hd) ok_X9_reaches_0 (kx_ok (fun la st h e => by obtain ⟨a0, m_a0, e1⟩ := gR_inv e; obtain ⟨x1, m_x1, e2⟩ := gI_inv e1; obtain ⟨x2, m_x2, e3⟩ := gI_inv e2; obtain ⟨x3, m_x3, e4⟩ := gI_inv e3; obtain ⟨b0, _, rfl, e5⟩ := sR_inv e4; obtain ⟨rfl, ez⟩ := sE_inv e5; exact gm_fewer (e_X9_reaches_24 E  a0 x1 x2 x3 b0 h ez) (mem_cons m_a0 (mem_cons m_x1 (mem_cons m_x2 (mem_cons m_x3 mem_nil))))) (kx_ok (fun la st h e => by obtain ⟨a0, m_a0, e1⟩ := gR_inv e; obtain ⟨x1, m_x1, e2⟩ := gI_inv e1; obtain ⟨x2, m_x2, e3⟩ := gI_inv e2; obtain ⟨x3, m_x3, e4⟩ := gI_inv e3; obtain ⟨y0, _, rfl, e5⟩ := sI_inv e4; obtain ⟨b1, _, rfl, e6⟩ := sR_inv e5; obtain ⟨rfl, ez⟩ := sE_inv e6; exact gm_fewer (e_X9_reaches_25 E  a0 x1 x2 x3 y0 b1 h ez) (mem_cons m_a0 (mem_cons m_x1 (mem_cons m_x2 (mem_cons m_x3 mem_nil))))) k0_ok)) (FI_X9_reaches_ok E) (FV_X9_reaches_ok E) (fL0_ok E) (rtI_ok rfl)
theorem c_X9_reaches {l : Launch} {D : va_G} {dA : Nat → ClassId} {z : Nat} {sa : Nat → Nat} {Hz : Heap} (E : StrOK qLen qCh l D dA z sa Hz) {a0 : Nat} {x1 : Int32} {x2 : Int32} {x3 : Int32} {h fin : AH} {x : Int32} (hd : p_X9_reaches a0 x1 x2 x3 h = some (x, fin)) : CalOK l D dA z sa Hz q_X9_reaches [.ref a0, .int x1, .int x2, .int x3] h (some (.int x)) fin := calOf (by decide +kernel) (Nat.le_of_ble_eq_true rfl) (e_X9_reaches_0 E a0 x1 x2 x3 h hd)
def FI_X9_runs : Nat → List Value → AH → Option (Int32 × AH) := (cx 228 (fun As h => sI As fun x0 As => sI As fun x1 As => sE As (p_X9_bit x0 x1 h)) (cx 294 (fun As h => sR As fun a0 As => sI As fun x1 As => sI As fun x2 As => sI As fun x3 As => sE As (p_X9_reaches a0 x1 x2 x3 h)) fI0))
theorem FI_X9_runs_ok {l : Launch} {D : va_G} {dA : Nat → ClassId} {z : Nat} {sa : Nat → Nat} {Hz : Heap} (E : StrOK qLen qCh l D dA z sa Hz) : ∀ mi As h x h', FI_X9_runs mi As h = some (x, h') → CalOK l D dA z sa Hz (MT mi) As h (some (.int x)) h' := (cxI_ok (fun As h x h2 e => by obtain ⟨_, _, rfl, e0⟩ := sI_inv e; obtain ⟨_, _, rfl, e1⟩ := sI_inv e0; obtain ⟨rfl, ez⟩ := sE_inv e1; exact c_X9_bit E ez) ((cxI_ok (fun As h x h2 e => by obtain ⟨_, _, rfl, e0⟩ := sR_inv e; obtain ⟨_, _, rfl, e1⟩ := sI_inv e0; obtain ⟨_, _, rfl, e2⟩ := sI_inv e1; obtain ⟨_, _, rfl, e3⟩ := sI_inv e2; obtain ⟨rfl, ez⟩ := sE_inv e3; exact c_X9_reaches E ez) (fI0_ok E))))
def FV_X9_runs : Nat → List Value → AH → Option (AH) := (cx 231 (fun As h => sR As fun a0 As => sI As fun x1 As => sE As (p_X9_asTold a0 x1 h)) fV0)
theorem FV_X9_runs_ok {l : Launch} {D : va_G} {dA : Nat → ClassId} {z : Nat} {sa : Nat → Nat} {Hz : Heap} (E : StrOK qLen qCh l D dA z sa Hz) : ∀ mi As h h', FV_X9_runs mi As h = some h' → CalOK l D dA z sa Hz (MT mi) As h none h' := (cxV_ok (fun As h h2 e => by obtain ⟨_, _, rfl, e0⟩ := sR_inv e; obtain ⟨_, _, rfl, e1⟩ := sI_inv e0; obtain ⟨rfl, ez⟩ := sE_inv e1; exact c_X9_asTold E ez) (fV0_ok E))
def I_X9_runs_69 : List AI := [(.return_, 1, [], 0)]
theorem ok_X9_runs_69 : vBL MT qLen qCh false q_X9_runs.2.2.2.2.1 q_X9_runs.2.2.2.2.2.1 q_X9_runs.2.2.1 q_X9_runs.1.cls q_X9_runs.1.name q_X9_runs.2.1 0 69 I_X9_runs_69 = true := by decide +kernel
def p_X9_runs_69 (h : AH) : Option (AH) :=
  some h
set_option maxRecDepth 100000 in
theorem e_X9_runs_69 {l : Launch} {D : va_G} {dA : Nat → ClassId} {z : Nat} {sa : Nat → Nat} {Hz : Heap} (E : StrOK qLen qCh l D dA z sa Hz) {h0 fin : AH}  : ∀  (h : AH), p_X9_runs_69 h = some fin → GM l D dA z sa Hz q_X9_runs h0 none fin 69 [] [] h := by
  intro h hd
  exact step E (is := I_X9_runs_69) (pc := 69) (K := k0) (FI := FI_X9_runs) (FV := FV_X9_runs) (FL := fL0) (rt := rtV) (ft := 0) (by exact hd) ok_X9_runs_69 k0_ok (FI_X9_runs_ok E) (FV_X9_runs_ok E) (fL0_ok E) (rtV_ok rfl)
def I_X9_runs_12 : List AI := [(.iload_n 2, 1, [], 0), (.aload_n 0, 1, [], 0), (.getfield 265, 3, [8, 3, 2, 1348], 0), (.getfield 213, 3, [7, 5, 0, 1496], 0), (.if_icmp .ge 49, 3, [69], 0), (.aload_n 0, 1, [], 0), (.aload_n 0, 1, [], 0), (.getfield 265, 3, [8, 3, 2, 1348], 0), (.getfield 219, 3, [7, 11, 2, 1508], 0), (.iload_n 2, 1, [], 0), (.iaload, 1, [], 0), (.aload_n 0, 1, [], 0), (.getfield 265, 3, [8, 3, 2, 1348], 0), (.getfield 221, 3, [7, 12, 2, 1510], 0), (.iload_n 2, 1, [], 0), (.iaload, 1, [], 0), (.iconst 0, 1, [], 0), (.invokestatic 307, 3, [1, 228, 2, 1679], 0), (.aload_n 0, 1, [], 0), (.getfield 265, 3, [8, 3, 2, 1348], 0), (.getfield 221, 3, [7, 12, 2, 1510], 0), (.iload_n 2, 1, [], 0), (.iaload, 1, [], 0), (.iconst 1, 1, [], 1), (.invokestatic 307, 3, [1, 228, 2, 1679], 0), (.invokevirtual 389, 3, [1, 294, 4, 8, 1919], 0), (.pop, 1, [], 0), (.iinc 2 1, 3, [], 1), (.goto (-54), 3, [12], 0)]
theorem ok_X9_runs_12 : vBL MT qLen qCh false q_X9_runs.2.2.2.2.1 q_X9_runs.2.2.2.2.2.1 q_X9_runs.2.2.1 q_X9_runs.1.cls q_X9_runs.1.name q_X9_runs.2.1 0 12 I_X9_runs_12 = true := by decide +kernel
def p_X9_runs_12 : Nat → Nat → Int32 → AH → Option (AH)
  | 0, _, _, _ => none
  | n + 1, a0, x2, h => if (tg h a0).1 = 8 then (if (tg h (rR h a0 3)).1 = 7 then (if x2 < (rI h (rR h a0 3) 5) then (if (tg h a0).1 = 8 then (if (tg h (rR h a0 3)).1 = 7 then (if inB h (rR h (rR h a0 3) 11) 100 x2 then (if (tg h a0).1 = 8 then (if (tg h (rR h a0 3)).1 = 7 then (if inB h (rR h (rR h a0 3) 12) 100 x2 then ((p_X9_bit (rI h (rR h (rR h a0 3) 12) x2.toNatClampNeg) ((0 : Int32)) h).bind fun q101 =>
    if (tg q101.2 a0).1 = 8 then (if (tg q101.2 (rR q101.2 a0 3)).1 = 7 then (if inB q101.2 (rR q101.2 (rR q101.2 a0 3) 12) 100 x2 then ((p_X9_bit (rI q101.2 (rR q101.2 (rR q101.2 a0 3) 12) x2.toNatClampNeg) ((1 : Int32)) q101.2).bind fun q102 =>
    if (tg q102.2 a0).1 = 8 then ((p_X9_reaches a0 (rI h (rR h (rR h a0 3) 11) x2.toNatClampNeg) q101.1 q102.1 q102.2).bind fun q103 =>
    p_X9_runs_12 n a0 (x2 + (1 : Int32)) q103.2) else none) else none) else none) else none) else none) else none) else none) else none) else none) else none)
    else
    some h) else none) else none
set_option maxRecDepth 100000 in
theorem e_X9_runs_12 {l : Launch} {D : va_G} {dA : Nat → ClassId} {z : Nat} {sa : Nat → Nat} {Hz : Heap} (E : StrOK qLen qCh l D dA z sa Hz) {h0 fin : AH}  : ∀ (n : Nat) (a0 : Nat) (x2 : Int32) (h : AH), p_X9_runs_12 n a0 x2 h = some fin → GM l D dA z sa Hz q_X9_runs h0 none fin 12 [(0, .ref a0), (2, .int x2)] [] h := by
  intro n
  induction n with
  | zero => intro a0 x2 h hd; exact nomatch hd
  | succ n ih =>
    intro a0 x2 h hd
    exact step E (is := I_X9_runs_12) (pc := 12) (K := (kx 69 (fun la st h => sE st (p_X9_runs_69 h)) (kx 12 (fun la st h => gR la 0 fun a0 => gI la 2 fun x2 => sE st (p_X9_runs_12 n a0 x2 h)) k0))) (FI := FI_X9_runs) (FV := FV_X9_runs) (FL := fL0) (rt := rtV) (ft := 0) (by exact hd) ok_X9_runs_12 (kx_ok (fun la st h e => by obtain ⟨rfl, ez⟩ := sE_inv e; exact gm_fewer (e_X9_runs_69 E   h ez) mem_nil) (kx_ok (fun la st h e => by obtain ⟨a0, m_a0, e1⟩ := gR_inv e; obtain ⟨x2, m_x2, e2⟩ := gI_inv e1; obtain ⟨rfl, ez⟩ := sE_inv e2; exact gm_fewer (ih a0 x2 h ez) (mem_cons m_a0 (mem_cons m_x2 mem_nil))) k0_ok)) (FI_X9_runs_ok E) (FV_X9_runs_ok E) (fL0_ok E) (rtV_ok rfl)
def I_X9_runs_0 : List AI := [(.aload_n 0, 1, [], 0), (.iconst 0, 1, [], 0), (.invokevirtual 267, 3, [2, 231, 2, 8, 1675], 0), (.aload_n 0, 1, [], 0), (.iload_n 1, 1, [], 0), (.putfield 297, 3, [8, 26, 0, 1371], 0), (.iconst 0, 1, [], 0), (.istore_n 2, 1, [], 0)]
theorem ok_X9_runs_0 : vBL MT qLen qCh false q_X9_runs.2.2.2.2.1 q_X9_runs.2.2.2.2.2.1 q_X9_runs.2.2.1 q_X9_runs.1.cls q_X9_runs.1.name q_X9_runs.2.1 12 0 I_X9_runs_0 = true := by decide +kernel
def p_X9_runs (a0 : Nat) (x1 : Int32) (h : AH) : Option (AH) :=
  if (tg h a0).1 = 8 then ((p_X9_asTold a0 ((0 : Int32)) h).bind fun h104 =>
  if (tg h104 a0).1 = 8 then (let h105 := wI h104 a0 26 x1
  p_X9_runs_12 FU a0 ((0 : Int32)) h105) else none) else none
set_option maxRecDepth 100000 in
theorem e_X9_runs_0 {l : Launch} {D : va_G} {dA : Nat → ClassId} {z : Nat} {sa : Nat → Nat} {Hz : Heap} (E : StrOK qLen qCh l D dA z sa Hz) {h0 fin : AH}  : ∀ (a0 : Nat) (x1 : Int32) (h : AH), p_X9_runs a0 x1 h = some fin → GM l D dA z sa Hz q_X9_runs h0 none fin 0 [(0, .ref a0), (1, .int x1)] [] h := by
  intro a0 x1 h hd
  exact step E (is := I_X9_runs_0) (pc := 0) (K := (kx 12 (fun la st h => gR la 0 fun a0 => gI la 2 fun x2 => sE st (p_X9_runs_12 FU a0 x2 h)) k0)) (FI := FI_X9_runs) (FV := FV_X9_runs) (FL := fL0) (rt := rtV) (ft := 12) (by exact hd) ok_X9_runs_0 (kx_ok (fun la st h e => by obtain ⟨a0, m_a0, e1⟩ := gR_inv e; obtain ⟨x2, m_x2, e2⟩ := gI_inv e1; obtain ⟨rfl, ez⟩ := sE_inv e2; exact gm_fewer (e_X9_runs_12 E  FU a0 x2 h ez) (mem_cons m_a0 (mem_cons m_x2 mem_nil))) k0_ok) (FI_X9_runs_ok E) (FV_X9_runs_ok E) (fL0_ok E) (rtV_ok rfl)
theorem c_X9_runs {l : Launch} {D : va_G} {dA : Nat → ClassId} {z : Nat} {sa : Nat → Nat} {Hz : Heap} (E : StrOK qLen qCh l D dA z sa Hz) {a0 : Nat} {x1 : Int32} {h fin : AH} (hd : p_X9_runs a0 x1 h = some fin) : CalOK l D dA z sa Hz q_X9_runs [.ref a0, .int x1] h none fin := calOf (by decide +kernel) (Nat.le_of_ble_eq_true rfl) (e_X9_runs_0 E a0 x1 h hd)
def FI_X9_runFaults : Nat → List Value → AH → Option (Int32 × AH) := (cx 289 (fun As h => sR As fun a0 As => sI As fun x1 As => sE As (p_X9_refusesPool a0 x1 h)) (cx 201 (fun As h => sR As fun a0 As => sI As fun x1 As => sE As (p_X9_refused a0 x1 h)) (cx 233 (fun As h => sR As fun a0 As => sI As fun x1 As => sE As (p_X9_good a0 x1 h)) fI0)))
theorem FI_X9_runFaults_ok {l : Launch} {D : va_G} {dA : Nat → ClassId} {z : Nat} {sa : Nat → Nat} {Hz : Heap} (E : StrOK qLen qCh l D dA z sa Hz) : ∀ mi As h x h', FI_X9_runFaults mi As h = some (x, h') → CalOK l D dA z sa Hz (MT mi) As h (some (.int x)) h' := (cxI_ok (fun As h x h2 e => by obtain ⟨_, _, rfl, e0⟩ := sR_inv e; obtain ⟨_, _, rfl, e1⟩ := sI_inv e0; obtain ⟨rfl, ez⟩ := sE_inv e1; exact c_X9_refusesPool E ez) ((cxI_ok (fun As h x h2 e => by obtain ⟨_, _, rfl, e0⟩ := sR_inv e; obtain ⟨_, _, rfl, e1⟩ := sI_inv e0; obtain ⟨rfl, ez⟩ := sE_inv e1; exact c_X9_refused E ez) ((cxI_ok (fun As h x h2 e => by obtain ⟨_, _, rfl, e0⟩ := sR_inv e; obtain ⟨_, _, rfl, e1⟩ := sI_inv e0; obtain ⟨rfl, ez⟩ := sE_inv e1; exact c_X9_good E ez) (fI0_ok E))))))
def FV_X9_runFaults : Nat → List Value → AH → Option (AH) := (cx 295 (fun As h => sR As fun a0 As => sI As fun x1 As => sE As (p_X9_runs a0 x1 h)) fV0)
theorem FV_X9_runFaults_ok {l : Launch} {D : va_G} {dA : Nat → ClassId} {z : Nat} {sa : Nat → Nat} {Hz : Heap} (E : StrOK qLen qCh l D dA z sa Hz) : ∀ mi As h h', FV_X9_runFaults mi As h = some h' → CalOK l D dA z sa Hz (MT mi) As h none h' := (cxV_ok (fun As h h2 e => by obtain ⟨_, _, rfl, e0⟩ := sR_inv e; obtain ⟨_, _, rfl, e1⟩ := sI_inv e0; obtain ⟨rfl, ez⟩ := sE_inv e1; exact c_X9_runs E ez) (fV0_ok E))
def I_X9_runFaults_21 : List AI := [(.aload_n 0, 1, [], 0), (.iload_n 1, 1, [], 0), (.invokevirtual 440, 3, [2, 295, 2, 8, 1915], 0), (.aload_n 0, 1, [], 0), (.aload_n 0, 1, [], 0), (.getfield 298, 3, [8, 27, 0, 1372], 0), (.invokevirtual 43, 3, [1, 233, 2, 8, 1694], 0), (.ireturn, 1, [], 0)]
theorem ok_X9_runFaults_21 : vBL MT qLen qCh false q_X9_runFaults.2.2.2.2.1 q_X9_runFaults.2.2.2.2.2.1 q_X9_runFaults.2.2.1 q_X9_runFaults.1.cls q_X9_runFaults.1.name q_X9_runFaults.2.1 0 21 I_X9_runFaults_21 = true := by decide +kernel
def p_X9_runFaults_21 (a0 : Nat) (x1 : Int32) (h : AH) : Option (Int32 × AH) :=
  if (tg h a0).1 = 8 then ((p_X9_runs a0 x1 h).bind fun h101 =>
  if (tg h101 a0).1 = 8 then (if (tg h101 a0).1 = 8 then ((p_X9_good a0 (rI h101 a0 27) h101).bind fun q102 =>
  some (q102.1, q102.2)) else none) else none) else none
set_option maxRecDepth 100000 in
theorem e_X9_runFaults_21 {l : Launch} {D : va_G} {dA : Nat → ClassId} {z : Nat} {sa : Nat → Nat} {Hz : Heap} (E : StrOK qLen qCh l D dA z sa Hz) {h0 fin : AH} {x : Int32}  : ∀ (a0 : Nat) (x1 : Int32) (h : AH), p_X9_runFaults_21 a0 x1 h = some (x, fin) → GM l D dA z sa Hz q_X9_runFaults h0 (some (.int x)) fin 21 [(0, .ref a0), (1, .int x1)] [] h := by
  intro a0 x1 h hd
  exact step E (is := I_X9_runFaults_21) (pc := 21) (K := k0) (FI := FI_X9_runFaults) (FV := FV_X9_runFaults) (FL := fL0) (rt := rtI) (ft := 0) (by exact hd) ok_X9_runFaults_21 k0_ok (FI_X9_runFaults_ok E) (FV_X9_runFaults_ok E) (fL0_ok E) (rtI_ok rfl)
def I_X9_runFaults_0 : List AI := [(.aload_n 0, 1, [], 0), (.iconst 0, 1, [], 0), (.putfield 33, 3, [8, 0, 0, 1345], 0), (.aload_n 0, 1, [], 0), (.iload_n 1, 1, [], 0), (.invokevirtual 437, 3, [1, 289, 2, 8, 1911], 0), (.istore_n 2, 1, [], 0), (.iload_n 2, 1, [], 0), (.ifCond .le 9, 3, [21], 0), (.aload_n 0, 1, [], 0), (.iload_n 2, 1, [], 0), (.invokevirtual 39, 3, [1, 201, 2, 8, 1481], 0), (.ireturn, 1, [], 0)]
theorem ok_X9_runFaults_0 : vBL MT qLen qCh false q_X9_runFaults.2.2.2.2.1 q_X9_runFaults.2.2.2.2.2.1 q_X9_runFaults.2.2.1 q_X9_runFaults.1.cls q_X9_runFaults.1.name q_X9_runFaults.2.1 0 0 I_X9_runFaults_0 = true := by decide +kernel
def p_X9_runFaults (a0 : Nat) (x1 : Int32) (h : AH) : Option (Int32 × AH) :=
  if (tg h a0).1 = 8 then (let h103 := wI h a0 0 ((0 : Int32))
  if (tg h103 a0).1 = 8 then ((p_X9_refusesPool a0 x1 h103).bind fun q104 =>
  if 0 < q104.1 then (if (tg q104.2 a0).1 = 8 then ((p_X9_refused a0 q104.1 q104.2).bind fun q107 =>
  some (q107.1, q107.2)) else none)
  else
  if (tg q104.2 a0).1 = 8 then ((p_X9_runs a0 x1 q104.2).bind fun h105 =>
  if (tg h105 a0).1 = 8 then (if (tg h105 a0).1 = 8 then ((p_X9_good a0 (rI h105 a0 27) h105).bind fun q106 =>
  some (q106.1, q106.2)) else none) else none) else none) else none) else none
set_option maxRecDepth 100000 in
theorem e_X9_runFaults_0 {l : Launch} {D : va_G} {dA : Nat → ClassId} {z : Nat} {sa : Nat → Nat} {Hz : Heap} (E : StrOK qLen qCh l D dA z sa Hz) {h0 fin : AH} {x : Int32}  : ∀ (a0 : Nat) (x1 : Int32) (h : AH), p_X9_runFaults a0 x1 h = some (x, fin) → GM l D dA z sa Hz q_X9_runFaults h0 (some (.int x)) fin 0 [(0, .ref a0), (1, .int x1)] [] h := by
  intro a0 x1 h hd
  exact step E (is := I_X9_runFaults_0) (pc := 0) (K := (kx 21 (fun la st h => gR la 0 fun a0 => gI la 1 fun x1 => sE st (p_X9_runFaults_21 a0 x1 h)) k0)) (FI := FI_X9_runFaults) (FV := FV_X9_runFaults) (FL := fL0) (rt := rtI) (ft := 0) (by exact hd) ok_X9_runFaults_0 (kx_ok (fun la st h e => by obtain ⟨a0, m_a0, e1⟩ := gR_inv e; obtain ⟨x1, m_x1, e2⟩ := gI_inv e1; obtain ⟨rfl, ez⟩ := sE_inv e2; exact gm_fewer (e_X9_runFaults_21 E  a0 x1 h ez) (mem_cons m_a0 (mem_cons m_x1 mem_nil))) k0_ok) (FI_X9_runFaults_ok E) (FV_X9_runFaults_ok E) (fL0_ok E) (rtI_ok rfl)
theorem c_X9_runFaults {l : Launch} {D : va_G} {dA : Nat → ClassId} {z : Nat} {sa : Nat → Nat} {Hz : Heap} (E : StrOK qLen qCh l D dA z sa Hz) {a0 : Nat} {x1 : Int32} {h fin : AH} {x : Int32} (hd : p_X9_runFaults a0 x1 h = some (x, fin)) : CalOK l D dA z sa Hz q_X9_runFaults [.ref a0, .int x1] h (some (.int x)) fin := calOf (by decide +kernel) (Nat.le_of_ble_eq_true rfl) (e_X9_runFaults_0 E a0 x1 h hd)
def FI_X9_runRefused : Nat → List Value → AH → Option (Int32 × AH) := (cx 289 (fun As h => sR As fun a0 As => sI As fun x1 As => sE As (p_X9_refusesPool a0 x1 h)) (cx 201 (fun As h => sR As fun a0 As => sI As fun x1 As => sE As (p_X9_refused a0 x1 h)) (cx 233 (fun As h => sR As fun a0 As => sI As fun x1 As => sE As (p_X9_good a0 x1 h)) fI0)))
theorem FI_X9_runRefused_ok {l : Launch} {D : va_G} {dA : Nat → ClassId} {z : Nat} {sa : Nat → Nat} {Hz : Heap} (E : StrOK qLen qCh l D dA z sa Hz) : ∀ mi As h x h', FI_X9_runRefused mi As h = some (x, h') → CalOK l D dA z sa Hz (MT mi) As h (some (.int x)) h' := (cxI_ok (fun As h x h2 e => by obtain ⟨_, _, rfl, e0⟩ := sR_inv e; obtain ⟨_, _, rfl, e1⟩ := sI_inv e0; obtain ⟨rfl, ez⟩ := sE_inv e1; exact c_X9_refusesPool E ez) ((cxI_ok (fun As h x h2 e => by obtain ⟨_, _, rfl, e0⟩ := sR_inv e; obtain ⟨_, _, rfl, e1⟩ := sI_inv e0; obtain ⟨rfl, ez⟩ := sE_inv e1; exact c_X9_refused E ez) ((cxI_ok (fun As h x h2 e => by obtain ⟨_, _, rfl, e0⟩ := sR_inv e; obtain ⟨_, _, rfl, e1⟩ := sI_inv e0; obtain ⟨rfl, ez⟩ := sE_inv e1; exact c_X9_good E ez) (fI0_ok E))))))
def FV_X9_runRefused : Nat → List Value → AH → Option (AH) := (cx 295 (fun As h => sR As fun a0 As => sI As fun x1 As => sE As (p_X9_runs a0 x1 h)) fV0)
theorem FV_X9_runRefused_ok {l : Launch} {D : va_G} {dA : Nat → ClassId} {z : Nat} {sa : Nat → Nat} {Hz : Heap} (E : StrOK qLen qCh l D dA z sa Hz) : ∀ mi As h h', FV_X9_runRefused mi As h = some h' → CalOK l D dA z sa Hz (MT mi) As h none h' := (cxV_ok (fun As h h2 e => by obtain ⟨_, _, rfl, e0⟩ := sR_inv e; obtain ⟨_, _, rfl, e1⟩ := sI_inv e0; obtain ⟨rfl, ez⟩ := sE_inv e1; exact c_X9_runs E ez) (fV0_ok E))
def I_X9_runRefused_21 : List AI := [(.aload_n 0, 1, [], 0), (.iload_n 1, 1, [], 0), (.invokevirtual 440, 3, [2, 295, 2, 8, 1915], 0), (.aload_n 0, 1, [], 0), (.aload_n 0, 1, [], 0), (.getfield 304, 3, [8, 29, 0, 1374], 0), (.invokevirtual 43, 3, [1, 233, 2, 8, 1694], 0), (.ireturn, 1, [], 0)]
theorem ok_X9_runRefused_21 : vBL MT qLen qCh false q_X9_runRefused.2.2.2.2.1 q_X9_runRefused.2.2.2.2.2.1 q_X9_runRefused.2.2.1 q_X9_runRefused.1.cls q_X9_runRefused.1.name q_X9_runRefused.2.1 0 21 I_X9_runRefused_21 = true := by decide +kernel
def p_X9_runRefused_21 (a0 : Nat) (x1 : Int32) (h : AH) : Option (Int32 × AH) :=
  if (tg h a0).1 = 8 then ((p_X9_runs a0 x1 h).bind fun h101 =>
  if (tg h101 a0).1 = 8 then (if (tg h101 a0).1 = 8 then ((p_X9_good a0 (rI h101 a0 29) h101).bind fun q102 =>
  some (q102.1, q102.2)) else none) else none) else none
set_option maxRecDepth 100000 in
theorem e_X9_runRefused_21 {l : Launch} {D : va_G} {dA : Nat → ClassId} {z : Nat} {sa : Nat → Nat} {Hz : Heap} (E : StrOK qLen qCh l D dA z sa Hz) {h0 fin : AH} {x : Int32}  : ∀ (a0 : Nat) (x1 : Int32) (h : AH), p_X9_runRefused_21 a0 x1 h = some (x, fin) → GM l D dA z sa Hz q_X9_runRefused h0 (some (.int x)) fin 21 [(0, .ref a0), (1, .int x1)] [] h := by
  intro a0 x1 h hd
  exact step E (is := I_X9_runRefused_21) (pc := 21) (K := k0) (FI := FI_X9_runRefused) (FV := FV_X9_runRefused) (FL := fL0) (rt := rtI) (ft := 0) (by exact hd) ok_X9_runRefused_21 k0_ok (FI_X9_runRefused_ok E) (FV_X9_runRefused_ok E) (fL0_ok E) (rtI_ok rfl)
def I_X9_runRefused_0 : List AI := [(.aload_n 0, 1, [], 0), (.iconst 0, 1, [], 0), (.putfield 33, 3, [8, 0, 0, 1345], 0), (.aload_n 0, 1, [], 0), (.iload_n 1, 1, [], 0), (.invokevirtual 437, 3, [1, 289, 2, 8, 1911], 0), (.istore_n 2, 1, [], 0), (.iload_n 2, 1, [], 0), (.ifCond .le 9, 3, [21], 0), (.aload_n 0, 1, [], 0), (.iload_n 2, 1, [], 0), (.invokevirtual 39, 3, [1, 201, 2, 8, 1481], 0), (.ireturn, 1, [], 0)]
theorem ok_X9_runRefused_0 : vBL MT qLen qCh false q_X9_runRefused.2.2.2.2.1 q_X9_runRefused.2.2.2.2.2.1 q_X9_runRefused.2.2.1 q_X9_runRefused.1.cls q_X9_runRefused.1.name q_X9_runRefused.2.1 0 0 I_X9_runRefused_0 = true := by decide +kernel
def p_X9_runRefused (a0 : Nat) (x1 : Int32) (h : AH) : Option (Int32 × AH) :=
  if (tg h a0).1 = 8 then (let h103 := wI h a0 0 ((0 : Int32))
  if (tg h103 a0).1 = 8 then ((p_X9_refusesPool a0 x1 h103).bind fun q104 =>
  if 0 < q104.1 then (if (tg q104.2 a0).1 = 8 then ((p_X9_refused a0 q104.1 q104.2).bind fun q107 =>
  some (q107.1, q107.2)) else none)
  else
  if (tg q104.2 a0).1 = 8 then ((p_X9_runs a0 x1 q104.2).bind fun h105 =>
  if (tg h105 a0).1 = 8 then (if (tg h105 a0).1 = 8 then ((p_X9_good a0 (rI h105 a0 29) h105).bind fun q106 =>
  some (q106.1, q106.2)) else none) else none) else none) else none) else none
set_option maxRecDepth 100000 in
theorem e_X9_runRefused_0 {l : Launch} {D : va_G} {dA : Nat → ClassId} {z : Nat} {sa : Nat → Nat} {Hz : Heap} (E : StrOK qLen qCh l D dA z sa Hz) {h0 fin : AH} {x : Int32}  : ∀ (a0 : Nat) (x1 : Int32) (h : AH), p_X9_runRefused a0 x1 h = some (x, fin) → GM l D dA z sa Hz q_X9_runRefused h0 (some (.int x)) fin 0 [(0, .ref a0), (1, .int x1)] [] h := by
  intro a0 x1 h hd
  exact step E (is := I_X9_runRefused_0) (pc := 0) (K := (kx 21 (fun la st h => gR la 0 fun a0 => gI la 1 fun x1 => sE st (p_X9_runRefused_21 a0 x1 h)) k0)) (FI := FI_X9_runRefused) (FV := FV_X9_runRefused) (FL := fL0) (rt := rtI) (ft := 0) (by exact hd) ok_X9_runRefused_0 (kx_ok (fun la st h e => by obtain ⟨a0, m_a0, e1⟩ := gR_inv e; obtain ⟨x1, m_x1, e2⟩ := gI_inv e1; obtain ⟨rfl, ez⟩ := sE_inv e2; exact gm_fewer (e_X9_runRefused_21 E  a0 x1 h ez) (mem_cons m_a0 (mem_cons m_x1 mem_nil))) k0_ok) (FI_X9_runRefused_ok E) (FV_X9_runRefused_ok E) (fL0_ok E) (rtI_ok rfl)
theorem c_X9_runRefused {l : Launch} {D : va_G} {dA : Nat → ClassId} {z : Nat} {sa : Nat → Nat} {Hz : Heap} (E : StrOK qLen qCh l D dA z sa Hz) {a0 : Nat} {x1 : Int32} {h fin : AH} {x : Int32} (hd : p_X9_runRefused a0 x1 h = some (x, fin)) : CalOK l D dA z sa Hz q_X9_runRefused [.ref a0, .int x1] h (some (.int x)) fin := calOf (by decide +kernel) (Nat.le_of_ble_eq_true rfl) (e_X9_runRefused_0 E a0 x1 h hd)
def FI_X9_runDrops : Nat → List Value → AH → Option (Int32 × AH) := (cx 289 (fun As h => sR As fun a0 As => sI As fun x1 As => sE As (p_X9_refusesPool a0 x1 h)) (cx 201 (fun As h => sR As fun a0 As => sI As fun x1 As => sE As (p_X9_refused a0 x1 h)) (cx 233 (fun As h => sR As fun a0 As => sI As fun x1 As => sE As (p_X9_good a0 x1 h)) fI0)))
theorem FI_X9_runDrops_ok {l : Launch} {D : va_G} {dA : Nat → ClassId} {z : Nat} {sa : Nat → Nat} {Hz : Heap} (E : StrOK qLen qCh l D dA z sa Hz) : ∀ mi As h x h', FI_X9_runDrops mi As h = some (x, h') → CalOK l D dA z sa Hz (MT mi) As h (some (.int x)) h' := (cxI_ok (fun As h x h2 e => by obtain ⟨_, _, rfl, e0⟩ := sR_inv e; obtain ⟨_, _, rfl, e1⟩ := sI_inv e0; obtain ⟨rfl, ez⟩ := sE_inv e1; exact c_X9_refusesPool E ez) ((cxI_ok (fun As h x h2 e => by obtain ⟨_, _, rfl, e0⟩ := sR_inv e; obtain ⟨_, _, rfl, e1⟩ := sI_inv e0; obtain ⟨rfl, ez⟩ := sE_inv e1; exact c_X9_refused E ez) ((cxI_ok (fun As h x h2 e => by obtain ⟨_, _, rfl, e0⟩ := sR_inv e; obtain ⟨_, _, rfl, e1⟩ := sI_inv e0; obtain ⟨rfl, ez⟩ := sE_inv e1; exact c_X9_good E ez) (fI0_ok E))))))
def FV_X9_runDrops : Nat → List Value → AH → Option (AH) := (cx 295 (fun As h => sR As fun a0 As => sI As fun x1 As => sE As (p_X9_runs a0 x1 h)) fV0)
theorem FV_X9_runDrops_ok {l : Launch} {D : va_G} {dA : Nat → ClassId} {z : Nat} {sa : Nat → Nat} {Hz : Heap} (E : StrOK qLen qCh l D dA z sa Hz) : ∀ mi As h h', FV_X9_runDrops mi As h = some h' → CalOK l D dA z sa Hz (MT mi) As h none h' := (cxV_ok (fun As h h2 e => by obtain ⟨_, _, rfl, e0⟩ := sR_inv e; obtain ⟨_, _, rfl, e1⟩ := sI_inv e0; obtain ⟨rfl, ez⟩ := sE_inv e1; exact c_X9_runs E ez) (fV0_ok E))
def I_X9_runDrops_21 : List AI := [(.aload_n 0, 1, [], 0), (.iload_n 1, 1, [], 0), (.invokevirtual 440, 3, [2, 295, 2, 8, 1915], 0), (.aload_n 0, 1, [], 0), (.aload_n 0, 1, [], 0), (.getfield 301, 3, [8, 28, 0, 1373], 0), (.invokevirtual 43, 3, [1, 233, 2, 8, 1694], 0), (.ireturn, 1, [], 0)]
theorem ok_X9_runDrops_21 : vBL MT qLen qCh false q_X9_runDrops.2.2.2.2.1 q_X9_runDrops.2.2.2.2.2.1 q_X9_runDrops.2.2.1 q_X9_runDrops.1.cls q_X9_runDrops.1.name q_X9_runDrops.2.1 0 21 I_X9_runDrops_21 = true := by decide +kernel
def p_X9_runDrops_21 (a0 : Nat) (x1 : Int32) (h : AH) : Option (Int32 × AH) :=
  if (tg h a0).1 = 8 then ((p_X9_runs a0 x1 h).bind fun h101 =>
  if (tg h101 a0).1 = 8 then (if (tg h101 a0).1 = 8 then ((p_X9_good a0 (rI h101 a0 28) h101).bind fun q102 =>
  some (q102.1, q102.2)) else none) else none) else none
set_option maxRecDepth 100000 in
theorem e_X9_runDrops_21 {l : Launch} {D : va_G} {dA : Nat → ClassId} {z : Nat} {sa : Nat → Nat} {Hz : Heap} (E : StrOK qLen qCh l D dA z sa Hz) {h0 fin : AH} {x : Int32}  : ∀ (a0 : Nat) (x1 : Int32) (h : AH), p_X9_runDrops_21 a0 x1 h = some (x, fin) → GM l D dA z sa Hz q_X9_runDrops h0 (some (.int x)) fin 21 [(0, .ref a0), (1, .int x1)] [] h := by
  intro a0 x1 h hd
  exact step E (is := I_X9_runDrops_21) (pc := 21) (K := k0) (FI := FI_X9_runDrops) (FV := FV_X9_runDrops) (FL := fL0) (rt := rtI) (ft := 0) (by exact hd) ok_X9_runDrops_21 k0_ok (FI_X9_runDrops_ok E) (FV_X9_runDrops_ok E) (fL0_ok E) (rtI_ok rfl)
def I_X9_runDrops_0 : List AI := [(.aload_n 0, 1, [], 0), (.iconst 0, 1, [], 0), (.putfield 33, 3, [8, 0, 0, 1345], 0), (.aload_n 0, 1, [], 0), (.iload_n 1, 1, [], 0), (.invokevirtual 437, 3, [1, 289, 2, 8, 1911], 0), (.istore_n 2, 1, [], 0), (.iload_n 2, 1, [], 0), (.ifCond .le 9, 3, [21], 0), (.aload_n 0, 1, [], 0), (.iload_n 2, 1, [], 0), (.invokevirtual 39, 3, [1, 201, 2, 8, 1481], 0), (.ireturn, 1, [], 0)]
theorem ok_X9_runDrops_0 : vBL MT qLen qCh false q_X9_runDrops.2.2.2.2.1 q_X9_runDrops.2.2.2.2.2.1 q_X9_runDrops.2.2.1 q_X9_runDrops.1.cls q_X9_runDrops.1.name q_X9_runDrops.2.1 0 0 I_X9_runDrops_0 = true := by decide +kernel
def p_X9_runDrops (a0 : Nat) (x1 : Int32) (h : AH) : Option (Int32 × AH) :=
  if (tg h a0).1 = 8 then (let h103 := wI h a0 0 ((0 : Int32))
  if (tg h103 a0).1 = 8 then ((p_X9_refusesPool a0 x1 h103).bind fun q104 =>
  if 0 < q104.1 then (if (tg q104.2 a0).1 = 8 then ((p_X9_refused a0 q104.1 q104.2).bind fun q107 =>
  some (q107.1, q107.2)) else none)
  else
  if (tg q104.2 a0).1 = 8 then ((p_X9_runs a0 x1 q104.2).bind fun h105 =>
  if (tg h105 a0).1 = 8 then (if (tg h105 a0).1 = 8 then ((p_X9_good a0 (rI h105 a0 28) h105).bind fun q106 =>
  some (q106.1, q106.2)) else none) else none) else none) else none) else none
set_option maxRecDepth 100000 in
theorem e_X9_runDrops_0 {l : Launch} {D : va_G} {dA : Nat → ClassId} {z : Nat} {sa : Nat → Nat} {Hz : Heap} (E : StrOK qLen qCh l D dA z sa Hz) {h0 fin : AH} {x : Int32}  : ∀ (a0 : Nat) (x1 : Int32) (h : AH), p_X9_runDrops a0 x1 h = some (x, fin) → GM l D dA z sa Hz q_X9_runDrops h0 (some (.int x)) fin 0 [(0, .ref a0), (1, .int x1)] [] h := by
  intro a0 x1 h hd
  exact step E (is := I_X9_runDrops_0) (pc := 0) (K := (kx 21 (fun la st h => gR la 0 fun a0 => gI la 1 fun x1 => sE st (p_X9_runDrops_21 a0 x1 h)) k0)) (FI := FI_X9_runDrops) (FV := FV_X9_runDrops) (FL := fL0) (rt := rtI) (ft := 0) (by exact hd) ok_X9_runDrops_0 (kx_ok (fun la st h e => by obtain ⟨a0, m_a0, e1⟩ := gR_inv e; obtain ⟨x1, m_x1, e2⟩ := gI_inv e1; obtain ⟨rfl, ez⟩ := sE_inv e2; exact gm_fewer (e_X9_runDrops_21 E  a0 x1 h ez) (mem_cons m_a0 (mem_cons m_x1 mem_nil))) k0_ok) (FI_X9_runDrops_ok E) (FV_X9_runDrops_ok E) (fL0_ok E) (rtI_ok rfl)
theorem c_X9_runDrops {l : Launch} {D : va_G} {dA : Nat → ClassId} {z : Nat} {sa : Nat → Nat} {Hz : Heap} (E : StrOK qLen qCh l D dA z sa Hz) {a0 : Nat} {x1 : Int32} {h fin : AH} {x : Int32} (hd : p_X9_runDrops a0 x1 h = some (x, fin)) : CalOK l D dA z sa Hz q_X9_runDrops [.ref a0, .int x1] h (some (.int x)) fin := calOf (by decide +kernel) (Nat.le_of_ble_eq_true rfl) (e_X9_runDrops_0 E a0 x1 h hd)
def FI_X9_poolFor : Nat → List Value → AH → Option (Int32 × AH) := (cx 201 (fun As h => sR As fun a0 As => sI As fun x1 As => sE As (p_X9_refused a0 x1 h)) (cx 211 (fun As h => sI As fun x0 As => sI As fun x1 As => sI As fun x2 As => sE As (p_X9_in x0 x1 x2 h)) (cx 233 (fun As h => sR As fun a0 As => sI As fun x1 As => sE As (p_X9_good a0 x1 h)) fI0)))
theorem FI_X9_poolFor_ok {l : Launch} {D : va_G} {dA : Nat → ClassId} {z : Nat} {sa : Nat → Nat} {Hz : Heap} (E : StrOK qLen qCh l D dA z sa Hz) : ∀ mi As h x h', FI_X9_poolFor mi As h = some (x, h') → CalOK l D dA z sa Hz (MT mi) As h (some (.int x)) h' := (cxI_ok (fun As h x h2 e => by obtain ⟨_, _, rfl, e0⟩ := sR_inv e; obtain ⟨_, _, rfl, e1⟩ := sI_inv e0; obtain ⟨rfl, ez⟩ := sE_inv e1; exact c_X9_refused E ez) ((cxI_ok (fun As h x h2 e => by obtain ⟨_, _, rfl, e0⟩ := sI_inv e; obtain ⟨_, _, rfl, e1⟩ := sI_inv e0; obtain ⟨_, _, rfl, e2⟩ := sI_inv e1; obtain ⟨rfl, ez⟩ := sE_inv e2; exact c_X9_in E ez) ((cxI_ok (fun As h x h2 e => by obtain ⟨_, _, rfl, e0⟩ := sR_inv e; obtain ⟨_, _, rfl, e1⟩ := sI_inv e0; obtain ⟨rfl, ez⟩ := sE_inv e1; exact c_X9_good E ez) (fI0_ok E))))))
def FV_X9_poolFor : Nat → List Value → AH → Option (AH) := (cx 295 (fun As h => sR As fun a0 As => sI As fun x1 As => sE As (p_X9_runs a0 x1 h)) fV0)
theorem FV_X9_poolFor_ok {l : Launch} {D : va_G} {dA : Nat → ClassId} {z : Nat} {sa : Nat → Nat} {Hz : Heap} (E : StrOK qLen qCh l D dA z sa Hz) : ∀ mi As h h', FV_X9_poolFor mi As h = some h' → CalOK l D dA z sa Hz (MT mi) As h none h' := (cxV_ok (fun As h h2 e => by obtain ⟨_, _, rfl, e0⟩ := sR_inv e; obtain ⟨_, _, rfl, e1⟩ := sI_inv e0; obtain ⟨rfl, ez⟩ := sE_inv e1; exact c_X9_runs E ez) (fV0_ok E))
def I_X9_poolFor_67 : List AI := [(.aload_n 0, 1, [], 0), (.bipush (-2), 2, [], (-2)), (.invokevirtual 43, 3, [1, 233, 2, 8, 1694], 0), (.ireturn, 1, [], 0)]
theorem ok_X9_poolFor_67 : vBL MT qLen qCh false q_X9_poolFor.2.2.2.2.1 q_X9_poolFor.2.2.2.2.2.1 q_X9_poolFor.2.2.1 q_X9_poolFor.1.cls q_X9_poolFor.1.name q_X9_poolFor.2.1 0 67 I_X9_poolFor_67 = true := by decide +kernel
def p_X9_poolFor_67 (a0 : Nat) (h : AH) : Option (Int32 × AH) :=
  if (tg h a0).1 = 8 then ((p_X9_good a0 ((-2 : Int32)) h).bind fun q101 =>
  some (q101.1, q101.2)) else none
set_option maxRecDepth 100000 in
theorem e_X9_poolFor_67 {l : Launch} {D : va_G} {dA : Nat → ClassId} {z : Nat} {sa : Nat → Nat} {Hz : Heap} (E : StrOK qLen qCh l D dA z sa Hz) {h0 fin : AH} {x : Int32}  : ∀ (a0 : Nat) (h : AH), p_X9_poolFor_67 a0 h = some (x, fin) → GM l D dA z sa Hz q_X9_poolFor h0 (some (.int x)) fin 67 [(0, .ref a0)] [] h := by
  intro a0 h hd
  exact step E (is := I_X9_poolFor_67) (pc := 67) (K := k0) (FI := FI_X9_poolFor) (FV := FV_X9_poolFor) (FL := fL0) (rt := rtI) (ft := 0) (by exact hd) ok_X9_poolFor_67 k0_ok (FI_X9_poolFor_ok E) (FV_X9_poolFor_ok E) (fL0_ok E) (rtI_ok rfl)
def I_X9_poolFor_61 : List AI := [(.iinc 2 1, 3, [], 1), (.goto (-28), 3, [36], 0)]
theorem ok_X9_poolFor_61 : vBL MT qLen qCh false q_X9_poolFor.2.2.2.2.1 q_X9_poolFor.2.2.2.2.2.1 q_X9_poolFor.2.2.1 q_X9_poolFor.1.cls q_X9_poolFor.1.name q_X9_poolFor.2.1 0 61 I_X9_poolFor_61 = true := by decide +kernel
def p_X9_poolFor_61 (k36 : Nat → Int32 → Int32 → AH → Option (Int32 × AH)) (a0 : Nat) (x1 : Int32) (x2 : Int32) (h : AH) : Option (Int32 × AH) :=
  k36 a0 x1 (x2 + (1 : Int32)) h
set_option maxRecDepth 100000 in
theorem e_X9_poolFor_61 {l : Launch} {D : va_G} {dA : Nat → ClassId} {z : Nat} {sa : Nat → Nat} {Hz : Heap} (E : StrOK qLen qCh l D dA z sa Hz) {h0 fin : AH} {x : Int32}  {k36 : Nat → Int32 → Int32 → AH → Option (Int32 × AH)} (hk36 : ∀ (a0 : Nat) (x1 : Int32) (x2 : Int32) (h : AH), k36 a0 x1 x2 h = some (x, fin) → GM l D dA z sa Hz q_X9_poolFor h0 (some (.int x)) fin 36 [(0, .ref a0), (1, .int x1), (2, .int x2)] [] h) : ∀ (a0 : Nat) (x1 : Int32) (x2 : Int32) (h : AH), p_X9_poolFor_61 k36 a0 x1 x2 h = some (x, fin) → GM l D dA z sa Hz q_X9_poolFor h0 (some (.int x)) fin 61 [(0, .ref a0), (1, .int x1), (2, .int x2)] [] h := by
  intro a0 x1 x2 h hd
  exact step E (is := I_X9_poolFor_61) (pc := 61) (K := (kx 36 (fun la st h => gR la 0 fun a0 => gI la 1 fun x1 => gI la 2 fun x2 => sE st (k36 a0 x1 x2 h)) k0)) (FI := FI_X9_poolFor) (FV := FV_X9_poolFor) (FL := fL0) (rt := rtI) (ft := 0) (by exact hd) ok_X9_poolFor_61 (kx_ok (fun la st h e => by obtain ⟨a0, m_a0, e1⟩ := gR_inv e; obtain ⟨x1, m_x1, e2⟩ := gI_inv e1; obtain ⟨x2, m_x2, e3⟩ := gI_inv e2; obtain ⟨rfl, ez⟩ := sE_inv e3; exact gm_fewer (hk36 a0 x1 x2 h ez) (mem_cons m_a0 (mem_cons m_x1 (mem_cons m_x2 mem_nil)))) k0_ok) (FI_X9_poolFor_ok E) (FV_X9_poolFor_ok E) (fL0_ok E) (rtI_ok rfl)
def I_X9_poolFor_36 : List AI := [(.iload_n 2, 1, [], 0), (.bipush 8, 2, [], 8), (.if_icmp .gt 28, 3, [67], 0), (.aload_n 0, 1, [], 0), (.iload_n 2, 1, [], 0), (.invokevirtual 440, 3, [2, 295, 2, 8, 1915], 0), (.aload_n 0, 1, [], 0), (.getfield 298, 3, [8, 27, 0, 1372], 0), (.iload_n 1, 1, [], 0), (.if_icmp .gt 9, 3, [61], 0), (.aload_n 0, 1, [], 0), (.iload_n 2, 1, [], 0), (.invokevirtual 43, 3, [1, 233, 2, 8, 1694], 0), (.ireturn, 1, [], 0)]
theorem ok_X9_poolFor_36 : vBL MT qLen qCh false q_X9_poolFor.2.2.2.2.1 q_X9_poolFor.2.2.2.2.2.1 q_X9_poolFor.2.2.1 q_X9_poolFor.1.cls q_X9_poolFor.1.name q_X9_poolFor.2.1 0 36 I_X9_poolFor_36 = true := by decide +kernel
def p_X9_poolFor_36 : Nat → Nat → Int32 → Int32 → AH → Option (Int32 × AH)
  | 0, _, _, _, _ => none
  | n + 1, a0, x1, x2, h => if ((8 : Int32)) < x2 then (if (tg h a0).1 = 8 then ((p_X9_good a0 ((-2 : Int32)) h).bind fun q102 =>
    some (q102.1, q102.2)) else none)
    else
    if (tg h a0).1 = 8 then ((p_X9_runs a0 x2 h).bind fun h103 =>
    if (tg h103 a0).1 = 8 then (if x1 < (rI h103 a0 27) then (p_X9_poolFor_36 n a0 x1 (x2 + (1 : Int32)) h103)
    else
    if (tg h103 a0).1 = 8 then ((p_X9_good a0 x2 h103).bind fun q104 =>
    some (q104.1, q104.2)) else none) else none) else none
set_option maxRecDepth 100000 in
theorem e_X9_poolFor_36 {l : Launch} {D : va_G} {dA : Nat → ClassId} {z : Nat} {sa : Nat → Nat} {Hz : Heap} (E : StrOK qLen qCh l D dA z sa Hz) {h0 fin : AH} {x : Int32}  : ∀ (n : Nat) (a0 : Nat) (x1 : Int32) (x2 : Int32) (h : AH), p_X9_poolFor_36 n a0 x1 x2 h = some (x, fin) → GM l D dA z sa Hz q_X9_poolFor h0 (some (.int x)) fin 36 [(0, .ref a0), (1, .int x1), (2, .int x2)] [] h := by
  intro n
  induction n with
  | zero => intro a0 x1 x2 h hd; exact nomatch hd
  | succ n ih =>
    intro a0 x1 x2 h hd
    exact step E (is := I_X9_poolFor_36) (pc := 36) (K := (kx 67 (fun la st h => gR la 0 fun a0 => sE st (p_X9_poolFor_67 a0 h)) (kx 61 (fun la st h => gR la 0 fun a0 => gI la 1 fun x1 => gI la 2 fun x2 => sE st (p_X9_poolFor_61 (p_X9_poolFor_36 n) a0 x1 x2 h)) k0))) (FI := FI_X9_poolFor) (FV := FV_X9_poolFor) (FL := fL0) (rt := rtI) (ft := 0) (by exact hd) ok_X9_poolFor_36 (kx_ok (fun la st h e => by obtain ⟨a0, m_a0, e1⟩ := gR_inv e; obtain ⟨rfl, ez⟩ := sE_inv e1; exact gm_fewer (e_X9_poolFor_67 E  a0 h ez) (mem_cons m_a0 mem_nil)) (kx_ok (fun la st h e => by obtain ⟨a0, m_a0, e1⟩ := gR_inv e; obtain ⟨x1, m_x1, e2⟩ := gI_inv e1; obtain ⟨x2, m_x2, e3⟩ := gI_inv e2; obtain ⟨rfl, ez⟩ := sE_inv e3; exact gm_fewer (e_X9_poolFor_61 E ih a0 x1 x2 h ez) (mem_cons m_a0 (mem_cons m_x1 (mem_cons m_x2 mem_nil)))) k0_ok)) (FI_X9_poolFor_ok E) (FV_X9_poolFor_ok E) (fL0_ok E) (rtI_ok rfl)
def I_X9_poolFor_34 : List AI := [(.iconst 3, 1, [], 3), (.istore_n 2, 1, [], 0)]
theorem ok_X9_poolFor_34 : vBL MT qLen qCh false q_X9_poolFor.2.2.2.2.1 q_X9_poolFor.2.2.2.2.2.1 q_X9_poolFor.2.2.1 q_X9_poolFor.1.cls q_X9_poolFor.1.name q_X9_poolFor.2.1 36 34 I_X9_poolFor_34 = true := by decide +kernel
def p_X9_poolFor_34 (a0 : Nat) (x1 : Int32) (h : AH) : Option (Int32 × AH) :=
  p_X9_poolFor_36 FU a0 x1 ((3 : Int32)) h
set_option maxRecDepth 100000 in
theorem e_X9_poolFor_34 {l : Launch} {D : va_G} {dA : Nat → ClassId} {z : Nat} {sa : Nat → Nat} {Hz : Heap} (E : StrOK qLen qCh l D dA z sa Hz) {h0 fin : AH} {x : Int32}  : ∀ (a0 : Nat) (x1 : Int32) (h : AH), p_X9_poolFor_34 a0 x1 h = some (x, fin) → GM l D dA z sa Hz q_X9_poolFor h0 (some (.int x)) fin 34 [(0, .ref a0), (1, .int x1)] [] h := by
  intro a0 x1 h hd
  exact step E (is := I_X9_poolFor_34) (pc := 34) (K := (kx 36 (fun la st h => gR la 0 fun a0 => gI la 1 fun x1 => gI la 2 fun x2 => sE st (p_X9_poolFor_36 FU a0 x1 x2 h)) k0)) (FI := FI_X9_poolFor) (FV := FV_X9_poolFor) (FL := fL0) (rt := rtI) (ft := 36) (by exact hd) ok_X9_poolFor_34 (kx_ok (fun la st h e => by obtain ⟨a0, m_a0, e1⟩ := gR_inv e; obtain ⟨x1, m_x1, e2⟩ := gI_inv e1; obtain ⟨x2, m_x2, e3⟩ := gI_inv e2; obtain ⟨rfl, ez⟩ := sE_inv e3; exact gm_fewer (e_X9_poolFor_36 E  FU a0 x1 x2 h ez) (mem_cons m_a0 (mem_cons m_x1 (mem_cons m_x2 mem_nil)))) k0_ok) (FI_X9_poolFor_ok E) (FV_X9_poolFor_ok E) (fL0_ok E) (rtI_ok rfl)
def I_X9_poolFor_18 : List AI := [(.iload_n 1, 1, [], 0), (.iconst 0, 1, [], 0), (.bipush 10, 2, [], 10), (.invokestatic 112, 3, [1, 211, 3, 1612], 0), (.ifCond .ne 9, 3, [34], 0), (.aload_n 0, 1, [], 0), (.iconst 2, 1, [], 2), (.invokevirtual 39, 3, [1, 201, 2, 8, 1481], 0), (.ireturn, 1, [], 0)]
theorem ok_X9_poolFor_18 : vBL MT qLen qCh false q_X9_poolFor.2.2.2.2.1 q_X9_poolFor.2.2.2.2.2.1 q_X9_poolFor.2.2.1 q_X9_poolFor.1.cls q_X9_poolFor.1.name q_X9_poolFor.2.1 0 18 I_X9_poolFor_18 = true := by decide +kernel
def p_X9_poolFor_18 (a0 : Nat) (x1 : Int32) (h : AH) : Option (Int32 × AH) :=
  (p_X9_in x1 ((0 : Int32)) ((10 : Int32)) h).bind fun q105 =>
  if q105.1 = 0 then (if (tg q105.2 a0).1 = 8 then ((p_X9_refused a0 ((2 : Int32)) q105.2).bind fun q106 =>
  some (q106.1, q106.2)) else none)
  else
  p_X9_poolFor_36 FU a0 x1 ((3 : Int32)) q105.2
set_option maxRecDepth 100000 in
theorem e_X9_poolFor_18 {l : Launch} {D : va_G} {dA : Nat → ClassId} {z : Nat} {sa : Nat → Nat} {Hz : Heap} (E : StrOK qLen qCh l D dA z sa Hz) {h0 fin : AH} {x : Int32}  : ∀ (a0 : Nat) (x1 : Int32) (h : AH), p_X9_poolFor_18 a0 x1 h = some (x, fin) → GM l D dA z sa Hz q_X9_poolFor h0 (some (.int x)) fin 18 [(0, .ref a0), (1, .int x1)] [] h := by
  intro a0 x1 h hd
  exact step E (is := I_X9_poolFor_18) (pc := 18) (K := (kx 34 (fun la st h => gR la 0 fun a0 => gI la 1 fun x1 => sE st (p_X9_poolFor_34 a0 x1 h)) k0)) (FI := FI_X9_poolFor) (FV := FV_X9_poolFor) (FL := fL0) (rt := rtI) (ft := 0) (by exact hd) ok_X9_poolFor_18 (kx_ok (fun la st h e => by obtain ⟨a0, m_a0, e1⟩ := gR_inv e; obtain ⟨x1, m_x1, e2⟩ := gI_inv e1; obtain ⟨rfl, ez⟩ := sE_inv e2; exact gm_fewer (e_X9_poolFor_34 E  a0 x1 h ez) (mem_cons m_a0 (mem_cons m_x1 mem_nil))) k0_ok) (FI_X9_poolFor_ok E) (FV_X9_poolFor_ok E) (fL0_ok E) (rtI_ok rfl)
def I_X9_poolFor_0 : List AI := [(.aload_n 0, 1, [], 0), (.iconst 0, 1, [], 0), (.putfield 33, 3, [8, 0, 0, 1345], 0), (.aload_n 0, 1, [], 0), (.getfield 265, 3, [8, 3, 2, 1348], 0), (.ifnonnull 9, 3, [18], 0), (.aload_n 0, 1, [], 0), (.iconst 1, 1, [], 1), (.invokevirtual 39, 3, [1, 201, 2, 8, 1481], 0), (.ireturn, 1, [], 0)]
theorem ok_X9_poolFor_0 : vBL MT qLen qCh false q_X9_poolFor.2.2.2.2.1 q_X9_poolFor.2.2.2.2.2.1 q_X9_poolFor.2.2.1 q_X9_poolFor.1.cls q_X9_poolFor.1.name q_X9_poolFor.2.1 0 0 I_X9_poolFor_0 = true := by decide +kernel
def p_X9_poolFor (a0 : Nat) (x1 : Int32) (h : AH) : Option (Int32 × AH) :=
  if (tg h a0).1 = 8 then (let h107 := wI h a0 0 ((0 : Int32))
  if (tg h107 a0).1 = 8 then (if (rR h107 a0 3) = 0 then (if (tg h107 a0).1 = 8 then ((p_X9_refused a0 ((1 : Int32)) h107).bind fun q110 =>
  some (q110.1, q110.2)) else none)
  else
  (p_X9_in x1 ((0 : Int32)) ((10 : Int32)) h107).bind fun q108 =>
  if q108.1 = 0 then (if (tg q108.2 a0).1 = 8 then ((p_X9_refused a0 ((2 : Int32)) q108.2).bind fun q109 =>
  some (q109.1, q109.2)) else none)
  else
  p_X9_poolFor_36 FU a0 x1 ((3 : Int32)) q108.2) else none) else none
set_option maxRecDepth 100000 in
theorem e_X9_poolFor_0 {l : Launch} {D : va_G} {dA : Nat → ClassId} {z : Nat} {sa : Nat → Nat} {Hz : Heap} (E : StrOK qLen qCh l D dA z sa Hz) {h0 fin : AH} {x : Int32}  : ∀ (a0 : Nat) (x1 : Int32) (h : AH), p_X9_poolFor a0 x1 h = some (x, fin) → GM l D dA z sa Hz q_X9_poolFor h0 (some (.int x)) fin 0 [(0, .ref a0), (1, .int x1)] [] h := by
  intro a0 x1 h hd
  exact step E (is := I_X9_poolFor_0) (pc := 0) (K := (kx 18 (fun la st h => gR la 0 fun a0 => gI la 1 fun x1 => sE st (p_X9_poolFor_18 a0 x1 h)) k0)) (FI := FI_X9_poolFor) (FV := FV_X9_poolFor) (FL := fL0) (rt := rtI) (ft := 0) (by exact hd) ok_X9_poolFor_0 (kx_ok (fun la st h e => by obtain ⟨a0, m_a0, e1⟩ := gR_inv e; obtain ⟨x1, m_x1, e2⟩ := gI_inv e1; obtain ⟨rfl, ez⟩ := sE_inv e2; exact gm_fewer (e_X9_poolFor_18 E  a0 x1 h ez) (mem_cons m_a0 (mem_cons m_x1 mem_nil))) k0_ok) (FI_X9_poolFor_ok E) (FV_X9_poolFor_ok E) (fL0_ok E) (rtI_ok rfl)
theorem c_X9_poolFor {l : Launch} {D : va_G} {dA : Nat → ClassId} {z : Nat} {sa : Nat → Nat} {Hz : Heap} (E : StrOK qLen qCh l D dA z sa Hz) {a0 : Nat} {x1 : Int32} {h fin : AH} {x : Int32} (hd : p_X9_poolFor a0 x1 h = some (x, fin)) : CalOK l D dA z sa Hz q_X9_poolFor [.ref a0, .int x1] h (some (.int x)) fin := calOf (by decide +kernel) (Nat.le_of_ble_eq_true rfl) (e_X9_poolFor_0 E a0 x1 h hd)
