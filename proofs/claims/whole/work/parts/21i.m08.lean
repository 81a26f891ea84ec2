/-! ===== methods 200 to 224 ===== -/
def I_X9_feed_117 : List AI := [(.aload_n 0, 1, [], 0), (.getfield 258, 3, [8, 6, 0, 1351], 0), (.ireturn, 1, [], 0)]
theorem ok_X9_feed_117 : vBL MT qLen qCh false q_X9_feed.2.2.2.2.1 q_X9_feed.2.2.2.2.2.1 q_X9_feed.2.2.1 q_X9_feed.1.cls q_X9_feed.1.name q_X9_feed.2.1 0 117 I_X9_feed_117 = true := by decide +kernel
def p_X9_feed_117 (a0 : Nat) (h : AH) : Option (Int32 × AH) :=
  if (tg h a0).1 = 8 then (some ((rI h a0 6), h)) else none
set_option maxRecDepth 100000 in
theorem e_X9_feed_117 {l : Launch} {D : va_G} {dA : Nat → ClassId} {z : Nat} {sa : Nat → Nat} {Hz : Heap} (E : StrOK qLen qCh l D dA z sa Hz) {h0 fin : AH} {x : Int32}  : ∀ (a0 : Nat) (h : AH), p_X9_feed_117 a0 h = some (x, fin) → GM l D dA z sa Hz q_X9_feed h0 (some (.int x)) fin 117 [(0, .ref a0)] [] h := by
  intro a0 h hd
  exact step E (is := I_X9_feed_117) (pc := 117) (K := k0) (FI := fI0) (FV := fV0) (FL := fL0) (rt := rtI) (ft := 0) (by exact hd) ok_X9_feed_117 k0_ok (fI0_ok E) (fV0_ok E) (fL0_ok E) (rtI_ok rfl)
def I_X9_feed_76 : List AI := [(.istore 7, 2, [], 0), (.aload_n 0, 1, [], 0), (.getfield 13, 3, [8, 5, 2, 1350], 0), (.aload_n 0, 1, [], 0), (.getfield 258, 3, [8, 6, 0, 1351], 0), (.iload 7, 2, [], 0), (.bipush 24, 2, [], 24), (.bipush 8, 2, [], 8), (.iload 6, 2, [], 0), (.iconst 4, 1, [], 4), (.irem, 1, [], 0), (.imul, 1, [], 0), (.isub, 1, [], 0), (.ishr, 1, [], 0), (.i2b, 1, [], 0), (.bastore, 1, [101], 0), (.aload_n 0, 1, [], 0), (.dup, 1, [], 0), (.getfield 258, 3, [8, 6, 0, 1351], 0), (.iconst 1, 1, [], 1), (.iadd, 1, [], 0), (.putfield 258, 3, [8, 6, 0, 1351], 0), (.iinc 6 1, 3, [], 1), (.goto (-91), 3, [23], 0)]
theorem ok_X9_feed_76 : vBL MT qLen qCh false q_X9_feed.2.2.2.2.1 q_X9_feed.2.2.2.2.2.1 q_X9_feed.2.2.1 q_X9_feed.1.cls q_X9_feed.1.name q_X9_feed.2.1 0 76 I_X9_feed_76 = true := by decide +kernel
def p_X9_feed_76 (k23 : Nat → Int32 → Int32 → Int32 → Int32 → Int32 → Int32 → AH → Option (Int32 × AH)) (a0 : Nat) (x1 : Int32) (x2 : Int32) (x3 : Int32) (x4 : Int32) (x5 : Int32) (x6 : Int32) (y0 : Int32) (h : AH) : Option (Int32 × AH) :=
  if (tg h a0).1 = 8 then (if (tg h a0).1 = 8 then (if ((4 : Int32)) = 0 then none else
  if inB h (rR h a0 5) 101 (rI h a0 6) then (let h101 := wI h (rR h a0 5) (rI h a0 6).toNatClampNeg (((y0 >>> ((((24 : Int32)) - (((8 : Int32)) * (irm x6 ((4 : Int32))))) &&& 31)).toInt8.toInt32).toInt8.toInt32)
  if (tg h101 a0).1 = 8 then (if (tg h101 a0).1 = 8 then (let h102 := wI h101 a0 6 ((rI h101 a0 6) + ((1 : Int32)))
  k23 a0 x1 x2 x3 x4 x5 (x6 + (1 : Int32)) h102) else none) else none) else none) else none) else none
set_option maxRecDepth 100000 in
theorem e_X9_feed_76 {l : Launch} {D : va_G} {dA : Nat → ClassId} {z : Nat} {sa : Nat → Nat} {Hz : Heap} (E : StrOK qLen qCh l D dA z sa Hz) {h0 fin : AH} {x : Int32}  {k23 : Nat → Int32 → Int32 → Int32 → Int32 → Int32 → Int32 → AH → Option (Int32 × AH)} (hk23 : ∀ (a0 : Nat) (x1 : Int32) (x2 : Int32) (x3 : Int32) (x4 : Int32) (x5 : Int32) (x6 : Int32) (h : AH), k23 a0 x1 x2 x3 x4 x5 x6 h = some (x, fin) → GM l D dA z sa Hz q_X9_feed h0 (some (.int x)) fin 23 [(0, .ref a0), (1, .int x1), (2, .int x2), (3, .int x3), (4, .int x4), (5, .int x5), (6, .int x6)] [] h) : ∀ (a0 : Nat) (x1 : Int32) (x2 : Int32) (x3 : Int32) (x4 : Int32) (x5 : Int32) (x6 : Int32) (y0 : Int32) (h : AH), p_X9_feed_76 k23 a0 x1 x2 x3 x4 x5 x6 y0 h = some (x, fin) → GM l D dA z sa Hz q_X9_feed h0 (some (.int x)) fin 76 [(0, .ref a0), (1, .int x1), (2, .int x2), (3, .int x3), (4, .int x4), (5, .int x5), (6, .int x6)] [.int y0] h := by
  intro a0 x1 x2 x3 x4 x5 x6 y0 h hd
  exact step E (is := I_X9_feed_76) (pc := 76) (K := (kx 23 (fun la st h => gR la 0 fun a0 => gI la 1 fun x1 => gI la 2 fun x2 => gI la 3 fun x3 => gI la 4 fun x4 => gI la 5 fun x5 => gI la 6 fun x6 => sE st (k23 a0 x1 x2 x3 x4 x5 x6 h)) k0)) (FI := fI0) (FV := fV0) (FL := fL0) (rt := rtI) (ft := 0) (by exact hd) ok_X9_feed_76 (kx_ok (fun la st h e => by obtain ⟨a0, m_a0, e1⟩ := gR_inv e; obtain ⟨x1, m_x1, e2⟩ := gI_inv e1; obtain ⟨x2, m_x2, e3⟩ := gI_inv e2; obtain ⟨x3, m_x3, e4⟩ := gI_inv e3; obtain ⟨x4, m_x4, e5⟩ := gI_inv e4; obtain ⟨x5, m_x5, e6⟩ := gI_inv e5; obtain ⟨x6, m_x6, e7⟩ := gI_inv e6; obtain ⟨rfl, ez⟩ := sE_inv e7; exact gm_fewer (hk23 a0 x1 x2 x3 x4 x5 x6 h ez) (mem_cons m_a0 (mem_cons m_x1 (mem_cons m_x2 (mem_cons m_x3 (mem_cons m_x4 (mem_cons m_x5 (mem_cons m_x6 mem_nil)))))))) k0_ok) (fI0_ok E) (fV0_ok E) (fL0_ok E) (rtI_ok rfl)
def I_X9_feed_74 : List AI := [(.iload 5, 2, [], 0)]
theorem ok_X9_feed_74 : vBL MT qLen qCh false q_X9_feed.2.2.2.2.1 q_X9_feed.2.2.2.2.2.1 q_X9_feed.2.2.1 q_X9_feed.1.cls q_X9_feed.1.name q_X9_feed.2.1 76 74 I_X9_feed_74 = true := by decide +kernel
def p_X9_feed_74 (k23 : Nat → Int32 → Int32 → Int32 → Int32 → Int32 → Int32 → AH → Option (Int32 × AH)) (a0 : Nat) (x1 : Int32) (x2 : Int32) (x3 : Int32) (x4 : Int32) (x5 : Int32) (x6 : Int32) (h : AH) : Option (Int32 × AH) :=
  p_X9_feed_76 k23 a0 x1 x2 x3 x4 x5 x6 x5 h
set_option maxRecDepth 100000 in
theorem e_X9_feed_74 {l : Launch} {D : va_G} {dA : Nat → ClassId} {z : Nat} {sa : Nat → Nat} {Hz : Heap} (E : StrOK qLen qCh l D dA z sa Hz) {h0 fin : AH} {x : Int32}  {k23 : Nat → Int32 → Int32 → Int32 → Int32 → Int32 → Int32 → AH → Option (Int32 × AH)} (hk23 : ∀ (a0 : Nat) (x1 : Int32) (x2 : Int32) (x3 : Int32) (x4 : Int32) (x5 : Int32) (x6 : Int32) (h : AH), k23 a0 x1 x2 x3 x4 x5 x6 h = some (x, fin) → GM l D dA z sa Hz q_X9_feed h0 (some (.int x)) fin 23 [(0, .ref a0), (1, .int x1), (2, .int x2), (3, .int x3), (4, .int x4), (5, .int x5), (6, .int x6)] [] h) : ∀ (a0 : Nat) (x1 : Int32) (x2 : Int32) (x3 : Int32) (x4 : Int32) (x5 : Int32) (x6 : Int32) (h : AH), p_X9_feed_74 k23 a0 x1 x2 x3 x4 x5 x6 h = some (x, fin) → GM l D dA z sa Hz q_X9_feed h0 (some (.int x)) fin 74 [(0, .ref a0), (1, .int x1), (2, .int x2), (3, .int x3), (4, .int x4), (5, .int x5), (6, .int x6)] [] h := by
  intro a0 x1 x2 x3 x4 x5 x6 h hd
  exact step E (is := I_X9_feed_74) (pc := 74) (K := (kx 76 (fun la st h => gR la 0 fun a0 => gI la 1 fun x1 => gI la 2 fun x2 => gI la 3 fun x3 => gI la 4 fun x4 => gI la 5 fun x5 => gI la 6 fun x6 => sI st fun y0 st => sE st (p_X9_feed_76 k23 a0 x1 x2 x3 x4 x5 x6 y0 h)) k0)) (FI := fI0) (FV := fV0) (FL := fL0) (rt := rtI) (ft := 76) (by exact hd) ok_X9_feed_74 (kx_ok (fun la st h e => by obtain ⟨a0, m_a0, e1⟩ := gR_inv e; obtain ⟨x1, m_x1, e2⟩ := gI_inv e1; obtain ⟨x2, m_x2, e3⟩ := gI_inv e2; obtain ⟨x3, m_x3, e4⟩ := gI_inv e3; obtain ⟨x4, m_x4, e5⟩ := gI_inv e4; obtain ⟨x5, m_x5, e6⟩ := gI_inv e5; obtain ⟨x6, m_x6, e7⟩ := gI_inv e6; obtain ⟨y0, _, rfl, e8⟩ := sI_inv e7; obtain ⟨rfl, ez⟩ := sE_inv e8; exact gm_fewer (e_X9_feed_76 E hk23 a0 x1 x2 x3 x4 x5 x6 y0 h ez) (mem_cons m_a0 (mem_cons m_x1 (mem_cons m_x2 (mem_cons m_x3 (mem_cons m_x4 (mem_cons m_x5 (mem_cons m_x6 mem_nil)))))))) k0_ok) (fI0_ok E) (fV0_ok E) (fL0_ok E) (rtI_ok rfl)
def I_X9_feed_62 : List AI := [(.iload 6, 2, [], 0), (.bipush 16, 2, [], 16), (.if_icmp .ge 8, 3, [74], 0), (.iload 4, 2, [], 0), (.goto 5, 3, [76], 0)]
theorem ok_X9_feed_62 : vBL MT qLen qCh false q_X9_feed.2.2.2.2.1 q_X9_feed.2.2.2.2.2.1 q_X9_feed.2.2.1 q_X9_feed.1.cls q_X9_feed.1.name q_X9_feed.2.1 0 62 I_X9_feed_62 = true := by decide +kernel
def p_X9_feed_62 (k23 : Nat → Int32 → Int32 → Int32 → Int32 → Int32 → Int32 → AH → Option (Int32 × AH)) (a0 : Nat) (x1 : Int32) (x2 : Int32) (x3 : Int32) (x4 : Int32) (x5 : Int32) (x6 : Int32) (h : AH) : Option (Int32 × AH) :=
  if x6 < ((16 : Int32)) then (p_X9_feed_76 k23 a0 x1 x2 x3 x4 x5 x6 x4 h)
  else
  p_X9_feed_76 k23 a0 x1 x2 x3 x4 x5 x6 x5 h
set_option maxRecDepth 100000 in
theorem e_X9_feed_62 {l : Launch} {D : va_G} {dA : Nat → ClassId} {z : Nat} {sa : Nat → Nat} {Hz : Heap} (E : StrOK qLen qCh l D dA z sa Hz) {h0 fin : AH} {x : Int32}  {k23 : Nat → Int32 → Int32 → Int32 → Int32 → Int32 → Int32 → AH → Option (Int32 × AH)} (hk23 : ∀ (a0 : Nat) (x1 : Int32) (x2 : Int32) (x3 : Int32) (x4 : Int32) (x5 : Int32) (x6 : Int32) (h : AH), k23 a0 x1 x2 x3 x4 x5 x6 h = some (x, fin) → GM l D dA z sa Hz q_X9_feed h0 (some (.int x)) fin 23 [(0, .ref a0), (1, .int x1), (2, .int x2), (3, .int x3), (4, .int x4), (5, .int x5), (6, .int x6)] [] h) : ∀ (a0 : Nat) (x1 : Int32) (x2 : Int32) (x3 : Int32) (x4 : Int32) (x5 : Int32) (x6 : Int32) (h : AH), p_X9_feed_62 k23 a0 x1 x2 x3 x4 x5 x6 h = some (x, fin) → GM l D dA z sa Hz q_X9_feed h0 (some (.int x)) fin 62 [(0, .ref a0), (1, .int x1), (2, .int x2), (3, .int x3), (4, .int x4), (5, .int x5), (6, .int x6)] [] h := by
  intro a0 x1 x2 x3 x4 x5 x6 h hd
  exact step E (is := I_X9_feed_62) (pc := 62) (K := (kx 74 (fun la st h => gR la 0 fun a0 => gI la 1 fun x1 => gI la 2 fun x2 => gI la 3 fun x3 => gI la 4 fun x4 => gI la 5 fun x5 => gI la 6 fun x6 => sE st (p_X9_feed_74 k23 a0 x1 x2 x3 x4 x5 x6 h)) (kx 76 (fun la st h => gR la 0 fun a0 => gI la 1 fun x1 => gI la 2 fun x2 => gI la 3 fun x3 => gI la 4 fun x4 => gI la 5 fun x5 => gI la 6 fun x6 => sI st fun y0 st => sE st (p_X9_feed_76 k23 a0 x1 x2 x3 x4 x5 x6 y0 h)) k0))) (FI := fI0) (FV := fV0) (FL := fL0) (rt := rtI) (ft := 0) (by exact hd) ok_X9_feed_62 (kx_ok (fun la st h e => by obtain ⟨a0, m_a0, e1⟩ := gR_inv e; obtain ⟨x1, m_x1, e2⟩ := gI_inv e1; obtain ⟨x2, m_x2, e3⟩ := gI_inv e2; obtain ⟨x3, m_x3, e4⟩ := gI_inv e3; obtain ⟨x4, m_x4, e5⟩ := gI_inv e4; obtain ⟨x5, m_x5, e6⟩ := gI_inv e5; obtain ⟨x6, m_x6, e7⟩ := gI_inv e6; obtain ⟨rfl, ez⟩ := sE_inv e7; exact gm_fewer (e_X9_feed_74 E hk23 a0 x1 x2 x3 x4 x5 x6 h ez) (mem_cons m_a0 (mem_cons m_x1 (mem_cons m_x2 (mem_cons m_x3 (mem_cons m_x4 (mem_cons m_x5 (mem_cons m_x6 mem_nil)))))))) (kx_ok (fun la st h e => by obtain ⟨a0, m_a0, e1⟩ := gR_inv e; obtain ⟨x1, m_x1, e2⟩ := gI_inv e1; obtain ⟨x2, m_x2, e3⟩ := gI_inv e2; obtain ⟨x3, m_x3, e4⟩ := gI_inv e3; obtain ⟨x4, m_x4, e5⟩ := gI_inv e4; obtain ⟨x5, m_x5, e6⟩ := gI_inv e5; obtain ⟨x6, m_x6, e7⟩ := gI_inv e6; obtain ⟨y0, _, rfl, e8⟩ := sI_inv e7; obtain ⟨rfl, ez⟩ := sE_inv e8; exact gm_fewer (e_X9_feed_76 E hk23 a0 x1 x2 x3 x4 x5 x6 y0 h ez) (mem_cons m_a0 (mem_cons m_x1 (mem_cons m_x2 (mem_cons m_x3 (mem_cons m_x4 (mem_cons m_x5 (mem_cons m_x6 mem_nil)))))))) k0_ok)) (fI0_ok E) (fV0_ok E) (fL0_ok E) (rtI_ok rfl)
def I_X9_feed_51 : List AI := [(.iload 6, 2, [], 0), (.bipush 12, 2, [], 12), (.if_icmp .ge 7, 3, [62], 0), (.iload_n 3, 1, [], 0), (.goto 17, 3, [76], 0)]
theorem ok_X9_feed_51 : vBL MT qLen qCh false q_X9_feed.2.2.2.2.1 q_X9_feed.2.2.2.2.2.1 q_X9_feed.2.2.1 q_X9_feed.1.cls q_X9_feed.1.name q_X9_feed.2.1 0 51 I_X9_feed_51 = true := by decide +kernel
def p_X9_feed_51 (k23 : Nat → Int32 → Int32 → Int32 → Int32 → Int32 → Int32 → AH → Option (Int32 × AH)) (a0 : Nat) (x1 : Int32) (x2 : Int32) (x3 : Int32) (x4 : Int32) (x5 : Int32) (x6 : Int32) (h : AH) : Option (Int32 × AH) :=
  if x6 < ((12 : Int32)) then (p_X9_feed_76 k23 a0 x1 x2 x3 x4 x5 x6 x3 h)
  else
  if x6 < ((16 : Int32)) then (p_X9_feed_76 k23 a0 x1 x2 x3 x4 x5 x6 x4 h)
  else
  p_X9_feed_76 k23 a0 x1 x2 x3 x4 x5 x6 x5 h
set_option maxRecDepth 100000 in
theorem e_X9_feed_51 {l : Launch} {D : va_G} {dA : Nat → ClassId} {z : Nat} {sa : Nat → Nat} {Hz : Heap} (E : StrOK qLen qCh l D dA z sa Hz) {h0 fin : AH} {x : Int32}  {k23 : Nat → Int32 → Int32 → Int32 → Int32 → Int32 → Int32 → AH → Option (Int32 × AH)} (hk23 : ∀ (a0 : Nat) (x1 : Int32) (x2 : Int32) (x3 : Int32) (x4 : Int32) (x5 : Int32) (x6 : Int32) (h : AH), k23 a0 x1 x2 x3 x4 x5 x6 h = some (x, fin) → GM l D dA z sa Hz q_X9_feed h0 (some (.int x)) fin 23 [(0, .ref a0), (1, .int x1), (2, .int x2), (3, .int x3), (4, .int x4), (5, .int x5), (6, .int x6)] [] h) : ∀ (a0 : Nat) (x1 : Int32) (x2 : Int32) (x3 : Int32) (x4 : Int32) (x5 : Int32) (x6 : Int32) (h : AH), p_X9_feed_51 k23 a0 x1 x2 x3 x4 x5 x6 h = some (x, fin) → GM l D dA z sa Hz q_X9_feed h0 (some (.int x)) fin 51 [(0, .ref a0), (1, .int x1), (2, .int x2), (3, .int x3), (4, .int x4), (5, .int x5), (6, .int x6)] [] h := by
  intro a0 x1 x2 x3 x4 x5 x6 h hd
  exact step E (is := I_X9_feed_51) (pc := 51) (K := (kx 62 (fun la st h => gR la 0 fun a0 => gI la 1 fun x1 => gI la 2 fun x2 => gI la 3 fun x3 => gI la 4 fun x4 => gI la 5 fun x5 => gI la 6 fun x6 => sE st (p_X9_feed_62 k23 a0 x1 x2 x3 x4 x5 x6 h)) (kx 76 (fun la st h => gR la 0 fun a0 => gI la 1 fun x1 => gI la 2 fun x2 => gI la 3 fun x3 => gI la 4 fun x4 => gI la 5 fun x5 => gI la 6 fun x6 => sI st fun y0 st => sE st (p_X9_feed_76 k23 a0 x1 x2 x3 x4 x5 x6 y0 h)) k0))) (FI := fI0) (FV := fV0) (FL := fL0) (rt := rtI) (ft := 0) (by exact hd) ok_X9_feed_51 (kx_ok (fun la st h e => by obtain ⟨a0, m_a0, e1⟩ := gR_inv e; obtain ⟨x1, m_x1, e2⟩ := gI_inv e1; obtain ⟨x2, m_x2, e3⟩ := gI_inv e2; obtain ⟨x3, m_x3, e4⟩ := gI_inv e3; obtain ⟨x4, m_x4, e5⟩ := gI_inv e4; obtain ⟨x5, m_x5, e6⟩ := gI_inv e5; obtain ⟨x6, m_x6, e7⟩ := gI_inv e6; obtain ⟨rfl, ez⟩ := sE_inv e7; exact gm_fewer (e_X9_feed_62 E hk23 a0 x1 x2 x3 x4 x5 x6 h ez) (mem_cons m_a0 (mem_cons m_x1 (mem_cons m_x2 (mem_cons m_x3 (mem_cons m_x4 (mem_cons m_x5 (mem_cons m_x6 mem_nil)))))))) (kx_ok (fun la st h e => by obtain ⟨a0, m_a0, e1⟩ := gR_inv e; obtain ⟨x1, m_x1, e2⟩ := gI_inv e1; obtain ⟨x2, m_x2, e3⟩ := gI_inv e2; obtain ⟨x3, m_x3, e4⟩ := gI_inv e3; obtain ⟨x4, m_x4, e5⟩ := gI_inv e4; obtain ⟨x5, m_x5, e6⟩ := gI_inv e5; obtain ⟨x6, m_x6, e7⟩ := gI_inv e6; obtain ⟨y0, _, rfl, e8⟩ := sI_inv e7; obtain ⟨rfl, ez⟩ := sE_inv e8; exact gm_fewer (e_X9_feed_76 E hk23 a0 x1 x2 x3 x4 x5 x6 y0 h ez) (mem_cons m_a0 (mem_cons m_x1 (mem_cons m_x2 (mem_cons m_x3 (mem_cons m_x4 (mem_cons m_x5 (mem_cons m_x6 mem_nil)))))))) k0_ok)) (fI0_ok E) (fV0_ok E) (fL0_ok E) (rtI_ok rfl)
def I_X9_feed_40 : List AI := [(.iload 6, 2, [], 0), (.bipush 8, 2, [], 8), (.if_icmp .ge 7, 3, [51], 0), (.iload_n 2, 1, [], 0), (.goto 28, 3, [76], 0)]
theorem ok_X9_feed_40 : vBL MT qLen qCh false q_X9_feed.2.2.2.2.1 q_X9_feed.2.2.2.2.2.1 q_X9_feed.2.2.1 q_X9_feed.1.cls q_X9_feed.1.name q_X9_feed.2.1 0 40 I_X9_feed_40 = true := by decide +kernel
def p_X9_feed_40 (k23 : Nat → Int32 → Int32 → Int32 → Int32 → Int32 → Int32 → AH → Option (Int32 × AH)) (a0 : Nat) (x1 : Int32) (x2 : Int32) (x3 : Int32) (x4 : Int32) (x5 : Int32) (x6 : Int32) (h : AH) : Option (Int32 × AH) :=
  if x6 < ((8 : Int32)) then (p_X9_feed_76 k23 a0 x1 x2 x3 x4 x5 x6 x2 h)
  else
  if x6 < ((12 : Int32)) then (p_X9_feed_76 k23 a0 x1 x2 x3 x4 x5 x6 x3 h)
  else
  if x6 < ((16 : Int32)) then (p_X9_feed_76 k23 a0 x1 x2 x3 x4 x5 x6 x4 h)
  else
  p_X9_feed_76 k23 a0 x1 x2 x3 x4 x5 x6 x5 h
set_option maxRecDepth 100000 in
theorem e_X9_feed_40 {l : Launch} {D : va_G} {dA : Nat → ClassId} {z : Nat} {sa : Nat → Nat} {Hz : Heap} (E : StrOK qLen qCh l D dA z sa Hz) {h0 fin : AH} {x : Int32}  {k23 : Nat → Int32 → Int32 → Int32 → Int32 → Int32 → Int32 → AH → Option (Int32 × AH)} (hk23 : ∀ (a0 : Nat) (x1 : Int32) (x2 : Int32) (x3 : Int32) (x4 : Int32) (x5 : Int32) (x6 : Int32) (h : AH), k23 a0 x1 x2 x3 x4 x5 x6 h = some (x, fin) → GM l D dA z sa Hz q_X9_feed h0 (some (.int x)) fin 23 [(0, .ref a0), (1, .int x1), (2, .int x2), (3, .int x3), (4, .int x4), (5, .int x5), (6, .int x6)] [] h) : ∀ (a0 : Nat) (x1 : Int32) (x2 : Int32) (x3 : Int32) (x4 : Int32) (x5 : Int32) (x6 : Int32) (h : AH), p_X9_feed_40 k23 a0 x1 x2 x3 x4 x5 x6 h = some (x, fin) → GM l D dA z sa Hz q_X9_feed h0 (some (.int x)) fin 40 [(0, .ref a0), (1, .int x1), (2, .int x2), (3, .int x3), (4, .int x4), (5, .int x5), (6, .int x6)] [] h := by
  intro a0 x1 x2 x3 x4 x5 x6 h hd
  exact step E (is := I_X9_feed_40) (pc := 40) (K := (kx 51 (fun la st h => gR la 0 fun a0 => gI la 1 fun x1 => gI la 2 fun x2 => gI la 3 fun x3 => gI la 4 fun x4 => gI la 5 fun x5 => gI la 6 fun x6 => sE st (p_X9_feed_51 k23 a0 x1 x2 x3 x4 x5 x6 h)) (kx 76 (fun la st h => gR la 0 fun a0 => gI la 1 fun x1 => gI la 2 fun x2 => gI la 3 fun x3 => gI la 4 fun x4 => gI la 5 fun x5 => gI la 6 fun x6 => sI st fun y0 st => sE st (p_X9_feed_76 k23 a0 x1 x2 x3 x4 x5 x6 y0 h)) k0))) (FI := fI0) (FV := fV0) (FL := fL0) (rt := rtI) (ft := 0) (by exact hd) ok_X9_feed_40 (kx_ok (fun la st h e => by obtain ⟨a0, m_a0, e1⟩ := gR_inv e; obtain ⟨x1, m_x1, e2⟩ := gI_inv e1; obtain ⟨x2, m_x2, e3⟩ := gI_inv e2; obtain ⟨x3, m_x3, e4⟩ := gI_inv e3; obtain ⟨x4, m_x4, e5⟩ := gI_inv e4; obtain ⟨x5, m_x5, e6⟩ := gI_inv e5; obtain ⟨x6, m_x6, e7⟩ := gI_inv e6; obtain ⟨rfl, ez⟩ := sE_inv e7; exact gm_fewer (e_X9_feed_51 E hk23 a0 x1 x2 x3 x4 x5 x6 h ez) (mem_cons m_a0 (mem_cons m_x1 (mem_cons m_x2 (mem_cons m_x3 (mem_cons m_x4 (mem_cons m_x5 (mem_cons m_x6 mem_nil)))))))) (kx_ok (fun la st h e => by obtain ⟨a0, m_a0, e1⟩ := gR_inv e; obtain ⟨x1, m_x1, e2⟩ := gI_inv e1; obtain ⟨x2, m_x2, e3⟩ := gI_inv e2; obtain ⟨x3, m_x3, e4⟩ := gI_inv e3; obtain ⟨x4, m_x4, e5⟩ := gI_inv e4; obtain ⟨x5, m_x5, e6⟩ := gI_inv e5; obtain ⟨x6, m_x6, e7⟩ := gI_inv e6; obtain ⟨y0, _, rfl, e8⟩ := sI_inv e7; obtain ⟨rfl, ez⟩ := sE_inv e8; exact gm_fewer (e_X9_feed_76 E hk23 a0 x1 x2 x3 x4 x5 x6 y0 h ez) (mem_cons m_a0 (mem_cons m_x1 (mem_cons m_x2 (mem_cons m_x3 (mem_cons m_x4 (mem_cons m_x5 (mem_cons m_x6 mem_nil)))))))) k0_ok)) (fI0_ok E) (fV0_ok E) (fL0_ok E) (rtI_ok rfl)
def I_X9_feed_23 : List AI := [(.iload 6, 2, [], 0), (.bipush 20, 2, [], 20), (.if_icmp .ge 90, 3, [117], 0), (.iload 6, 2, [], 0), (.iconst 4, 1, [], 4), (.if_icmp .ge 7, 3, [40], 0), (.iload_n 1, 1, [], 0), (.goto 39, 3, [76], 0)]
theorem ok_X9_feed_23 : vBL MT qLen qCh false q_X9_feed.2.2.2.2.1 q_X9_feed.2.2.2.2.2.1 q_X9_feed.2.2.1 q_X9_feed.1.cls q_X9_feed.1.name q_X9_feed.2.1 0 23 I_X9_feed_23 = true := by decide +kernel
def p_X9_feed_23 : Nat → Nat → Int32 → Int32 → Int32 → Int32 → Int32 → Int32 → AH → Option (Int32 × AH)
  | 0, _, _, _, _, _, _, _, _ => none
  | n + 1, a0, x1, x2, x3, x4, x5, x6, h => if x6 < ((20 : Int32)) then (if x6 < ((4 : Int32)) then (p_X9_feed_76 (p_X9_feed_23 n) a0 x1 x2 x3 x4 x5 x6 x1 h)
    else
    if x6 < ((8 : Int32)) then (p_X9_feed_76 (p_X9_feed_23 n) a0 x1 x2 x3 x4 x5 x6 x2 h)
    else
    if x6 < ((12 : Int32)) then (p_X9_feed_76 (p_X9_feed_23 n) a0 x1 x2 x3 x4 x5 x6 x3 h)
    else
    if x6 < ((16 : Int32)) then (p_X9_feed_76 (p_X9_feed_23 n) a0 x1 x2 x3 x4 x5 x6 x4 h)
    else
    p_X9_feed_76 (p_X9_feed_23 n) a0 x1 x2 x3 x4 x5 x6 x5 h)
    else
    if (tg h a0).1 = 8 then (some ((rI h a0 6), h)) else none
set_option maxRecDepth 100000 in
theorem e_X9_feed_23 {l : Launch} {D : va_G} {dA : Nat → ClassId} {z : Nat} {sa : Nat → Nat} {Hz : Heap} (E : StrOK qLen qCh l D dA z sa Hz) {h0 fin : AH} {x : Int32}  : ∀ (n : Nat) (a0 : Nat) (x1 : Int32) (x2 : Int32) (x3 : Int32) (x4 : Int32) (x5 : Int32) (x6 : Int32) (h : AH), p_X9_feed_23 n a0 x1 x2 x3 x4 x5 x6 h = some (x, fin) → GM l D dA z sa Hz q_X9_feed h0 (some (.int x)) fin 23 [(0, .ref a0), (1, .int x1), (2, .int x2), (3, .int x3), (4, .int x4), (5, .int x5), (6, .int x6)] [] h := by
  intro n
  induction n with
  | zero => intro a0 x1 x2 x3 x4 x5 x6 h hd; exact nomatch hd
  | succ n ih =>
    intro a0 x1 x2 x3 x4 x5 x6 h hd
    exact step E (is := I_X9_feed_23) (pc := 23) (K := (kx 117 (fun la st h => gR la 0 fun a0 => sE st (p_X9_feed_117 a0 h)) (kx 40 (fun la st h => gR la 0 fun a0 => gI la 1 fun x1 => gI la 2 fun x2 => gI la 3 fun x3 => gI la 4 fun x4 => gI la 5 fun x5 => gI la 6 fun x6 => sE st (p_X9_feed_40 (p_X9_feed_23 n) a0 x1 x2 x3 x4 x5 x6 h)) (kx 76 (fun la st h => gR la 0 fun a0 => gI la 1 fun x1 => gI la 2 fun x2 => gI la 3 fun x3 => gI la 4 fun x4 => gI la 5 fun x5 => gI la 6 fun x6 => sI st fun y0 st => sE st (p_X9_feed_76 (p_X9_feed_23 n) a0 x1 x2 x3 x4 x5 x6 y0 h)) k0)))) (FI := fI0) (FV := fV0) (FL := fL0) (rt := rtI) (ft := 0) (by exact hd) ok_X9_feed_23 (kx_ok (fun la st h e => by obtain ⟨a0, m_a0, e1⟩ := gR_inv e; obtain ⟨rfl, ez⟩ := sE_inv e1; exact gm_fewer (e_X9_feed_117 E  a0 h ez) (mem_cons m_a0 mem_nil)) (kx_ok (fun la st h e => by obtain ⟨a0, m_a0, e1⟩ := gR_inv e; obtain ⟨x1, m_x1, e2⟩ := gI_inv e1; obtain ⟨x2, m_x2, e3⟩ := gI_inv e2; obtain ⟨x3, m_x3, e4⟩ := gI_inv e3; obtain ⟨x4, m_x4, e5⟩ := gI_inv e4; obtain ⟨x5, m_x5, e6⟩ := gI_inv e5; obtain ⟨x6, m_x6, e7⟩ := gI_inv e6; obtain ⟨rfl, ez⟩ := sE_inv e7; exact gm_fewer (e_X9_feed_40 E ih a0 x1 x2 x3 x4 x5 x6 h ez) (mem_cons m_a0 (mem_cons m_x1 (mem_cons m_x2 (mem_cons m_x3 (mem_cons m_x4 (mem_cons m_x5 (mem_cons m_x6 mem_nil)))))))) (kx_ok (fun la st h e => by obtain ⟨a0, m_a0, e1⟩ := gR_inv e; obtain ⟨x1, m_x1, e2⟩ := gI_inv e1; obtain ⟨x2, m_x2, e3⟩ := gI_inv e2; obtain ⟨x3, m_x3, e4⟩ := gI_inv e3; obtain ⟨x4, m_x4, e5⟩ := gI_inv e4; obtain ⟨x5, m_x5, e6⟩ := gI_inv e5; obtain ⟨x6, m_x6, e7⟩ := gI_inv e6; obtain ⟨y0, _, rfl, e8⟩ := sI_inv e7; obtain ⟨rfl, ez⟩ := sE_inv e8; exact gm_fewer (e_X9_feed_76 E ih a0 x1 x2 x3 x4 x5 x6 y0 h ez) (mem_cons m_a0 (mem_cons m_x1 (mem_cons m_x2 (mem_cons m_x3 (mem_cons m_x4 (mem_cons m_x5 (mem_cons m_x6 mem_nil)))))))) k0_ok))) (fI0_ok E) (fV0_ok E) (fL0_ok E) (rtI_ok rfl)
def I_X9_feed_20 : List AI := [(.iconst 0, 1, [], 0), (.istore 6, 2, [], 0)]
theorem ok_X9_feed_20 : vBL MT qLen qCh false q_X9_feed.2.2.2.2.1 q_X9_feed.2.2.2.2.2.1 q_X9_feed.2.2.1 q_X9_feed.1.cls q_X9_feed.1.name q_X9_feed.2.1 23 20 I_X9_feed_20 = true := by decide +kernel
def p_X9_feed_20 (a0 : Nat) (x1 : Int32) (x2 : Int32) (x3 : Int32) (x4 : Int32) (x5 : Int32) (h : AH) : Option (Int32 × AH) :=
  p_X9_feed_23 FU a0 x1 x2 x3 x4 x5 ((0 : Int32)) h
set_option maxRecDepth 100000 in
theorem e_X9_feed_20 {l : Launch} {D : va_G} {dA : Nat → ClassId} {z : Nat} {sa : Nat → Nat} {Hz : Heap} (E : StrOK qLen qCh l D dA z sa Hz) {h0 fin : AH} {x : Int32}  : ∀ (a0 : Nat) (x1 : Int32) (x2 : Int32) (x3 : Int32) (x4 : Int32) (x5 : Int32) (h : AH), p_X9_feed_20 a0 x1 x2 x3 x4 x5 h = some (x, fin) → GM l D dA z sa Hz q_X9_feed h0 (some (.int x)) fin 20 [(0, .ref a0), (1, .int x1), (2, .int x2), (3, .int x3), (4, .int x4), (5, .int x5)] [] h := by
  intro a0 x1 x2 x3 x4 x5 h hd
  exact step E (is := I_X9_feed_20) (pc := 20) (K := (kx 23 (fun la st h => gR la 0 fun a0 => gI la 1 fun x1 => gI la 2 fun x2 => gI la 3 fun x3 => gI la 4 fun x4 => gI la 5 fun x5 => gI la 6 fun x6 => sE st (p_X9_feed_23 FU a0 x1 x2 x3 x4 x5 x6 h)) k0)) (FI := fI0) (FV := fV0) (FL := fL0) (rt := rtI) (ft := 23) (by exact hd) ok_X9_feed_20 (kx_ok (fun la st h e => by obtain ⟨a0, m_a0, e1⟩ := gR_inv e; obtain ⟨x1, m_x1, e2⟩ := gI_inv e1; obtain ⟨x2, m_x2, e3⟩ := gI_inv e2; obtain ⟨x3, m_x3, e4⟩ := gI_inv e3; obtain ⟨x4, m_x4, e5⟩ := gI_inv e4; obtain ⟨x5, m_x5, e6⟩ := gI_inv e5; obtain ⟨x6, m_x6, e7⟩ := gI_inv e6; obtain ⟨rfl, ez⟩ := sE_inv e7; exact gm_fewer (e_X9_feed_23 E  FU a0 x1 x2 x3 x4 x5 x6 h ez) (mem_cons m_a0 (mem_cons m_x1 (mem_cons m_x2 (mem_cons m_x3 (mem_cons m_x4 (mem_cons m_x5 (mem_cons m_x6 mem_nil)))))))) k0_ok) (fI0_ok E) (fV0_ok E) (fL0_ok E) (rtI_ok rfl)
def I_X9_feed_0 : List AI := [(.aload_n 0, 1, [], 0), (.iconst 0, 1, [], 0), (.putfield 33, 3, [8, 0, 0, 1345], 0), (.aload_n 0, 1, [], 0), (.getfield 258, 3, [8, 6, 0, 1351], 0), (.bipush 20, 2, [], 20), (.iadd, 1, [], 0), (.sipush 900, 3, [], 900), (.if_icmp .le 5, 3, [20], 0), (.iconst (-1), 1, [], (-1)), (.ireturn, 1, [], 0)]
theorem ok_X9_feed_0 : vBL MT qLen qCh false q_X9_feed.2.2.2.2.1 q_X9_feed.2.2.2.2.2.1 q_X9_feed.2.2.1 q_X9_feed.1.cls q_X9_feed.1.name q_X9_feed.2.1 0 0 I_X9_feed_0 = true := by decide +kernel
def p_X9_feed (a0 : Nat) (x1 : Int32) (x2 : Int32) (x3 : Int32) (x4 : Int32) (x5 : Int32) (h : AH) : Option (Int32 × AH) :=
  if (tg h a0).1 = 8 then (let h103 := wI h a0 0 ((0 : Int32))
  if (tg h103 a0).1 = 8 then (if ((900 : Int32)) < ((rI h103 a0 6) + ((20 : Int32))) then (some (((-1 : Int32)), h103))
  else
  p_X9_feed_23 FU a0 x1 x2 x3 x4 x5 ((0 : Int32)) h103) else none) else none
set_option maxRecDepth 100000 in
theorem e_X9_feed_0 {l : Launch} {D : va_G} {dA : Nat → ClassId} {z : Nat} {sa : Nat → Nat} {Hz : Heap} (E : StrOK qLen qCh l D dA z sa Hz) {h0 fin : AH} {x : Int32}  : ∀ (a0 : Nat) (x1 : Int32) (x2 : Int32) (x3 : Int32) (x4 : Int32) (x5 : Int32) (h : AH), p_X9_feed a0 x1 x2 x3 x4 x5 h = some (x, fin) → GM l D dA z sa Hz q_X9_feed h0 (some (.int x)) fin 0 [(0, .ref a0), (1, .int x1), (2, .int x2), (3, .int x3), (4, .int x4), (5, .int x5)] [] h := by
  intro a0 x1 x2 x3 x4 x5 h hd
  exact step E (is := I_X9_feed_0) (pc := 0) (K := (kx 20 (fun la st h => gR la 0 fun a0 => gI la 1 fun x1 => gI la 2 fun x2 => gI la 3 fun x3 => gI la 4 fun x4 => gI la 5 fun x5 => sE st (p_X9_feed_20 a0 x1 x2 x3 x4 x5 h)) k0)) (FI := fI0) (FV := fV0) (FL := fL0) (rt := rtI) (ft := 0) (by exact hd) ok_X9_feed_0 (kx_ok (fun la st h e => by obtain ⟨a0, m_a0, e1⟩ := gR_inv e; obtain ⟨x1, m_x1, e2⟩ := gI_inv e1; obtain ⟨x2, m_x2, e3⟩ := gI_inv e2; obtain ⟨x3, m_x3, e4⟩ := gI_inv e3; obtain ⟨x4, m_x4, e5⟩ := gI_inv e4; obtain ⟨x5, m_x5, e6⟩ := gI_inv e5; obtain ⟨rfl, ez⟩ := sE_inv e6; exact gm_fewer (e_X9_feed_20 E  a0 x1 x2 x3 x4 x5 h ez) (mem_cons m_a0 (mem_cons m_x1 (mem_cons m_x2 (mem_cons m_x3 (mem_cons m_x4 (mem_cons m_x5 mem_nil))))))) k0_ok) (fI0_ok E) (fV0_ok E) (fL0_ok E) (rtI_ok rfl)
theorem c_X9_feed {l : Launch} {D : va_G} {dA : Nat → ClassId} {z : Nat} {sa : Nat → Nat} {Hz : Heap} (E : StrOK qLen qCh l D dA z sa Hz) {a0 : Nat} {x1 : Int32} {x2 : Int32} {x3 : Int32} {x4 : Int32} {x5 : Int32} {h fin : AH} {x : Int32} (hd : p_X9_feed a0 x1 x2 x3 x4 x5 h = some (x, fin)) : CalOK l D dA z sa Hz q_X9_feed [.ref a0, .int x1, .int x2, .int x3, .int x4, .int x5] h (some (.int x)) fin := calOf (by decide +kernel) (Nat.le_of_ble_eq_true rfl) (e_X9_feed_0 E a0 x1 x2 x3 x4 x5 h hd)
def I_X9_refused_0 : List AI := [(.aload_n 0, 1, [], 0), (.iload_n 1, 1, [], 0), (.putfield 36, 3, [8, 1, 0, 1346], 0), (.aload_n 0, 1, [], 0), (.iconst (-1), 1, [], (-1)), (.putfield 9, 3, [8, 2, 0, 1347], 0), (.iconst (-1), 1, [], (-1)), (.ireturn, 1, [], 0)]
theorem ok_X9_refused_0 : vBL MT qLen qCh false q_X9_refused.2.2.2.2.1 q_X9_refused.2.2.2.2.2.1 q_X9_refused.2.2.1 q_X9_refused.1.cls q_X9_refused.1.name q_X9_refused.2.1 0 0 I_X9_refused_0 = true := by decide +kernel
def p_X9_refused (a0 : Nat) (x1 : Int32) (h : AH) : Option (Int32 × AH) :=
  if (tg h a0).1 = 8 then (let h101 := wI h a0 1 x1
  if (tg h101 a0).1 = 8 then (let h102 := wI h101 a0 2 ((-1 : Int32))
  some (((-1 : Int32)), h102)) else none) else none
set_option maxRecDepth 100000 in
theorem e_X9_refused_0 {l : Launch} {D : va_G} {dA : Nat → ClassId} {z : Nat} {sa : Nat → Nat} {Hz : Heap} (E : StrOK qLen qCh l D dA z sa Hz) {h0 fin : AH} {x : Int32}  : ∀ (a0 : Nat) (x1 : Int32) (h : AH), p_X9_refused a0 x1 h = some (x, fin) → GM l D dA z sa Hz q_X9_refused h0 (some (.int x)) fin 0 [(0, .ref a0), (1, .int x1)] [] h := by
  intro a0 x1 h hd
  exact step E (is := I_X9_refused_0) (pc := 0) (K := k0) (FI := fI0) (FV := fV0) (FL := fL0) (rt := rtI) (ft := 0) (by exact hd) ok_X9_refused_0 k0_ok (fI0_ok E) (fV0_ok E) (fL0_ok E) (rtI_ok rfl)
theorem c_X9_refused {l : Launch} {D : va_G} {dA : Nat → ClassId} {z : Nat} {sa : Nat → Nat} {Hz : Heap} (E : StrOK qLen qCh l D dA z sa Hz) {a0 : Nat} {x1 : Int32} {h fin : AH} {x : Int32} (hd : p_X9_refused a0 x1 h = some (x, fin)) : CalOK l D dA z sa Hz q_X9_refused [.ref a0, .int x1] h (some (.int x)) fin := calOf (by decide +kernel) (Nat.le_of_ble_eq_true rfl) (e_X9_refused_0 E a0 x1 h hd)
def I_X8_init_0 : List AI := [(.aload_n 0, 1, [], 0), (.invokespecial 3, 3, [0, 1490], 0), (.aload_n 0, 1, [], 0), (.bipush 16, 2, [], 16), (.newarray .int, 2, [100], 0), (.putfield 9, 3, [7, 8, 2, 1501], 0), (.aload_n 0, 1, [], 0), (.sipush 128, 3, [], 128), (.newarray .int, 2, [100], 0), (.putfield 15, 3, [7, 9, 2, 1503], 0), (.aload_n 0, 1, [], 0), (.sipush 128, 3, [], 128), (.newarray .boolean, 2, [102], 0), (.putfield 18, 3, [7, 10, 2, 1505], 0), (.aload_n 0, 1, [], 0), (.bipush 10, 2, [], 10), (.newarray .int, 2, [100], 0), (.putfield 22, 3, [7, 11, 2, 1507], 0), (.aload_n 0, 1, [], 0), (.bipush 10, 2, [], 10), (.newarray .int, 2, [100], 0), (.putfield 25, 3, [7, 12, 2, 1509], 0), (.aload_n 0, 1, [], 0), (.iconst 4, 1, [], 4), (.newarray .int, 2, [100], 0), (.putfield 28, 3, [7, 13, 2, 1511], 0), (.aload_n 0, 1, [], 0), (.iconst 4, 1, [], 4), (.newarray .int, 2, [100], 0), (.putfield 31, 3, [7, 14, 2, 1513], 0), (.aload_n 0, 1, [], 0), (.bipush 6, 2, [], 6), (.newarray .int, 2, [100], 0), (.putfield 34, 3, [7, 15, 2, 1515], 0), (.aload_n 0, 1, [], 0), (.bipush 6, 2, [], 6), (.newarray .int, 2, [100], 0), (.putfield 37, 3, [7, 16, 2, 1517], 0), (.aload_n 0, 1, [], 0), (.bipush 6, 2, [], 6), (.newarray .int, 2, [100], 0), (.putfield 40, 3, [7, 17, 2, 1519], 0), (.return_, 1, [], 0)]
theorem ok_X8_init_0 : vBL MT qLen qCh false q_X8_init.2.2.2.2.1 q_X8_init.2.2.2.2.2.1 q_X8_init.2.2.1 q_X8_init.1.cls q_X8_init.1.name q_X8_init.2.1 0 0 I_X8_init_0 = true := by decide +kernel
def p_X8_init (a0 : Nat) (h : AH) : Option (AH) :=
  if a0 = 0 then none else
  if ((16 : Int32)) < 0 ∨ 100000 < ((16 : Int32)).toNatClampNeg then none else
  let h101 := al h 100 ((16 : Int32)).toNatClampNeg
  if (tg h101 a0).1 = 7 then (let h102 := wR h101 a0 8 (nx h)
  if ((128 : Int32)) < 0 ∨ 100000 < ((128 : Int32)).toNatClampNeg then none else
  let h103 := al h102 100 ((128 : Int32)).toNatClampNeg
  if (tg h103 a0).1 = 7 then (let h104 := wR h103 a0 9 (nx h102)
  if ((128 : Int32)) < 0 ∨ 100000 < ((128 : Int32)).toNatClampNeg then none else
  let h105 := al h104 102 ((128 : Int32)).toNatClampNeg
  if (tg h105 a0).1 = 7 then (let h106 := wR h105 a0 10 (nx h104)
  if ((10 : Int32)) < 0 ∨ 100000 < ((10 : Int32)).toNatClampNeg then none else
  let h107 := al h106 100 ((10 : Int32)).toNatClampNeg
  if (tg h107 a0).1 = 7 then (let h108 := wR h107 a0 11 (nx h106)
  if ((10 : Int32)) < 0 ∨ 100000 < ((10 : Int32)).toNatClampNeg then none else
  let h109 := al h108 100 ((10 : Int32)).toNatClampNeg
  if (tg h109 a0).1 = 7 then (let h110 := wR h109 a0 12 (nx h108)
  if ((4 : Int32)) < 0 ∨ 100000 < ((4 : Int32)).toNatClampNeg then none else
  let h111 := al h110 100 ((4 : Int32)).toNatClampNeg
  if (tg h111 a0).1 = 7 then (let h112 := wR h111 a0 13 (nx h110)
  if ((4 : Int32)) < 0 ∨ 100000 < ((4 : Int32)).toNatClampNeg then none else
  let h113 := al h112 100 ((4 : Int32)).toNatClampNeg
  if (tg h113 a0).1 = 7 then (let h114 := wR h113 a0 14 (nx h112)
  if ((6 : Int32)) < 0 ∨ 100000 < ((6 : Int32)).toNatClampNeg then none else
  let h115 := al h114 100 ((6 : Int32)).toNatClampNeg
  if (tg h115 a0).1 = 7 then (let h116 := wR h115 a0 15 (nx h114)
  if ((6 : Int32)) < 0 ∨ 100000 < ((6 : Int32)).toNatClampNeg then none else
  let h117 := al h116 100 ((6 : Int32)).toNatClampNeg
  if (tg h117 a0).1 = 7 then (let h118 := wR h117 a0 16 (nx h116)
  if ((6 : Int32)) < 0 ∨ 100000 < ((6 : Int32)).toNatClampNeg then none else
  let h119 := al h118 100 ((6 : Int32)).toNatClampNeg
  if (tg h119 a0).1 = 7 then (let h120 := wR h119 a0 17 (nx h118)
  some h120) else none) else none) else none) else none) else none) else none) else none) else none) else none) else none
set_option maxRecDepth 100000 in
theorem e_X8_init_0 {l : Launch} {D : va_G} {dA : Nat → ClassId} {z : Nat} {sa : Nat → Nat} {Hz : Heap} (E : StrOK qLen qCh l D dA z sa Hz) {h0 fin : AH}  : ∀ (a0 : Nat) (h : AH), p_X8_init a0 h = some fin → GM l D dA z sa Hz q_X8_init h0 none fin 0 [(0, .ref a0)] [] h := by
  intro a0 h hd
  exact step E (is := I_X8_init_0) (pc := 0) (K := k0) (FI := fI0) (FV := fV0) (FL := fL0) (rt := rtV) (ft := 0) (by exact hd) ok_X8_init_0 k0_ok (fI0_ok E) (fV0_ok E) (fL0_ok E) (rtV_ok rfl)
theorem c_X8_init {l : Launch} {D : va_G} {dA : Nat → ClassId} {z : Nat} {sa : Nat → Nat} {Hz : Heap} (E : StrOK qLen qCh l D dA z sa Hz) {a0 : Nat} {h fin : AH} (hd : p_X8_init a0 h = some fin) : CalOK l D dA z sa Hz q_X8_init [.ref a0] h none fin := calOf (by decide +kernel) (Nat.le_of_ble_eq_true rfl) (e_X8_init_0 E a0 h hd)
def I_X9_byteAt_22 : List AI := [(.ireturn, 1, [], 0)]
theorem ok_X9_byteAt_22 : vBL MT qLen qCh false q_X9_byteAt.2.2.2.2.1 q_X9_byteAt.2.2.2.2.2.1 q_X9_byteAt.2.2.1 q_X9_byteAt.1.cls q_X9_byteAt.1.name q_X9_byteAt.2.1 0 22 I_X9_byteAt_22 = true := by decide +kernel
def p_X9_byteAt_22 (y0 : Int32) (h : AH) : Option (Int32 × AH) :=
  some (y0, h)
set_option maxRecDepth 100000 in
theorem e_X9_byteAt_22 {l : Launch} {D : va_G} {dA : Nat → ClassId} {z : Nat} {sa : Nat → Nat} {Hz : Heap} (E : StrOK qLen qCh l D dA z sa Hz) {h0 fin : AH} {x : Int32}  : ∀ (y0 : Int32) (h : AH), p_X9_byteAt_22 y0 h = some (x, fin) → GM l D dA z sa Hz q_X9_byteAt h0 (some (.int x)) fin 22 [] [.int y0] h := by
  intro y0 h hd
  exact step E (is := I_X9_byteAt_22) (pc := 22) (K := k0) (FI := fI0) (FV := fV0) (FL := fL0) (rt := rtI) (ft := 0) (by exact hd) ok_X9_byteAt_22 k0_ok (fI0_ok E) (fV0_ok E) (fL0_ok E) (rtI_ok rfl)
def I_X9_byteAt_21 : List AI := [(.iconst (-1), 1, [], (-1))]
theorem ok_X9_byteAt_21 : vBL MT qLen qCh false q_X9_byteAt.2.2.2.2.1 q_X9_byteAt.2.2.2.2.2.1 q_X9_byteAt.2.2.1 q_X9_byteAt.1.cls q_X9_byteAt.1.name q_X9_byteAt.2.1 22 21 I_X9_byteAt_21 = true := by decide +kernel
def p_X9_byteAt_21 (h : AH) : Option (Int32 × AH) :=
  p_X9_byteAt_22 ((-1 : Int32)) h
set_option maxRecDepth 100000 in
theorem e_X9_byteAt_21 {l : Launch} {D : va_G} {dA : Nat → ClassId} {z : Nat} {sa : Nat → Nat} {Hz : Heap} (E : StrOK qLen qCh l D dA z sa Hz) {h0 fin : AH} {x : Int32}  : ∀  (h : AH), p_X9_byteAt_21 h = some (x, fin) → GM l D dA z sa Hz q_X9_byteAt h0 (some (.int x)) fin 21 [] [] h := by
  intro h hd
  exact step E (is := I_X9_byteAt_21) (pc := 21) (K := (kx 22 (fun la st h => sI st fun y0 st => sE st (p_X9_byteAt_22 y0 h)) k0)) (FI := fI0) (FV := fV0) (FL := fL0) (rt := rtI) (ft := 22) (by exact hd) ok_X9_byteAt_21 (kx_ok (fun la st h e => by obtain ⟨y0, _, rfl, e1⟩ := sI_inv e; obtain ⟨rfl, ez⟩ := sE_inv e1; exact gm_fewer (e_X9_byteAt_22 E  y0 h ez) mem_nil) k0_ok) (fI0_ok E) (fV0_ok E) (fL0_ok E) (rtI_ok rfl)
def I_X9_byteAt_0 : List AI := [(.iload_n 1, 1, [], 0), (.aload_n 0, 1, [], 0), (.getfield 50, 3, [8, 7, 0, 1352], 0), (.if_icmp .ge 16, 3, [21], 0), (.aload_n 0, 1, [], 0), (.getfield 13, 3, [8, 5, 2, 1350], 0), (.iload_n 1, 1, [], 0), (.baload, 1, [101], 0), (.sipush 255, 3, [], 255), (.iand, 1, [], 0), (.goto 4, 3, [22], 0)]
theorem ok_X9_byteAt_0 : vBL MT qLen qCh false q_X9_byteAt.2.2.2.2.1 q_X9_byteAt.2.2.2.2.2.1 q_X9_byteAt.2.2.1 q_X9_byteAt.1.cls q_X9_byteAt.1.name q_X9_byteAt.2.1 0 0 I_X9_byteAt_0 = true := by decide +kernel
def p_X9_byteAt (a0 : Nat) (x1 : Int32) (h : AH) : Option (Int32 × AH) :=
  if (tg h a0).1 = 8 then (if x1 < (rI h a0 7) then (if (tg h a0).1 = 8 then (if inB h (rR h a0 5) 101 x1 then (p_X9_byteAt_22 ((rI h (rR h a0 5) x1.toNatClampNeg) &&& ((255 : Int32))) h) else none) else none)
  else
  p_X9_byteAt_22 ((-1 : Int32)) h) else none
set_option maxRecDepth 100000 in
theorem e_X9_byteAt_0 {l : Launch} {D : va_G} {dA : Nat → ClassId} {z : Nat} {sa : Nat → Nat} {Hz : Heap} (E : StrOK qLen qCh l D dA z sa Hz) {h0 fin : AH} {x : Int32}  : ∀ (a0 : Nat) (x1 : Int32) (h : AH), p_X9_byteAt a0 x1 h = some (x, fin) → GM l D dA z sa Hz q_X9_byteAt h0 (some (.int x)) fin 0 [(0, .ref a0), (1, .int x1)] [] h := by
  intro a0 x1 h hd
  exact step E (is := I_X9_byteAt_0) (pc := 0) (K := (kx 21 (fun la st h => sE st (p_X9_byteAt_21 h)) (kx 22 (fun la st h => sI st fun y0 st => sE st (p_X9_byteAt_22 y0 h)) k0))) (FI := fI0) (FV := fV0) (FL := fL0) (rt := rtI) (ft := 0) (by exact hd) ok_X9_byteAt_0 (kx_ok (fun la st h e => by obtain ⟨rfl, ez⟩ := sE_inv e; exact gm_fewer (e_X9_byteAt_21 E   h ez) mem_nil) (kx_ok (fun la st h e => by obtain ⟨y0, _, rfl, e1⟩ := sI_inv e; obtain ⟨rfl, ez⟩ := sE_inv e1; exact gm_fewer (e_X9_byteAt_22 E  y0 h ez) mem_nil) k0_ok)) (fI0_ok E) (fV0_ok E) (fL0_ok E) (rtI_ok rfl)
theorem c_X9_byteAt {l : Launch} {D : va_G} {dA : Nat → ClassId} {z : Nat} {sa : Nat → Nat} {Hz : Heap} (E : StrOK qLen qCh l D dA z sa Hz) {a0 : Nat} {x1 : Int32} {h fin : AH} {x : Int32} (hd : p_X9_byteAt a0 x1 h = some (x, fin)) : CalOK l D dA z sa Hz q_X9_byteAt [.ref a0, .int x1] h (some (.int x)) fin := calOf (by decide +kernel) (Nat.le_of_ble_eq_true rfl) (e_X9_byteAt_0 E a0 x1 h hd)
def I_X9_isLetter_17 : List AI := [(.ireturn, 1, [], 0)]
theorem ok_X9_isLetter_17 : vBL MT qLen qCh false q_X9_isLetter.2.2.2.2.1 q_X9_isLetter.2.2.2.2.2.1 q_X9_isLetter.2.2.1 q_X9_isLetter.1.cls q_X9_isLetter.1.name q_X9_isLetter.2.1 0 17 I_X9_isLetter_17 = true := by decide +kernel
def p_X9_isLetter_17 (y0 : Int32) (h : AH) : Option (Int32 × AH) :=
  if y0 &&& 1 = y0 then some (y0, h) else none
set_option maxRecDepth 100000 in
theorem e_X9_isLetter_17 {l : Launch} {D : va_G} {dA : Nat → ClassId} {z : Nat} {sa : Nat → Nat} {Hz : Heap} (E : StrOK qLen qCh l D dA z sa Hz) {h0 fin : AH} {x : Int32}  : ∀ (y0 : Int32) (h : AH), p_X9_isLetter_17 y0 h = some (x, fin) → GM l D dA z sa Hz q_X9_isLetter h0 (some (.int x)) fin 17 [] [.int y0] h := by
  intro y0 h hd
  exact step E (is := I_X9_isLetter_17) (pc := 17) (K := k0) (FI := fI0) (FV := fV0) (FL := fL0) (rt := rtZ) (ft := 0) (by exact hd) ok_X9_isLetter_17 k0_ok (fI0_ok E) (fV0_ok E) (fL0_ok E) (rtZ_ok rfl)
def I_X9_isLetter_16 : List AI := [(.iconst 0, 1, [], 0)]
theorem ok_X9_isLetter_16 : vBL MT qLen qCh false q_X9_isLetter.2.2.2.2.1 q_X9_isLetter.2.2.2.2.2.1 q_X9_isLetter.2.2.1 q_X9_isLetter.1.cls q_X9_isLetter.1.name q_X9_isLetter.2.1 17 16 I_X9_isLetter_16 = true := by decide +kernel
def p_X9_isLetter_16 (h : AH) : Option (Int32 × AH) :=
  p_X9_isLetter_17 ((0 : Int32)) h
set_option maxRecDepth 100000 in
theorem e_X9_isLetter_16 {l : Launch} {D : va_G} {dA : Nat → ClassId} {z : Nat} {sa : Nat → Nat} {Hz : Heap} (E : StrOK qLen qCh l D dA z sa Hz) {h0 fin : AH} {x : Int32}  : ∀  (h : AH), p_X9_isLetter_16 h = some (x, fin) → GM l D dA z sa Hz q_X9_isLetter h0 (some (.int x)) fin 16 [] [] h := by
  intro h hd
  exact step E (is := I_X9_isLetter_16) (pc := 16) (K := (kx 17 (fun la st h => sI st fun y0 st => sE st (p_X9_isLetter_17 y0 h)) k0)) (FI := fI0) (FV := fV0) (FL := fL0) (rt := rtZ) (ft := 17) (by exact hd) ok_X9_isLetter_16 (kx_ok (fun la st h e => by obtain ⟨y0, _, rfl, e1⟩ := sI_inv e; obtain ⟨rfl, ez⟩ := sE_inv e1; exact gm_fewer (e_X9_isLetter_17 E  y0 h ez) mem_nil) k0_ok) (fI0_ok E) (fV0_ok E) (fL0_ok E) (rtZ_ok rfl)
def I_X9_isLetter_0 : List AI := [(.iload_n 0, 1, [], 0), (.bipush 97, 2, [], 97), (.if_icmp .lt 13, 3, [16], 0), (.iload_n 0, 1, [], 0), (.bipush 122, 2, [], 122), (.if_icmp .gt 7, 3, [16], 0), (.iconst 1, 1, [], 1), (.goto 4, 3, [17], 0)]
theorem ok_X9_isLetter_0 : vBL MT qLen qCh false q_X9_isLetter.2.2.2.2.1 q_X9_isLetter.2.2.2.2.2.1 q_X9_isLetter.2.2.1 q_X9_isLetter.1.cls q_X9_isLetter.1.name q_X9_isLetter.2.1 0 0 I_X9_isLetter_0 = true := by decide +kernel
def p_X9_isLetter (x0 : Int32) (h : AH) : Option (Int32 × AH) :=
  if x0 < ((97 : Int32)) then (p_X9_isLetter_16 h)
  else
  if ((122 : Int32)) < x0 then (p_X9_isLetter_16 h)
  else
  p_X9_isLetter_17 ((1 : Int32)) h
set_option maxRecDepth 100000 in
theorem e_X9_isLetter_0 {l : Launch} {D : va_G} {dA : Nat → ClassId} {z : Nat} {sa : Nat → Nat} {Hz : Heap} (E : StrOK qLen qCh l D dA z sa Hz) {h0 fin : AH} {x : Int32}  : ∀ (x0 : Int32) (h : AH), p_X9_isLetter x0 h = some (x, fin) → GM l D dA z sa Hz q_X9_isLetter h0 (some (.int x)) fin 0 [(0, .int x0)] [] h := by
  intro x0 h hd
  exact step E (is := I_X9_isLetter_0) (pc := 0) (K := (kx 16 (fun la st h => sE st (p_X9_isLetter_16 h)) (kx 17 (fun la st h => sI st fun y0 st => sE st (p_X9_isLetter_17 y0 h)) k0))) (FI := fI0) (FV := fV0) (FL := fL0) (rt := rtZ) (ft := 0) (by exact hd) ok_X9_isLetter_0 (kx_ok (fun la st h e => by obtain ⟨rfl, ez⟩ := sE_inv e; exact gm_fewer (e_X9_isLetter_16 E   h ez) mem_nil) (kx_ok (fun la st h e => by obtain ⟨y0, _, rfl, e1⟩ := sI_inv e; obtain ⟨rfl, ez⟩ := sE_inv e1; exact gm_fewer (e_X9_isLetter_17 E  y0 h ez) mem_nil) k0_ok)) (fI0_ok E) (fV0_ok E) (fL0_ok E) (rtZ_ok rfl)
theorem c_X9_isLetter {l : Launch} {D : va_G} {dA : Nat → ClassId} {z : Nat} {sa : Nat → Nat} {Hz : Heap} (E : StrOK qLen qCh l D dA z sa Hz) {x0 : Int32} {h fin : AH} {x : Int32} (hd : p_X9_isLetter x0 h = some (x, fin)) : CalOK l D dA z sa Hz q_X9_isLetter [.int x0] h (some (.int x)) fin := calOf (by decide +kernel) (Nat.le_of_ble_eq_true rfl) (e_X9_isLetter_0 E x0 h hd)
def I_X9_isDigit_17 : List AI := [(.ireturn, 1, [], 0)]
theorem ok_X9_isDigit_17 : vBL MT qLen qCh false q_X9_isDigit.2.2.2.2.1 q_X9_isDigit.2.2.2.2.2.1 q_X9_isDigit.2.2.1 q_X9_isDigit.1.cls q_X9_isDigit.1.name q_X9_isDigit.2.1 0 17 I_X9_isDigit_17 = true := by decide +kernel
def p_X9_isDigit_17 (y0 : Int32) (h : AH) : Option (Int32 × AH) :=
  if y0 &&& 1 = y0 then some (y0, h) else none
set_option maxRecDepth 100000 in
theorem e_X9_isDigit_17 {l : Launch} {D : va_G} {dA : Nat → ClassId} {z : Nat} {sa : Nat → Nat} {Hz : Heap} (E : StrOK qLen qCh l D dA z sa Hz) {h0 fin : AH} {x : Int32}  : ∀ (y0 : Int32) (h : AH), p_X9_isDigit_17 y0 h = some (x, fin) → GM l D dA z sa Hz q_X9_isDigit h0 (some (.int x)) fin 17 [] [.int y0] h := by
  intro y0 h hd
  exact step E (is := I_X9_isDigit_17) (pc := 17) (K := k0) (FI := fI0) (FV := fV0) (FL := fL0) (rt := rtZ) (ft := 0) (by exact hd) ok_X9_isDigit_17 k0_ok (fI0_ok E) (fV0_ok E) (fL0_ok E) (rtZ_ok rfl)
def I_X9_isDigit_16 : List AI := [(.iconst 0, 1, [], 0)]
theorem ok_X9_isDigit_16 : vBL MT qLen qCh false q_X9_isDigit.2.2.2.2.1 q_X9_isDigit.2.2.2.2.2.1 q_X9_isDigit.2.2.1 q_X9_isDigit.1.cls q_X9_isDigit.1.name q_X9_isDigit.2.1 17 16 I_X9_isDigit_16 = true := by decide +kernel
def p_X9_isDigit_16 (h : AH) : Option (Int32 × AH) :=
  p_X9_isDigit_17 ((0 : Int32)) h
set_option maxRecDepth 100000 in
theorem e_X9_isDigit_16 {l : Launch} {D : va_G} {dA : Nat → ClassId} {z : Nat} {sa : Nat → Nat} {Hz : Heap} (E : StrOK qLen qCh l D dA z sa Hz) {h0 fin : AH} {x : Int32}  : ∀  (h : AH), p_X9_isDigit_16 h = some (x, fin) → GM l D dA z sa Hz q_X9_isDigit h0 (some (.int x)) fin 16 [] [] h := by
  intro h hd
  exact step E (is := I_X9_isDigit_16) (pc := 16) (K := (kx 17 (fun la st h => sI st fun y0 st => sE st (p_X9_isDigit_17 y0 h)) k0)) (FI := fI0) (FV := fV0) (FL := fL0) (rt := rtZ) (ft := 17) (by exact hd) ok_X9_isDigit_16 (kx_ok (fun la st h e => by obtain ⟨y0, _, rfl, e1⟩ := sI_inv e; obtain ⟨rfl, ez⟩ := sE_inv e1; exact gm_fewer (e_X9_isDigit_17 E  y0 h ez) mem_nil) k0_ok) (fI0_ok E) (fV0_ok E) (fL0_ok E) (rtZ_ok rfl)
def I_X9_isDigit_0 : List AI := [(.iload_n 0, 1, [], 0), (.bipush 48, 2, [], 48), (.if_icmp .lt 13, 3, [16], 0), (.iload_n 0, 1, [], 0), (.bipush 57, 2, [], 57), (.if_icmp .gt 7, 3, [16], 0), (.iconst 1, 1, [], 1), (.goto 4, 3, [17], 0)]
theorem ok_X9_isDigit_0 : vBL MT qLen qCh false q_X9_isDigit.2.2.2.2.1 q_X9_isDigit.2.2.2.2.2.1 q_X9_isDigit.2.2.1 q_X9_isDigit.1.cls q_X9_isDigit.1.name q_X9_isDigit.2.1 0 0 I_X9_isDigit_0 = true := by decide +kernel
def p_X9_isDigit (x0 : Int32) (h : AH) : Option (Int32 × AH) :=
  if x0 < ((48 : Int32)) then (p_X9_isDigit_16 h)
  else
  if ((57 : Int32)) < x0 then (p_X9_isDigit_16 h)
  else
  p_X9_isDigit_17 ((1 : Int32)) h
set_option maxRecDepth 100000 in
theorem e_X9_isDigit_0 {l : Launch} {D : va_G} {dA : Nat → ClassId} {z : Nat} {sa : Nat → Nat} {Hz : Heap} (E : StrOK qLen qCh l D dA z sa Hz) {h0 fin : AH} {x : Int32}  : ∀ (x0 : Int32) (h : AH), p_X9_isDigit x0 h = some (x, fin) → GM l D dA z sa Hz q_X9_isDigit h0 (some (.int x)) fin 0 [(0, .int x0)] [] h := by
  intro x0 h hd
  exact step E (is := I_X9_isDigit_0) (pc := 0) (K := (kx 16 (fun la st h => sE st (p_X9_isDigit_16 h)) (kx 17 (fun la st h => sI st fun y0 st => sE st (p_X9_isDigit_17 y0 h)) k0))) (FI := fI0) (FV := fV0) (FL := fL0) (rt := rtZ) (ft := 0) (by exact hd) ok_X9_isDigit_0 (kx_ok (fun la st h e => by obtain ⟨rfl, ez⟩ := sE_inv e; exact gm_fewer (e_X9_isDigit_16 E   h ez) mem_nil) (kx_ok (fun la st h e => by obtain ⟨y0, _, rfl, e1⟩ := sI_inv e; obtain ⟨rfl, ez⟩ := sE_inv e1; exact gm_fewer (e_X9_isDigit_17 E  y0 h ez) mem_nil) k0_ok)) (fI0_ok E) (fV0_ok E) (fL0_ok E) (rtZ_ok rfl)
theorem c_X9_isDigit {l : Launch} {D : va_G} {dA : Nat → ClassId} {z : Nat} {sa : Nat → Nat} {Hz : Heap} (E : StrOK qLen qCh l D dA z sa Hz) {x0 : Int32} {h fin : AH} {x : Int32} (hd : p_X9_isDigit x0 h = some (x, fin)) : CalOK l D dA z sa Hz q_X9_isDigit [.int x0] h (some (.int x)) fin := calOf (by decide +kernel) (Nat.le_of_ble_eq_true rfl) (e_X9_isDigit_0 E x0 h hd)
def FI_X9_goesOn : Nat → List Value → AH → Option (Int32 × AH) := (cx 203 (fun As h => sR As fun a0 As => sI As fun x1 As => sE As (p_X9_byteAt a0 x1 h)) (cx 204 (fun As h => sI As fun x0 As => sE As (p_X9_isLetter x0 h)) (cx 205 (fun As h => sI As fun x0 As => sE As (p_X9_isDigit x0 h)) fI0)))
theorem FI_X9_goesOn_ok {l : Launch} {D : va_G} {dA : Nat → ClassId} {z : Nat} {sa : Nat → Nat} {Hz : Heap} (E : StrOK qLen qCh l D dA z sa Hz) : ∀ mi As h x h', FI_X9_goesOn mi As h = some (x, h') → CalOK l D dA z sa Hz (MT mi) As h (some (.int x)) h' := (cxI_ok (fun As h x h2 e => by obtain ⟨_, _, rfl, e0⟩ := sR_inv e; obtain ⟨_, _, rfl, e1⟩ := sI_inv e0; obtain ⟨rfl, ez⟩ := sE_inv e1; exact c_X9_byteAt E ez) ((cxI_ok (fun As h x h2 e => by obtain ⟨_, _, rfl, e0⟩ := sI_inv e; obtain ⟨rfl, ez⟩ := sE_inv e0; exact c_X9_isLetter E ez) ((cxI_ok (fun As h x h2 e => by obtain ⟨_, _, rfl, e0⟩ := sI_inv e; obtain ⟨rfl, ez⟩ := sE_inv e0; exact c_X9_isDigit E ez) (fI0_ok E))))))
def I_X9_goesOn_265 : List AI := [(.return_, 1, [], 0)]
theorem ok_X9_goesOn_265 : vBL MT qLen qCh false q_X9_goesOn.2.2.2.2.1 q_X9_goesOn.2.2.2.2.2.1 q_X9_goesOn.2.2.1 q_X9_goesOn.1.cls q_X9_goesOn.1.name q_X9_goesOn.2.1 0 265 I_X9_goesOn_265 = true := by decide +kernel
def p_X9_goesOn_265 (h : AH) : Option (AH) :=
  some h
set_option maxRecDepth 100000 in
theorem e_X9_goesOn_265 {l : Launch} {D : va_G} {dA : Nat → ClassId} {z : Nat} {sa : Nat → Nat} {Hz : Heap} (E : StrOK qLen qCh l D dA z sa Hz) {h0 fin : AH}  : ∀  (h : AH), p_X9_goesOn_265 h = some fin → GM l D dA z sa Hz q_X9_goesOn h0 none fin 265 [] [] h := by
  intro h hd
  exact step E (is := I_X9_goesOn_265) (pc := 265) (K := k0) (FI := FI_X9_goesOn) (FV := fV0) (FL := fL0) (rt := rtV) (ft := 0) (by exact hd) ok_X9_goesOn_265 k0_ok (FI_X9_goesOn_ok E) (fV0_ok E) (fL0_ok E) (rtV_ok rfl)
def I_X9_goesOn_244 : List AI := [(.iload_n 1, 1, [], 0), (.bipush 59, 2, [], 59), (.if_icmp .ne 18, 3, [265], 0), (.aload_n 0, 1, [], 0), (.iconst 4, 1, [], 4), (.putfield 65, 3, [8, 9, 0, 1354], 0), (.aload_n 0, 1, [], 0), (.dup, 1, [], 0), (.getfield 68, 3, [8, 8, 0, 1353], 0), (.iconst 1, 1, [], 1), (.iadd, 1, [], 0), (.putfield 68, 3, [8, 8, 0, 1353], 0)]
theorem ok_X9_goesOn_244 : vBL MT qLen qCh false q_X9_goesOn.2.2.2.2.1 q_X9_goesOn.2.2.2.2.2.1 q_X9_goesOn.2.2.1 q_X9_goesOn.1.cls q_X9_goesOn.1.name q_X9_goesOn.2.1 265 244 I_X9_goesOn_244 = true := by decide +kernel
def p_X9_goesOn_244 (a0 : Nat) (x1 : Int32) (h : AH) : Option (AH) :=
  if x1 = ((59 : Int32)) then (if (tg h a0).1 = 8 then (let h101 := wI h a0 9 ((4 : Int32))
  if (tg h101 a0).1 = 8 then (if (tg h101 a0).1 = 8 then (let h102 := wI h101 a0 8 ((rI h101 a0 8) + ((1 : Int32)))
  p_X9_goesOn_265 h102) else none) else none) else none)
  else
  p_X9_goesOn_265 h
set_option maxRecDepth 100000 in
theorem e_X9_goesOn_244 {l : Launch} {D : va_G} {dA : Nat → ClassId} {z : Nat} {sa : Nat → Nat} {Hz : Heap} (E : StrOK qLen qCh l D dA z sa Hz) {h0 fin : AH}  : ∀ (a0 : Nat) (x1 : Int32) (h : AH), p_X9_goesOn_244 a0 x1 h = some fin → GM l D dA z sa Hz q_X9_goesOn h0 none fin 244 [(0, .ref a0), (1, .int x1)] [] h := by
  intro a0 x1 h hd
  exact step E (is := I_X9_goesOn_244) (pc := 244) (K := (kx 265 (fun la st h => sE st (p_X9_goesOn_265 h)) k0)) (FI := FI_X9_goesOn) (FV := fV0) (FL := fL0) (rt := rtV) (ft := 265) (by exact hd) ok_X9_goesOn_244 (kx_ok (fun la st h e => by obtain ⟨rfl, ez⟩ := sE_inv e; exact gm_fewer (e_X9_goesOn_265 E   h ez) mem_nil) k0_ok) (FI_X9_goesOn_ok E) (fV0_ok E) (fL0_ok E) (rtV_ok rfl)
def I_X9_goesOn_231 : List AI := [(.iload_n 2, 1, [], 0), (.iconst 4, 1, [], 4), (.if_icmp .gt 32, 3, [265], 0), (.aload_n 0, 1, [], 0), (.iconst 3, 1, [], 3), (.putfield 65, 3, [8, 9, 0, 1354], 0), (.goto 24, 3, [265], 0)]
theorem ok_X9_goesOn_231 : vBL MT qLen qCh false q_X9_goesOn.2.2.2.2.1 q_X9_goesOn.2.2.2.2.2.1 q_X9_goesOn.2.2.1 q_X9_goesOn.1.cls q_X9_goesOn.1.name q_X9_goesOn.2.1 0 231 I_X9_goesOn_231 = true := by decide +kernel
def p_X9_goesOn_231 (a0 : Nat) (x2 : Int32) (h : AH) : Option (AH) :=
  if ((4 : Int32)) < x2 then (p_X9_goesOn_265 h)
  else
  if (tg h a0).1 = 8 then (let h103 := wI h a0 9 ((3 : Int32))
  p_X9_goesOn_265 h103) else none
set_option maxRecDepth 100000 in
theorem e_X9_goesOn_231 {l : Launch} {D : va_G} {dA : Nat → ClassId} {z : Nat} {sa : Nat → Nat} {Hz : Heap} (E : StrOK qLen qCh l D dA z sa Hz) {h0 fin : AH}  : ∀ (a0 : Nat) (x2 : Int32) (h : AH), p_X9_goesOn_231 a0 x2 h = some fin → GM l D dA z sa Hz q_X9_goesOn h0 none fin 231 [(0, .ref a0), (2, .int x2)] [] h := by
  intro a0 x2 h hd
  exact step E (is := I_X9_goesOn_231) (pc := 231) (K := (kx 265 (fun la st h => sE st (p_X9_goesOn_265 h)) k0)) (FI := FI_X9_goesOn) (FV := fV0) (FL := fL0) (rt := rtV) (ft := 0) (by exact hd) ok_X9_goesOn_231 (kx_ok (fun la st h e => by obtain ⟨rfl, ez⟩ := sE_inv e; exact gm_fewer (e_X9_goesOn_265 E   h ez) mem_nil) k0_ok) (FI_X9_goesOn_ok E) (fV0_ok E) (fL0_ok E) (rtV_ok rfl)
def I_X9_goesOn_215 : List AI := [(.iinc 2 1, 3, [], 1), (.aload_n 0, 1, [], 0), (.dup, 1, [], 0), (.getfield 68, 3, [8, 8, 0, 1353], 0), (.iconst 1, 1, [], 1), (.iadd, 1, [], 0), (.putfield 68, 3, [8, 8, 0, 1353], 0), (.goto (-55), 3, [173], 0)]
theorem ok_X9_goesOn_215 : vBL MT qLen qCh false q_X9_goesOn.2.2.2.2.1 q_X9_goesOn.2.2.2.2.2.1 q_X9_goesOn.2.2.1 q_X9_goesOn.1.cls q_X9_goesOn.1.name q_X9_goesOn.2.1 0 215 I_X9_goesOn_215 = true := by decide +kernel
def p_X9_goesOn_215 (k173 : Nat → Int32 → AH → Option (AH)) (a0 : Nat) (x2 : Int32) (h : AH) : Option (AH) :=
  if (tg h a0).1 = 8 then (if (tg h a0).1 = 8 then (let h104 := wI h a0 8 ((rI h a0 8) + ((1 : Int32)))
  k173 a0 (x2 + (1 : Int32)) h104) else none) else none
set_option maxRecDepth 100000 in
theorem e_X9_goesOn_215 {l : Launch} {D : va_G} {dA : Nat → ClassId} {z : Nat} {sa : Nat → Nat} {Hz : Heap} (E : StrOK qLen qCh l D dA z sa Hz) {h0 fin : AH}  {k173 : Nat → Int32 → AH → Option (AH)} (hk173 : ∀ (a0 : Nat) (x2 : Int32) (h : AH), k173 a0 x2 h = some fin → GM l D dA z sa Hz q_X9_goesOn h0 none fin 173 [(0, .ref a0), (2, .int x2)] [] h) : ∀ (a0 : Nat) (x2 : Int32) (h : AH), p_X9_goesOn_215 k173 a0 x2 h = some fin → GM l D dA z sa Hz q_X9_goesOn h0 none fin 215 [(0, .ref a0), (2, .int x2)] [] h := by
  intro a0 x2 h hd
  exact step E (is := I_X9_goesOn_215) (pc := 215) (K := (kx 173 (fun la st h => gR la 0 fun a0 => gI la 2 fun x2 => sE st (k173 a0 x2 h)) k0)) (FI := FI_X9_goesOn) (FV := fV0) (FL := fL0) (rt := rtV) (ft := 0) (by exact hd) ok_X9_goesOn_215 (kx_ok (fun la st h e => by obtain ⟨a0, m_a0, e1⟩ := gR_inv e; obtain ⟨x2, m_x2, e2⟩ := gI_inv e1; obtain ⟨rfl, ez⟩ := sE_inv e2; exact gm_fewer (hk173 a0 x2 h ez) (mem_cons m_a0 (mem_cons m_x2 mem_nil))) k0_ok) (FI_X9_goesOn_ok E) (fV0_ok E) (fL0_ok E) (rtV_ok rfl)
def I_X9_goesOn_173 : List AI := [(.aload_n 0, 1, [], 0), (.aload_n 0, 1, [], 0), (.getfield 68, 3, [8, 8, 0, 1353], 0), (.invokevirtual 71, 3, [1, 203, 2, 8, 1562], 0), (.invokestatic 85, 3, [1, 205, 1, 1570], 0), (.ifCond .eq 47, 3, [231], 0), (.iload_n 2, 1, [], 0), (.iconst 4, 1, [], 4), (.if_icmp .ge 26, 3, [215], 0), (.aload_n 0, 1, [], 0), (.bipush 10, 2, [], 10), (.aload_n 0, 1, [], 0), (.getfield 88, 3, [8, 11, 0, 1356], 0), (.imul, 1, [], 0), (.aload_n 0, 1, [], 0), (.aload_n 0, 1, [], 0), (.getfield 68, 3, [8, 8, 0, 1353], 0), (.invokevirtual 71, 3, [1, 203, 2, 8, 1562], 0), (.iadd, 1, [], 0), (.bipush 48, 2, [], 48), (.isub, 1, [], 0), (.putfield 88, 3, [8, 11, 0, 1356], 0)]
theorem ok_X9_goesOn_173 : vBL MT qLen qCh false q_X9_goesOn.2.2.2.2.1 q_X9_goesOn.2.2.2.2.2.1 q_X9_goesOn.2.2.1 q_X9_goesOn.1.cls q_X9_goesOn.1.name q_X9_goesOn.2.1 215 173 I_X9_goesOn_173 = true := by decide +kernel
def p_X9_goesOn_173 : Nat → Nat → Int32 → AH → Option (AH)
  | 0, _, _, _ => none
  | n + 1, a0, x2, h => if (tg h a0).1 = 8 then (if (tg h a0).1 = 8 then ((p_X9_byteAt a0 (rI h a0 8) h).bind fun q105 =>
    (p_X9_isDigit q105.1 q105.2).bind fun q106 =>
    if q106.1 = 0 then (if ((4 : Int32)) < x2 then (p_X9_goesOn_265 q106.2)
    else
    if (tg q106.2 a0).1 = 8 then (let h107 := wI q106.2 a0 9 ((3 : Int32))
    p_X9_goesOn_265 h107) else none)
    else
    if x2 < ((4 : Int32)) then (if (tg q106.2 a0).1 = 8 then (if (tg q106.2 a0).1 = 8 then (if (tg q106.2 a0).1 = 8 then ((p_X9_byteAt a0 (rI q106.2 a0 8) q106.2).bind fun q108 =>
    if (tg q108.2 a0).1 = 8 then (let h109 := wI q108.2 a0 11 (((((10 : Int32)) * (rI q106.2 a0 11)) + q108.1) - ((48 : Int32)))
    p_X9_goesOn_215 (p_X9_goesOn_173 n) a0 x2 h109) else none) else none) else none) else none)
    else
    p_X9_goesOn_215 (p_X9_goesOn_173 n) a0 x2 q106.2) else none) else none
set_option maxRecDepth 100000 in
theorem e_X9_goesOn_173 {l : Launch} {D : va_G} {dA : Nat → ClassId} {z : Nat} {sa : Nat → Nat} {Hz : Heap} (E : StrOK qLen qCh l D dA z sa Hz) {h0 fin : AH}  : ∀ (n : Nat) (a0 : Nat) (x2 : Int32) (h : AH), p_X9_goesOn_173 n a0 x2 h = some fin → GM l D dA z sa Hz q_X9_goesOn h0 none fin 173 [(0, .ref a0), (2, .int x2)] [] h := by
  intro n
  induction n with
  | zero => intro a0 x2 h hd; exact nomatch hd
  | succ n ih =>
    intro a0 x2 h hd
    exact step E (is := I_X9_goesOn_173) (pc := 173) (K := (kx 231 (fun la st h => gR la 0 fun a0 => gI la 2 fun x2 => sE st (p_X9_goesOn_231 a0 x2 h)) (kx 215 (fun la st h => gR la 0 fun a0 => gI la 2 fun x2 => sE st (p_X9_goesOn_215 (p_X9_goesOn_173 n) a0 x2 h)) k0))) (FI := FI_X9_goesOn) (FV := fV0) (FL := fL0) (rt := rtV) (ft := 215) (by exact hd) ok_X9_goesOn_173 (kx_ok (fun la st h e => by obtain ⟨a0, m_a0, e1⟩ := gR_inv e; obtain ⟨x2, m_x2, e2⟩ := gI_inv e1; obtain ⟨rfl, ez⟩ := sE_inv e2; exact gm_fewer (e_X9_goesOn_231 E  a0 x2 h ez) (mem_cons m_a0 (mem_cons m_x2 mem_nil))) (kx_ok (fun la st h e => by obtain ⟨a0, m_a0, e1⟩ := gR_inv e; obtain ⟨x2, m_x2, e2⟩ := gI_inv e1; obtain ⟨rfl, ez⟩ := sE_inv e2; exact gm_fewer (e_X9_goesOn_215 E ih a0 x2 h ez) (mem_cons m_a0 (mem_cons m_x2 mem_nil))) k0_ok)) (FI_X9_goesOn_ok E) (fV0_ok E) (fL0_ok E) (rtV_ok rfl)
def I_X9_goesOn_161 : List AI := [(.iload_n 1, 1, [], 0), (.invokestatic 85, 3, [1, 205, 1, 1570], 0), (.ifCond .eq 79, 3, [244], 0), (.aload_n 0, 1, [], 0), (.iconst 0, 1, [], 0), (.putfield 88, 3, [8, 11, 0, 1356], 0)]
theorem ok_X9_goesOn_161 : vBL MT qLen qCh false q_X9_goesOn.2.2.2.2.1 q_X9_goesOn.2.2.2.2.2.1 q_X9_goesOn.2.2.1 q_X9_goesOn.1.cls q_X9_goesOn.1.name q_X9_goesOn.2.1 173 161 I_X9_goesOn_161 = true := by decide +kernel
def p_X9_goesOn_161 (a0 : Nat) (x1 : Int32) (x2 : Int32) (h : AH) : Option (AH) :=
  (p_X9_isDigit x1 h).bind fun q110 =>
  if q110.1 = 0 then (if x1 = ((59 : Int32)) then (if (tg q110.2 a0).1 = 8 then (let h111 := wI q110.2 a0 9 ((4 : Int32))
  if (tg h111 a0).1 = 8 then (if (tg h111 a0).1 = 8 then (let h112 := wI h111 a0 8 ((rI h111 a0 8) + ((1 : Int32)))
  p_X9_goesOn_265 h112) else none) else none) else none)
  else
  p_X9_goesOn_265 q110.2)
  else
  if (tg q110.2 a0).1 = 8 then (let h113 := wI q110.2 a0 11 ((0 : Int32))
  p_X9_goesOn_173 FU a0 x2 h113) else none
set_option maxRecDepth 100000 in
theorem e_X9_goesOn_161 {l : Launch} {D : va_G} {dA : Nat → ClassId} {z : Nat} {sa : Nat → Nat} {Hz : Heap} (E : StrOK qLen qCh l D dA z sa Hz) {h0 fin : AH}  : ∀ (a0 : Nat) (x1 : Int32) (x2 : Int32) (h : AH), p_X9_goesOn_161 a0 x1 x2 h = some fin → GM l D dA z sa Hz q_X9_goesOn h0 none fin 161 [(0, .ref a0), (1, .int x1), (2, .int x2)] [] h := by
  intro a0 x1 x2 h hd
  exact step E (is := I_X9_goesOn_161) (pc := 161) (K := (kx 244 (fun la st h => gR la 0 fun a0 => gI la 1 fun x1 => sE st (p_X9_goesOn_244 a0 x1 h)) (kx 173 (fun la st h => gR la 0 fun a0 => gI la 2 fun x2 => sE st (p_X9_goesOn_173 FU a0 x2 h)) k0))) (FI := FI_X9_goesOn) (FV := fV0) (FL := fL0) (rt := rtV) (ft := 173) (by exact hd) ok_X9_goesOn_161 (kx_ok (fun la st h e => by obtain ⟨a0, m_a0, e1⟩ := gR_inv e; obtain ⟨x1, m_x1, e2⟩ := gI_inv e1; obtain ⟨rfl, ez⟩ := sE_inv e2; exact gm_fewer (e_X9_goesOn_244 E  a0 x1 h ez) (mem_cons m_a0 (mem_cons m_x1 mem_nil))) (kx_ok (fun la st h e => by obtain ⟨a0, m_a0, e1⟩ := gR_inv e; obtain ⟨x2, m_x2, e2⟩ := gI_inv e1; obtain ⟨rfl, ez⟩ := sE_inv e2; exact gm_fewer (e_X9_goesOn_173 E  FU a0 x2 h ez) (mem_cons m_a0 (mem_cons m_x2 mem_nil))) k0_ok)) (FI_X9_goesOn_ok E) (fV0_ok E) (fL0_ok E) (rtV_ok rfl)
def I_X9_goesOn_147 : List AI := [(.iload_n 2, 1, [], 0), (.bipush 8, 2, [], 8), (.if_icmp .gt 115, 3, [265], 0), (.aload_n 0, 1, [], 0), (.iconst 2, 1, [], 2), (.putfield 65, 3, [8, 9, 0, 1354], 0), (.goto 107, 3, [265], 0)]
theorem ok_X9_goesOn_147 : vBL MT qLen qCh false q_X9_goesOn.2.2.2.2.1 q_X9_goesOn.2.2.2.2.2.1 q_X9_goesOn.2.2.1 q_X9_goesOn.1.cls q_X9_goesOn.1.name q_X9_goesOn.2.1 0 147 I_X9_goesOn_147 = true := by decide +kernel
def p_X9_goesOn_147 (a0 : Nat) (x2 : Int32) (h : AH) : Option (AH) :=
  if ((8 : Int32)) < x2 then (p_X9_goesOn_265 h)
  else
  if (tg h a0).1 = 8 then (let h114 := wI h a0 9 ((2 : Int32))
  p_X9_goesOn_265 h114) else none
set_option maxRecDepth 100000 in
theorem e_X9_goesOn_147 {l : Launch} {D : va_G} {dA : Nat → ClassId} {z : Nat} {sa : Nat → Nat} {Hz : Heap} (E : StrOK qLen qCh l D dA z sa Hz) {h0 fin : AH}  : ∀ (a0 : Nat) (x2 : Int32) (h : AH), p_X9_goesOn_147 a0 x2 h = some fin → GM l D dA z sa Hz q_X9_goesOn h0 none fin 147 [(0, .ref a0), (2, .int x2)] [] h := by
  intro a0 x2 h hd
  exact step E (is := I_X9_goesOn_147) (pc := 147) (K := (kx 265 (fun la st h => sE st (p_X9_goesOn_265 h)) k0)) (FI := FI_X9_goesOn) (FV := fV0) (FL := fL0) (rt := rtV) (ft := 0) (by exact hd) ok_X9_goesOn_147 (kx_ok (fun la st h e => by obtain ⟨rfl, ez⟩ := sE_inv e; exact gm_fewer (e_X9_goesOn_265 E   h ez) mem_nil) k0_ok) (FI_X9_goesOn_ok E) (fV0_ok E) (fL0_ok E) (rtV_ok rfl)
def I_X9_goesOn_131 : List AI := [(.iinc 2 1, 3, [], 1), (.aload_n 0, 1, [], 0), (.dup, 1, [], 0), (.getfield 68, 3, [8, 8, 0, 1353], 0), (.iconst 1, 1, [], 1), (.iadd, 1, [], 0), (.putfield 68, 3, [8, 8, 0, 1353], 0), (.goto (-60), 3, [84], 0)]
theorem ok_X9_goesOn_131 : vBL MT qLen qCh false q_X9_goesOn.2.2.2.2.1 q_X9_goesOn.2.2.2.2.2.1 q_X9_goesOn.2.2.1 q_X9_goesOn.1.cls q_X9_goesOn.1.name q_X9_goesOn.2.1 0 131 I_X9_goesOn_131 = true := by decide +kernel
def p_X9_goesOn_131 (k84 : Nat → Int32 → AH → Option (AH)) (a0 : Nat) (x2 : Int32) (h : AH) : Option (AH) :=
  if (tg h a0).1 = 8 then (if (tg h a0).1 = 8 then (let h115 := wI h a0 8 ((rI h a0 8) + ((1 : Int32)))
  k84 a0 (x2 + (1 : Int32)) h115) else none) else none
set_option maxRecDepth 100000 in
theorem e_X9_goesOn_131 {l : Launch} {D : va_G} {dA : Nat → ClassId} {z : Nat} {sa : Nat → Nat} {Hz : Heap} (E : StrOK qLen qCh l D dA z sa Hz) {h0 fin : AH}  {k84 : Nat → Int32 → AH → Option (AH)} (hk84 : ∀ (a0 : Nat) (x2 : Int32) (h : AH), k84 a0 x2 h = some fin → GM l D dA z sa Hz q_X9_goesOn h0 none fin 84 [(0, .ref a0), (2, .int x2)] [] h) : ∀ (a0 : Nat) (x2 : Int32) (h : AH), p_X9_goesOn_131 k84 a0 x2 h = some fin → GM l D dA z sa Hz q_X9_goesOn h0 none fin 131 [(0, .ref a0), (2, .int x2)] [] h := by
  intro a0 x2 h hd
  exact step E (is := I_X9_goesOn_131) (pc := 131) (K := (kx 84 (fun la st h => gR la 0 fun a0 => gI la 2 fun x2 => sE st (k84 a0 x2 h)) k0)) (FI := FI_X9_goesOn) (FV := fV0) (FL := fL0) (rt := rtV) (ft := 0) (by exact hd) ok_X9_goesOn_131 (kx_ok (fun la st h e => by obtain ⟨a0, m_a0, e1⟩ := gR_inv e; obtain ⟨x2, m_x2, e2⟩ := gI_inv e1; obtain ⟨rfl, ez⟩ := sE_inv e2; exact gm_fewer (hk84 a0 x2 h ez) (mem_cons m_a0 (mem_cons m_x2 mem_nil))) k0_ok) (FI_X9_goesOn_ok E) (fV0_ok E) (fL0_ok E) (rtV_ok rfl)
def I_X9_goesOn_84 : List AI := [(.aload_n 0, 1, [], 0), (.aload_n 0, 1, [], 0), (.getfield 68, 3, [8, 8, 0, 1353], 0), (.invokevirtual 71, 3, [1, 203, 2, 8, 1562], 0), (.invokestatic 77, 3, [1, 204, 1, 1566], 0), (.ifCond .eq 52, 3, [147], 0), (.iload_n 2, 1, [], 0), (.bipush 8, 2, [], 8), (.if_icmp .ge 30, 3, [131], 0), (.aload_n 0, 1, [], 0), (.ldc2_w 59, 3, [0, 1569], 32), (.aload_n 0, 1, [], 0), (.getfield 81, 3, [8, 14, 1, 1359], 0), (.lmul, 1, [], 0), (.aload_n 0, 1, [], 0), (.aload_n 0, 1, [], 0), (.getfield 68, 3, [8, 8, 0, 1353], 0), (.invokevirtual 71, 3, [1, 203, 2, 8, 1562], 0), (.bipush 97, 2, [], 97), (.isub, 1, [], 0), (.iconst 1, 1, [], 1), (.iadd, 1, [], 0), (.i2l, 1, [], 0), (.ladd, 1, [], 0), (.putfield 81, 3, [8, 14, 1, 1359], 0)]
theorem ok_X9_goesOn_84 : vBL MT qLen qCh false q_X9_goesOn.2.2.2.2.1 q_X9_goesOn.2.2.2.2.2.1 q_X9_goesOn.2.2.1 q_X9_goesOn.1.cls q_X9_goesOn.1.name q_X9_goesOn.2.1 131 84 I_X9_goesOn_84 = true := by decide +kernel
def p_X9_goesOn_84 : Nat → Nat → Int32 → AH → Option (AH)
  | 0, _, _, _ => none
  | n + 1, a0, x2, h => if (tg h a0).1 = 8 then (if (tg h a0).1 = 8 then ((p_X9_byteAt a0 (rI h a0 8) h).bind fun q116 =>
    (p_X9_isLetter q116.1 q116.2).bind fun q117 =>
    if q117.1 = 0 then (if ((8 : Int32)) < x2 then (p_X9_goesOn_265 q117.2)
    else
    if (tg q117.2 a0).1 = 8 then (let h118 := wI q117.2 a0 9 ((2 : Int32))
    p_X9_goesOn_265 h118) else none)
    else
    if x2 < ((8 : Int32)) then (if (tg q117.2 a0).1 = 8 then (if (tg q117.2 a0).1 = 8 then (if (tg q117.2 a0).1 = 8 then ((p_X9_byteAt a0 (rI q117.2 a0 8) q117.2).bind fun q119 =>
    if (tg q119.2 a0).1 = 8 then (let h120 := wL q119.2 a0 14 ((((32 : Int32).toInt64) * (rL q117.2 a0 14)) + (((q119.1 - ((97 : Int32))) + ((1 : Int32))).toInt64))
    p_X9_goesOn_131 (p_X9_goesOn_84 n) a0 x2 h120) else none) else none) else none) else none)
    else
    p_X9_goesOn_131 (p_X9_goesOn_84 n) a0 x2 q117.2) else none) else none
set_option maxRecDepth 100000 in
theorem e_X9_goesOn_84 {l : Launch} {D : va_G} {dA : Nat → ClassId} {z : Nat} {sa : Nat → Nat} {Hz : Heap} (E : StrOK qLen qCh l D dA z sa Hz) {h0 fin : AH}  : ∀ (n : Nat) (a0 : Nat) (x2 : Int32) (h : AH), p_X9_goesOn_84 n a0 x2 h = some fin → GM l D dA z sa Hz q_X9_goesOn h0 none fin 84 [(0, .ref a0), (2, .int x2)] [] h := by
  intro n
  induction n with
  | zero => intro a0 x2 h hd; exact nomatch hd
  | succ n ih =>
    intro a0 x2 h hd
    exact step E (is := I_X9_goesOn_84) (pc := 84) (K := (kx 147 (fun la st h => gR la 0 fun a0 => gI la 2 fun x2 => sE st (p_X9_goesOn_147 a0 x2 h)) (kx 131 (fun la st h => gR la 0 fun a0 => gI la 2 fun x2 => sE st (p_X9_goesOn_131 (p_X9_goesOn_84 n) a0 x2 h)) k0))) (FI := FI_X9_goesOn) (FV := fV0) (FL := fL0) (rt := rtV) (ft := 131) (by exact hd) ok_X9_goesOn_84 (kx_ok (fun la st h e => by obtain ⟨a0, m_a0, e1⟩ := gR_inv e; obtain ⟨x2, m_x2, e2⟩ := gI_inv e1; obtain ⟨rfl, ez⟩ := sE_inv e2; exact gm_fewer (e_X9_goesOn_147 E  a0 x2 h ez) (mem_cons m_a0 (mem_cons m_x2 mem_nil))) (kx_ok (fun la st h e => by obtain ⟨a0, m_a0, e1⟩ := gR_inv e; obtain ⟨x2, m_x2, e2⟩ := gI_inv e1; obtain ⟨rfl, ez⟩ := sE_inv e2; exact gm_fewer (e_X9_goesOn_131 E ih a0 x2 h ez) (mem_cons m_a0 (mem_cons m_x2 mem_nil))) k0_ok)) (FI_X9_goesOn_ok E) (fV0_ok E) (fL0_ok E) (rtV_ok rfl)
def I_X9_goesOn_72 : List AI := [(.iload_n 1, 1, [], 0), (.invokestatic 77, 3, [1, 204, 1, 1566], 0), (.ifCond .eq 85, 3, [161], 0), (.aload_n 0, 1, [], 0), (.lconst 0, 1, [], 0), (.putfield 81, 3, [8, 14, 1, 1359], 0)]
theorem ok_X9_goesOn_72 : vBL MT qLen qCh false q_X9_goesOn.2.2.2.2.1 q_X9_goesOn.2.2.2.2.2.1 q_X9_goesOn.2.2.1 q_X9_goesOn.1.cls q_X9_goesOn.1.name q_X9_goesOn.2.1 84 72 I_X9_goesOn_72 = true := by decide +kernel
def p_X9_goesOn_72 (a0 : Nat) (x1 : Int32) (x2 : Int32) (h : AH) : Option (AH) :=
  (p_X9_isLetter x1 h).bind fun q121 =>
  if q121.1 = 0 then ((p_X9_isDigit x1 q121.2).bind fun q122 =>
  if q122.1 = 0 then (if x1 = ((59 : Int32)) then (if (tg q122.2 a0).1 = 8 then (let h123 := wI q122.2 a0 9 ((4 : Int32))
  if (tg h123 a0).1 = 8 then (if (tg h123 a0).1 = 8 then (let h124 := wI h123 a0 8 ((rI h123 a0 8) + ((1 : Int32)))
  p_X9_goesOn_265 h124) else none) else none) else none)
  else
  p_X9_goesOn_265 q122.2)
  else
  if (tg q122.2 a0).1 = 8 then (let h125 := wI q122.2 a0 11 ((0 : Int32))
  p_X9_goesOn_173 FU a0 x2 h125) else none)
  else
  if (tg q121.2 a0).1 = 8 then (let h126 := wL q121.2 a0 14 ((0 : Int32).toInt64)
  p_X9_goesOn_84 FU a0 x2 h126) else none
set_option maxRecDepth 100000 in
theorem e_X9_goesOn_72 {l : Launch} {D : va_G} {dA : Nat → ClassId} {z : Nat} {sa : Nat → Nat} {Hz : Heap} (E : StrOK qLen qCh l D dA z sa Hz) {h0 fin : AH}  : ∀ (a0 : Nat) (x1 : Int32) (x2 : Int32) (h : AH), p_X9_goesOn_72 a0 x1 x2 h = some fin → GM l D dA z sa Hz q_X9_goesOn h0 none fin 72 [(0, .ref a0), (1, .int x1), (2, .int x2)] [] h := by
  intro a0 x1 x2 h hd
  exact step E (is := I_X9_goesOn_72) (pc := 72) (K := (kx 161 (fun la st h => gR la 0 fun a0 => gI la 1 fun x1 => gI la 2 fun x2 => sE st (p_X9_goesOn_161 a0 x1 x2 h)) (kx 84 (fun la st h => gR la 0 fun a0 => gI la 2 fun x2 => sE st (p_X9_goesOn_84 FU a0 x2 h)) k0))) (FI := FI_X9_goesOn) (FV := fV0) (FL := fL0) (rt := rtV) (ft := 84) (by exact hd) ok_X9_goesOn_72 (kx_ok (fun la st h e => by obtain ⟨a0, m_a0, e1⟩ := gR_inv e; obtain ⟨x1, m_x1, e2⟩ := gI_inv e1; obtain ⟨x2, m_x2, e3⟩ := gI_inv e2; obtain ⟨rfl, ez⟩ := sE_inv e3; exact gm_fewer (e_X9_goesOn_161 E  a0 x1 x2 h ez) (mem_cons m_a0 (mem_cons m_x1 (mem_cons m_x2 mem_nil)))) (kx_ok (fun la st h e => by obtain ⟨a0, m_a0, e1⟩ := gR_inv e; obtain ⟨x2, m_x2, e2⟩ := gI_inv e1; obtain ⟨rfl, ez⟩ := sE_inv e2; exact gm_fewer (e_X9_goesOn_84 E  FU a0 x2 h ez) (mem_cons m_a0 (mem_cons m_x2 mem_nil))) k0_ok)) (FI_X9_goesOn_ok E) (fV0_ok E) (fL0_ok E) (rtV_ok rfl)
def I_X9_goesOn_35 : List AI := [(.aload_n 0, 1, [], 0), (.aload_n 0, 1, [], 0), (.getfield 68, 3, [8, 8, 0, 1353], 0), (.putfield 74, 3, [8, 10, 0, 1355], 0), (.aload_n 0, 1, [], 0), (.iconst 0, 1, [], 0), (.putfield 65, 3, [8, 9, 0, 1354], 0), (.aload_n 0, 1, [], 0), (.aload_n 0, 1, [], 0), (.getfield 68, 3, [8, 8, 0, 1353], 0), (.invokevirtual 71, 3, [1, 203, 2, 8, 1562], 0), (.istore_n 1, 1, [], 0), (.iconst 0, 1, [], 0), (.istore_n 2, 1, [], 0), (.iload_n 1, 1, [], 0), (.iconst (-1), 1, [], (-1)), (.if_icmp .ne 11, 3, [72], 0), (.aload_n 0, 1, [], 0), (.iconst 1, 1, [], 1), (.putfield 65, 3, [8, 9, 0, 1354], 0), (.goto 196, 3, [265], 0)]
theorem ok_X9_goesOn_35 : vBL MT qLen qCh false q_X9_goesOn.2.2.2.2.1 q_X9_goesOn.2.2.2.2.2.1 q_X9_goesOn.2.2.1 q_X9_goesOn.1.cls q_X9_goesOn.1.name q_X9_goesOn.2.1 0 35 I_X9_goesOn_35 = true := by decide +kernel
def p_X9_goesOn_35 (a0 : Nat) (h : AH) : Option (AH) :=
  if (tg h a0).1 = 8 then (if (tg h a0).1 = 8 then (let h127 := wI h a0 10 (rI h a0 8)
  if (tg h127 a0).1 = 8 then (let h128 := wI h127 a0 9 ((0 : Int32))
  if (tg h128 a0).1 = 8 then (if (tg h128 a0).1 = 8 then ((p_X9_byteAt a0 (rI h128 a0 8) h128).bind fun q129 =>
  if q129.1 = ((-1 : Int32)) then (if (tg q129.2 a0).1 = 8 then (let h136 := wI q129.2 a0 9 ((1 : Int32))
  p_X9_goesOn_265 h136) else none)
  else
  (p_X9_isLetter q129.1 q129.2).bind fun q130 =>
  if q130.1 = 0 then ((p_X9_isDigit q129.1 q130.2).bind fun q131 =>
  if q131.1 = 0 then (if q129.1 = ((59 : Int32)) then (if (tg q131.2 a0).1 = 8 then (let h132 := wI q131.2 a0 9 ((4 : Int32))
  if (tg h132 a0).1 = 8 then (if (tg h132 a0).1 = 8 then (let h133 := wI h132 a0 8 ((rI h132 a0 8) + ((1 : Int32)))
  p_X9_goesOn_265 h133) else none) else none) else none)
  else
  p_X9_goesOn_265 q131.2)
  else
  if (tg q131.2 a0).1 = 8 then (let h134 := wI q131.2 a0 11 ((0 : Int32))
  p_X9_goesOn_173 FU a0 ((0 : Int32)) h134) else none)
  else
  if (tg q130.2 a0).1 = 8 then (let h135 := wL q130.2 a0 14 ((0 : Int32).toInt64)
  p_X9_goesOn_84 FU a0 ((0 : Int32)) h135) else none) else none) else none) else none) else none) else none
set_option maxRecDepth 100000 in
theorem e_X9_goesOn_35 {l : Launch} {D : va_G} {dA : Nat → ClassId} {z : Nat} {sa : Nat → Nat} {Hz : Heap} (E : StrOK qLen qCh l D dA z sa Hz) {h0 fin : AH}  : ∀ (a0 : Nat) (h : AH), p_X9_goesOn_35 a0 h = some fin → GM l D dA z sa Hz q_X9_goesOn h0 none fin 35 [(0, .ref a0)] [] h := by
  intro a0 h hd
  exact step E (is := I_X9_goesOn_35) (pc := 35) (K := (kx 72 (fun la st h => gR la 0 fun a0 => gI la 1 fun x1 => gI la 2 fun x2 => sE st (p_X9_goesOn_72 a0 x1 x2 h)) (kx 265 (fun la st h => sE st (p_X9_goesOn_265 h)) k0))) (FI := FI_X9_goesOn) (FV := fV0) (FL := fL0) (rt := rtV) (ft := 0) (by exact hd) ok_X9_goesOn_35 (kx_ok (fun la st h e => by obtain ⟨a0, m_a0, e1⟩ := gR_inv e; obtain ⟨x1, m_x1, e2⟩ := gI_inv e1; obtain ⟨x2, m_x2, e3⟩ := gI_inv e2; obtain ⟨rfl, ez⟩ := sE_inv e3; exact gm_fewer (e_X9_goesOn_72 E  a0 x1 x2 h ez) (mem_cons m_a0 (mem_cons m_x1 (mem_cons m_x2 mem_nil)))) (kx_ok (fun la st h e => by obtain ⟨rfl, ez⟩ := sE_inv e; exact gm_fewer (e_X9_goesOn_265 E   h ez) mem_nil) k0_ok)) (FI_X9_goesOn_ok E) (fV0_ok E) (fL0_ok E) (rtV_ok rfl)
def I_X9_goesOn_9 : List AI := [(.aload_n 0, 1, [], 0), (.aload_n 0, 1, [], 0), (.getfield 68, 3, [8, 8, 0, 1353], 0), (.invokevirtual 71, 3, [1, 203, 2, 8, 1562], 0), (.bipush 32, 2, [], 32), (.if_icmp .ne 16, 3, [35], 0), (.aload_n 0, 1, [], 0), (.dup, 1, [], 0), (.getfield 68, 3, [8, 8, 0, 1353], 0), (.iconst 1, 1, [], 1), (.iadd, 1, [], 0), (.putfield 68, 3, [8, 8, 0, 1353], 0), (.goto (-23), 3, [9], 0)]
theorem ok_X9_goesOn_9 : vBL MT qLen qCh false q_X9_goesOn.2.2.2.2.1 q_X9_goesOn.2.2.2.2.2.1 q_X9_goesOn.2.2.1 q_X9_goesOn.1.cls q_X9_goesOn.1.name q_X9_goesOn.2.1 0 9 I_X9_goesOn_9 = true := by decide +kernel
def p_X9_goesOn_9 : Nat → Nat → AH → Option (AH)
  | 0, _, _ => none
  | n + 1, a0, h => if (tg h a0).1 = 8 then (if (tg h a0).1 = 8 then ((p_X9_byteAt a0 (rI h a0 8) h).bind fun q137 =>
    if q137.1 = ((32 : Int32)) then (if (tg q137.2 a0).1 = 8 then (if (tg q137.2 a0).1 = 8 then (let h148 := wI q137.2 a0 8 ((rI q137.2 a0 8) + ((1 : Int32)))
    p_X9_goesOn_9 n a0 h148) else none) else none)
    else
    if (tg q137.2 a0).1 = 8 then (if (tg q137.2 a0).1 = 8 then (let h138 := wI q137.2 a0 10 (rI q137.2 a0 8)
    if (tg h138 a0).1 = 8 then (let h139 := wI h138 a0 9 ((0 : Int32))
    if (tg h139 a0).1 = 8 then (if (tg h139 a0).1 = 8 then ((p_X9_byteAt a0 (rI h139 a0 8) h139).bind fun q140 =>
    if q140.1 = ((-1 : Int32)) then (if (tg q140.2 a0).1 = 8 then (let h147 := wI q140.2 a0 9 ((1 : Int32))
    p_X9_goesOn_265 h147) else none)
    else
    (p_X9_isLetter q140.1 q140.2).bind fun q141 =>
    if q141.1 = 0 then ((p_X9_isDigit q140.1 q141.2).bind fun q142 =>
    if q142.1 = 0 then (if q140.1 = ((59 : Int32)) then (if (tg q142.2 a0).1 = 8 then (let h143 := wI q142.2 a0 9 ((4 : Int32))
    if (tg h143 a0).1 = 8 then (if (tg h143 a0).1 = 8 then (let h144 := wI h143 a0 8 ((rI h143 a0 8) + ((1 : Int32)))
    p_X9_goesOn_265 h144) else none) else none) else none)
    else
    p_X9_goesOn_265 q142.2)
    else
    if (tg q142.2 a0).1 = 8 then (let h145 := wI q142.2 a0 11 ((0 : Int32))
    p_X9_goesOn_173 FU a0 ((0 : Int32)) h145) else none)
    else
    if (tg q141.2 a0).1 = 8 then (let h146 := wL q141.2 a0 14 ((0 : Int32).toInt64)
    p_X9_goesOn_84 FU a0 ((0 : Int32)) h146) else none) else none) else none) else none) else none) else none) else none) else none
set_option maxRecDepth 100000 in
theorem e_X9_goesOn_9 {l : Launch} {D : va_G} {dA : Nat → ClassId} {z : Nat} {sa : Nat → Nat} {Hz : Heap} (E : StrOK qLen qCh l D dA z sa Hz) {h0 fin : AH}  : ∀ (n : Nat) (a0 : Nat) (h : AH), p_X9_goesOn_9 n a0 h = some fin → GM l D dA z sa Hz q_X9_goesOn h0 none fin 9 [(0, .ref a0)] [] h := by
  intro n
  induction n with
  | zero => intro a0 h hd; exact nomatch hd
  | succ n ih =>
    intro a0 h hd
    exact step E (is := I_X9_goesOn_9) (pc := 9) (K := (kx 35 (fun la st h => gR la 0 fun a0 => sE st (p_X9_goesOn_35 a0 h)) (kx 9 (fun la st h => gR la 0 fun a0 => sE st (p_X9_goesOn_9 n a0 h)) k0))) (FI := FI_X9_goesOn) (FV := fV0) (FL := fL0) (rt := rtV) (ft := 0) (by exact hd) ok_X9_goesOn_9 (kx_ok (fun la st h e => by obtain ⟨a0, m_a0, e1⟩ := gR_inv e; obtain ⟨rfl, ez⟩ := sE_inv e1; exact gm_fewer (e_X9_goesOn_35 E  a0 h ez) (mem_cons m_a0 mem_nil)) (kx_ok (fun la st h e => by obtain ⟨a0, m_a0, e1⟩ := gR_inv e; obtain ⟨rfl, ez⟩ := sE_inv e1; exact gm_fewer (ih a0 h ez) (mem_cons m_a0 mem_nil)) k0_ok)) (FI_X9_goesOn_ok E) (fV0_ok E) (fL0_ok E) (rtV_ok rfl)
def I_X9_goesOn_0 : List AI := [(.aload_n 0, 1, [], 0), (.getfield 65, 3, [8, 9, 0, 1354], 0), (.iconst 5, 1, [], 5), (.if_icmp .ne 4, 3, [9], 0), (.return_, 1, [], 0)]
theorem ok_X9_goesOn_0 : vBL MT qLen qCh false q_X9_goesOn.2.2.2.2.1 q_X9_goesOn.2.2.2.2.2.1 q_X9_goesOn.2.2.1 q_X9_goesOn.1.cls q_X9_goesOn.1.name q_X9_goesOn.2.1 0 0 I_X9_goesOn_0 = true := by decide +kernel
def p_X9_goesOn (a0 : Nat) (h : AH) : Option (AH) :=
  if (tg h a0).1 = 8 then (if (rI h a0 9) = ((5 : Int32)) then (some h)
  else
  p_X9_goesOn_9 FU a0 h) else none
set_option maxRecDepth 100000 in
theorem e_X9_goesOn_0 {l : Launch} {D : va_G} {dA : Nat → ClassId} {z : Nat} {sa : Nat → Nat} {Hz : Heap} (E : StrOK qLen qCh l D dA z sa Hz) {h0 fin : AH}  : ∀ (a0 : Nat) (h : AH), p_X9_goesOn a0 h = some fin → GM l D dA z sa Hz q_X9_goesOn h0 none fin 0 [(0, .ref a0)] [] h := by
  intro a0 h hd
  exact step E (is := I_X9_goesOn_0) (pc := 0) (K := (kx 9 (fun la st h => gR la 0 fun a0 => sE st (p_X9_goesOn_9 FU a0 h)) k0)) (FI := FI_X9_goesOn) (FV := fV0) (FL := fL0) (rt := rtV) (ft := 0) (by exact hd) ok_X9_goesOn_0 (kx_ok (fun la st h e => by obtain ⟨a0, m_a0, e1⟩ := gR_inv e; obtain ⟨rfl, ez⟩ := sE_inv e1; exact gm_fewer (e_X9_goesOn_9 E  FU a0 h ez) (mem_cons m_a0 mem_nil)) k0_ok) (FI_X9_goesOn_ok E) (fV0_ok E) (fL0_ok E) (rtV_ok rfl)
theorem c_X9_goesOn {l : Launch} {D : va_G} {dA : Nat → ClassId} {z : Nat} {sa : Nat → Nat} {Hz : Heap} (E : StrOK qLen qCh l D dA z sa Hz) {a0 : Nat} {h fin : AH} (hd : p_X9_goesOn a0 h = some fin) : CalOK l D dA z sa Hz q_X9_goesOn [.ref a0] h none fin := calOf (by decide +kernel) (Nat.le_of_ble_eq_true rfl) (e_X9_goesOn_0 E a0 h hd)
def I_X9_packed_36 : List AI := [(.lload_n 1, 1, [], 0), (.lreturn, 1, [], 0)]
theorem ok_X9_packed_36 : vBL MT qLen qCh false q_X9_packed.2.2.2.2.1 q_X9_packed.2.2.2.2.2.1 q_X9_packed.2.2.1 q_X9_packed.1.cls q_X9_packed.1.name q_X9_packed.2.1 0 36 I_X9_packed_36 = true := by decide +kernel
def p_X9_packed_36 (w1 : Int64) (h : AH) : Option (Int64 × AH) :=
  some (w1, h)
set_option maxRecDepth 100000 in
theorem e_X9_packed_36 {l : Launch} {D : va_G} {dA : Nat → ClassId} {z : Nat} {sa : Nat → Nat} {Hz : Heap} (E : StrOK qLen qCh l D dA z sa Hz) {h0 fin : AH} {x : Int64}  : ∀ (w1 : Int64) (h : AH), p_X9_packed_36 w1 h = some (x, fin) → GM l D dA z sa Hz q_X9_packed h0 (some (.long x)) fin 36 [(1, .long w1)] [] h := by
  intro w1 h hd
  exact step E (is := I_X9_packed_36) (pc := 36) (K := k0) (FI := fI0) (FV := fV0) (FL := fL0) (rt := rtL) (ft := 0) (by exact hd) ok_X9_packed_36 k0_ok (fI0_ok E) (fV0_ok E) (fL0_ok E) (rtL_ok rfl)
def I_X9_packed_4 : List AI := [(.iload_n 3, 1, [], 0), (.aload_n 0, 1, [], 0), (.invokevirtual 53, 3, [5, 1589], 0), (.if_icmp .ge 27, 3, [36], 0), (.ldc2_w 59, 3, [0, 1569], 32), (.lload_n 1, 1, [], 0), (.lmul, 1, [], 0), (.aload_n 0, 1, [], 0), (.iload_n 3, 1, [], 0), (.invokevirtual 61, 3, [6, 1590], 0), (.bipush 97, 2, [], 97), (.isub, 1, [], 0), (.iconst 1, 1, [], 1), (.iadd, 1, [], 0), (.i2l, 1, [], 0), (.ladd, 1, [], 0), (.lstore_n 1, 1, [], 0), (.iinc 3 1, 3, [], 1), (.goto (-29), 3, [4], 0)]
theorem ok_X9_packed_4 : vBL MT qLen qCh false q_X9_packed.2.2.2.2.1 q_X9_packed.2.2.2.2.2.1 q_X9_packed.2.2.1 q_X9_packed.1.cls q_X9_packed.1.name q_X9_packed.2.1 0 4 I_X9_packed_4 = true := by decide +kernel
def p_X9_packed_4 : Nat → Nat → Int64 → Int32 → AH → Option (Int64 × AH)
  | 0, _, _, _, _ => none
  | n + 1, t0, w1, x3, h => (strLen t0).bind fun x101 =>
    if x3 < x101 then ((strCh t0 x3).bind fun x102 =>
    let w103 := (((32 : Int32).toInt64) * w1) + (((x102 - ((97 : Int32))) + ((1 : Int32))).toInt64)
    p_X9_packed_4 n t0 w103 (x3 + (1 : Int32)) h)
    else
    some (w1, h)
set_option maxRecDepth 100000 in
theorem e_X9_packed_4 {l : Launch} {D : va_G} {dA : Nat → ClassId} {z : Nat} {sa : Nat → Nat} {Hz : Heap} (E : StrOK qLen qCh l D dA z sa Hz) {h0 fin : AH} {x : Int64}  : ∀ (n : Nat) (t0 : Nat) (w1 : Int64) (x3 : Int32) (h : AH), p_X9_packed_4 n t0 w1 x3 h = some (x, fin) → GM l D dA z sa Hz q_X9_packed h0 (some (.long x)) fin 4 [(0, .retAddr t0), (1, .long w1), (3, .int x3)] [] h := by
  intro n
  induction n with
  | zero => intro t0 w1 x3 h hd; exact nomatch hd
  | succ n ih =>
    intro t0 w1 x3 h hd
    exact step E (is := I_X9_packed_4) (pc := 4) (K := (kx 36 (fun la st h => gL la 1 fun w1 => sE st (p_X9_packed_36 w1 h)) (kx 4 (fun la st h => gT la 0 fun t0 => gL la 1 fun w1 => gI la 3 fun x3 => sE st (p_X9_packed_4 n t0 w1 x3 h)) k0))) (FI := fI0) (FV := fV0) (FL := fL0) (rt := rtL) (ft := 0) (by exact hd) ok_X9_packed_4 (kx_ok (fun la st h e => by obtain ⟨w1, m_w1, e1⟩ := gL_inv e; obtain ⟨rfl, ez⟩ := sE_inv e1; exact gm_fewer (e_X9_packed_36 E  w1 h ez) (mem_cons m_w1 mem_nil)) (kx_ok (fun la st h e => by obtain ⟨t0, m_t0, e1⟩ := gT_inv e; obtain ⟨w1, m_w1, e2⟩ := gL_inv e1; obtain ⟨x3, m_x3, e3⟩ := gI_inv e2; obtain ⟨rfl, ez⟩ := sE_inv e3; exact gm_fewer (ih t0 w1 x3 h ez) (mem_cons m_t0 (mem_cons m_w1 (mem_cons m_x3 mem_nil)))) k0_ok)) (fI0_ok E) (fV0_ok E) (fL0_ok E) (rtL_ok rfl)
def I_X9_packed_0 : List AI := [(.lconst 0, 1, [], 0), (.lstore_n 1, 1, [], 0), (.iconst 0, 1, [], 0), (.istore_n 3, 1, [], 0)]
theorem ok_X9_packed_0 : vBL MT qLen qCh false q_X9_packed.2.2.2.2.1 q_X9_packed.2.2.2.2.2.1 q_X9_packed.2.2.1 q_X9_packed.1.cls q_X9_packed.1.name q_X9_packed.2.1 4 0 I_X9_packed_0 = true := by decide +kernel
def p_X9_packed (t0 : Nat) (h : AH) : Option (Int64 × AH) :=
  let w104 := (0 : Int32).toInt64
  p_X9_packed_4 FU t0 w104 ((0 : Int32)) h
set_option maxRecDepth 100000 in
theorem e_X9_packed_0 {l : Launch} {D : va_G} {dA : Nat → ClassId} {z : Nat} {sa : Nat → Nat} {Hz : Heap} (E : StrOK qLen qCh l D dA z sa Hz) {h0 fin : AH} {x : Int64}  : ∀ (t0 : Nat) (h : AH), p_X9_packed t0 h = some (x, fin) → GM l D dA z sa Hz q_X9_packed h0 (some (.long x)) fin 0 [(0, .retAddr t0)] [] h := by
  intro t0 h hd
  exact step E (is := I_X9_packed_0) (pc := 0) (K := (kx 4 (fun la st h => gT la 0 fun t0 => gL la 1 fun w1 => gI la 3 fun x3 => sE st (p_X9_packed_4 FU t0 w1 x3 h)) k0)) (FI := fI0) (FV := fV0) (FL := fL0) (rt := rtL) (ft := 4) (by exact hd) ok_X9_packed_0 (kx_ok (fun la st h e => by obtain ⟨t0, m_t0, e1⟩ := gT_inv e; obtain ⟨w1, m_w1, e2⟩ := gL_inv e1; obtain ⟨x3, m_x3, e3⟩ := gI_inv e2; obtain ⟨rfl, ez⟩ := sE_inv e3; exact gm_fewer (e_X9_packed_4 E  FU t0 w1 x3 h ez) (mem_cons m_t0 (mem_cons m_w1 (mem_cons m_x3 mem_nil)))) k0_ok) (fI0_ok E) (fV0_ok E) (fL0_ok E) (rtL_ok rfl)
theorem c_X9_packed {l : Launch} {D : va_G} {dA : Nat → ClassId} {z : Nat} {sa : Nat → Nat} {Hz : Heap} (E : StrOK qLen qCh l D dA z sa Hz) {t0 : Nat} {h fin : AH} {x : Int64} (hd : p_X9_packed t0 h = some (x, fin)) : CalOK l D dA z sa Hz q_X9_packed [.retAddr t0] h (some (.long x)) fin := calOf (by decide +kernel) (Nat.le_of_ble_eq_true rfl) (e_X9_packed_0 E t0 h hd)
def FL_X9_isWord : Nat → List Value → AH → Option (Int64 × AH) := (cx 207 (fun As h => sT As fun t0 As => sE As (p_X9_packed t0 h)) fL0)
theorem FL_X9_isWord_ok {l : Launch} {D : va_G} {dA : Nat → ClassId} {z : Nat} {sa : Nat → Nat} {Hz : Heap} (E : StrOK qLen qCh l D dA z sa Hz) : ∀ mi As h x h', FL_X9_isWord mi As h = some (x, h') → CalOK l D dA z sa Hz (MT mi) As h (some (.long x)) h' := (cxL_ok (fun As h x h2 e => by obtain ⟨_, _, rfl, e0⟩ := sT_inv e; obtain ⟨rfl, ez⟩ := sE_inv e0; exact c_X9_packed E ez) (fL0_ok E))
def I_X9_isWord_25 : List AI := [(.ireturn, 1, [], 0)]
theorem ok_X9_isWord_25 : vBL MT qLen qCh false q_X9_isWord.2.2.2.2.1 q_X9_isWord.2.2.2.2.2.1 q_X9_isWord.2.2.1 q_X9_isWord.1.cls q_X9_isWord.1.name q_X9_isWord.2.1 0 25 I_X9_isWord_25 = true := by decide +kernel
def p_X9_isWord_25 (y0 : Int32) (h : AH) : Option (Int32 × AH) :=
  if y0 &&& 1 = y0 then some (y0, h) else none
set_option maxRecDepth 100000 in
theorem e_X9_isWord_25 {l : Launch} {D : va_G} {dA : Nat → ClassId} {z : Nat} {sa : Nat → Nat} {Hz : Heap} (E : StrOK qLen qCh l D dA z sa Hz) {h0 fin : AH} {x : Int32}  : ∀ (y0 : Int32) (h : AH), p_X9_isWord_25 y0 h = some (x, fin) → GM l D dA z sa Hz q_X9_isWord h0 (some (.int x)) fin 25 [] [.int y0] h := by
  intro y0 h hd
  exact step E (is := I_X9_isWord_25) (pc := 25) (K := k0) (FI := fI0) (FV := fV0) (FL := FL_X9_isWord) (rt := rtZ) (ft := 0) (by exact hd) ok_X9_isWord_25 k0_ok (fI0_ok E) (fV0_ok E) (FL_X9_isWord_ok E) (rtZ_ok rfl)
def I_X9_isWord_24 : List AI := [(.iconst 0, 1, [], 0)]
theorem ok_X9_isWord_24 : vBL MT qLen qCh false q_X9_isWord.2.2.2.2.1 q_X9_isWord.2.2.2.2.2.1 q_X9_isWord.2.2.1 q_X9_isWord.1.cls q_X9_isWord.1.name q_X9_isWord.2.1 25 24 I_X9_isWord_24 = true := by decide +kernel
def p_X9_isWord_24 (h : AH) : Option (Int32 × AH) :=
  p_X9_isWord_25 ((0 : Int32)) h
set_option maxRecDepth 100000 in
theorem e_X9_isWord_24 {l : Launch} {D : va_G} {dA : Nat → ClassId} {z : Nat} {sa : Nat → Nat} {Hz : Heap} (E : StrOK qLen qCh l D dA z sa Hz) {h0 fin : AH} {x : Int32}  : ∀  (h : AH), p_X9_isWord_24 h = some (x, fin) → GM l D dA z sa Hz q_X9_isWord h0 (some (.int x)) fin 24 [] [] h := by
  intro h hd
  exact step E (is := I_X9_isWord_24) (pc := 24) (K := (kx 25 (fun la st h => sI st fun y0 st => sE st (p_X9_isWord_25 y0 h)) k0)) (FI := fI0) (FV := fV0) (FL := FL_X9_isWord) (rt := rtZ) (ft := 25) (by exact hd) ok_X9_isWord_24 (kx_ok (fun la st h e => by obtain ⟨y0, _, rfl, e1⟩ := sI_inv e; obtain ⟨rfl, ez⟩ := sE_inv e1; exact gm_fewer (e_X9_isWord_25 E  y0 h ez) mem_nil) k0_ok) (fI0_ok E) (fV0_ok E) (FL_X9_isWord_ok E) (rtZ_ok rfl)
def I_X9_isWord_0 : List AI := [(.aload_n 0, 1, [], 0), (.getfield 65, 3, [8, 9, 0, 1354], 0), (.iconst 2, 1, [], 2), (.if_icmp .ne 19, 3, [24], 0), (.aload_n 0, 1, [], 0), (.getfield 81, 3, [8, 14, 1, 1359], 0), (.aload_n 1, 1, [], 0), (.invokestatic 97, 3, [3, 207, 1, 1586], 0), (.lcmp, 1, [], 0), (.ifCond .ne 7, 3, [24], 0), (.iconst 1, 1, [], 1), (.goto 4, 3, [25], 0)]
theorem ok_X9_isWord_0 : vBL MT qLen qCh false q_X9_isWord.2.2.2.2.1 q_X9_isWord.2.2.2.2.2.1 q_X9_isWord.2.2.1 q_X9_isWord.1.cls q_X9_isWord.1.name q_X9_isWord.2.1 0 0 I_X9_isWord_0 = true := by decide +kernel
def p_X9_isWord (a0 : Nat) (t1 : Nat) (h : AH) : Option (Int32 × AH) :=
  if (tg h a0).1 = 8 then (if (rI h a0 9) = ((2 : Int32)) then (if (tg h a0).1 = 8 then ((p_X9_packed t1 h).bind fun q101 =>
  if (lg_cmp (rL h a0 14) q101.1) = 0 then (p_X9_isWord_25 ((1 : Int32)) q101.2)
  else
  p_X9_isWord_24 q101.2) else none)
  else
  p_X9_isWord_24 h) else none
set_option maxRecDepth 100000 in
theorem e_X9_isWord_0 {l : Launch} {D : va_G} {dA : Nat → ClassId} {z : Nat} {sa : Nat → Nat} {Hz : Heap} (E : StrOK qLen qCh l D dA z sa Hz) {h0 fin : AH} {x : Int32}  : ∀ (a0 : Nat) (t1 : Nat) (h : AH), p_X9_isWord a0 t1 h = some (x, fin) → GM l D dA z sa Hz q_X9_isWord h0 (some (.int x)) fin 0 [(0, .ref a0), (1, .retAddr t1)] [] h := by
  intro a0 t1 h hd
  exact step E (is := I_X9_isWord_0) (pc := 0) (K := (kx 24 (fun la st h => sE st (p_X9_isWord_24 h)) (kx 25 (fun la st h => sI st fun y0 st => sE st (p_X9_isWord_25 y0 h)) k0))) (FI := fI0) (FV := fV0) (FL := FL_X9_isWord) (rt := rtZ) (ft := 0) (by exact hd) ok_X9_isWord_0 (kx_ok (fun la st h e => by obtain ⟨rfl, ez⟩ := sE_inv e; exact gm_fewer (e_X9_isWord_24 E   h ez) mem_nil) (kx_ok (fun la st h e => by obtain ⟨y0, _, rfl, e1⟩ := sI_inv e; obtain ⟨rfl, ez⟩ := sE_inv e1; exact gm_fewer (e_X9_isWord_25 E  y0 h ez) mem_nil) k0_ok)) (fI0_ok E) (fV0_ok E) (FL_X9_isWord_ok E) (rtZ_ok rfl)
theorem c_X9_isWord {l : Launch} {D : va_G} {dA : Nat → ClassId} {z : Nat} {sa : Nat → Nat} {Hz : Heap} (E : StrOK qLen qCh l D dA z sa Hz) {a0 : Nat} {t1 : Nat} {h fin : AH} {x : Int32} (hd : p_X9_isWord a0 t1 h = some (x, fin)) : CalOK l D dA z sa Hz q_X9_isWord [.ref a0, .retAddr t1] h (some (.int x)) fin := calOf (by decide +kernel) (Nat.le_of_ble_eq_true rfl) (e_X9_isWord_0 E a0 t1 h hd)
def I_X9_flaw_9 : List AI := [(.aload_n 0, 1, [], 0), (.iload_n 1, 1, [], 0), (.putfield 91, 3, [8, 12, 0, 1357], 0), (.aload_n 0, 1, [], 0), (.aload_n 0, 1, [], 0), (.getfield 74, 3, [8, 10, 0, 1355], 0), (.putfield 94, 3, [8, 13, 0, 1358], 0), (.aload_n 0, 1, [], 0), (.iconst 5, 1, [], 5), (.putfield 65, 3, [8, 9, 0, 1354], 0), (.return_, 1, [], 0)]
theorem ok_X9_flaw_9 : vBL MT qLen qCh false q_X9_flaw.2.2.2.2.1 q_X9_flaw.2.2.2.2.2.1 q_X9_flaw.2.2.1 q_X9_flaw.1.cls q_X9_flaw.1.name q_X9_flaw.2.1 0 9 I_X9_flaw_9 = true := by decide +kernel
def p_X9_flaw_9 (a0 : Nat) (x1 : Int32) (h : AH) : Option (AH) :=
  if (tg h a0).1 = 8 then (let h101 := wI h a0 12 x1
  if (tg h101 a0).1 = 8 then (if (tg h101 a0).1 = 8 then (let h102 := wI h101 a0 13 (rI h101 a0 10)
  if (tg h102 a0).1 = 8 then (let h103 := wI h102 a0 9 ((5 : Int32))
  some h103) else none) else none) else none) else none
set_option maxRecDepth 100000 in
theorem e_X9_flaw_9 {l : Launch} {D : va_G} {dA : Nat → ClassId} {z : Nat} {sa : Nat → Nat} {Hz : Heap} (E : StrOK qLen qCh l D dA z sa Hz) {h0 fin : AH}  : ∀ (a0 : Nat) (x1 : Int32) (h : AH), p_X9_flaw_9 a0 x1 h = some fin → GM l D dA z sa Hz q_X9_flaw h0 none fin 9 [(0, .ref a0), (1, .int x1)] [] h := by
  intro a0 x1 h hd
  exact step E (is := I_X9_flaw_9) (pc := 9) (K := k0) (FI := fI0) (FV := fV0) (FL := fL0) (rt := rtV) (ft := 0) (by exact hd) ok_X9_flaw_9 k0_ok (fI0_ok E) (fV0_ok E) (fL0_ok E) (rtV_ok rfl)
def I_X9_flaw_0 : List AI := [(.aload_n 0, 1, [], 0), (.getfield 65, 3, [8, 9, 0, 1354], 0), (.iconst 5, 1, [], 5), (.if_icmp .ne 4, 3, [9], 0), (.return_, 1, [], 0)]
theorem ok_X9_flaw_0 : vBL MT qLen qCh false q_X9_flaw.2.2.2.2.1 q_X9_flaw.2.2.2.2.2.1 q_X9_flaw.2.2.1 q_X9_flaw.1.cls q_X9_flaw.1.name q_X9_flaw.2.1 0 0 I_X9_flaw_0 = true := by decide +kernel
def p_X9_flaw (a0 : Nat) (x1 : Int32) (h : AH) : Option (AH) :=
  if (tg h a0).1 = 8 then (if (rI h a0 9) = ((5 : Int32)) then (some h)
  else
  if (tg h a0).1 = 8 then (let h104 := wI h a0 12 x1
  if (tg h104 a0).1 = 8 then (if (tg h104 a0).1 = 8 then (let h105 := wI h104 a0 13 (rI h104 a0 10)
  if (tg h105 a0).1 = 8 then (let h106 := wI h105 a0 9 ((5 : Int32))
  some h106) else none) else none) else none) else none) else none
set_option maxRecDepth 100000 in
theorem e_X9_flaw_0 {l : Launch} {D : va_G} {dA : Nat → ClassId} {z : Nat} {sa : Nat → Nat} {Hz : Heap} (E : StrOK qLen qCh l D dA z sa Hz) {h0 fin : AH}  : ∀ (a0 : Nat) (x1 : Int32) (h : AH), p_X9_flaw a0 x1 h = some fin → GM l D dA z sa Hz q_X9_flaw h0 none fin 0 [(0, .ref a0), (1, .int x1)] [] h := by
  intro a0 x1 h hd
  exact step E (is := I_X9_flaw_0) (pc := 0) (K := (kx 9 (fun la st h => gR la 0 fun a0 => gI la 1 fun x1 => sE st (p_X9_flaw_9 a0 x1 h)) k0)) (FI := fI0) (FV := fV0) (FL := fL0) (rt := rtV) (ft := 0) (by exact hd) ok_X9_flaw_0 (kx_ok (fun la st h e => by obtain ⟨a0, m_a0, e1⟩ := gR_inv e; obtain ⟨x1, m_x1, e2⟩ := gI_inv e1; obtain ⟨rfl, ez⟩ := sE_inv e2; exact gm_fewer (e_X9_flaw_9 E  a0 x1 h ez) (mem_cons m_a0 (mem_cons m_x1 mem_nil))) k0_ok) (fI0_ok E) (fV0_ok E) (fL0_ok E) (rtV_ok rfl)
theorem c_X9_flaw {l : Launch} {D : va_G} {dA : Nat → ClassId} {z : Nat} {sa : Nat → Nat} {Hz : Heap} (E : StrOK qLen qCh l D dA z sa Hz) {a0 : Nat} {x1 : Int32} {h fin : AH} (hd : p_X9_flaw a0 x1 h = some fin) : CalOK l D dA z sa Hz q_X9_flaw [.ref a0, .int x1] h none fin := calOf (by decide +kernel) (Nat.le_of_ble_eq_true rfl) (e_X9_flaw_0 E a0 x1 h hd)
def FI_X9_needs : Nat → List Value → AH → Option (Int32 × AH) := (cx 208 (fun As h => sR As fun a0 As => sT As fun t1 As => sE As (p_X9_isWord a0 t1 h)) fI0)
theorem FI_X9_needs_ok {l : Launch} {D : va_G} {dA : Nat → ClassId} {z : Nat} {sa : Nat → Nat} {Hz : Heap} (E : StrOK qLen qCh l D dA z sa Hz) : ∀ mi As h x h', FI_X9_needs mi As h = some (x, h') → CalOK l D dA z sa Hz (MT mi) As h (some (.int x)) h' := (cxI_ok (fun As h x h2 e => by obtain ⟨_, _, rfl, e0⟩ := sR_inv e; obtain ⟨_, _, rfl, e1⟩ := sT_inv e0; obtain ⟨rfl, ez⟩ := sE_inv e1; exact c_X9_isWord E ez) (fI0_ok E))
def FV_X9_needs : Nat → List Value → AH → Option (AH) := (cx 209 (fun As h => sR As fun a0 As => sI As fun x1 As => sE As (p_X9_flaw a0 x1 h)) (cx 206 (fun As h => sR As fun a0 As => sE As (p_X9_goesOn a0 h)) fV0))
theorem FV_X9_needs_ok {l : Launch} {D : va_G} {dA : Nat → ClassId} {z : Nat} {sa : Nat → Nat} {Hz : Heap} (E : StrOK qLen qCh l D dA z sa Hz) : ∀ mi As h h', FV_X9_needs mi As h = some h' → CalOK l D dA z sa Hz (MT mi) As h none h' := (cxV_ok (fun As h h2 e => by obtain ⟨_, _, rfl, e0⟩ := sR_inv e; obtain ⟨_, _, rfl, e1⟩ := sI_inv e0; obtain ⟨rfl, ez⟩ := sE_inv e1; exact c_X9_flaw E ez) ((cxV_ok (fun As h h2 e => by obtain ⟨_, _, rfl, e0⟩ := sR_inv e; obtain ⟨rfl, ez⟩ := sE_inv e0; exact c_X9_goesOn E ez) (fV0_ok E))))
def I_X9_needs_13 : List AI := [(.aload_n 0, 1, [], 0), (.invokevirtual 101, 3, [2, 206, 1, 8, 1558], 0), (.return_, 1, [], 0)]
theorem ok_X9_needs_13 : vBL MT qLen qCh false q_X9_needs.2.2.2.2.1 q_X9_needs.2.2.2.2.2.1 q_X9_needs.2.2.1 q_X9_needs.1.cls q_X9_needs.1.name q_X9_needs.2.1 0 13 I_X9_needs_13 = true := by decide +kernel
def p_X9_needs_13 (a0 : Nat) (h : AH) : Option (AH) :=
  if (tg h a0).1 = 8 then ((p_X9_goesOn a0 h).bind fun h101 =>
  some h101) else none
set_option maxRecDepth 100000 in
theorem e_X9_needs_13 {l : Launch} {D : va_G} {dA : Nat → ClassId} {z : Nat} {sa : Nat → Nat} {Hz : Heap} (E : StrOK qLen qCh l D dA z sa Hz) {h0 fin : AH}  : ∀ (a0 : Nat) (h : AH), p_X9_needs_13 a0 h = some fin → GM l D dA z sa Hz q_X9_needs h0 none fin 13 [(0, .ref a0)] [] h := by
  intro a0 h hd
  exact step E (is := I_X9_needs_13) (pc := 13) (K := k0) (FI := FI_X9_needs) (FV := FV_X9_needs) (FL := fL0) (rt := rtV) (ft := 0) (by exact hd) ok_X9_needs_13 k0_ok (FI_X9_needs_ok E) (FV_X9_needs_ok E) (fL0_ok E) (rtV_ok rfl)
def I_X9_needs_0 : List AI := [(.aload_n 0, 1, [], 0), (.aload_n 1, 1, [], 0), (.invokevirtual 104, 3, [1, 208, 2, 8, 1582], 0), (.ifCond .ne 8, 3, [13], 0), (.aload_n 0, 1, [], 0), (.iconst 1, 1, [], 1), (.invokevirtual 108, 3, [2, 209, 2, 8, 1595], 0)]
theorem ok_X9_needs_0 : vBL MT qLen qCh false q_X9_needs.2.2.2.2.1 q_X9_needs.2.2.2.2.2.1 q_X9_needs.2.2.1 q_X9_needs.1.cls q_X9_needs.1.name q_X9_needs.2.1 13 0 I_X9_needs_0 = true := by decide +kernel
def p_X9_needs (a0 : Nat) (t1 : Nat) (h : AH) : Option (AH) :=
  if (tg h a0).1 = 8 then ((p_X9_isWord a0 t1 h).bind fun q102 =>
  if q102.1 = 0 then (if (tg q102.2 a0).1 = 8 then ((p_X9_flaw a0 ((1 : Int32)) q102.2).bind fun h103 =>
  p_X9_needs_13 a0 h103) else none)
  else
  p_X9_needs_13 a0 q102.2) else none
set_option maxRecDepth 100000 in
theorem e_X9_needs_0 {l : Launch} {D : va_G} {dA : Nat → ClassId} {z : Nat} {sa : Nat → Nat} {Hz : Heap} (E : StrOK qLen qCh l D dA z sa Hz) {h0 fin : AH}  : ∀ (a0 : Nat) (t1 : Nat) (h : AH), p_X9_needs a0 t1 h = some fin → GM l D dA z sa Hz q_X9_needs h0 none fin 0 [(0, .ref a0), (1, .retAddr t1)] [] h := by
  intro a0 t1 h hd
  exact step E (is := I_X9_needs_0) (pc := 0) (K := (kx 13 (fun la st h => gR la 0 fun a0 => sE st (p_X9_needs_13 a0 h)) k0)) (FI := FI_X9_needs) (FV := FV_X9_needs) (FL := fL0) (rt := rtV) (ft := 13) (by exact hd) ok_X9_needs_0 (kx_ok (fun la st h e => by obtain ⟨a0, m_a0, e1⟩ := gR_inv e; obtain ⟨rfl, ez⟩ := sE_inv e1; exact gm_fewer (e_X9_needs_13 E  a0 h ez) (mem_cons m_a0 mem_nil)) k0_ok) (FI_X9_needs_ok E) (FV_X9_needs_ok E) (fL0_ok E) (rtV_ok rfl)
theorem c_X9_needs {l : Launch} {D : va_G} {dA : Nat → ClassId} {z : Nat} {sa : Nat → Nat} {Hz : Heap} (E : StrOK qLen qCh l D dA z sa Hz) {a0 : Nat} {t1 : Nat} {h fin : AH} (hd : p_X9_needs a0 t1 h = some fin) : CalOK l D dA z sa Hz q_X9_needs [.ref a0, .retAddr t1] h none fin := calOf (by decide +kernel) (Nat.le_of_ble_eq_true rfl) (e_X9_needs_0 E a0 t1 h hd)
def I_X9_in_15 : List AI := [(.ireturn, 1, [], 0)]
theorem ok_X9_in_15 : vBL MT qLen qCh false q_X9_in.2.2.2.2.1 q_X9_in.2.2.2.2.2.1 q_X9_in.2.2.1 q_X9_in.1.cls q_X9_in.1.name q_X9_in.2.1 0 15 I_X9_in_15 = true := by decide +kernel
def p_X9_in_15 (y0 : Int32) (h : AH) : Option (Int32 × AH) :=
  if y0 &&& 1 = y0 then some (y0, h) else none
set_option maxRecDepth 100000 in
theorem e_X9_in_15 {l : Launch} {D : va_G} {dA : Nat → ClassId} {z : Nat} {sa : Nat → Nat} {Hz : Heap} (E : StrOK qLen qCh l D dA z sa Hz) {h0 fin : AH} {x : Int32}  : ∀ (y0 : Int32) (h : AH), p_X9_in_15 y0 h = some (x, fin) → GM l D dA z sa Hz q_X9_in h0 (some (.int x)) fin 15 [] [.int y0] h := by
  intro y0 h hd
  exact step E (is := I_X9_in_15) (pc := 15) (K := k0) (FI := fI0) (FV := fV0) (FL := fL0) (rt := rtZ) (ft := 0) (by exact hd) ok_X9_in_15 k0_ok (fI0_ok E) (fV0_ok E) (fL0_ok E) (rtZ_ok rfl)
def I_X9_in_14 : List AI := [(.iconst 0, 1, [], 0)]
theorem ok_X9_in_14 : vBL MT qLen qCh false q_X9_in.2.2.2.2.1 q_X9_in.2.2.2.2.2.1 q_X9_in.2.2.1 q_X9_in.1.cls q_X9_in.1.name q_X9_in.2.1 15 14 I_X9_in_14 = true := by decide +kernel
def p_X9_in_14 (h : AH) : Option (Int32 × AH) :=
  p_X9_in_15 ((0 : Int32)) h
set_option maxRecDepth 100000 in
theorem e_X9_in_14 {l : Launch} {D : va_G} {dA : Nat → ClassId} {z : Nat} {sa : Nat → Nat} {Hz : Heap} (E : StrOK qLen qCh l D dA z sa Hz) {h0 fin : AH} {x : Int32}  : ∀  (h : AH), p_X9_in_14 h = some (x, fin) → GM l D dA z sa Hz q_X9_in h0 (some (.int x)) fin 14 [] [] h := by
  intro h hd
  exact step E (is := I_X9_in_14) (pc := 14) (K := (kx 15 (fun la st h => sI st fun y0 st => sE st (p_X9_in_15 y0 h)) k0)) (FI := fI0) (FV := fV0) (FL := fL0) (rt := rtZ) (ft := 15) (by exact hd) ok_X9_in_14 (kx_ok (fun la st h e => by obtain ⟨y0, _, rfl, e1⟩ := sI_inv e; obtain ⟨rfl, ez⟩ := sE_inv e1; exact gm_fewer (e_X9_in_15 E  y0 h ez) mem_nil) k0_ok) (fI0_ok E) (fV0_ok E) (fL0_ok E) (rtZ_ok rfl)
def I_X9_in_0 : List AI := [(.iload_n 0, 1, [], 0), (.iload_n 1, 1, [], 0), (.if_icmp .lt 12, 3, [14], 0), (.iload_n 0, 1, [], 0), (.iload_n 2, 1, [], 0), (.if_icmp .gt 7, 3, [14], 0), (.iconst 1, 1, [], 1), (.goto 4, 3, [15], 0)]
theorem ok_X9_in_0 : vBL MT qLen qCh false q_X9_in.2.2.2.2.1 q_X9_in.2.2.2.2.2.1 q_X9_in.2.2.1 q_X9_in.1.cls q_X9_in.1.name q_X9_in.2.1 0 0 I_X9_in_0 = true := by decide +kernel
def p_X9_in (x0 : Int32) (x1 : Int32) (x2 : Int32) (h : AH) : Option (Int32 × AH) :=
  if x0 < x1 then (p_X9_in_14 h)
  else
  if x2 < x0 then (p_X9_in_14 h)
  else
  p_X9_in_15 ((1 : Int32)) h
set_option maxRecDepth 100000 in
theorem e_X9_in_0 {l : Launch} {D : va_G} {dA : Nat → ClassId} {z : Nat} {sa : Nat → Nat} {Hz : Heap} (E : StrOK qLen qCh l D dA z sa Hz) {h0 fin : AH} {x : Int32}  : ∀ (x0 : Int32) (x1 : Int32) (x2 : Int32) (h : AH), p_X9_in x0 x1 x2 h = some (x, fin) → GM l D dA z sa Hz q_X9_in h0 (some (.int x)) fin 0 [(0, .int x0), (1, .int x1), (2, .int x2)] [] h := by
  intro x0 x1 x2 h hd
  exact step E (is := I_X9_in_0) (pc := 0) (K := (kx 14 (fun la st h => sE st (p_X9_in_14 h)) (kx 15 (fun la st h => sI st fun y0 st => sE st (p_X9_in_15 y0 h)) k0))) (FI := fI0) (FV := fV0) (FL := fL0) (rt := rtZ) (ft := 0) (by exact hd) ok_X9_in_0 (kx_ok (fun la st h e => by obtain ⟨rfl, ez⟩ := sE_inv e; exact gm_fewer (e_X9_in_14 E   h ez) mem_nil) (kx_ok (fun la st h e => by obtain ⟨y0, _, rfl, e1⟩ := sI_inv e; obtain ⟨rfl, ez⟩ := sE_inv e1; exact gm_fewer (e_X9_in_15 E  y0 h ez) mem_nil) k0_ok)) (fI0_ok E) (fV0_ok E) (fL0_ok E) (rtZ_ok rfl)
theorem c_X9_in {l : Launch} {D : va_G} {dA : Nat → ClassId} {z : Nat} {sa : Nat → Nat} {Hz : Heap} (E : StrOK qLen qCh l D dA z sa Hz) {x0 : Int32} {x1 : Int32} {x2 : Int32} {h fin : AH} {x : Int32} (hd : p_X9_in x0 x1 x2 h = some (x, fin)) : CalOK l D dA z sa Hz q_X9_in [.int x0, .int x1, .int x2] h (some (.int x)) fin := calOf (by decide +kernel) (Nat.le_of_ble_eq_true rfl) (e_X9_in_0 E x0 x1 x2 h hd)
def FI_X9_wholeAt : Nat → List Value → AH → Option (Int32 × AH) := (cx 211 (fun As h => sI As fun x0 As => sI As fun x1 As => sI As fun x2 As => sE As (p_X9_in x0 x1 x2 h)) fI0)
theorem FI_X9_wholeAt_ok {l : Launch} {D : va_G} {dA : Nat → ClassId} {z : Nat} {sa : Nat → Nat} {Hz : Heap} (E : StrOK qLen qCh l D dA z sa Hz) : ∀ mi As h x h', FI_X9_wholeAt mi As h = some (x, h') → CalOK l D dA z sa Hz (MT mi) As h (some (.int x)) h' := (cxI_ok (fun As h x h2 e => by obtain ⟨_, _, rfl, e0⟩ := sI_inv e; obtain ⟨_, _, rfl, e1⟩ := sI_inv e0; obtain ⟨_, _, rfl, e2⟩ := sI_inv e1; obtain ⟨rfl, ez⟩ := sE_inv e2; exact c_X9_in E ez) (fI0_ok E))
def FV_X9_wholeAt : Nat → List Value → AH → Option (AH) := (cx 209 (fun As h => sR As fun a0 As => sI As fun x1 As => sE As (p_X9_flaw a0 x1 h)) fV0)
theorem FV_X9_wholeAt_ok {l : Launch} {D : va_G} {dA : Nat → ClassId} {z : Nat} {sa : Nat → Nat} {Hz : Heap} (E : StrOK qLen qCh l D dA z sa Hz) : ∀ mi As h h', FV_X9_wholeAt mi As h = some h' → CalOK l D dA z sa Hz (MT mi) As h none h' := (cxV_ok (fun As h h2 e => by obtain ⟨_, _, rfl, e0⟩ := sR_inv e; obtain ⟨_, _, rfl, e1⟩ := sI_inv e0; obtain ⟨rfl, ez⟩ := sE_inv e1; exact c_X9_flaw E ez) (fV0_ok E))
def I_X9_wholeAt_49 : List AI := [(.ireturn, 1, [], 0)]
theorem ok_X9_wholeAt_49 : vBL MT qLen qCh false q_X9_wholeAt.2.2.2.2.1 q_X9_wholeAt.2.2.2.2.2.1 q_X9_wholeAt.2.2.1 q_X9_wholeAt.1.cls q_X9_wholeAt.1.name q_X9_wholeAt.2.1 0 49 I_X9_wholeAt_49 = true := by decide +kernel
def p_X9_wholeAt_49 (y0 : Int32) (h : AH) : Option (Int32 × AH) :=
  some (y0, h)
set_option maxRecDepth 100000 in
theorem e_X9_wholeAt_49 {l : Launch} {D : va_G} {dA : Nat → ClassId} {z : Nat} {sa : Nat → Nat} {Hz : Heap} (E : StrOK qLen qCh l D dA z sa Hz) {h0 fin : AH} {x : Int32}  : ∀ (y0 : Int32) (h : AH), p_X9_wholeAt_49 y0 h = some (x, fin) → GM l D dA z sa Hz q_X9_wholeAt h0 (some (.int x)) fin 49 [] [.int y0] h := by
  intro y0 h hd
  exact step E (is := I_X9_wholeAt_49) (pc := 49) (K := k0) (FI := FI_X9_wholeAt) (FV := FV_X9_wholeAt) (FL := fL0) (rt := rtI) (ft := 0) (by exact hd) ok_X9_wholeAt_49 k0_ok (FI_X9_wholeAt_ok E) (FV_X9_wholeAt_ok E) (fL0_ok E) (rtI_ok rfl)
def I_X9_wholeAt_45 : List AI := [(.aload_n 0, 1, [], 0), (.getfield 88, 3, [8, 11, 0, 1356], 0)]
theorem ok_X9_wholeAt_45 : vBL MT qLen qCh false q_X9_wholeAt.2.2.2.2.1 q_X9_wholeAt.2.2.2.2.2.1 q_X9_wholeAt.2.2.1 q_X9_wholeAt.1.cls q_X9_wholeAt.1.name q_X9_wholeAt.2.1 49 45 I_X9_wholeAt_45 = true := by decide +kernel
def p_X9_wholeAt_45 (a0 : Nat) (h : AH) : Option (Int32 × AH) :=
  if (tg h a0).1 = 8 then (p_X9_wholeAt_49 (rI h a0 11) h) else none
set_option maxRecDepth 100000 in
theorem e_X9_wholeAt_45 {l : Launch} {D : va_G} {dA : Nat → ClassId} {z : Nat} {sa : Nat → Nat} {Hz : Heap} (E : StrOK qLen qCh l D dA z sa Hz) {h0 fin : AH} {x : Int32}  : ∀ (a0 : Nat) (h : AH), p_X9_wholeAt_45 a0 h = some (x, fin) → GM l D dA z sa Hz q_X9_wholeAt h0 (some (.int x)) fin 45 [(0, .ref a0)] [] h := by
  intro a0 h hd
  exact step E (is := I_X9_wholeAt_45) (pc := 45) (K := (kx 49 (fun la st h => sI st fun y0 st => sE st (p_X9_wholeAt_49 y0 h)) k0)) (FI := FI_X9_wholeAt) (FV := FV_X9_wholeAt) (FL := fL0) (rt := rtI) (ft := 49) (by exact hd) ok_X9_wholeAt_45 (kx_ok (fun la st h e => by obtain ⟨y0, _, rfl, e1⟩ := sI_inv e; obtain ⟨rfl, ez⟩ := sE_inv e1; exact gm_fewer (e_X9_wholeAt_49 E  y0 h ez) mem_nil) k0_ok) (FI_X9_wholeAt_ok E) (FV_X9_wholeAt_ok E) (fL0_ok E) (rtI_ok rfl)
def I_X9_wholeAt_33 : List AI := [(.aload_n 0, 1, [], 0), (.getfield 65, 3, [8, 9, 0, 1354], 0), (.iconst 5, 1, [], 5), (.if_icmp .ne 7, 3, [45], 0), (.iload_n 1, 1, [], 0), (.goto 7, 3, [49], 0)]
theorem ok_X9_wholeAt_33 : vBL MT qLen qCh false q_X9_wholeAt.2.2.2.2.1 q_X9_wholeAt.2.2.2.2.2.1 q_X9_wholeAt.2.2.1 q_X9_wholeAt.1.cls q_X9_wholeAt.1.name q_X9_wholeAt.2.1 0 33 I_X9_wholeAt_33 = true := by decide +kernel
def p_X9_wholeAt_33 (a0 : Nat) (x1 : Int32) (h : AH) : Option (Int32 × AH) :=
  if (tg h a0).1 = 8 then (if (rI h a0 9) = ((5 : Int32)) then (p_X9_wholeAt_49 x1 h)
  else
  if (tg h a0).1 = 8 then (p_X9_wholeAt_49 (rI h a0 11) h) else none) else none
set_option maxRecDepth 100000 in
theorem e_X9_wholeAt_33 {l : Launch} {D : va_G} {dA : Nat → ClassId} {z : Nat} {sa : Nat → Nat} {Hz : Heap} (E : StrOK qLen qCh l D dA z sa Hz) {h0 fin : AH} {x : Int32}  : ∀ (a0 : Nat) (x1 : Int32) (h : AH), p_X9_wholeAt_33 a0 x1 h = some (x, fin) → GM l D dA z sa Hz q_X9_wholeAt h0 (some (.int x)) fin 33 [(0, .ref a0), (1, .int x1)] [] h := by
  intro a0 x1 h hd
  exact step E (is := I_X9_wholeAt_33) (pc := 33) (K := (kx 45 (fun la st h => gR la 0 fun a0 => sE st (p_X9_wholeAt_45 a0 h)) (kx 49 (fun la st h => sI st fun y0 st => sE st (p_X9_wholeAt_49 y0 h)) k0))) (FI := FI_X9_wholeAt) (FV := FV_X9_wholeAt) (FL := fL0) (rt := rtI) (ft := 0) (by exact hd) ok_X9_wholeAt_33 (kx_ok (fun la st h e => by obtain ⟨a0, m_a0, e1⟩ := gR_inv e; obtain ⟨rfl, ez⟩ := sE_inv e1; exact gm_fewer (e_X9_wholeAt_45 E  a0 h ez) (mem_cons m_a0 mem_nil)) (kx_ok (fun la st h e => by obtain ⟨y0, _, rfl, e1⟩ := sI_inv e; obtain ⟨rfl, ez⟩ := sE_inv e1; exact gm_fewer (e_X9_wholeAt_49 E  y0 h ez) mem_nil) k0_ok)) (FI_X9_wholeAt_ok E) (FV_X9_wholeAt_ok E) (fL0_ok E) (rtI_ok rfl)
def I_X9_wholeAt_16 : List AI := [(.aload_n 0, 1, [], 0), (.getfield 88, 3, [8, 11, 0, 1356], 0), (.iload_n 1, 1, [], 0), (.iload_n 2, 1, [], 0), (.invokestatic 112, 3, [1, 211, 3, 1612], 0), (.ifCond .ne 8, 3, [33], 0), (.aload_n 0, 1, [], 0), (.iconst 4, 1, [], 4), (.invokevirtual 108, 3, [2, 209, 2, 8, 1595], 0)]
theorem ok_X9_wholeAt_16 : vBL MT qLen qCh false q_X9_wholeAt.2.2.2.2.1 q_X9_wholeAt.2.2.2.2.2.1 q_X9_wholeAt.2.2.1 q_X9_wholeAt.1.cls q_X9_wholeAt.1.name q_X9_wholeAt.2.1 33 16 I_X9_wholeAt_16 = true := by decide +kernel
def p_X9_wholeAt_16 (a0 : Nat) (x1 : Int32) (x2 : Int32) (h : AH) : Option (Int32 × AH) :=
  if (tg h a0).1 = 8 then ((p_X9_in (rI h a0 11) x1 x2 h).bind fun q101 =>
  if q101.1 = 0 then (if (tg q101.2 a0).1 = 8 then ((p_X9_flaw a0 ((4 : Int32)) q101.2).bind fun h102 =>
  p_X9_wholeAt_33 a0 x1 h102) else none)
  else
  p_X9_wholeAt_33 a0 x1 q101.2) else none
set_option maxRecDepth 100000 in
theorem e_X9_wholeAt_16 {l : Launch} {D : va_G} {dA : Nat → ClassId} {z : Nat} {sa : Nat → Nat} {Hz : Heap} (E : StrOK qLen qCh l D dA z sa Hz) {h0 fin : AH} {x : Int32}  : ∀ (a0 : Nat) (x1 : Int32) (x2 : Int32) (h : AH), p_X9_wholeAt_16 a0 x1 x2 h = some (x, fin) → GM l D dA z sa Hz q_X9_wholeAt h0 (some (.int x)) fin 16 [(0, .ref a0), (1, .int x1), (2, .int x2)] [] h := by
  intro a0 x1 x2 h hd
  exact step E (is := I_X9_wholeAt_16) (pc := 16) (K := (kx 33 (fun la st h => gR la 0 fun a0 => gI la 1 fun x1 => sE st (p_X9_wholeAt_33 a0 x1 h)) k0)) (FI := FI_X9_wholeAt) (FV := FV_X9_wholeAt) (FL := fL0) (rt := rtI) (ft := 33) (by exact hd) ok_X9_wholeAt_16 (kx_ok (fun la st h e => by obtain ⟨a0, m_a0, e1⟩ := gR_inv e; obtain ⟨x1, m_x1, e2⟩ := gI_inv e1; obtain ⟨rfl, ez⟩ := sE_inv e2; exact gm_fewer (e_X9_wholeAt_33 E  a0 x1 h ez) (mem_cons m_a0 (mem_cons m_x1 mem_nil))) k0_ok) (FI_X9_wholeAt_ok E) (FV_X9_wholeAt_ok E) (fL0_ok E) (rtI_ok rfl)
def I_X9_wholeAt_0 : List AI := [(.aload_n 0, 1, [], 0), (.getfield 65, 3, [8, 9, 0, 1354], 0), (.iconst 3, 1, [], 3), (.if_icmp .eq 11, 3, [16], 0), (.aload_n 0, 1, [], 0), (.iconst 1, 1, [], 1), (.invokevirtual 108, 3, [2, 209, 2, 8, 1595], 0), (.goto 20, 3, [33], 0)]
theorem ok_X9_wholeAt_0 : vBL MT qLen qCh false q_X9_wholeAt.2.2.2.2.1 q_X9_wholeAt.2.2.2.2.2.1 q_X9_wholeAt.2.2.1 q_X9_wholeAt.1.cls q_X9_wholeAt.1.name q_X9_wholeAt.2.1 0 0 I_X9_wholeAt_0 = true := by decide +kernel
def p_X9_wholeAt (a0 : Nat) (x1 : Int32) (x2 : Int32) (h : AH) : Option (Int32 × AH) :=
  if (tg h a0).1 = 8 then (if (rI h a0 9) = ((3 : Int32)) then (if (tg h a0).1 = 8 then ((p_X9_in (rI h a0 11) x1 x2 h).bind fun q103 =>
  if q103.1 = 0 then (if (tg q103.2 a0).1 = 8 then ((p_X9_flaw a0 ((4 : Int32)) q103.2).bind fun h104 =>
  p_X9_wholeAt_33 a0 x1 h104) else none)
  else
  p_X9_wholeAt_33 a0 x1 q103.2) else none)
  else
  if (tg h a0).1 = 8 then ((p_X9_flaw a0 ((1 : Int32)) h).bind fun h105 =>
  p_X9_wholeAt_33 a0 x1 h105) else none) else none
set_option maxRecDepth 100000 in
theorem e_X9_wholeAt_0 {l : Launch} {D : va_G} {dA : Nat → ClassId} {z : Nat} {sa : Nat → Nat} {Hz : Heap} (E : StrOK qLen qCh l D dA z sa Hz) {h0 fin : AH} {x : Int32}  : ∀ (a0 : Nat) (x1 : Int32) (x2 : Int32) (h : AH), p_X9_wholeAt a0 x1 x2 h = some (x, fin) → GM l D dA z sa Hz q_X9_wholeAt h0 (some (.int x)) fin 0 [(0, .ref a0), (1, .int x1), (2, .int x2)] [] h := by
  intro a0 x1 x2 h hd
  exact step E (is := I_X9_wholeAt_0) (pc := 0) (K := (kx 16 (fun la st h => gR la 0 fun a0 => gI la 1 fun x1 => gI la 2 fun x2 => sE st (p_X9_wholeAt_16 a0 x1 x2 h)) (kx 33 (fun la st h => gR la 0 fun a0 => gI la 1 fun x1 => sE st (p_X9_wholeAt_33 a0 x1 h)) k0))) (FI := FI_X9_wholeAt) (FV := FV_X9_wholeAt) (FL := fL0) (rt := rtI) (ft := 0) (by exact hd) ok_X9_wholeAt_0 (kx_ok (fun la st h e => by obtain ⟨a0, m_a0, e1⟩ := gR_inv e; obtain ⟨x1, m_x1, e2⟩ := gI_inv e1; obtain ⟨x2, m_x2, e3⟩ := gI_inv e2; obtain ⟨rfl, ez⟩ := sE_inv e3; exact gm_fewer (e_X9_wholeAt_16 E  a0 x1 x2 h ez) (mem_cons m_a0 (mem_cons m_x1 (mem_cons m_x2 mem_nil)))) (kx_ok (fun la st h e => by obtain ⟨a0, m_a0, e1⟩ := gR_inv e; obtain ⟨x1, m_x1, e2⟩ := gI_inv e1; obtain ⟨rfl, ez⟩ := sE_inv e2; exact gm_fewer (e_X9_wholeAt_33 E  a0 x1 h ez) (mem_cons m_a0 (mem_cons m_x1 mem_nil))) k0_ok)) (FI_X9_wholeAt_ok E) (FV_X9_wholeAt_ok E) (fL0_ok E) (rtI_ok rfl)
theorem c_X9_wholeAt {l : Launch} {D : va_G} {dA : Nat → ClassId} {z : Nat} {sa : Nat → Nat} {Hz : Heap} (E : StrOK qLen qCh l D dA z sa Hz) {a0 : Nat} {x1 : Int32} {x2 : Int32} {h fin : AH} {x : Int32} (hd : p_X9_wholeAt a0 x1 x2 h = some (x, fin)) : CalOK l D dA z sa Hz q_X9_wholeAt [.ref a0, .int x1, .int x2] h (some (.int x)) fin := calOf (by decide +kernel) (Nat.le_of_ble_eq_true rfl) (e_X9_wholeAt_0 E a0 x1 x2 h hd)
def FI_X9_readWhole : Nat → List Value → AH → Option (Int32 × AH) := (cx 212 (fun As h => sR As fun a0 As => sI As fun x1 As => sI As fun x2 As => sE As (p_X9_wholeAt a0 x1 x2 h)) fI0)
theorem FI_X9_readWhole_ok {l : Launch} {D : va_G} {dA : Nat → ClassId} {z : Nat} {sa : Nat → Nat} {Hz : Heap} (E : StrOK qLen qCh l D dA z sa Hz) : ∀ mi As h x h', FI_X9_readWhole mi As h = some (x, h') → CalOK l D dA z sa Hz (MT mi) As h (some (.int x)) h' := (cxI_ok (fun As h x h2 e => by obtain ⟨_, _, rfl, e0⟩ := sR_inv e; obtain ⟨_, _, rfl, e1⟩ := sI_inv e0; obtain ⟨_, _, rfl, e2⟩ := sI_inv e1; obtain ⟨rfl, ez⟩ := sE_inv e2; exact c_X9_wholeAt E ez) (fI0_ok E))
def FV_X9_readWhole : Nat → List Value → AH → Option (AH) := (cx 206 (fun As h => sR As fun a0 As => sE As (p_X9_goesOn a0 h)) fV0)
theorem FV_X9_readWhole_ok {l : Launch} {D : va_G} {dA : Nat → ClassId} {z : Nat} {sa : Nat → Nat} {Hz : Heap} (E : StrOK qLen qCh l D dA z sa Hz) : ∀ mi As h h', FV_X9_readWhole mi As h = some h' → CalOK l D dA z sa Hz (MT mi) As h none h' := (cxV_ok (fun As h h2 e => by obtain ⟨_, _, rfl, e0⟩ := sR_inv e; obtain ⟨rfl, ez⟩ := sE_inv e0; exact c_X9_goesOn E ez) (fV0_ok E))
def I_X9_readWhole_0 : List AI := [(.aload_n 0, 1, [], 0), (.iload_n 1, 1, [], 0), (.iload_n 2, 1, [], 0), (.invokevirtual 116, 3, [1, 212, 3, 8, 1608], 0), (.istore_n 3, 1, [], 0), (.aload_n 0, 1, [], 0), (.invokevirtual 101, 3, [2, 206, 1, 8, 1558], 0), (.iload_n 3, 1, [], 0), (.ireturn, 1, [], 0)]
theorem ok_X9_readWhole_0 : vBL MT qLen qCh false q_X9_readWhole.2.2.2.2.1 q_X9_readWhole.2.2.2.2.2.1 q_X9_readWhole.2.2.1 q_X9_readWhole.1.cls q_X9_readWhole.1.name q_X9_readWhole.2.1 0 0 I_X9_readWhole_0 = true := by decide +kernel
def p_X9_readWhole (a0 : Nat) (x1 : Int32) (x2 : Int32) (h : AH) : Option (Int32 × AH) :=
  if (tg h a0).1 = 8 then ((p_X9_wholeAt a0 x1 x2 h).bind fun q101 =>
  if (tg q101.2 a0).1 = 8 then ((p_X9_goesOn a0 q101.2).bind fun h102 =>
  some (q101.1, h102)) else none) else none
set_option maxRecDepth 100000 in
theorem e_X9_readWhole_0 {l : Launch} {D : va_G} {dA : Nat → ClassId} {z : Nat} {sa : Nat → Nat} {Hz : Heap} (E : StrOK qLen qCh l D dA z sa Hz) {h0 fin : AH} {x : Int32}  : ∀ (a0 : Nat) (x1 : Int32) (x2 : Int32) (h : AH), p_X9_readWhole a0 x1 x2 h = some (x, fin) → GM l D dA z sa Hz q_X9_readWhole h0 (some (.int x)) fin 0 [(0, .ref a0), (1, .int x1), (2, .int x2)] [] h := by
  intro a0 x1 x2 h hd
  exact step E (is := I_X9_readWhole_0) (pc := 0) (K := k0) (FI := FI_X9_readWhole) (FV := FV_X9_readWhole) (FL := fL0) (rt := rtI) (ft := 0) (by exact hd) ok_X9_readWhole_0 k0_ok (FI_X9_readWhole_ok E) (FV_X9_readWhole_ok E) (fL0_ok E) (rtI_ok rfl)
theorem c_X9_readWhole {l : Launch} {D : va_G} {dA : Nat → ClassId} {z : Nat} {sa : Nat → Nat} {Hz : Heap} (E : StrOK qLen qCh l D dA z sa Hz) {a0 : Nat} {x1 : Int32} {x2 : Int32} {h fin : AH} {x : Int32} (hd : p_X9_readWhole a0 x1 x2 h = some (x, fin)) : CalOK l D dA z sa Hz q_X9_readWhole [.ref a0, .int x1, .int x2] h (some (.int x)) fin := calOf (by decide +kernel) (Nat.le_of_ble_eq_true rfl) (e_X9_readWhole_0 E a0 x1 x2 h hd)
def FI_X9_readMachine : Nat → List Value → AH → Option (Int32 × AH) := (cx 213 (fun As h => sR As fun a0 As => sI As fun x1 As => sI As fun x2 As => sE As (p_X9_readWhole a0 x1 x2 h)) fI0)
theorem FI_X9_readMachine_ok {l : Launch} {D : va_G} {dA : Nat → ClassId} {z : Nat} {sa : Nat → Nat} {Hz : Heap} (E : StrOK qLen qCh l D dA z sa Hz) : ∀ mi As h x h', FI_X9_readMachine mi As h = some (x, h') → CalOK l D dA z sa Hz (MT mi) As h (some (.int x)) h' := (cxI_ok (fun As h x h2 e => by obtain ⟨_, _, rfl, e0⟩ := sR_inv e; obtain ⟨_, _, rfl, e1⟩ := sI_inv e0; obtain ⟨_, _, rfl, e2⟩ := sI_inv e1; obtain ⟨rfl, ez⟩ := sE_inv e2; exact c_X9_readWhole E ez) (fI0_ok E))
def FV_X9_readMachine : Nat → List Value → AH → Option (AH) := (cx 209 (fun As h => sR As fun a0 As => sI As fun x1 As => sE As (p_X9_flaw a0 x1 h)) (cx 206 (fun As h => sR As fun a0 As => sE As (p_X9_goesOn a0 h)) (cx 210 (fun As h => sR As fun a0 As => sT As fun t1 As => sE As (p_X9_needs a0 t1 h)) fV0)))
theorem FV_X9_readMachine_ok {l : Launch} {D : va_G} {dA : Nat → ClassId} {z : Nat} {sa : Nat → Nat} {Hz : Heap} (E : StrOK qLen qCh l D dA z sa Hz) : ∀ mi As h h', FV_X9_readMachine mi As h = some h' → CalOK l D dA z sa Hz (MT mi) As h none h' := (cxV_ok (fun As h h2 e => by obtain ⟨_, _, rfl, e0⟩ := sR_inv e; obtain ⟨_, _, rfl, e1⟩ := sI_inv e0; obtain ⟨rfl, ez⟩ := sE_inv e1; exact c_X9_flaw E ez) ((cxV_ok (fun As h h2 e => by obtain ⟨_, _, rfl, e0⟩ := sR_inv e; obtain ⟨rfl, ez⟩ := sE_inv e0; exact c_X9_goesOn E ez) ((cxV_ok (fun As h h2 e => by obtain ⟨_, _, rfl, e0⟩ := sR_inv e; obtain ⟨_, _, rfl, e1⟩ := sT_inv e0; obtain ⟨rfl, ez⟩ := sE_inv e1; exact c_X9_needs E ez) (fV0_ok E))))))
def I_X9_readMachine_56 : List AI := [(.aload_n 0, 1, [], 0), (.getfield 120, 3, [8, 4, 2, 1349], 0), (.iload_n 1, 1, [], 0), (.putfield 124, 3, [7, 0, 0, 1491], 0), (.aload_n 0, 1, [], 0), (.getfield 120, 3, [8, 4, 2, 1349], 0), (.iload_n 2, 1, [], 0), (.putfield 184, 3, [7, 1, 0, 1492], 0), (.return_, 1, [], 0)]
theorem ok_X9_readMachine_56 : vBL MT qLen qCh false q_X9_readMachine.2.2.2.2.1 q_X9_readMachine.2.2.2.2.2.1 q_X9_readMachine.2.2.1 q_X9_readMachine.1.cls q_X9_readMachine.1.name q_X9_readMachine.2.1 0 56 I_X9_readMachine_56 = true := by decide +kernel
def p_X9_readMachine_56 (a0 : Nat) (x1 : Int32) (x2 : Int32) (h : AH) : Option (AH) :=
  if (tg h a0).1 = 8 then (if (tg h (rR h a0 4)).1 = 7 then (let h101 := wI h (rR h a0 4) 0 x1
  if (tg h101 a0).1 = 8 then (if (tg h101 (rR h101 a0 4)).1 = 7 then (let h102 := wI h101 (rR h101 a0 4) 1 x2
  some h102) else none) else none) else none) else none
set_option maxRecDepth 100000 in
theorem e_X9_readMachine_56 {l : Launch} {D : va_G} {dA : Nat → ClassId} {z : Nat} {sa : Nat → Nat} {Hz : Heap} (E : StrOK qLen qCh l D dA z sa Hz) {h0 fin : AH}  : ∀ (a0 : Nat) (x1 : Int32) (x2 : Int32) (h : AH), p_X9_readMachine_56 a0 x1 x2 h = some fin → GM l D dA z sa Hz q_X9_readMachine h0 none fin 56 [(0, .ref a0), (1, .int x1), (2, .int x2)] [] h := by
  intro a0 x1 x2 h hd
  exact step E (is := I_X9_readMachine_56) (pc := 56) (K := k0) (FI := FI_X9_readMachine) (FV := FV_X9_readMachine) (FL := fL0) (rt := rtV) (ft := 0) (by exact hd) ok_X9_readMachine_56 k0_ok (FI_X9_readMachine_ok E) (FV_X9_readMachine_ok E) (fL0_ok E) (rtV_ok rfl)
def I_X9_readMachine_15 : List AI := [(.aload_n 0, 1, [], 0), (.invokevirtual 101, 3, [2, 206, 1, 8, 1558], 0), (.aload_n 0, 1, [], 0), (.ldc 174, 2, [2, 0], 0), (.invokevirtual 175, 3, [2, 210, 2, 8, 1600], 0), (.aload_n 0, 1, [], 0), (.iconst 3, 1, [], 3), (.bipush 8, 2, [], 8), (.invokevirtual 179, 3, [1, 213, 3, 8, 1604], 0), (.istore_n 1, 1, [], 0), (.aload_n 0, 1, [], 0), (.ldc 182, 2, [3, 0], 0), (.invokevirtual 175, 3, [2, 210, 2, 8, 1600], 0), (.aload_n 0, 1, [], 0), (.iconst 0, 1, [], 0), (.bipush 15, 2, [], 15), (.invokevirtual 179, 3, [1, 213, 3, 8, 1604], 0), (.istore_n 2, 1, [], 0), (.aload_n 0, 1, [], 0), (.getfield 65, 3, [8, 9, 0, 1354], 0), (.iconst 5, 1, [], 5), (.if_icmp .ne 4, 3, [56], 0), (.return_, 1, [], 0)]
theorem ok_X9_readMachine_15 : vBL MT qLen qCh false q_X9_readMachine.2.2.2.2.1 q_X9_readMachine.2.2.2.2.2.1 q_X9_readMachine.2.2.1 q_X9_readMachine.1.cls q_X9_readMachine.1.name q_X9_readMachine.2.1 0 15 I_X9_readMachine_15 = true := by decide +kernel
def p_X9_readMachine_15 (a0 : Nat) (h : AH) : Option (AH) :=
  if (tg h a0).1 = 8 then ((p_X9_goesOn a0 h).bind fun h103 =>
  if (tg h103 a0).1 = 8 then ((p_X9_needs a0 2 h103).bind fun h104 =>
  if (tg h104 a0).1 = 8 then ((p_X9_readWhole a0 ((3 : Int32)) ((8 : Int32)) h104).bind fun q105 =>
  if (tg q105.2 a0).1 = 8 then ((p_X9_needs a0 3 q105.2).bind fun h106 =>
  if (tg h106 a0).1 = 8 then ((p_X9_readWhole a0 ((0 : Int32)) ((15 : Int32)) h106).bind fun q107 =>
  if (tg q107.2 a0).1 = 8 then (if (rI q107.2 a0 9) = ((5 : Int32)) then (some q107.2)
  else
  if (tg q107.2 a0).1 = 8 then (if (tg q107.2 (rR q107.2 a0 4)).1 = 7 then (let h108 := wI q107.2 (rR q107.2 a0 4) 0 q105.1
  if (tg h108 a0).1 = 8 then (if (tg h108 (rR h108 a0 4)).1 = 7 then (let h109 := wI h108 (rR h108 a0 4) 1 q107.1
  some h109) else none) else none) else none) else none) else none) else none) else none) else none) else none) else none
set_option maxRecDepth 100000 in
theorem e_X9_readMachine_15 {l : Launch} {D : va_G} {dA : Nat → ClassId} {z : Nat} {sa : Nat → Nat} {Hz : Heap} (E : StrOK qLen qCh l D dA z sa Hz) {h0 fin : AH}  : ∀ (a0 : Nat) (h : AH), p_X9_readMachine_15 a0 h = some fin → GM l D dA z sa Hz q_X9_readMachine h0 none fin 15 [(0, .ref a0)] [] h := by
  intro a0 h hd
  exact step E (is := I_X9_readMachine_15) (pc := 15) (K := (kx 56 (fun la st h => gR la 0 fun a0 => gI la 1 fun x1 => gI la 2 fun x2 => sE st (p_X9_readMachine_56 a0 x1 x2 h)) k0)) (FI := FI_X9_readMachine) (FV := FV_X9_readMachine) (FL := fL0) (rt := rtV) (ft := 0) (by exact hd) ok_X9_readMachine_15 (kx_ok (fun la st h e => by obtain ⟨a0, m_a0, e1⟩ := gR_inv e; obtain ⟨x1, m_x1, e2⟩ := gI_inv e1; obtain ⟨x2, m_x2, e3⟩ := gI_inv e2; obtain ⟨rfl, ez⟩ := sE_inv e3; exact gm_fewer (e_X9_readMachine_56 E  a0 x1 x2 h ez) (mem_cons m_a0 (mem_cons m_x1 (mem_cons m_x2 mem_nil)))) k0_ok) (FI_X9_readMachine_ok E) (FV_X9_readMachine_ok E) (fL0_ok E) (rtV_ok rfl)
def I_X9_readMachine_0 : List AI := [(.aload_n 0, 1, [], 0), (.getfield 120, 3, [8, 4, 2, 1349], 0), (.getfield 124, 3, [7, 0, 0, 1491], 0), (.ifCond .le 8, 3, [15], 0), (.aload_n 0, 1, [], 0), (.iconst 3, 1, [], 3), (.invokevirtual 108, 3, [2, 209, 2, 8, 1595], 0)]
theorem ok_X9_readMachine_0 : vBL MT qLen qCh false q_X9_readMachine.2.2.2.2.1 q_X9_readMachine.2.2.2.2.2.1 q_X9_readMachine.2.2.1 q_X9_readMachine.1.cls q_X9_readMachine.1.name q_X9_readMachine.2.1 15 0 I_X9_readMachine_0 = true := by decide +kernel
def p_X9_readMachine (a0 : Nat) (h : AH) : Option (AH) :=
  if (tg h a0).1 = 8 then (if (tg h (rR h a0 4)).1 = 7 then (if 0 < (rI h (rR h a0 4) 0) then (if (tg h a0).1 = 8 then ((p_X9_flaw a0 ((3 : Int32)) h).bind fun h110 =>
  p_X9_readMachine_15 a0 h110) else none)
  else
  p_X9_readMachine_15 a0 h) else none) else none
set_option maxRecDepth 100000 in
theorem e_X9_readMachine_0 {l : Launch} {D : va_G} {dA : Nat → ClassId} {z : Nat} {sa : Nat → Nat} {Hz : Heap} (E : StrOK qLen qCh l D dA z sa Hz) {h0 fin : AH}  : ∀ (a0 : Nat) (h : AH), p_X9_readMachine a0 h = some fin → GM l D dA z sa Hz q_X9_readMachine h0 none fin 0 [(0, .ref a0)] [] h := by
  intro a0 h hd
  exact step E (is := I_X9_readMachine_0) (pc := 0) (K := (kx 15 (fun la st h => gR la 0 fun a0 => sE st (p_X9_readMachine_15 a0 h)) k0)) (FI := FI_X9_readMachine) (FV := FV_X9_readMachine) (FL := fL0) (rt := rtV) (ft := 15) (by exact hd) ok_X9_readMachine_0 (kx_ok (fun la st h e => by obtain ⟨a0, m_a0, e1⟩ := gR_inv e; obtain ⟨rfl, ez⟩ := sE_inv e1; exact gm_fewer (e_X9_readMachine_15 E  a0 h ez) (mem_cons m_a0 mem_nil)) k0_ok) (FI_X9_readMachine_ok E) (FV_X9_readMachine_ok E) (fL0_ok E) (rtV_ok rfl)
theorem c_X9_readMachine {l : Launch} {D : va_G} {dA : Nat → ClassId} {z : Nat} {sa : Nat → Nat} {Hz : Heap} (E : StrOK qLen qCh l D dA z sa Hz) {a0 : Nat} {h fin : AH} (hd : p_X9_readMachine a0 h = some fin) : CalOK l D dA z sa Hz q_X9_readMachine [.ref a0] h none fin := calOf (by decide +kernel) (Nat.le_of_ble_eq_true rfl) (e_X9_readMachine_0 E a0 h hd)
def FV_X9_lineBegins : Nat → List Value → AH → Option (AH) := (cx 209 (fun As h => sR As fun a0 As => sI As fun x1 As => sE As (p_X9_flaw a0 x1 h)) (cx 206 (fun As h => sR As fun a0 As => sE As (p_X9_goesOn a0 h)) fV0))
theorem FV_X9_lineBegins_ok {l : Launch} {D : va_G} {dA : Nat → ClassId} {z : Nat} {sa : Nat → Nat} {Hz : Heap} (E : StrOK qLen qCh l D dA z sa Hz) : ∀ mi As h h', FV_X9_lineBegins mi As h = some h' → CalOK l D dA z sa Hz (MT mi) As h none h' := (cxV_ok (fun As h h2 e => by obtain ⟨_, _, rfl, e0⟩ := sR_inv e; obtain ⟨_, _, rfl, e1⟩ := sI_inv e0; obtain ⟨rfl, ez⟩ := sE_inv e1; exact c_X9_flaw E ez) ((cxV_ok (fun As h h2 e => by obtain ⟨_, _, rfl, e0⟩ := sR_inv e; obtain ⟨rfl, ez⟩ := sE_inv e0; exact c_X9_goesOn E ez) (fV0_ok E))))
def I_X9_lineBegins_26 : List AI := [(.aload_n 0, 1, [], 0), (.invokevirtual 101, 3, [2, 206, 1, 8, 1558], 0), (.return_, 1, [], 0)]
theorem ok_X9_lineBegins_26 : vBL MT qLen qCh false q_X9_lineBegins.2.2.2.2.1 q_X9_lineBegins.2.2.2.2.2.1 q_X9_lineBegins.2.2.1 q_X9_lineBegins.1.cls q_X9_lineBegins.1.name q_X9_lineBegins.2.1 0 26 I_X9_lineBegins_26 = true := by decide +kernel
def p_X9_lineBegins_26 (a0 : Nat) (h : AH) : Option (AH) :=
  if (tg h a0).1 = 8 then ((p_X9_goesOn a0 h).bind fun h101 =>
  some h101) else none
set_option maxRecDepth 100000 in
theorem e_X9_lineBegins_26 {l : Launch} {D : va_G} {dA : Nat → ClassId} {z : Nat} {sa : Nat → Nat} {Hz : Heap} (E : StrOK qLen qCh l D dA z sa Hz) {h0 fin : AH}  : ∀ (a0 : Nat) (h : AH), p_X9_lineBegins_26 a0 h = some fin → GM l D dA z sa Hz q_X9_lineBegins h0 none fin 26 [(0, .ref a0)] [] h := by
  intro a0 h hd
  exact step E (is := I_X9_lineBegins_26) (pc := 26) (K := k0) (FI := fI0) (FV := FV_X9_lineBegins) (FL := fL0) (rt := rtV) (ft := 0) (by exact hd) ok_X9_lineBegins_26 k0_ok (fI0_ok E) (FV_X9_lineBegins_ok E) (fL0_ok E) (rtV_ok rfl)
def I_X9_lineBegins_10 : List AI := [(.aload_n 0, 1, [], 0), (.getfield 120, 3, [8, 4, 2, 1349], 0), (.getfield 124, 3, [7, 0, 0, 1491], 0), (.ifCond .ne 9, 3, [26], 0), (.aload_n 0, 1, [], 0), (.bipush 6, 2, [], 6), (.invokevirtual 108, 3, [2, 209, 2, 8, 1595], 0)]
theorem ok_X9_lineBegins_10 : vBL MT qLen qCh false q_X9_lineBegins.2.2.2.2.1 q_X9_lineBegins.2.2.2.2.2.1 q_X9_lineBegins.2.2.1 q_X9_lineBegins.1.cls q_X9_lineBegins.1.name q_X9_lineBegins.2.1 26 10 I_X9_lineBegins_10 = true := by decide +kernel
def p_X9_lineBegins_10 (a0 : Nat) (h : AH) : Option (AH) :=
  if (tg h a0).1 = 8 then (if (tg h (rR h a0 4)).1 = 7 then (if (rI h (rR h a0 4) 0) = 0 then (if (tg h a0).1 = 8 then ((p_X9_flaw a0 ((6 : Int32)) h).bind fun h102 =>
  p_X9_lineBegins_26 a0 h102) else none)
  else
  p_X9_lineBegins_26 a0 h) else none) else none
set_option maxRecDepth 100000 in
theorem e_X9_lineBegins_10 {l : Launch} {D : va_G} {dA : Nat → ClassId} {z : Nat} {sa : Nat → Nat} {Hz : Heap} (E : StrOK qLen qCh l D dA z sa Hz) {h0 fin : AH}  : ∀ (a0 : Nat) (h : AH), p_X9_lineBegins_10 a0 h = some fin → GM l D dA z sa Hz q_X9_lineBegins h0 none fin 10 [(0, .ref a0)] [] h := by
  intro a0 h hd
  exact step E (is := I_X9_lineBegins_10) (pc := 10) (K := (kx 26 (fun la st h => gR la 0 fun a0 => sE st (p_X9_lineBegins_26 a0 h)) k0)) (FI := fI0) (FV := FV_X9_lineBegins) (FL := fL0) (rt := rtV) (ft := 26) (by exact hd) ok_X9_lineBegins_10 (kx_ok (fun la st h e => by obtain ⟨a0, m_a0, e1⟩ := gR_inv e; obtain ⟨rfl, ez⟩ := sE_inv e1; exact gm_fewer (e_X9_lineBegins_26 E  a0 h ez) (mem_cons m_a0 mem_nil)) k0_ok) (fI0_ok E) (FV_X9_lineBegins_ok E) (fL0_ok E) (rtV_ok rfl)
def I_X9_lineBegins_0 : List AI := [(.iload_n 1, 1, [], 0), (.iload_n 2, 1, [], 0), (.if_icmp .ne 8, 3, [10], 0), (.aload_n 0, 1, [], 0), (.iconst 5, 1, [], 5), (.invokevirtual 108, 3, [2, 209, 2, 8, 1595], 0)]
theorem ok_X9_lineBegins_0 : vBL MT qLen qCh false q_X9_lineBegins.2.2.2.2.1 q_X9_lineBegins.2.2.2.2.2.1 q_X9_lineBegins.2.2.1 q_X9_lineBegins.1.cls q_X9_lineBegins.1.name q_X9_lineBegins.2.1 10 0 I_X9_lineBegins_0 = true := by decide +kernel
def p_X9_lineBegins (a0 : Nat) (x1 : Int32) (x2 : Int32) (h : AH) : Option (AH) :=
  if x1 = x2 then (if (tg h a0).1 = 8 then ((p_X9_flaw a0 ((5 : Int32)) h).bind fun h103 =>
  p_X9_lineBegins_10 a0 h103) else none)
  else
  p_X9_lineBegins_10 a0 h
set_option maxRecDepth 100000 in
theorem e_X9_lineBegins_0 {l : Launch} {D : va_G} {dA : Nat → ClassId} {z : Nat} {sa : Nat → Nat} {Hz : Heap} (E : StrOK qLen qCh l D dA z sa Hz) {h0 fin : AH}  : ∀ (a0 : Nat) (x1 : Int32) (x2 : Int32) (h : AH), p_X9_lineBegins a0 x1 x2 h = some fin → GM l D dA z sa Hz q_X9_lineBegins h0 none fin 0 [(0, .ref a0), (1, .int x1), (2, .int x2)] [] h := by
  intro a0 x1 x2 h hd
  exact step E (is := I_X9_lineBegins_0) (pc := 0) (K := (kx 10 (fun la st h => gR la 0 fun a0 => sE st (p_X9_lineBegins_10 a0 h)) k0)) (FI := fI0) (FV := FV_X9_lineBegins) (FL := fL0) (rt := rtV) (ft := 10) (by exact hd) ok_X9_lineBegins_0 (kx_ok (fun la st h e => by obtain ⟨a0, m_a0, e1⟩ := gR_inv e; obtain ⟨rfl, ez⟩ := sE_inv e1; exact gm_fewer (e_X9_lineBegins_10 E  a0 h ez) (mem_cons m_a0 mem_nil)) k0_ok) (fI0_ok E) (FV_X9_lineBegins_ok E) (fL0_ok E) (rtV_ok rfl)
theorem c_X9_lineBegins {l : Launch} {D : va_G} {dA : Nat → ClassId} {z : Nat} {sa : Nat → Nat} {Hz : Heap} (E : StrOK qLen qCh l D dA z sa Hz) {a0 : Nat} {x1 : Int32} {x2 : Int32} {h fin : AH} (hd : p_X9_lineBegins a0 x1 x2 h = some fin) : CalOK l D dA z sa Hz q_X9_lineBegins [.ref a0, .int x1, .int x2] h none fin := calOf (by decide +kernel) (Nat.le_of_ble_eq_true rfl) (e_X9_lineBegins_0 E a0 x1 x2 h hd)
def I_X8_isGiven_28 : List AI := [(.iconst 0, 1, [], 0), (.ireturn, 1, [], 0)]
theorem ok_X8_isGiven_28 : vBL MT qLen qCh false q_X8_isGiven.2.2.2.2.1 q_X8_isGiven.2.2.2.2.2.1 q_X8_isGiven.2.2.1 q_X8_isGiven.1.cls q_X8_isGiven.1.name q_X8_isGiven.2.1 0 28 I_X8_isGiven_28 = true := by decide +kernel
def p_X8_isGiven_28 (h : AH) : Option (Int32 × AH) :=
  if ((0 : Int32)) &&& 1 = ((0 : Int32)) then some (((0 : Int32)), h) else none
set_option maxRecDepth 100000 in
theorem e_X8_isGiven_28 {l : Launch} {D : va_G} {dA : Nat → ClassId} {z : Nat} {sa : Nat → Nat} {Hz : Heap} (E : StrOK qLen qCh l D dA z sa Hz) {h0 fin : AH} {x : Int32}  : ∀  (h : AH), p_X8_isGiven_28 h = some (x, fin) → GM l D dA z sa Hz q_X8_isGiven h0 (some (.int x)) fin 28 [] [] h := by
  intro h hd
  exact step E (is := I_X8_isGiven_28) (pc := 28) (K := k0) (FI := fI0) (FV := fV0) (FL := fL0) (rt := rtZ) (ft := 0) (by exact hd) ok_X8_isGiven_28 k0_ok (fI0_ok E) (fV0_ok E) (fL0_ok E) (rtZ_ok rfl)
def I_X8_isGiven_22 : List AI := [(.iinc 2 1, 3, [], 1), (.goto (-23), 3, [2], 0)]
theorem ok_X8_isGiven_22 : vBL MT qLen qCh false q_X8_isGiven.2.2.2.2.1 q_X8_isGiven.2.2.2.2.2.1 q_X8_isGiven.2.2.1 q_X8_isGiven.1.cls q_X8_isGiven.1.name q_X8_isGiven.2.1 0 22 I_X8_isGiven_22 = true := by decide +kernel
def p_X8_isGiven_22 (k2 : Nat → Int32 → Int32 → AH → Option (Int32 × AH)) (a0 : Nat) (x1 : Int32) (x2 : Int32) (h : AH) : Option (Int32 × AH) :=
  k2 a0 x1 (x2 + (1 : Int32)) h
set_option maxRecDepth 100000 in
theorem e_X8_isGiven_22 {l : Launch} {D : va_G} {dA : Nat → ClassId} {z : Nat} {sa : Nat → Nat} {Hz : Heap} (E : StrOK qLen qCh l D dA z sa Hz) {h0 fin : AH} {x : Int32}  {k2 : Nat → Int32 → Int32 → AH → Option (Int32 × AH)} (hk2 : ∀ (a0 : Nat) (x1 : Int32) (x2 : Int32) (h : AH), k2 a0 x1 x2 h = some (x, fin) → GM l D dA z sa Hz q_X8_isGiven h0 (some (.int x)) fin 2 [(0, .ref a0), (1, .int x1), (2, .int x2)] [] h) : ∀ (a0 : Nat) (x1 : Int32) (x2 : Int32) (h : AH), p_X8_isGiven_22 k2 a0 x1 x2 h = some (x, fin) → GM l D dA z sa Hz q_X8_isGiven h0 (some (.int x)) fin 22 [(0, .ref a0), (1, .int x1), (2, .int x2)] [] h := by
  intro a0 x1 x2 h hd
  exact step E (is := I_X8_isGiven_22) (pc := 22) (K := (kx 2 (fun la st h => gR la 0 fun a0 => gI la 1 fun x1 => gI la 2 fun x2 => sE st (k2 a0 x1 x2 h)) k0)) (FI := fI0) (FV := fV0) (FL := fL0) (rt := rtZ) (ft := 0) (by exact hd) ok_X8_isGiven_22 (kx_ok (fun la st h e => by obtain ⟨a0, m_a0, e1⟩ := gR_inv e; obtain ⟨x1, m_x1, e2⟩ := gI_inv e1; obtain ⟨x2, m_x2, e3⟩ := gI_inv e2; obtain ⟨rfl, ez⟩ := sE_inv e3; exact gm_fewer (hk2 a0 x1 x2 h ez) (mem_cons m_a0 (mem_cons m_x1 (mem_cons m_x2 mem_nil)))) k0_ok) (fI0_ok E) (fV0_ok E) (fL0_ok E) (rtZ_ok rfl)
def I_X8_isGiven_2 : List AI := [(.iload_n 2, 1, [], 0), (.bipush 16, 2, [], 16), (.if_icmp .ge 23, 3, [28], 0), (.aload_n 0, 1, [], 0), (.getfield 9, 3, [7, 8, 2, 1501], 0), (.iload_n 2, 1, [], 0), (.iaload, 1, [], 0), (.iload_n 1, 1, [], 0), (.iconst 1, 1, [], 1), (.iadd, 1, [], 0), (.if_icmp .ne 5, 3, [22], 0), (.iconst 1, 1, [], 1), (.ireturn, 1, [], 0)]
theorem ok_X8_isGiven_2 : vBL MT qLen qCh false q_X8_isGiven.2.2.2.2.1 q_X8_isGiven.2.2.2.2.2.1 q_X8_isGiven.2.2.1 q_X8_isGiven.1.cls q_X8_isGiven.1.name q_X8_isGiven.2.1 0 2 I_X8_isGiven_2 = true := by decide +kernel
def p_X8_isGiven_2 : Nat → Nat → Int32 → Int32 → AH → Option (Int32 × AH)
  | 0, _, _, _, _ => none
  | n + 1, a0, x1, x2, h => if x2 < ((16 : Int32)) then (if (tg h a0).1 = 7 then (if inB h (rR h a0 8) 100 x2 then (if (rI h (rR h a0 8) x2.toNatClampNeg) = (x1 + ((1 : Int32))) then (if ((1 : Int32)) &&& 1 = ((1 : Int32)) then some (((1 : Int32)), h) else none)
    else
    p_X8_isGiven_2 n a0 x1 (x2 + (1 : Int32)) h) else none) else none)
    else
    if ((0 : Int32)) &&& 1 = ((0 : Int32)) then some (((0 : Int32)), h) else none
set_option maxRecDepth 100000 in
theorem e_X8_isGiven_2 {l : Launch} {D : va_G} {dA : Nat → ClassId} {z : Nat} {sa : Nat → Nat} {Hz : Heap} (E : StrOK qLen qCh l D dA z sa Hz) {h0 fin : AH} {x : Int32}  : ∀ (n : Nat) (a0 : Nat) (x1 : Int32) (x2 : Int32) (h : AH), p_X8_isGiven_2 n a0 x1 x2 h = some (x, fin) → GM l D dA z sa Hz q_X8_isGiven h0 (some (.int x)) fin 2 [(0, .ref a0), (1, .int x1), (2, .int x2)] [] h := by
  intro n
  induction n with
  | zero => intro a0 x1 x2 h hd; exact nomatch hd
  | succ n ih =>
    intro a0 x1 x2 h hd
    exact step E (is := I_X8_isGiven_2) (pc := 2) (K := (kx 28 (fun la st h => sE st (p_X8_isGiven_28 h)) (kx 22 (fun la st h => gR la 0 fun a0 => gI la 1 fun x1 => gI la 2 fun x2 => sE st (p_X8_isGiven_22 (p_X8_isGiven_2 n) a0 x1 x2 h)) k0))) (FI := fI0) (FV := fV0) (FL := fL0) (rt := rtZ) (ft := 0) (by exact hd) ok_X8_isGiven_2 (kx_ok (fun la st h e => by obtain ⟨rfl, ez⟩ := sE_inv e; exact gm_fewer (e_X8_isGiven_28 E   h ez) mem_nil) (kx_ok (fun la st h e => by obtain ⟨a0, m_a0, e1⟩ := gR_inv e; obtain ⟨x1, m_x1, e2⟩ := gI_inv e1; obtain ⟨x2, m_x2, e3⟩ := gI_inv e2; obtain ⟨rfl, ez⟩ := sE_inv e3; exact gm_fewer (e_X8_isGiven_22 E ih a0 x1 x2 h ez) (mem_cons m_a0 (mem_cons m_x1 (mem_cons m_x2 mem_nil)))) k0_ok)) (fI0_ok E) (fV0_ok E) (fL0_ok E) (rtZ_ok rfl)
def I_X8_isGiven_0 : List AI := [(.iconst 0, 1, [], 0), (.istore_n 2, 1, [], 0)]
theorem ok_X8_isGiven_0 : vBL MT qLen qCh false q_X8_isGiven.2.2.2.2.1 q_X8_isGiven.2.2.2.2.2.1 q_X8_isGiven.2.2.1 q_X8_isGiven.1.cls q_X8_isGiven.1.name q_X8_isGiven.2.1 2 0 I_X8_isGiven_0 = true := by decide +kernel
def p_X8_isGiven (a0 : Nat) (x1 : Int32) (h : AH) : Option (Int32 × AH) :=
  p_X8_isGiven_2 FU a0 x1 ((0 : Int32)) h
set_option maxRecDepth 100000 in
theorem e_X8_isGiven_0 {l : Launch} {D : va_G} {dA : Nat → ClassId} {z : Nat} {sa : Nat → Nat} {Hz : Heap} (E : StrOK qLen qCh l D dA z sa Hz) {h0 fin : AH} {x : Int32}  : ∀ (a0 : Nat) (x1 : Int32) (h : AH), p_X8_isGiven a0 x1 h = some (x, fin) → GM l D dA z sa Hz q_X8_isGiven h0 (some (.int x)) fin 0 [(0, .ref a0), (1, .int x1)] [] h := by
  intro a0 x1 h hd
  exact step E (is := I_X8_isGiven_0) (pc := 0) (K := (kx 2 (fun la st h => gR la 0 fun a0 => gI la 1 fun x1 => gI la 2 fun x2 => sE st (p_X8_isGiven_2 FU a0 x1 x2 h)) k0)) (FI := fI0) (FV := fV0) (FL := fL0) (rt := rtZ) (ft := 2) (by exact hd) ok_X8_isGiven_0 (kx_ok (fun la st h e => by obtain ⟨a0, m_a0, e1⟩ := gR_inv e; obtain ⟨x1, m_x1, e2⟩ := gI_inv e1; obtain ⟨x2, m_x2, e3⟩ := gI_inv e2; obtain ⟨rfl, ez⟩ := sE_inv e3; exact gm_fewer (e_X8_isGiven_2 E  FU a0 x1 x2 h ez) (mem_cons m_a0 (mem_cons m_x1 (mem_cons m_x2 mem_nil)))) k0_ok) (fI0_ok E) (fV0_ok E) (fL0_ok E) (rtZ_ok rfl)
theorem c_X8_isGiven {l : Launch} {D : va_G} {dA : Nat → ClassId} {z : Nat} {sa : Nat → Nat} {Hz : Heap} (E : StrOK qLen qCh l D dA z sa Hz) {a0 : Nat} {x1 : Int32} {h fin : AH} {x : Int32} (hd : p_X8_isGiven a0 x1 h = some (x, fin)) : CalOK l D dA z sa Hz q_X8_isGiven [.ref a0, .int x1] h (some (.int x)) fin := calOf (by decide +kernel) (Nat.le_of_ble_eq_true rfl) (e_X8_isGiven_0 E a0 x1 h hd)
def FI_X9_readHost : Nat → List Value → AH → Option (Int32 × AH) := (cx 212 (fun As h => sR As fun a0 As => sI As fun x1 As => sI As fun x2 As => sE As (p_X9_wholeAt a0 x1 x2 h)) (cx 216 (fun As h => sR As fun a0 As => sI As fun x1 As => sE As (p_X8_isGiven a0 x1 h)) (cx 208 (fun As h => sR As fun a0 As => sT As fun t1 As => sE As (p_X9_isWord a0 t1 h)) fI0)))
theorem FI_X9_readHost_ok {l : Launch} {D : va_G} {dA : Nat → ClassId} {z : Nat} {sa : Nat → Nat} {Hz : Heap} (E : StrOK qLen qCh l D dA z sa Hz) : ∀ mi As h x h', FI_X9_readHost mi As h = some (x, h') → CalOK l D dA z sa Hz (MT mi) As h (some (.int x)) h' := (cxI_ok (fun As h x h2 e => by obtain ⟨_, _, rfl, e0⟩ := sR_inv e; obtain ⟨_, _, rfl, e1⟩ := sI_inv e0; obtain ⟨_, _, rfl, e2⟩ := sI_inv e1; obtain ⟨rfl, ez⟩ := sE_inv e2; exact c_X9_wholeAt E ez) ((cxI_ok (fun As h x h2 e => by obtain ⟨_, _, rfl, e0⟩ := sR_inv e; obtain ⟨_, _, rfl, e1⟩ := sI_inv e0; obtain ⟨rfl, ez⟩ := sE_inv e1; exact c_X8_isGiven E ez) ((cxI_ok (fun As h x h2 e => by obtain ⟨_, _, rfl, e0⟩ := sR_inv e; obtain ⟨_, _, rfl, e1⟩ := sT_inv e0; obtain ⟨rfl, ez⟩ := sE_inv e1; exact c_X9_isWord E ez) (fI0_ok E))))))
def FV_X9_readHost : Nat → List Value → AH → Option (AH) := (cx 215 (fun As h => sR As fun a0 As => sI As fun x1 As => sI As fun x2 As => sE As (p_X9_lineBegins a0 x1 x2 h)) (cx 209 (fun As h => sR As fun a0 As => sI As fun x1 As => sE As (p_X9_flaw a0 x1 h)) (cx 206 (fun As h => sR As fun a0 As => sE As (p_X9_goesOn a0 h)) fV0)))
theorem FV_X9_readHost_ok {l : Launch} {D : va_G} {dA : Nat → ClassId} {z : Nat} {sa : Nat → Nat} {Hz : Heap} (E : StrOK qLen qCh l D dA z sa Hz) : ∀ mi As h h', FV_X9_readHost mi As h = some h' → CalOK l D dA z sa Hz (MT mi) As h none h' := (cxV_ok (fun As h h2 e => by obtain ⟨_, _, rfl, e0⟩ := sR_inv e; obtain ⟨_, _, rfl, e1⟩ := sI_inv e0; obtain ⟨_, _, rfl, e2⟩ := sI_inv e1; obtain ⟨rfl, ez⟩ := sE_inv e2; exact c_X9_lineBegins E ez) ((cxV_ok (fun As h h2 e => by obtain ⟨_, _, rfl, e0⟩ := sR_inv e; obtain ⟨_, _, rfl, e1⟩ := sI_inv e0; obtain ⟨rfl, ez⟩ := sE_inv e1; exact c_X9_flaw E ez) ((cxV_ok (fun As h h2 e => by obtain ⟨_, _, rfl, e0⟩ := sR_inv e; obtain ⟨rfl, ez⟩ := sE_inv e0; exact c_X9_goesOn E ez) (fV0_ok E))))))
def I_X9_readHost_155 : List AI := [(.ior, 1, [], 0), (.putfield 202, 3, [7, 2, 0, 1493], 0), (.aload_n 0, 1, [], 0), (.getfield 120, 3, [8, 4, 2, 1349], 0), (.dup, 1, [], 0), (.getfield 186, 3, [7, 3, 0, 1494], 0), (.iconst 1, 1, [], 1), (.iadd, 1, [], 0), (.putfield 186, 3, [7, 3, 0, 1494], 0), (.return_, 1, [], 0)]
theorem ok_X9_readHost_155 : vBL MT qLen qCh false q_X9_readHost.2.2.2.2.1 q_X9_readHost.2.2.2.2.2.1 q_X9_readHost.2.2.1 q_X9_readHost.1.cls q_X9_readHost.1.name q_X9_readHost.2.1 0 155 I_X9_readHost_155 = true := by decide +kernel
def p_X9_readHost_155 (a0 : Nat) (y0 : Int32) (y1 : Int32) (b2 : Nat) (h : AH) : Option (AH) :=
  if (tg h b2).1 = 7 then (let h101 := wI h b2 2 (y1 ||| y0)
  if (tg h101 a0).1 = 8 then (if (tg h101 (rR h101 a0 4)).1 = 7 then (if (tg h101 (rR h101 a0 4)).1 = 7 then (let h102 := wI h101 (rR h101 a0 4) 3 ((rI h101 (rR h101 a0 4) 3) + ((1 : Int32)))
  some h102) else none) else none) else none) else none
set_option maxRecDepth 100000 in
theorem e_X9_readHost_155 {l : Launch} {D : va_G} {dA : Nat → ClassId} {z : Nat} {sa : Nat → Nat} {Hz : Heap} (E : StrOK qLen qCh l D dA z sa Hz) {h0 fin : AH}  : ∀ (a0 : Nat) (y0 : Int32) (y1 : Int32) (b2 : Nat) (h : AH), p_X9_readHost_155 a0 y0 y1 b2 h = some fin → GM l D dA z sa Hz q_X9_readHost h0 none fin 155 [(0, .ref a0)] [.int y0, .int y1, .ref b2] h := by
  intro a0 y0 y1 b2 h hd
  exact step E (is := I_X9_readHost_155) (pc := 155) (K := k0) (FI := FI_X9_readHost) (FV := FV_X9_readHost) (FL := fL0) (rt := rtV) (ft := 0) (by exact hd) ok_X9_readHost_155 k0_ok (FI_X9_readHost_ok E) (FV_X9_readHost_ok E) (fL0_ok E) (rtV_ok rfl)
def I_X9_readHost_154 : List AI := [(.iconst 0, 1, [], 0)]
theorem ok_X9_readHost_154 : vBL MT qLen qCh false q_X9_readHost.2.2.2.2.1 q_X9_readHost.2.2.2.2.2.1 q_X9_readHost.2.2.1 q_X9_readHost.1.cls q_X9_readHost.1.name q_X9_readHost.2.1 155 154 I_X9_readHost_154 = true := by decide +kernel
def p_X9_readHost_154 (a0 : Nat) (y0 : Int32) (b1 : Nat) (h : AH) : Option (AH) :=
  p_X9_readHost_155 a0 ((0 : Int32)) y0 b1 h
set_option maxRecDepth 100000 in
theorem e_X9_readHost_154 {l : Launch} {D : va_G} {dA : Nat → ClassId} {z : Nat} {sa : Nat → Nat} {Hz : Heap} (E : StrOK qLen qCh l D dA z sa Hz) {h0 fin : AH}  : ∀ (a0 : Nat) (y0 : Int32) (b1 : Nat) (h : AH), p_X9_readHost_154 a0 y0 b1 h = some fin → GM l D dA z sa Hz q_X9_readHost h0 none fin 154 [(0, .ref a0)] [.int y0, .ref b1] h := by
  intro a0 y0 b1 h hd
  exact step E (is := I_X9_readHost_154) (pc := 154) (K := (kx 155 (fun la st h => gR la 0 fun a0 => sI st fun y0 st => sI st fun y1 st => sR st fun b2 st => sE st (p_X9_readHost_155 a0 y0 y1 b2 h)) k0)) (FI := FI_X9_readHost) (FV := FV_X9_readHost) (FL := fL0) (rt := rtV) (ft := 155) (by exact hd) ok_X9_readHost_154 (kx_ok (fun la st h e => by obtain ⟨a0, m_a0, e1⟩ := gR_inv e; obtain ⟨y0, _, rfl, e2⟩ := sI_inv e1; obtain ⟨y1, _, rfl, e3⟩ := sI_inv e2; obtain ⟨b2, _, rfl, e4⟩ := sR_inv e3; obtain ⟨rfl, ez⟩ := sE_inv e4; exact gm_fewer (e_X9_readHost_155 E  a0 y0 y1 b2 h ez) (mem_cons m_a0 mem_nil)) k0_ok) (FI_X9_readHost_ok E) (FV_X9_readHost_ok E) (fL0_ok E) (rtV_ok rfl)
def I_X9_readHost_124 : List AI := [(.aload_n 0, 1, [], 0), (.getfield 120, 3, [8, 4, 2, 1349], 0), (.getfield 193, 3, [7, 8, 2, 1502], 0), (.iload_n 1, 1, [], 0), (.iload_n 2, 1, [], 0), (.iconst 1, 1, [], 1), (.iadd, 1, [], 0), (.iastore, 1, [], 0), (.aload_n 0, 1, [], 0), (.getfield 120, 3, [8, 4, 2, 1349], 0), (.dup, 1, [], 0), (.getfield 202, 3, [7, 2, 0, 1493], 0), (.iload_n 3, 1, [], 0), (.ifCond .eq 9, 3, [154], 0), (.iconst 1, 1, [], 1), (.iload_n 1, 1, [], 0), (.ishl, 1, [], 0), (.goto 4, 3, [155], 0)]
theorem ok_X9_readHost_124 : vBL MT qLen qCh false q_X9_readHost.2.2.2.2.1 q_X9_readHost.2.2.2.2.2.1 q_X9_readHost.2.2.1 q_X9_readHost.1.cls q_X9_readHost.1.name q_X9_readHost.2.1 0 124 I_X9_readHost_124 = true := by decide +kernel
def p_X9_readHost_124 (a0 : Nat) (x1 : Int32) (x2 : Int32) (x3 : Int32) (h : AH) : Option (AH) :=
  if (tg h a0).1 = 8 then (if (tg h (rR h a0 4)).1 = 7 then (if inB h (rR h (rR h a0 4) 8) 100 x1 then (let h103 := wI h (rR h (rR h a0 4) 8) x1.toNatClampNeg (x2 + ((1 : Int32)))
  if (tg h103 a0).1 = 8 then (if (tg h103 (rR h103 a0 4)).1 = 7 then (if x3 = 0 then (p_X9_readHost_155 a0 ((0 : Int32)) (rI h103 (rR h103 a0 4) 2) (rR h103 a0 4) h103)
  else
  p_X9_readHost_155 a0 (((1 : Int32)) <<< (x1 &&& 31)) (rI h103 (rR h103 a0 4) 2) (rR h103 a0 4) h103) else none) else none) else none) else none) else none
set_option maxRecDepth 100000 in
theorem e_X9_readHost_124 {l : Launch} {D : va_G} {dA : Nat → ClassId} {z : Nat} {sa : Nat → Nat} {Hz : Heap} (E : StrOK qLen qCh l D dA z sa Hz) {h0 fin : AH}  : ∀ (a0 : Nat) (x1 : Int32) (x2 : Int32) (x3 : Int32) (h : AH), p_X9_readHost_124 a0 x1 x2 x3 h = some fin → GM l D dA z sa Hz q_X9_readHost h0 none fin 124 [(0, .ref a0), (1, .int x1), (2, .int x2), (3, .int x3)] [] h := by
  intro a0 x1 x2 x3 h hd
  exact step E (is := I_X9_readHost_124) (pc := 124) (K := (kx 154 (fun la st h => gR la 0 fun a0 => sI st fun y0 st => sR st fun b1 st => sE st (p_X9_readHost_154 a0 y0 b1 h)) (kx 155 (fun la st h => gR la 0 fun a0 => sI st fun y0 st => sI st fun y1 st => sR st fun b2 st => sE st (p_X9_readHost_155 a0 y0 y1 b2 h)) k0))) (FI := FI_X9_readHost) (FV := FV_X9_readHost) (FL := fL0) (rt := rtV) (ft := 0) (by exact hd) ok_X9_readHost_124 (kx_ok (fun la st h e => by obtain ⟨a0, m_a0, e1⟩ := gR_inv e; obtain ⟨y0, _, rfl, e2⟩ := sI_inv e1; obtain ⟨b1, _, rfl, e3⟩ := sR_inv e2; obtain ⟨rfl, ez⟩ := sE_inv e3; exact gm_fewer (e_X9_readHost_154 E  a0 y0 b1 h ez) (mem_cons m_a0 mem_nil)) (kx_ok (fun la st h e => by obtain ⟨a0, m_a0, e1⟩ := gR_inv e; obtain ⟨y0, _, rfl, e2⟩ := sI_inv e1; obtain ⟨y1, _, rfl, e3⟩ := sI_inv e2; obtain ⟨b2, _, rfl, e4⟩ := sR_inv e3; obtain ⟨rfl, ez⟩ := sE_inv e4; exact gm_fewer (e_X9_readHost_155 E  a0 y0 y1 b2 h ez) (mem_cons m_a0 mem_nil)) k0_ok)) (FI_X9_readHost_ok E) (FV_X9_readHost_ok E) (fL0_ok E) (rtV_ok rfl)
def I_X9_readHost_111 : List AI := [(.aload_n 0, 1, [], 0), (.invokevirtual 101, 3, [2, 206, 1, 8, 1558], 0), (.aload_n 0, 1, [], 0), (.getfield 65, 3, [8, 9, 0, 1354], 0), (.iconst 5, 1, [], 5), (.if_icmp .ne 4, 3, [124], 0), (.return_, 1, [], 0)]
theorem ok_X9_readHost_111 : vBL MT qLen qCh false q_X9_readHost.2.2.2.2.1 q_X9_readHost.2.2.2.2.2.1 q_X9_readHost.2.2.1 q_X9_readHost.1.cls q_X9_readHost.1.name q_X9_readHost.2.1 0 111 I_X9_readHost_111 = true := by decide +kernel
def p_X9_readHost_111 (a0 : Nat) (x1 : Int32) (x2 : Int32) (x3 : Int32) (h : AH) : Option (AH) :=
  if (tg h a0).1 = 8 then ((p_X9_goesOn a0 h).bind fun h104 =>
  if (tg h104 a0).1 = 8 then (if (rI h104 a0 9) = ((5 : Int32)) then (some h104)
  else
  if (tg h104 a0).1 = 8 then (if (tg h104 (rR h104 a0 4)).1 = 7 then (if inB h104 (rR h104 (rR h104 a0 4) 8) 100 x1 then (let h105 := wI h104 (rR h104 (rR h104 a0 4) 8) x1.toNatClampNeg (x2 + ((1 : Int32)))
  if (tg h105 a0).1 = 8 then (if (tg h105 (rR h105 a0 4)).1 = 7 then (if x3 = 0 then (p_X9_readHost_155 a0 ((0 : Int32)) (rI h105 (rR h105 a0 4) 2) (rR h105 a0 4) h105)
  else
  p_X9_readHost_155 a0 (((1 : Int32)) <<< (x1 &&& 31)) (rI h105 (rR h105 a0 4) 2) (rR h105 a0 4) h105) else none) else none) else none) else none) else none) else none) else none
set_option maxRecDepth 100000 in
theorem e_X9_readHost_111 {l : Launch} {D : va_G} {dA : Nat → ClassId} {z : Nat} {sa : Nat → Nat} {Hz : Heap} (E : StrOK qLen qCh l D dA z sa Hz) {h0 fin : AH}  : ∀ (a0 : Nat) (x1 : Int32) (x2 : Int32) (x3 : Int32) (h : AH), p_X9_readHost_111 a0 x1 x2 x3 h = some fin → GM l D dA z sa Hz q_X9_readHost h0 none fin 111 [(0, .ref a0), (1, .int x1), (2, .int x2), (3, .int x3)] [] h := by
  intro a0 x1 x2 x3 h hd
  exact step E (is := I_X9_readHost_111) (pc := 111) (K := (kx 124 (fun la st h => gR la 0 fun a0 => gI la 1 fun x1 => gI la 2 fun x2 => gI la 3 fun x3 => sE st (p_X9_readHost_124 a0 x1 x2 x3 h)) k0)) (FI := FI_X9_readHost) (FV := FV_X9_readHost) (FL := fL0) (rt := rtV) (ft := 0) (by exact hd) ok_X9_readHost_111 (kx_ok (fun la st h e => by obtain ⟨a0, m_a0, e1⟩ := gR_inv e; obtain ⟨x1, m_x1, e2⟩ := gI_inv e1; obtain ⟨x2, m_x2, e3⟩ := gI_inv e2; obtain ⟨x3, m_x3, e4⟩ := gI_inv e3; obtain ⟨rfl, ez⟩ := sE_inv e4; exact gm_fewer (e_X9_readHost_124 E  a0 x1 x2 x3 h ez) (mem_cons m_a0 (mem_cons m_x1 (mem_cons m_x2 (mem_cons m_x3 mem_nil))))) k0_ok) (FI_X9_readHost_ok E) (FV_X9_readHost_ok E) (fL0_ok E) (rtV_ok rfl)
def I_X9_readHost_82 : List AI := [(.aload_n 0, 1, [], 0), (.invokevirtual 101, 3, [2, 206, 1, 8, 1558], 0), (.aload_n 0, 1, [], 0), (.ldc 198, 2, [9, 0], 0), (.invokevirtual 104, 3, [1, 208, 2, 8, 1582], 0), (.istore_n 3, 1, [], 0), (.iload_n 3, 1, [], 0), (.ifCond .ne 17, 3, [111], 0), (.aload_n 0, 1, [], 0), (.ldc 200, 2, [10, 0], 0), (.invokevirtual 104, 3, [1, 208, 2, 8, 1582], 0), (.ifCond .ne 8, 3, [111], 0), (.aload_n 0, 1, [], 0), (.iconst 1, 1, [], 1), (.invokevirtual 108, 3, [2, 209, 2, 8, 1595], 0)]
theorem ok_X9_readHost_82 : vBL MT qLen qCh false q_X9_readHost.2.2.2.2.1 q_X9_readHost.2.2.2.2.2.1 q_X9_readHost.2.2.1 q_X9_readHost.1.cls q_X9_readHost.1.name q_X9_readHost.2.1 111 82 I_X9_readHost_82 = true := by decide +kernel
def p_X9_readHost_82 (a0 : Nat) (x1 : Int32) (x2 : Int32) (h : AH) : Option (AH) :=
  if (tg h a0).1 = 8 then ((p_X9_goesOn a0 h).bind fun h106 =>
  if (tg h106 a0).1 = 8 then ((p_X9_isWord a0 9 h106).bind fun q107 =>
  if q107.1 = 0 then (if (tg q107.2 a0).1 = 8 then ((p_X9_isWord a0 10 q107.2).bind fun q108 =>
  if q108.1 = 0 then (if (tg q108.2 a0).1 = 8 then ((p_X9_flaw a0 ((1 : Int32)) q108.2).bind fun h109 =>
  p_X9_readHost_111 a0 x1 x2 q107.1 h109) else none)
  else
  p_X9_readHost_111 a0 x1 x2 q107.1 q108.2) else none)
  else
  p_X9_readHost_111 a0 x1 x2 q107.1 q107.2) else none) else none
set_option maxRecDepth 100000 in
theorem e_X9_readHost_82 {l : Launch} {D : va_G} {dA : Nat → ClassId} {z : Nat} {sa : Nat → Nat} {Hz : Heap} (E : StrOK qLen qCh l D dA z sa Hz) {h0 fin : AH}  : ∀ (a0 : Nat) (x1 : Int32) (x2 : Int32) (h : AH), p_X9_readHost_82 a0 x1 x2 h = some fin → GM l D dA z sa Hz q_X9_readHost h0 none fin 82 [(0, .ref a0), (1, .int x1), (2, .int x2)] [] h := by
  intro a0 x1 x2 h hd
  exact step E (is := I_X9_readHost_82) (pc := 82) (K := (kx 111 (fun la st h => gR la 0 fun a0 => gI la 1 fun x1 => gI la 2 fun x2 => gI la 3 fun x3 => sE st (p_X9_readHost_111 a0 x1 x2 x3 h)) k0)) (FI := FI_X9_readHost) (FV := FV_X9_readHost) (FL := fL0) (rt := rtV) (ft := 111) (by exact hd) ok_X9_readHost_82 (kx_ok (fun la st h e => by obtain ⟨a0, m_a0, e1⟩ := gR_inv e; obtain ⟨x1, m_x1, e2⟩ := gI_inv e1; obtain ⟨x2, m_x2, e3⟩ := gI_inv e2; obtain ⟨x3, m_x3, e4⟩ := gI_inv e3; obtain ⟨rfl, ez⟩ := sE_inv e4; exact gm_fewer (e_X9_readHost_111 E  a0 x1 x2 x3 h ez) (mem_cons m_a0 (mem_cons m_x1 (mem_cons m_x2 (mem_cons m_x3 mem_nil))))) k0_ok) (FI_X9_readHost_ok E) (FV_X9_readHost_ok E) (fL0_ok E) (rtV_ok rfl)
def I_X9_readHost_46 : List AI := [(.aload_n 0, 1, [], 0), (.invokevirtual 101, 3, [2, 206, 1, 8, 1558], 0), (.aload_n 0, 1, [], 0), (.iconst 0, 1, [], 0), (.bipush 31, 2, [], 31), (.invokevirtual 116, 3, [1, 212, 3, 8, 1608], 0), (.istore_n 2, 1, [], 0), (.aload_n 0, 1, [], 0), (.getfield 65, 3, [8, 9, 0, 1354], 0), (.iconst 5, 1, [], 5), (.if_icmp .eq 19, 3, [82], 0), (.aload_n 0, 1, [], 0), (.getfield 120, 3, [8, 4, 2, 1349], 0), (.iload_n 2, 1, [], 0), (.invokevirtual 195, 3, [1, 216, 2, 7, 1625], 0), (.ifCond .eq 8, 3, [82], 0), (.aload_n 0, 1, [], 0), (.iconst 3, 1, [], 3), (.invokevirtual 108, 3, [2, 209, 2, 8, 1595], 0)]
theorem ok_X9_readHost_46 : vBL MT qLen qCh false q_X9_readHost.2.2.2.2.1 q_X9_readHost.2.2.2.2.2.1 q_X9_readHost.2.2.1 q_X9_readHost.1.cls q_X9_readHost.1.name q_X9_readHost.2.1 82 46 I_X9_readHost_46 = true := by decide +kernel
def p_X9_readHost_46 (a0 : Nat) (x1 : Int32) (h : AH) : Option (AH) :=
  if (tg h a0).1 = 8 then ((p_X9_goesOn a0 h).bind fun h110 =>
  if (tg h110 a0).1 = 8 then ((p_X9_wholeAt a0 ((0 : Int32)) ((31 : Int32)) h110).bind fun q111 =>
  if (tg q111.2 a0).1 = 8 then (if (rI q111.2 a0 9) = ((5 : Int32)) then (p_X9_readHost_82 a0 x1 q111.1 q111.2)
  else
  if (tg q111.2 a0).1 = 8 then (if (tg q111.2 (rR q111.2 a0 4)).1 = 7 then ((p_X8_isGiven (rR q111.2 a0 4) q111.1 q111.2).bind fun q112 =>
  if q112.1 = 0 then (p_X9_readHost_82 a0 x1 q111.1 q112.2)
  else
  if (tg q112.2 a0).1 = 8 then ((p_X9_flaw a0 ((3 : Int32)) q112.2).bind fun h113 =>
  p_X9_readHost_82 a0 x1 q111.1 h113) else none) else none) else none) else none) else none) else none
set_option maxRecDepth 100000 in
theorem e_X9_readHost_46 {l : Launch} {D : va_G} {dA : Nat → ClassId} {z : Nat} {sa : Nat → Nat} {Hz : Heap} (E : StrOK qLen qCh l D dA z sa Hz) {h0 fin : AH}  : ∀ (a0 : Nat) (x1 : Int32) (h : AH), p_X9_readHost_46 a0 x1 h = some fin → GM l D dA z sa Hz q_X9_readHost h0 none fin 46 [(0, .ref a0), (1, .int x1)] [] h := by
  intro a0 x1 h hd
  exact step E (is := I_X9_readHost_46) (pc := 46) (K := (kx 82 (fun la st h => gR la 0 fun a0 => gI la 1 fun x1 => gI la 2 fun x2 => sE st (p_X9_readHost_82 a0 x1 x2 h)) k0)) (FI := FI_X9_readHost) (FV := FV_X9_readHost) (FL := fL0) (rt := rtV) (ft := 82) (by exact hd) ok_X9_readHost_46 (kx_ok (fun la st h e => by obtain ⟨a0, m_a0, e1⟩ := gR_inv e; obtain ⟨x1, m_x1, e2⟩ := gI_inv e1; obtain ⟨x2, m_x2, e3⟩ := gI_inv e2; obtain ⟨rfl, ez⟩ := sE_inv e3; exact gm_fewer (e_X9_readHost_82 E  a0 x1 x2 h ez) (mem_cons m_a0 (mem_cons m_x1 (mem_cons m_x2 mem_nil)))) k0_ok) (FI_X9_readHost_ok E) (FV_X9_readHost_ok E) (fL0_ok E) (rtV_ok rfl)
def I_X9_readHost_0 : List AI := [(.aload_n 0, 1, [], 0), (.aload_n 0, 1, [], 0), (.getfield 120, 3, [8, 4, 2, 1349], 0), (.getfield 186, 3, [7, 3, 0, 1494], 0), (.bipush 16, 2, [], 16), (.invokevirtual 189, 3, [2, 215, 3, 8, 1621], 0), (.aload_n 0, 1, [], 0), (.iconst 0, 1, [], 0), (.bipush 15, 2, [], 15), (.invokevirtual 116, 3, [1, 212, 3, 8, 1608], 0), (.istore_n 1, 1, [], 0), (.aload_n 0, 1, [], 0), (.getfield 65, 3, [8, 9, 0, 1354], 0), (.iconst 5, 1, [], 5), (.if_icmp .eq 20, 3, [46], 0), (.aload_n 0, 1, [], 0), (.getfield 120, 3, [8, 4, 2, 1349], 0), (.getfield 193, 3, [7, 8, 2, 1502], 0), (.iload_n 1, 1, [], 0), (.iaload, 1, [], 0), (.ifCond .le 8, 3, [46], 0), (.aload_n 0, 1, [], 0), (.iconst 3, 1, [], 3), (.invokevirtual 108, 3, [2, 209, 2, 8, 1595], 0)]
theorem ok_X9_readHost_0 : vBL MT qLen qCh false q_X9_readHost.2.2.2.2.1 q_X9_readHost.2.2.2.2.2.1 q_X9_readHost.2.2.1 q_X9_readHost.1.cls q_X9_readHost.1.name q_X9_readHost.2.1 46 0 I_X9_readHost_0 = true := by decide +kernel
def p_X9_readHost (a0 : Nat) (h : AH) : Option (AH) :=
  if (tg h a0).1 = 8 then (if (tg h (rR h a0 4)).1 = 7 then (if (tg h a0).1 = 8 then ((p_X9_lineBegins a0 (rI h (rR h a0 4) 3) ((16 : Int32)) h).bind fun h114 =>
  if (tg h114 a0).1 = 8 then ((p_X9_wholeAt a0 ((0 : Int32)) ((15 : Int32)) h114).bind fun q115 =>
  if (tg q115.2 a0).1 = 8 then (if (rI q115.2 a0 9) = ((5 : Int32)) then (p_X9_readHost_46 a0 q115.1 q115.2)
  else
  if (tg q115.2 a0).1 = 8 then (if (tg q115.2 (rR q115.2 a0 4)).1 = 7 then (if inB q115.2 (rR q115.2 (rR q115.2 a0 4) 8) 100 q115.1 then (if 0 < (rI q115.2 (rR q115.2 (rR q115.2 a0 4) 8) q115.1.toNatClampNeg) then (if (tg q115.2 a0).1 = 8 then ((p_X9_flaw a0 ((3 : Int32)) q115.2).bind fun h116 =>
  p_X9_readHost_46 a0 q115.1 h116) else none)
  else
  p_X9_readHost_46 a0 q115.1 q115.2) else none) else none) else none) else none) else none) else none) else none) else none
set_option maxRecDepth 100000 in
theorem e_X9_readHost_0 {l : Launch} {D : va_G} {dA : Nat → ClassId} {z : Nat} {sa : Nat → Nat} {Hz : Heap} (E : StrOK qLen qCh l D dA z sa Hz) {h0 fin : AH}  : ∀ (a0 : Nat) (h : AH), p_X9_readHost a0 h = some fin → GM l D dA z sa Hz q_X9_readHost h0 none fin 0 [(0, .ref a0)] [] h := by
  intro a0 h hd
  exact step E (is := I_X9_readHost_0) (pc := 0) (K := (kx 46 (fun la st h => gR la 0 fun a0 => gI la 1 fun x1 => sE st (p_X9_readHost_46 a0 x1 h)) k0)) (FI := FI_X9_readHost) (FV := FV_X9_readHost) (FL := fL0) (rt := rtV) (ft := 46) (by exact hd) ok_X9_readHost_0 (kx_ok (fun la st h e => by obtain ⟨a0, m_a0, e1⟩ := gR_inv e; obtain ⟨x1, m_x1, e2⟩ := gI_inv e1; obtain ⟨rfl, ez⟩ := sE_inv e2; exact gm_fewer (e_X9_readHost_46 E  a0 x1 h ez) (mem_cons m_a0 (mem_cons m_x1 mem_nil))) k0_ok) (FI_X9_readHost_ok E) (FV_X9_readHost_ok E) (fL0_ok E) (rtV_ok rfl)
theorem c_X9_readHost {l : Launch} {D : va_G} {dA : Nat → ClassId} {z : Nat} {sa : Nat → Nat} {Hz : Heap} (E : StrOK qLen qCh l D dA z sa Hz) {a0 : Nat} {h fin : AH} (hd : p_X9_readHost a0 h = some fin) : CalOK l D dA z sa Hz q_X9_readHost [.ref a0] h none fin := calOf (by decide +kernel) (Nat.le_of_ble_eq_true rfl) (e_X9_readHost_0 E a0 h hd)
def FI_X9_readWord : Nat → List Value → AH → Option (Int32 × AH) := (cx 213 (fun As h => sR As fun a0 As => sI As fun x1 As => sI As fun x2 As => sE As (p_X9_readWhole a0 x1 x2 h)) (cx 212 (fun As h => sR As fun a0 As => sI As fun x1 As => sI As fun x2 As => sE As (p_X9_wholeAt a0 x1 x2 h)) fI0))
theorem FI_X9_readWord_ok {l : Launch} {D : va_G} {dA : Nat → ClassId} {z : Nat} {sa : Nat → Nat} {Hz : Heap} (E : StrOK qLen qCh l D dA z sa Hz) : ∀ mi As h x h', FI_X9_readWord mi As h = some (x, h') → CalOK l D dA z sa Hz (MT mi) As h (some (.int x)) h' := (cxI_ok (fun As h x h2 e => by obtain ⟨_, _, rfl, e0⟩ := sR_inv e; obtain ⟨_, _, rfl, e1⟩ := sI_inv e0; obtain ⟨_, _, rfl, e2⟩ := sI_inv e1; obtain ⟨rfl, ez⟩ := sE_inv e2; exact c_X9_readWhole E ez) ((cxI_ok (fun As h x h2 e => by obtain ⟨_, _, rfl, e0⟩ := sR_inv e; obtain ⟨_, _, rfl, e1⟩ := sI_inv e0; obtain ⟨_, _, rfl, e2⟩ := sI_inv e1; obtain ⟨rfl, ez⟩ := sE_inv e2; exact c_X9_wholeAt E ez) (fI0_ok E))))
def FV_X9_readWord : Nat → List Value → AH → Option (AH) := (cx 215 (fun As h => sR As fun a0 As => sI As fun x1 As => sI As fun x2 As => sE As (p_X9_lineBegins a0 x1 x2 h)) (cx 209 (fun As h => sR As fun a0 As => sI As fun x1 As => sE As (p_X9_flaw a0 x1 h)) (cx 206 (fun As h => sR As fun a0 As => sE As (p_X9_goesOn a0 h)) fV0)))
theorem FV_X9_readWord_ok {l : Launch} {D : va_G} {dA : Nat → ClassId} {z : Nat} {sa : Nat → Nat} {Hz : Heap} (E : StrOK qLen qCh l D dA z sa Hz) : ∀ mi As h h', FV_X9_readWord mi As h = some h' → CalOK l D dA z sa Hz (MT mi) As h none h' := (cxV_ok (fun As h h2 e => by obtain ⟨_, _, rfl, e0⟩ := sR_inv e; obtain ⟨_, _, rfl, e1⟩ := sI_inv e0; obtain ⟨_, _, rfl, e2⟩ := sI_inv e1; obtain ⟨rfl, ez⟩ := sE_inv e2; exact c_X9_lineBegins E ez) ((cxV_ok (fun As h h2 e => by obtain ⟨_, _, rfl, e0⟩ := sR_inv e; obtain ⟨_, _, rfl, e1⟩ := sI_inv e0; obtain ⟨rfl, ez⟩ := sE_inv e1; exact c_X9_flaw E ez) ((cxV_ok (fun As h h2 e => by obtain ⟨_, _, rfl, e0⟩ := sR_inv e; obtain ⟨rfl, ez⟩ := sE_inv e0; exact c_X9_goesOn E ez) (fV0_ok E))))))
def I_X9_readWord_81 : List AI := [(.aload_n 0, 1, [], 0), (.getfield 120, 3, [8, 4, 2, 1349], 0), (.getfield 207, 3, [7, 10, 2, 1506], 0), (.iload_n 2, 1, [], 0), (.iconst 1, 1, [], 1), (.bastore, 1, [102], 0), (.aload_n 0, 1, [], 0), (.getfield 120, 3, [8, 4, 2, 1349], 0), (.getfield 211, 3, [7, 9, 2, 1504], 0), (.iload_n 2, 1, [], 0), (.iload_n 3, 1, [], 0), (.iastore, 1, [], 0), (.aload_n 0, 1, [], 0), (.getfield 120, 3, [8, 4, 2, 1349], 0), (.dup, 1, [], 0), (.getfield 204, 3, [7, 4, 0, 1495], 0), (.iconst 1, 1, [], 1), (.iadd, 1, [], 0), (.putfield 204, 3, [7, 4, 0, 1495], 0), (.return_, 1, [], 0)]
theorem ok_X9_readWord_81 : vBL MT qLen qCh false q_X9_readWord.2.2.2.2.1 q_X9_readWord.2.2.2.2.2.1 q_X9_readWord.2.2.1 q_X9_readWord.1.cls q_X9_readWord.1.name q_X9_readWord.2.1 0 81 I_X9_readWord_81 = true := by decide +kernel
def p_X9_readWord_81 (a0 : Nat) (x2 : Int32) (x3 : Int32) (h : AH) : Option (AH) :=
  if (tg h a0).1 = 8 then (if (tg h (rR h a0 4)).1 = 7 then (if inB h (rR h (rR h a0 4) 10) 102 x2 then (let h101 := wI h (rR h (rR h a0 4) 10) x2.toNatClampNeg (((1 : Int32)) &&& 1)
  if (tg h101 a0).1 = 8 then (if (tg h101 (rR h101 a0 4)).1 = 7 then (if inB h101 (rR h101 (rR h101 a0 4) 9) 100 x2 then (let h102 := wI h101 (rR h101 (rR h101 a0 4) 9) x2.toNatClampNeg x3
  if (tg h102 a0).1 = 8 then (if (tg h102 (rR h102 a0 4)).1 = 7 then (if (tg h102 (rR h102 a0 4)).1 = 7 then (let h103 := wI h102 (rR h102 a0 4) 4 ((rI h102 (rR h102 a0 4) 4) + ((1 : Int32)))
  some h103) else none) else none) else none) else none) else none) else none) else none) else none) else none
set_option maxRecDepth 100000 in
theorem e_X9_readWord_81 {l : Launch} {D : va_G} {dA : Nat → ClassId} {z : Nat} {sa : Nat → Nat} {Hz : Heap} (E : StrOK qLen qCh l D dA z sa Hz) {h0 fin : AH}  : ∀ (a0 : Nat) (x2 : Int32) (x3 : Int32) (h : AH), p_X9_readWord_81 a0 x2 x3 h = some fin → GM l D dA z sa Hz q_X9_readWord h0 none fin 81 [(0, .ref a0), (2, .int x2), (3, .int x3)] [] h := by
  intro a0 x2 x3 h hd
  exact step E (is := I_X9_readWord_81) (pc := 81) (K := k0) (FI := FI_X9_readWord) (FV := FV_X9_readWord) (FL := fL0) (rt := rtV) (ft := 0) (by exact hd) ok_X9_readWord_81 k0_ok (FI_X9_readWord_ok E) (FV_X9_readWord_ok E) (fL0_ok E) (rtV_ok rfl)
def I_X9_readWord_59 : List AI := [(.aload_n 0, 1, [], 0), (.invokevirtual 101, 3, [2, 206, 1, 8, 1558], 0), (.aload_n 0, 1, [], 0), (.iconst 0, 1, [], 0), (.sipush 4095, 3, [], 4095), (.invokevirtual 179, 3, [1, 213, 3, 8, 1604], 0), (.istore_n 3, 1, [], 0), (.aload_n 0, 1, [], 0), (.getfield 65, 3, [8, 9, 0, 1354], 0), (.iconst 5, 1, [], 5), (.if_icmp .ne 4, 3, [81], 0), (.return_, 1, [], 0)]
theorem ok_X9_readWord_59 : vBL MT qLen qCh false q_X9_readWord.2.2.2.2.1 q_X9_readWord.2.2.2.2.2.1 q_X9_readWord.2.2.1 q_X9_readWord.1.cls q_X9_readWord.1.name q_X9_readWord.2.1 0 59 I_X9_readWord_59 = true := by decide +kernel
def p_X9_readWord_59 (a0 : Nat) (x2 : Int32) (h : AH) : Option (AH) :=
  if (tg h a0).1 = 8 then ((p_X9_goesOn a0 h).bind fun h104 =>
  if (tg h104 a0).1 = 8 then ((p_X9_readWhole a0 ((0 : Int32)) ((4095 : Int32)) h104).bind fun q105 =>
  if (tg q105.2 a0).1 = 8 then (if (rI q105.2 a0 9) = ((5 : Int32)) then (some q105.2)
  else
  if (tg q105.2 a0).1 = 8 then (if (tg q105.2 (rR q105.2 a0 4)).1 = 7 then (if inB q105.2 (rR q105.2 (rR q105.2 a0 4) 10) 102 x2 then (let h106 := wI q105.2 (rR q105.2 (rR q105.2 a0 4) 10) x2.toNatClampNeg (((1 : Int32)) &&& 1)
  if (tg h106 a0).1 = 8 then (if (tg h106 (rR h106 a0 4)).1 = 7 then (if inB h106 (rR h106 (rR h106 a0 4) 9) 100 x2 then (let h107 := wI h106 (rR h106 (rR h106 a0 4) 9) x2.toNatClampNeg q105.1
  if (tg h107 a0).1 = 8 then (if (tg h107 (rR h107 a0 4)).1 = 7 then (if (tg h107 (rR h107 a0 4)).1 = 7 then (let h108 := wI h107 (rR h107 a0 4) 4 ((rI h107 (rR h107 a0 4) 4) + ((1 : Int32)))
  some h108) else none) else none) else none) else none) else none) else none) else none) else none) else none) else none) else none) else none
set_option maxRecDepth 100000 in
theorem e_X9_readWord_59 {l : Launch} {D : va_G} {dA : Nat → ClassId} {z : Nat} {sa : Nat → Nat} {Hz : Heap} (E : StrOK qLen qCh l D dA z sa Hz) {h0 fin : AH}  : ∀ (a0 : Nat) (x2 : Int32) (h : AH), p_X9_readWord_59 a0 x2 h = some fin → GM l D dA z sa Hz q_X9_readWord h0 none fin 59 [(0, .ref a0), (2, .int x2)] [] h := by
  intro a0 x2 h hd
  exact step E (is := I_X9_readWord_59) (pc := 59) (K := (kx 81 (fun la st h => gR la 0 fun a0 => gI la 2 fun x2 => gI la 3 fun x3 => sE st (p_X9_readWord_81 a0 x2 x3 h)) k0)) (FI := FI_X9_readWord) (FV := FV_X9_readWord) (FL := fL0) (rt := rtV) (ft := 0) (by exact hd) ok_X9_readWord_59 (kx_ok (fun la st h e => by obtain ⟨a0, m_a0, e1⟩ := gR_inv e; obtain ⟨x2, m_x2, e2⟩ := gI_inv e1; obtain ⟨x3, m_x3, e3⟩ := gI_inv e2; obtain ⟨rfl, ez⟩ := sE_inv e3; exact gm_fewer (e_X9_readWord_81 E  a0 x2 x3 h ez) (mem_cons m_a0 (mem_cons m_x2 (mem_cons m_x3 mem_nil)))) k0_ok) (FI_X9_readWord_ok E) (FV_X9_readWord_ok E) (fL0_ok E) (rtV_ok rfl)
def I_X9_readWord_0 : List AI := [(.aload_n 0, 1, [], 0), (.aload_n 0, 1, [], 0), (.getfield 120, 3, [8, 4, 2, 1349], 0), (.getfield 204, 3, [7, 4, 0, 1495], 0), (.bipush 24, 2, [], 24), (.invokevirtual 189, 3, [2, 215, 3, 8, 1621], 0), (.aload_n 0, 1, [], 0), (.iconst 0, 1, [], 0), (.bipush 15, 2, [], 15), (.invokevirtual 179, 3, [1, 213, 3, 8, 1604], 0), (.istore_n 1, 1, [], 0), (.bipush 8, 2, [], 8), (.iload_n 1, 1, [], 0), (.imul, 1, [], 0), (.aload_n 0, 1, [], 0), (.iconst 0, 1, [], 0), (.bipush 7, 2, [], 7), (.invokevirtual 116, 3, [1, 212, 3, 8, 1608], 0), (.iadd, 1, [], 0), (.istore_n 2, 1, [], 0), (.aload_n 0, 1, [], 0), (.getfield 65, 3, [8, 9, 0, 1354], 0), (.iconst 5, 1, [], 5), (.if_icmp .eq 20, 3, [59], 0), (.aload_n 0, 1, [], 0), (.getfield 120, 3, [8, 4, 2, 1349], 0), (.getfield 207, 3, [7, 10, 2, 1506], 0), (.iload_n 2, 1, [], 0), (.baload, 1, [102], 0), (.ifCond .eq 8, 3, [59], 0), (.aload_n 0, 1, [], 0), (.iconst 3, 1, [], 3), (.invokevirtual 108, 3, [2, 209, 2, 8, 1595], 0)]
theorem ok_X9_readWord_0 : vBL MT qLen qCh false q_X9_readWord.2.2.2.2.1 q_X9_readWord.2.2.2.2.2.1 q_X9_readWord.2.2.1 q_X9_readWord.1.cls q_X9_readWord.1.name q_X9_readWord.2.1 59 0 I_X9_readWord_0 = true := by decide +kernel
def p_X9_readWord (a0 : Nat) (h : AH) : Option (AH) :=
  if (tg h a0).1 = 8 then (if (tg h (rR h a0 4)).1 = 7 then (if (tg h a0).1 = 8 then ((p_X9_lineBegins a0 (rI h (rR h a0 4) 4) ((24 : Int32)) h).bind fun h109 =>
  if (tg h109 a0).1 = 8 then ((p_X9_readWhole a0 ((0 : Int32)) ((15 : Int32)) h109).bind fun q110 =>
  if (tg q110.2 a0).1 = 8 then ((p_X9_wholeAt a0 ((0 : Int32)) ((7 : Int32)) q110.2).bind fun q111 =>
  let x112 := (((8 : Int32)) * q110.1) + q111.1
  if (tg q111.2 a0).1 = 8 then (if (rI q111.2 a0 9) = ((5 : Int32)) then (p_X9_readWord_59 a0 x112 q111.2)
  else
  if (tg q111.2 a0).1 = 8 then (if (tg q111.2 (rR q111.2 a0 4)).1 = 7 then (if inB q111.2 (rR q111.2 (rR q111.2 a0 4) 10) 102 x112 then (if (rI q111.2 (rR q111.2 (rR q111.2 a0 4) 10) x112.toNatClampNeg) = 0 then (p_X9_readWord_59 a0 x112 q111.2)
  else
  if (tg q111.2 a0).1 = 8 then ((p_X9_flaw a0 ((3 : Int32)) q111.2).bind fun h113 =>
  p_X9_readWord_59 a0 x112 h113) else none) else none) else none) else none) else none) else none) else none) else none) else none) else none
set_option maxRecDepth 100000 in
theorem e_X9_readWord_0 {l : Launch} {D : va_G} {dA : Nat → ClassId} {z : Nat} {sa : Nat → Nat} {Hz : Heap} (E : StrOK qLen qCh l D dA z sa Hz) {h0 fin : AH}  : ∀ (a0 : Nat) (h : AH), p_X9_readWord a0 h = some fin → GM l D dA z sa Hz q_X9_readWord h0 none fin 0 [(0, .ref a0)] [] h := by
  intro a0 h hd
  exact step E (is := I_X9_readWord_0) (pc := 0) (K := (kx 59 (fun la st h => gR la 0 fun a0 => gI la 2 fun x2 => sE st (p_X9_readWord_59 a0 x2 h)) k0)) (FI := FI_X9_readWord) (FV := FV_X9_readWord) (FL := fL0) (rt := rtV) (ft := 59) (by exact hd) ok_X9_readWord_0 (kx_ok (fun la st h e => by obtain ⟨a0, m_a0, e1⟩ := gR_inv e; obtain ⟨x2, m_x2, e2⟩ := gI_inv e1; obtain ⟨rfl, ez⟩ := sE_inv e2; exact gm_fewer (e_X9_readWord_59 E  a0 x2 h ez) (mem_cons m_a0 (mem_cons m_x2 mem_nil))) k0_ok) (FI_X9_readWord_ok E) (FV_X9_readWord_ok E) (fL0_ok E) (rtV_ok rfl)
theorem c_X9_readWord {l : Launch} {D : va_G} {dA : Nat → ClassId} {z : Nat} {sa : Nat → Nat} {Hz : Heap} (E : StrOK qLen qCh l D dA z sa Hz) {a0 : Nat} {h fin : AH} (hd : p_X9_readWord a0 h = some fin) : CalOK l D dA z sa Hz q_X9_readWord [.ref a0] h none fin := calOf (by decide +kernel) (Nat.le_of_ble_eq_true rfl) (e_X9_readWord_0 E a0 h hd)
def FI_X9_modeAt : Nat → List Value → AH → Option (Int32 × AH) := (cx 208 (fun As h => sR As fun a0 As => sT As fun t1 As => sE As (p_X9_isWord a0 t1 h)) fI0)
theorem FI_X9_modeAt_ok {l : Launch} {D : va_G} {dA : Nat → ClassId} {z : Nat} {sa : Nat → Nat} {Hz : Heap} (E : StrOK qLen qCh l D dA z sa Hz) : ∀ mi As h x h', FI_X9_modeAt mi As h = some (x, h') → CalOK l D dA z sa Hz (MT mi) As h (some (.int x)) h' := (cxI_ok (fun As h x h2 e => by obtain ⟨_, _, rfl, e0⟩ := sR_inv e; obtain ⟨_, _, rfl, e1⟩ := sT_inv e0; obtain ⟨rfl, ez⟩ := sE_inv e1; exact c_X9_isWord E ez) (fI0_ok E))
def FV_X9_modeAt : Nat → List Value → AH → Option (AH) := (cx 209 (fun As h => sR As fun a0 As => sI As fun x1 As => sE As (p_X9_flaw a0 x1 h)) fV0)
theorem FV_X9_modeAt_ok {l : Launch} {D : va_G} {dA : Nat → ClassId} {z : Nat} {sa : Nat → Nat} {Hz : Heap} (E : StrOK qLen qCh l D dA z sa Hz) : ∀ mi As h h', FV_X9_modeAt mi As h = some h' → CalOK l D dA z sa Hz (MT mi) As h none h' := (cxV_ok (fun As h h2 e => by obtain ⟨_, _, rfl, e0⟩ := sR_inv e; obtain ⟨_, _, rfl, e1⟩ := sI_inv e0; obtain ⟨rfl, ez⟩ := sE_inv e1; exact c_X9_flaw E ez) (fV0_ok E))
def I_X9_modeAt_64 : List AI := [(.iload_n 1, 1, [], 0), (.ireturn, 1, [], 0)]
theorem ok_X9_modeAt_64 : vBL MT qLen qCh false q_X9_modeAt.2.2.2.2.1 q_X9_modeAt.2.2.2.2.2.1 q_X9_modeAt.2.2.1 q_X9_modeAt.1.cls q_X9_modeAt.1.name q_X9_modeAt.2.1 0 64 I_X9_modeAt_64 = true := by decide +kernel
def p_X9_modeAt_64 (x1 : Int32) (h : AH) : Option (Int32 × AH) :=
  some (x1, h)
set_option maxRecDepth 100000 in
theorem e_X9_modeAt_64 {l : Launch} {D : va_G} {dA : Nat → ClassId} {z : Nat} {sa : Nat → Nat} {Hz : Heap} (E : StrOK qLen qCh l D dA z sa Hz) {h0 fin : AH} {x : Int32}  : ∀ (x1 : Int32) (h : AH), p_X9_modeAt_64 x1 h = some (x, fin) → GM l D dA z sa Hz q_X9_modeAt h0 (some (.int x)) fin 64 [(1, .int x1)] [] h := by
  intro x1 h hd
  exact step E (is := I_X9_modeAt_64) (pc := 64) (K := k0) (FI := FI_X9_modeAt) (FV := FV_X9_modeAt) (FL := fL0) (rt := rtI) (ft := 0) (by exact hd) ok_X9_modeAt_64 k0_ok (FI_X9_modeAt_ok E) (FV_X9_modeAt_ok E) (fL0_ok E) (rtI_ok rfl)
def I_X9_modeAt_53 : List AI := [(.istore_n 1, 1, [], 0), (.iload_n 1, 1, [], 0), (.iconst (-1), 1, [], (-1)), (.if_icmp .ne 8, 3, [64], 0), (.aload_n 0, 1, [], 0), (.iconst 1, 1, [], 1), (.invokevirtual 108, 3, [2, 209, 2, 8, 1595], 0)]
theorem ok_X9_modeAt_53 : vBL MT qLen qCh false q_X9_modeAt.2.2.2.2.1 q_X9_modeAt.2.2.2.2.2.1 q_X9_modeAt.2.2.1 q_X9_modeAt.1.cls q_X9_modeAt.1.name q_X9_modeAt.2.1 64 53 I_X9_modeAt_53 = true := by decide +kernel
def p_X9_modeAt_53 (a0 : Nat) (y0 : Int32) (h : AH) : Option (Int32 × AH) :=
  if y0 = ((-1 : Int32)) then (if (tg h a0).1 = 8 then ((p_X9_flaw a0 ((1 : Int32)) h).bind fun h101 =>
  p_X9_modeAt_64 y0 h101) else none)
  else
  p_X9_modeAt_64 y0 h
set_option maxRecDepth 100000 in
theorem e_X9_modeAt_53 {l : Launch} {D : va_G} {dA : Nat → ClassId} {z : Nat} {sa : Nat → Nat} {Hz : Heap} (E : StrOK qLen qCh l D dA z sa Hz) {h0 fin : AH} {x : Int32}  : ∀ (a0 : Nat) (y0 : Int32) (h : AH), p_X9_modeAt_53 a0 y0 h = some (x, fin) → GM l D dA z sa Hz q_X9_modeAt h0 (some (.int x)) fin 53 [(0, .ref a0)] [.int y0] h := by
  intro a0 y0 h hd
  exact step E (is := I_X9_modeAt_53) (pc := 53) (K := (kx 64 (fun la st h => gI la 1 fun x1 => sE st (p_X9_modeAt_64 x1 h)) k0)) (FI := FI_X9_modeAt) (FV := FV_X9_modeAt) (FL := fL0) (rt := rtI) (ft := 64) (by exact hd) ok_X9_modeAt_53 (kx_ok (fun la st h e => by obtain ⟨x1, m_x1, e1⟩ := gI_inv e; obtain ⟨rfl, ez⟩ := sE_inv e1; exact gm_fewer (e_X9_modeAt_64 E  x1 h ez) (mem_cons m_x1 mem_nil)) k0_ok) (FI_X9_modeAt_ok E) (FV_X9_modeAt_ok E) (fL0_ok E) (rtI_ok rfl)
def I_X9_modeAt_52 : List AI := [(.iconst (-1), 1, [], (-1))]
theorem ok_X9_modeAt_52 : vBL MT qLen qCh false q_X9_modeAt.2.2.2.2.1 q_X9_modeAt.2.2.2.2.2.1 q_X9_modeAt.2.2.1 q_X9_modeAt.1.cls q_X9_modeAt.1.name q_X9_modeAt.2.1 53 52 I_X9_modeAt_52 = true := by decide +kernel
def p_X9_modeAt_52 (a0 : Nat) (h : AH) : Option (Int32 × AH) :=
  p_X9_modeAt_53 a0 ((-1 : Int32)) h
set_option maxRecDepth 100000 in
theorem e_X9_modeAt_52 {l : Launch} {D : va_G} {dA : Nat → ClassId} {z : Nat} {sa : Nat → Nat} {Hz : Heap} (E : StrOK qLen qCh l D dA z sa Hz) {h0 fin : AH} {x : Int32}  : ∀ (a0 : Nat) (h : AH), p_X9_modeAt_52 a0 h = some (x, fin) → GM l D dA z sa Hz q_X9_modeAt h0 (some (.int x)) fin 52 [(0, .ref a0)] [] h := by
  intro a0 h hd
  exact step E (is := I_X9_modeAt_52) (pc := 52) (K := (kx 53 (fun la st h => gR la 0 fun a0 => sI st fun y0 st => sE st (p_X9_modeAt_53 a0 y0 h)) k0)) (FI := FI_X9_modeAt) (FV := FV_X9_modeAt) (FL := fL0) (rt := rtI) (ft := 53) (by exact hd) ok_X9_modeAt_52 (kx_ok (fun la st h e => by obtain ⟨a0, m_a0, e1⟩ := gR_inv e; obtain ⟨y0, _, rfl, e2⟩ := sI_inv e1; obtain ⟨rfl, ez⟩ := sE_inv e2; exact gm_fewer (e_X9_modeAt_53 E  a0 y0 h ez) (mem_cons m_a0 mem_nil)) k0_ok) (FI_X9_modeAt_ok E) (FV_X9_modeAt_ok E) (fL0_ok E) (rtI_ok rfl)
def I_X9_modeAt_39 : List AI := [(.aload_n 0, 1, [], 0), (.ldc 135, 2, [14, 0], 0), (.invokevirtual 104, 3, [1, 208, 2, 8, 1582], 0), (.ifCond .eq 7, 3, [52], 0), (.iconst 3, 1, [], 3), (.goto 4, 3, [53], 0)]
theorem ok_X9_modeAt_39 : vBL MT qLen qCh false q_X9_modeAt.2.2.2.2.1 q_X9_modeAt.2.2.2.2.2.1 q_X9_modeAt.2.2.1 q_X9_modeAt.1.cls q_X9_modeAt.1.name q_X9_modeAt.2.1 0 39 I_X9_modeAt_39 = true := by decide +kernel
def p_X9_modeAt_39 (a0 : Nat) (h : AH) : Option (Int32 × AH) :=
  if (tg h a0).1 = 8 then ((p_X9_isWord a0 14 h).bind fun q102 =>
  if q102.1 = 0 then (p_X9_modeAt_53 a0 ((-1 : Int32)) q102.2)
  else
  p_X9_modeAt_53 a0 ((3 : Int32)) q102.2) else none
set_option maxRecDepth 100000 in
theorem e_X9_modeAt_39 {l : Launch} {D : va_G} {dA : Nat → ClassId} {z : Nat} {sa : Nat → Nat} {Hz : Heap} (E : StrOK qLen qCh l D dA z sa Hz) {h0 fin : AH} {x : Int32}  : ∀ (a0 : Nat) (h : AH), p_X9_modeAt_39 a0 h = some (x, fin) → GM l D dA z sa Hz q_X9_modeAt h0 (some (.int x)) fin 39 [(0, .ref a0)] [] h := by
  intro a0 h hd
  exact step E (is := I_X9_modeAt_39) (pc := 39) (K := (kx 52 (fun la st h => gR la 0 fun a0 => sE st (p_X9_modeAt_52 a0 h)) (kx 53 (fun la st h => gR la 0 fun a0 => sI st fun y0 st => sE st (p_X9_modeAt_53 a0 y0 h)) k0))) (FI := FI_X9_modeAt) (FV := FV_X9_modeAt) (FL := fL0) (rt := rtI) (ft := 0) (by exact hd) ok_X9_modeAt_39 (kx_ok (fun la st h e => by obtain ⟨a0, m_a0, e1⟩ := gR_inv e; obtain ⟨rfl, ez⟩ := sE_inv e1; exact gm_fewer (e_X9_modeAt_52 E  a0 h ez) (mem_cons m_a0 mem_nil)) (kx_ok (fun la st h e => by obtain ⟨a0, m_a0, e1⟩ := gR_inv e; obtain ⟨y0, _, rfl, e2⟩ := sI_inv e1; obtain ⟨rfl, ez⟩ := sE_inv e2; exact gm_fewer (e_X9_modeAt_53 E  a0 y0 h ez) (mem_cons m_a0 mem_nil)) k0_ok)) (FI_X9_modeAt_ok E) (FV_X9_modeAt_ok E) (fL0_ok E) (rtI_ok rfl)
def I_X9_modeAt_26 : List AI := [(.aload_n 0, 1, [], 0), (.ldc 133, 2, [13, 0], 0), (.invokevirtual 104, 3, [1, 208, 2, 8, 1582], 0), (.ifCond .eq 7, 3, [39], 0), (.iconst 2, 1, [], 2), (.goto 17, 3, [53], 0)]
theorem ok_X9_modeAt_26 : vBL MT qLen qCh false q_X9_modeAt.2.2.2.2.1 q_X9_modeAt.2.2.2.2.2.1 q_X9_modeAt.2.2.1 q_X9_modeAt.1.cls q_X9_modeAt.1.name q_X9_modeAt.2.1 0 26 I_X9_modeAt_26 = true := by decide +kernel
def p_X9_modeAt_26 (a0 : Nat) (h : AH) : Option (Int32 × AH) :=
  if (tg h a0).1 = 8 then ((p_X9_isWord a0 13 h).bind fun q103 =>
  if q103.1 = 0 then (if (tg q103.2 a0).1 = 8 then ((p_X9_isWord a0 14 q103.2).bind fun q104 =>
  if q104.1 = 0 then (p_X9_modeAt_53 a0 ((-1 : Int32)) q104.2)
  else
  p_X9_modeAt_53 a0 ((3 : Int32)) q104.2) else none)
  else
  p_X9_modeAt_53 a0 ((2 : Int32)) q103.2) else none
set_option maxRecDepth 100000 in
theorem e_X9_modeAt_26 {l : Launch} {D : va_G} {dA : Nat → ClassId} {z : Nat} {sa : Nat → Nat} {Hz : Heap} (E : StrOK qLen qCh l D dA z sa Hz) {h0 fin : AH} {x : Int32}  : ∀ (a0 : Nat) (h : AH), p_X9_modeAt_26 a0 h = some (x, fin) → GM l D dA z sa Hz q_X9_modeAt h0 (some (.int x)) fin 26 [(0, .ref a0)] [] h := by
  intro a0 h hd
  exact step E (is := I_X9_modeAt_26) (pc := 26) (K := (kx 39 (fun la st h => gR la 0 fun a0 => sE st (p_X9_modeAt_39 a0 h)) (kx 53 (fun la st h => gR la 0 fun a0 => sI st fun y0 st => sE st (p_X9_modeAt_53 a0 y0 h)) k0))) (FI := FI_X9_modeAt) (FV := FV_X9_modeAt) (FL := fL0) (rt := rtI) (ft := 0) (by exact hd) ok_X9_modeAt_26 (kx_ok (fun la st h e => by obtain ⟨a0, m_a0, e1⟩ := gR_inv e; obtain ⟨rfl, ez⟩ := sE_inv e1; exact gm_fewer (e_X9_modeAt_39 E  a0 h ez) (mem_cons m_a0 mem_nil)) (kx_ok (fun la st h e => by obtain ⟨a0, m_a0, e1⟩ := gR_inv e; obtain ⟨y0, _, rfl, e2⟩ := sI_inv e1; obtain ⟨rfl, ez⟩ := sE_inv e2; exact gm_fewer (e_X9_modeAt_53 E  a0 y0 h ez) (mem_cons m_a0 mem_nil)) k0_ok)) (FI_X9_modeAt_ok E) (FV_X9_modeAt_ok E) (fL0_ok E) (rtI_ok rfl)
def I_X9_modeAt_13 : List AI := [(.aload_n 0, 1, [], 0), (.ldc 131, 2, [12, 0], 0), (.invokevirtual 104, 3, [1, 208, 2, 8, 1582], 0), (.ifCond .eq 7, 3, [26], 0), (.iconst 1, 1, [], 1), (.goto 30, 3, [53], 0)]
theorem ok_X9_modeAt_13 : vBL MT qLen qCh false q_X9_modeAt.2.2.2.2.1 q_X9_modeAt.2.2.2.2.2.1 q_X9_modeAt.2.2.1 q_X9_modeAt.1.cls q_X9_modeAt.1.name q_X9_modeAt.2.1 0 13 I_X9_modeAt_13 = true := by decide +kernel
def p_X9_modeAt_13 (a0 : Nat) (h : AH) : Option (Int32 × AH) :=
  if (tg h a0).1 = 8 then ((p_X9_isWord a0 12 h).bind fun q105 =>
  if q105.1 = 0 then (if (tg q105.2 a0).1 = 8 then ((p_X9_isWord a0 13 q105.2).bind fun q106 =>
  if q106.1 = 0 then (if (tg q106.2 a0).1 = 8 then ((p_X9_isWord a0 14 q106.2).bind fun q107 =>
  if q107.1 = 0 then (p_X9_modeAt_53 a0 ((-1 : Int32)) q107.2)
  else
  p_X9_modeAt_53 a0 ((3 : Int32)) q107.2) else none)
  else
  p_X9_modeAt_53 a0 ((2 : Int32)) q106.2) else none)
  else
  p_X9_modeAt_53 a0 ((1 : Int32)) q105.2) else none
set_option maxRecDepth 100000 in
theorem e_X9_modeAt_13 {l : Launch} {D : va_G} {dA : Nat → ClassId} {z : Nat} {sa : Nat → Nat} {Hz : Heap} (E : StrOK qLen qCh l D dA z sa Hz) {h0 fin : AH} {x : Int32}  : ∀ (a0 : Nat) (h : AH), p_X9_modeAt_13 a0 h = some (x, fin) → GM l D dA z sa Hz q_X9_modeAt h0 (some (.int x)) fin 13 [(0, .ref a0)] [] h := by
  intro a0 h hd
  exact step E (is := I_X9_modeAt_13) (pc := 13) (K := (kx 26 (fun la st h => gR la 0 fun a0 => sE st (p_X9_modeAt_26 a0 h)) (kx 53 (fun la st h => gR la 0 fun a0 => sI st fun y0 st => sE st (p_X9_modeAt_53 a0 y0 h)) k0))) (FI := FI_X9_modeAt) (FV := FV_X9_modeAt) (FL := fL0) (rt := rtI) (ft := 0) (by exact hd) ok_X9_modeAt_13 (kx_ok (fun la st h e => by obtain ⟨a0, m_a0, e1⟩ := gR_inv e; obtain ⟨rfl, ez⟩ := sE_inv e1; exact gm_fewer (e_X9_modeAt_26 E  a0 h ez) (mem_cons m_a0 mem_nil)) (kx_ok (fun la st h e => by obtain ⟨a0, m_a0, e1⟩ := gR_inv e; obtain ⟨y0, _, rfl, e2⟩ := sI_inv e1; obtain ⟨rfl, ez⟩ := sE_inv e2; exact gm_fewer (e_X9_modeAt_53 E  a0 y0 h ez) (mem_cons m_a0 mem_nil)) k0_ok)) (FI_X9_modeAt_ok E) (FV_X9_modeAt_ok E) (fL0_ok E) (rtI_ok rfl)
def I_X9_modeAt_0 : List AI := [(.aload_n 0, 1, [], 0), (.ldc 129, 2, [11, 0], 0), (.invokevirtual 104, 3, [1, 208, 2, 8, 1582], 0), (.ifCond .eq 7, 3, [13], 0), (.iconst 0, 1, [], 0), (.goto 43, 3, [53], 0)]
theorem ok_X9_modeAt_0 : vBL MT qLen qCh false q_X9_modeAt.2.2.2.2.1 q_X9_modeAt.2.2.2.2.2.1 q_X9_modeAt.2.2.1 q_X9_modeAt.1.cls q_X9_modeAt.1.name q_X9_modeAt.2.1 0 0 I_X9_modeAt_0 = true := by decide +kernel
def p_X9_modeAt (a0 : Nat) (h : AH) : Option (Int32 × AH) :=
  if (tg h a0).1 = 8 then ((p_X9_isWord a0 11 h).bind fun q108 =>
  if q108.1 = 0 then (if (tg q108.2 a0).1 = 8 then ((p_X9_isWord a0 12 q108.2).bind fun q109 =>
  if q109.1 = 0 then (if (tg q109.2 a0).1 = 8 then ((p_X9_isWord a0 13 q109.2).bind fun q110 =>
  if q110.1 = 0 then (if (tg q110.2 a0).1 = 8 then ((p_X9_isWord a0 14 q110.2).bind fun q111 =>
  if q111.1 = 0 then (p_X9_modeAt_53 a0 ((-1 : Int32)) q111.2)
  else
  p_X9_modeAt_53 a0 ((3 : Int32)) q111.2) else none)
  else
  p_X9_modeAt_53 a0 ((2 : Int32)) q110.2) else none)
  else
  p_X9_modeAt_53 a0 ((1 : Int32)) q109.2) else none)
  else
  p_X9_modeAt_53 a0 ((0 : Int32)) q108.2) else none
set_option maxRecDepth 100000 in
theorem e_X9_modeAt_0 {l : Launch} {D : va_G} {dA : Nat → ClassId} {z : Nat} {sa : Nat → Nat} {Hz : Heap} (E : StrOK qLen qCh l D dA z sa Hz) {h0 fin : AH} {x : Int32}  : ∀ (a0 : Nat) (h : AH), p_X9_modeAt a0 h = some (x, fin) → GM l D dA z sa Hz q_X9_modeAt h0 (some (.int x)) fin 0 [(0, .ref a0)] [] h := by
  intro a0 h hd
  exact step E (is := I_X9_modeAt_0) (pc := 0) (K := (kx 13 (fun la st h => gR la 0 fun a0 => sE st (p_X9_modeAt_13 a0 h)) (kx 53 (fun la st h => gR la 0 fun a0 => sI st fun y0 st => sE st (p_X9_modeAt_53 a0 y0 h)) k0))) (FI := FI_X9_modeAt) (FV := FV_X9_modeAt) (FL := fL0) (rt := rtI) (ft := 0) (by exact hd) ok_X9_modeAt_0 (kx_ok (fun la st h e => by obtain ⟨a0, m_a0, e1⟩ := gR_inv e; obtain ⟨rfl, ez⟩ := sE_inv e1; exact gm_fewer (e_X9_modeAt_13 E  a0 h ez) (mem_cons m_a0 mem_nil)) (kx_ok (fun la st h e => by obtain ⟨a0, m_a0, e1⟩ := gR_inv e; obtain ⟨y0, _, rfl, e2⟩ := sI_inv e1; obtain ⟨rfl, ez⟩ := sE_inv e2; exact gm_fewer (e_X9_modeAt_53 E  a0 y0 h ez) (mem_cons m_a0 mem_nil)) k0_ok)) (FI_X9_modeAt_ok E) (FV_X9_modeAt_ok E) (fL0_ok E) (rtI_ok rfl)
theorem c_X9_modeAt {l : Launch} {D : va_G} {dA : Nat → ClassId} {z : Nat} {sa : Nat → Nat} {Hz : Heap} (E : StrOK qLen qCh l D dA z sa Hz) {a0 : Nat} {h fin : AH} {x : Int32} (hd : p_X9_modeAt a0 h = some (x, fin)) : CalOK l D dA z sa Hz q_X9_modeAt [.ref a0] h (some (.int x)) fin := calOf (by decide +kernel) (Nat.le_of_ble_eq_true rfl) (e_X9_modeAt_0 E a0 h hd)
def FI_X9_readRun : Nat → List Value → AH → Option (Int32 × AH) := (cx 213 (fun As h => sR As fun a0 As => sI As fun x1 As => sI As fun x2 As => sE As (p_X9_readWhole a0 x1 x2 h)) (cx 219 (fun As h => sR As fun a0 As => sE As (p_X9_modeAt a0 h)) fI0))
theorem FI_X9_readRun_ok {l : Launch} {D : va_G} {dA : Nat → ClassId} {z : Nat} {sa : Nat → Nat} {Hz : Heap} (E : StrOK qLen qCh l D dA z sa Hz) : ∀ mi As h x h', FI_X9_readRun mi As h = some (x, h') → CalOK l D dA z sa Hz (MT mi) As h (some (.int x)) h' := (cxI_ok (fun As h x h2 e => by obtain ⟨_, _, rfl, e0⟩ := sR_inv e; obtain ⟨_, _, rfl, e1⟩ := sI_inv e0; obtain ⟨_, _, rfl, e2⟩ := sI_inv e1; obtain ⟨rfl, ez⟩ := sE_inv e2; exact c_X9_readWhole E ez) ((cxI_ok (fun As h x h2 e => by obtain ⟨_, _, rfl, e0⟩ := sR_inv e; obtain ⟨rfl, ez⟩ := sE_inv e0; exact c_X9_modeAt E ez) (fI0_ok E))))
def FV_X9_readRun : Nat → List Value → AH → Option (AH) := (cx 215 (fun As h => sR As fun a0 As => sI As fun x1 As => sI As fun x2 As => sE As (p_X9_lineBegins a0 x1 x2 h)) (cx 206 (fun As h => sR As fun a0 As => sE As (p_X9_goesOn a0 h)) fV0))
theorem FV_X9_readRun_ok {l : Launch} {D : va_G} {dA : Nat → ClassId} {z : Nat} {sa : Nat → Nat} {Hz : Heap} (E : StrOK qLen qCh l D dA z sa Hz) : ∀ mi As h h', FV_X9_readRun mi As h = some h' → CalOK l D dA z sa Hz (MT mi) As h none h' := (cxV_ok (fun As h h2 e => by obtain ⟨_, _, rfl, e0⟩ := sR_inv e; obtain ⟨_, _, rfl, e1⟩ := sI_inv e0; obtain ⟨_, _, rfl, e2⟩ := sI_inv e1; obtain ⟨rfl, ez⟩ := sE_inv e2; exact c_X9_lineBegins E ez) ((cxV_ok (fun As h h2 e => by obtain ⟨_, _, rfl, e0⟩ := sR_inv e; obtain ⟨rfl, ez⟩ := sE_inv e0; exact c_X9_goesOn E ez) (fV0_ok E))))
def I_X9_readRun_39 : List AI := [(.aload_n 0, 1, [], 0), (.getfield 120, 3, [8, 4, 2, 1349], 0), (.getfield 219, 3, [7, 11, 2, 1508], 0), (.aload_n 0, 1, [], 0), (.getfield 120, 3, [8, 4, 2, 1349], 0), (.getfield 213, 3, [7, 5, 0, 1496], 0), (.iload_n 1, 1, [], 0), (.iastore, 1, [], 0), (.aload_n 0, 1, [], 0), (.getfield 120, 3, [8, 4, 2, 1349], 0), (.getfield 221, 3, [7, 12, 2, 1510], 0), (.aload_n 0, 1, [], 0), (.getfield 120, 3, [8, 4, 2, 1349], 0), (.getfield 213, 3, [7, 5, 0, 1496], 0), (.iload_n 2, 1, [], 0), (.iastore, 1, [], 0), (.aload_n 0, 1, [], 0), (.getfield 120, 3, [8, 4, 2, 1349], 0), (.dup, 1, [], 0), (.getfield 213, 3, [7, 5, 0, 1496], 0), (.iconst 1, 1, [], 1), (.iadd, 1, [], 0), (.putfield 213, 3, [7, 5, 0, 1496], 0), (.return_, 1, [], 0)]
theorem ok_X9_readRun_39 : vBL MT qLen qCh false q_X9_readRun.2.2.2.2.1 q_X9_readRun.2.2.2.2.2.1 q_X9_readRun.2.2.1 q_X9_readRun.1.cls q_X9_readRun.1.name q_X9_readRun.2.1 0 39 I_X9_readRun_39 = true := by decide +kernel
def p_X9_readRun_39 (a0 : Nat) (x1 : Int32) (x2 : Int32) (h : AH) : Option (AH) :=
  if (tg h a0).1 = 8 then (if (tg h (rR h a0 4)).1 = 7 then (if (tg h a0).1 = 8 then (if (tg h (rR h a0 4)).1 = 7 then (if inB h (rR h (rR h a0 4) 11) 100 (rI h (rR h a0 4) 5) then (let h101 := wI h (rR h (rR h a0 4) 11) (rI h (rR h a0 4) 5).toNatClampNeg x1
  if (tg h101 a0).1 = 8 then (if (tg h101 (rR h101 a0 4)).1 = 7 then (if (tg h101 a0).1 = 8 then (if (tg h101 (rR h101 a0 4)).1 = 7 then (if inB h101 (rR h101 (rR h101 a0 4) 12) 100 (rI h101 (rR h101 a0 4) 5) then (let h102 := wI h101 (rR h101 (rR h101 a0 4) 12) (rI h101 (rR h101 a0 4) 5).toNatClampNeg x2
  if (tg h102 a0).1 = 8 then (if (tg h102 (rR h102 a0 4)).1 = 7 then (if (tg h102 (rR h102 a0 4)).1 = 7 then (let h103 := wI h102 (rR h102 a0 4) 5 ((rI h102 (rR h102 a0 4) 5) + ((1 : Int32)))
  some h103) else none) else none) else none) else none) else none) else none) else none) else none) else none) else none) else none) else none) else none
set_option maxRecDepth 100000 in
theorem e_X9_readRun_39 {l : Launch} {D : va_G} {dA : Nat → ClassId} {z : Nat} {sa : Nat → Nat} {Hz : Heap} (E : StrOK qLen qCh l D dA z sa Hz) {h0 fin : AH}  : ∀ (a0 : Nat) (x1 : Int32) (x2 : Int32) (h : AH), p_X9_readRun_39 a0 x1 x2 h = some fin → GM l D dA z sa Hz q_X9_readRun h0 none fin 39 [(0, .ref a0), (1, .int x1), (2, .int x2)] [] h := by
  intro a0 x1 x2 h hd
  exact step E (is := I_X9_readRun_39) (pc := 39) (K := k0) (FI := FI_X9_readRun) (FV := FV_X9_readRun) (FL := fL0) (rt := rtV) (ft := 0) (by exact hd) ok_X9_readRun_39 k0_ok (FI_X9_readRun_ok E) (FV_X9_readRun_ok E) (fL0_ok E) (rtV_ok rfl)
def I_X9_readRun_0 : List AI := [(.aload_n 0, 1, [], 0), (.aload_n 0, 1, [], 0), (.getfield 120, 3, [8, 4, 2, 1349], 0), (.getfield 213, 3, [7, 5, 0, 1496], 0), (.bipush 10, 2, [], 10), (.invokevirtual 189, 3, [2, 215, 3, 8, 1621], 0), (.aload_n 0, 1, [], 0), (.iconst 0, 1, [], 0), (.bipush 63, 2, [], 63), (.invokevirtual 179, 3, [1, 213, 3, 8, 1604], 0), (.istore_n 1, 1, [], 0), (.aload_n 0, 1, [], 0), (.invokevirtual 216, 3, [1, 219, 1, 8, 1641], 0), (.istore_n 2, 1, [], 0), (.aload_n 0, 1, [], 0), (.invokevirtual 101, 3, [2, 206, 1, 8, 1558], 0), (.aload_n 0, 1, [], 0), (.getfield 65, 3, [8, 9, 0, 1354], 0), (.iconst 5, 1, [], 5), (.if_icmp .ne 4, 3, [39], 0), (.return_, 1, [], 0)]
theorem ok_X9_readRun_0 : vBL MT qLen qCh false q_X9_readRun.2.2.2.2.1 q_X9_readRun.2.2.2.2.2.1 q_X9_readRun.2.2.1 q_X9_readRun.1.cls q_X9_readRun.1.name q_X9_readRun.2.1 0 0 I_X9_readRun_0 = true := by decide +kernel
def p_X9_readRun (a0 : Nat) (h : AH) : Option (AH) :=
  if (tg h a0).1 = 8 then (if (tg h (rR h a0 4)).1 = 7 then (if (tg h a0).1 = 8 then ((p_X9_lineBegins a0 (rI h (rR h a0 4) 5) ((10 : Int32)) h).bind fun h104 =>
  if (tg h104 a0).1 = 8 then ((p_X9_readWhole a0 ((0 : Int32)) ((63 : Int32)) h104).bind fun q105 =>
  if (tg q105.2 a0).1 = 8 then ((p_X9_modeAt a0 q105.2).bind fun q106 =>
  if (tg q106.2 a0).1 = 8 then ((p_X9_goesOn a0 q106.2).bind fun h107 =>
  if (tg h107 a0).1 = 8 then (if (rI h107 a0 9) = ((5 : Int32)) then (some h107)
  else
  if (tg h107 a0).1 = 8 then (if (tg h107 (rR h107 a0 4)).1 = 7 then (if (tg h107 a0).1 = 8 then (if (tg h107 (rR h107 a0 4)).1 = 7 then (if inB h107 (rR h107 (rR h107 a0 4) 11) 100 (rI h107 (rR h107 a0 4) 5) then (let h108 := wI h107 (rR h107 (rR h107 a0 4) 11) (rI h107 (rR h107 a0 4) 5).toNatClampNeg q105.1
  if (tg h108 a0).1 = 8 then (if (tg h108 (rR h108 a0 4)).1 = 7 then (if (tg h108 a0).1 = 8 then (if (tg h108 (rR h108 a0 4)).1 = 7 then (if inB h108 (rR h108 (rR h108 a0 4) 12) 100 (rI h108 (rR h108 a0 4) 5) then (let h109 := wI h108 (rR h108 (rR h108 a0 4) 12) (rI h108 (rR h108 a0 4) 5).toNatClampNeg q106.1
  if (tg h109 a0).1 = 8 then (if (tg h109 (rR h109 a0 4)).1 = 7 then (if (tg h109 (rR h109 a0 4)).1 = 7 then (let h110 := wI h109 (rR h109 a0 4) 5 ((rI h109 (rR h109 a0 4) 5) + ((1 : Int32)))
  some h110) else none) else none) else none) else none) else none) else none) else none) else none) else none) else none) else none) else none) else none) else none) else none) else none) else none) else none) else none) else none
set_option maxRecDepth 100000 in
theorem e_X9_readRun_0 {l : Launch} {D : va_G} {dA : Nat → ClassId} {z : Nat} {sa : Nat → Nat} {Hz : Heap} (E : StrOK qLen qCh l D dA z sa Hz) {h0 fin : AH}  : ∀ (a0 : Nat) (h : AH), p_X9_readRun a0 h = some fin → GM l D dA z sa Hz q_X9_readRun h0 none fin 0 [(0, .ref a0)] [] h := by
  intro a0 h hd
  exact step E (is := I_X9_readRun_0) (pc := 0) (K := (kx 39 (fun la st h => gR la 0 fun a0 => gI la 1 fun x1 => gI la 2 fun x2 => sE st (p_X9_readRun_39 a0 x1 x2 h)) k0)) (FI := FI_X9_readRun) (FV := FV_X9_readRun) (FL := fL0) (rt := rtV) (ft := 0) (by exact hd) ok_X9_readRun_0 (kx_ok (fun la st h e => by obtain ⟨a0, m_a0, e1⟩ := gR_inv e; obtain ⟨x1, m_x1, e2⟩ := gI_inv e1; obtain ⟨x2, m_x2, e3⟩ := gI_inv e2; obtain ⟨rfl, ez⟩ := sE_inv e3; exact gm_fewer (e_X9_readRun_39 E  a0 x1 x2 h ez) (mem_cons m_a0 (mem_cons m_x1 (mem_cons m_x2 mem_nil)))) k0_ok) (FI_X9_readRun_ok E) (FV_X9_readRun_ok E) (fL0_ok E) (rtV_ok rfl)
theorem c_X9_readRun {l : Launch} {D : va_G} {dA : Nat → ClassId} {z : Nat} {sa : Nat → Nat} {Hz : Heap} (E : StrOK qLen qCh l D dA z sa Hz) {a0 : Nat} {h fin : AH} (hd : p_X9_readRun a0 h = some fin) : CalOK l D dA z sa Hz q_X9_readRun [.ref a0] h none fin := calOf (by decide +kernel) (Nat.le_of_ble_eq_true rfl) (e_X9_readRun_0 E a0 h hd)
def I_X8_isUnsure_28 : List AI := [(.iconst 0, 1, [], 0), (.ireturn, 1, [], 0)]
theorem ok_X8_isUnsure_28 : vBL MT qLen qCh false q_X8_isUnsure.2.2.2.2.1 q_X8_isUnsure.2.2.2.2.2.1 q_X8_isUnsure.2.2.1 q_X8_isUnsure.1.cls q_X8_isUnsure.1.name q_X8_isUnsure.2.1 0 28 I_X8_isUnsure_28 = true := by decide +kernel
def p_X8_isUnsure_28 (h : AH) : Option (Int32 × AH) :=
  if ((0 : Int32)) &&& 1 = ((0 : Int32)) then some (((0 : Int32)), h) else none
set_option maxRecDepth 100000 in
theorem e_X8_isUnsure_28 {l : Launch} {D : va_G} {dA : Nat → ClassId} {z : Nat} {sa : Nat → Nat} {Hz : Heap} (E : StrOK qLen qCh l D dA z sa Hz) {h0 fin : AH} {x : Int32}  : ∀  (h : AH), p_X8_isUnsure_28 h = some (x, fin) → GM l D dA z sa Hz q_X8_isUnsure h0 (some (.int x)) fin 28 [] [] h := by
  intro h hd
  exact step E (is := I_X8_isUnsure_28) (pc := 28) (K := k0) (FI := fI0) (FV := fV0) (FL := fL0) (rt := rtZ) (ft := 0) (by exact hd) ok_X8_isUnsure_28 k0_ok (fI0_ok E) (fV0_ok E) (fL0_ok E) (rtZ_ok rfl)
def I_X8_isUnsure_22 : List AI := [(.iinc 2 1, 3, [], 1), (.goto (-23), 3, [2], 0)]
theorem ok_X8_isUnsure_22 : vBL MT qLen qCh false q_X8_isUnsure.2.2.2.2.1 q_X8_isUnsure.2.2.2.2.2.1 q_X8_isUnsure.2.2.1 q_X8_isUnsure.1.cls q_X8_isUnsure.1.name q_X8_isUnsure.2.1 0 22 I_X8_isUnsure_22 = true := by decide +kernel
def p_X8_isUnsure_22 (k2 : Nat → Int32 → Int32 → AH → Option (Int32 × AH)) (a0 : Nat) (x1 : Int32) (x2 : Int32) (h : AH) : Option (Int32 × AH) :=
  k2 a0 x1 (x2 + (1 : Int32)) h
set_option maxRecDepth 100000 in
theorem e_X8_isUnsure_22 {l : Launch} {D : va_G} {dA : Nat → ClassId} {z : Nat} {sa : Nat → Nat} {Hz : Heap} (E : StrOK qLen qCh l D dA z sa Hz) {h0 fin : AH} {x : Int32}  {k2 : Nat → Int32 → Int32 → AH → Option (Int32 × AH)} (hk2 : ∀ (a0 : Nat) (x1 : Int32) (x2 : Int32) (h : AH), k2 a0 x1 x2 h = some (x, fin) → GM l D dA z sa Hz q_X8_isUnsure h0 (some (.int x)) fin 2 [(0, .ref a0), (1, .int x1), (2, .int x2)] [] h) : ∀ (a0 : Nat) (x1 : Int32) (x2 : Int32) (h : AH), p_X8_isUnsure_22 k2 a0 x1 x2 h = some (x, fin) → GM l D dA z sa Hz q_X8_isUnsure h0 (some (.int x)) fin 22 [(0, .ref a0), (1, .int x1), (2, .int x2)] [] h := by
  intro a0 x1 x2 h hd
  exact step E (is := I_X8_isUnsure_22) (pc := 22) (K := (kx 2 (fun la st h => gR la 0 fun a0 => gI la 1 fun x1 => gI la 2 fun x2 => sE st (k2 a0 x1 x2 h)) k0)) (FI := fI0) (FV := fV0) (FL := fL0) (rt := rtZ) (ft := 0) (by exact hd) ok_X8_isUnsure_22 (kx_ok (fun la st h e => by obtain ⟨a0, m_a0, e1⟩ := gR_inv e; obtain ⟨x1, m_x1, e2⟩ := gI_inv e1; obtain ⟨x2, m_x2, e3⟩ := gI_inv e2; obtain ⟨rfl, ez⟩ := sE_inv e3; exact gm_fewer (hk2 a0 x1 x2 h ez) (mem_cons m_a0 (mem_cons m_x1 (mem_cons m_x2 mem_nil)))) k0_ok) (fI0_ok E) (fV0_ok E) (fL0_ok E) (rtZ_ok rfl)
def I_X8_isUnsure_2 : List AI := [(.iload_n 2, 1, [], 0), (.aload_n 0, 1, [], 0), (.getfield 43, 3, [7, 6, 0, 1497], 0), (.if_icmp .ge 21, 3, [28], 0), (.aload_n 0, 1, [], 0), (.getfield 28, 3, [7, 13, 2, 1511], 0), (.iload_n 2, 1, [], 0), (.iaload, 1, [], 0), (.iload_n 1, 1, [], 0), (.if_icmp .ne 5, 3, [22], 0), (.iconst 1, 1, [], 1), (.ireturn, 1, [], 0)]
theorem ok_X8_isUnsure_2 : vBL MT qLen qCh false q_X8_isUnsure.2.2.2.2.1 q_X8_isUnsure.2.2.2.2.2.1 q_X8_isUnsure.2.2.1 q_X8_isUnsure.1.cls q_X8_isUnsure.1.name q_X8_isUnsure.2.1 0 2 I_X8_isUnsure_2 = true := by decide +kernel
def p_X8_isUnsure_2 : Nat → Nat → Int32 → Int32 → AH → Option (Int32 × AH)
  | 0, _, _, _, _ => none
  | n + 1, a0, x1, x2, h => if (tg h a0).1 = 7 then (if x2 < (rI h a0 6) then (if (tg h a0).1 = 7 then (if inB h (rR h a0 13) 100 x2 then (if (rI h (rR h a0 13) x2.toNatClampNeg) = x1 then (if ((1 : Int32)) &&& 1 = ((1 : Int32)) then some (((1 : Int32)), h) else none)
    else
    p_X8_isUnsure_2 n a0 x1 (x2 + (1 : Int32)) h) else none) else none)
    else
    if ((0 : Int32)) &&& 1 = ((0 : Int32)) then some (((0 : Int32)), h) else none) else none
set_option maxRecDepth 100000 in
theorem e_X8_isUnsure_2 {l : Launch} {D : va_G} {dA : Nat → ClassId} {z : Nat} {sa : Nat → Nat} {Hz : Heap} (E : StrOK qLen qCh l D dA z sa Hz) {h0 fin : AH} {x : Int32}  : ∀ (n : Nat) (a0 : Nat) (x1 : Int32) (x2 : Int32) (h : AH), p_X8_isUnsure_2 n a0 x1 x2 h = some (x, fin) → GM l D dA z sa Hz q_X8_isUnsure h0 (some (.int x)) fin 2 [(0, .ref a0), (1, .int x1), (2, .int x2)] [] h := by
  intro n
  induction n with
  | zero => intro a0 x1 x2 h hd; exact nomatch hd
  | succ n ih =>
    intro a0 x1 x2 h hd
    exact step E (is := I_X8_isUnsure_2) (pc := 2) (K := (kx 28 (fun la st h => sE st (p_X8_isUnsure_28 h)) (kx 22 (fun la st h => gR la 0 fun a0 => gI la 1 fun x1 => gI la 2 fun x2 => sE st (p_X8_isUnsure_22 (p_X8_isUnsure_2 n) a0 x1 x2 h)) k0))) (FI := fI0) (FV := fV0) (FL := fL0) (rt := rtZ) (ft := 0) (by exact hd) ok_X8_isUnsure_2 (kx_ok (fun la st h e => by obtain ⟨rfl, ez⟩ := sE_inv e; exact gm_fewer (e_X8_isUnsure_28 E   h ez) mem_nil) (kx_ok (fun la st h e => by obtain ⟨a0, m_a0, e1⟩ := gR_inv e; obtain ⟨x1, m_x1, e2⟩ := gI_inv e1; obtain ⟨x2, m_x2, e3⟩ := gI_inv e2; obtain ⟨rfl, ez⟩ := sE_inv e3; exact gm_fewer (e_X8_isUnsure_22 E ih a0 x1 x2 h ez) (mem_cons m_a0 (mem_cons m_x1 (mem_cons m_x2 mem_nil)))) k0_ok)) (fI0_ok E) (fV0_ok E) (fL0_ok E) (rtZ_ok rfl)
def I_X8_isUnsure_0 : List AI := [(.iconst 0, 1, [], 0), (.istore_n 2, 1, [], 0)]
theorem ok_X8_isUnsure_0 : vBL MT qLen qCh false q_X8_isUnsure.2.2.2.2.1 q_X8_isUnsure.2.2.2.2.2.1 q_X8_isUnsure.2.2.1 q_X8_isUnsure.1.cls q_X8_isUnsure.1.name q_X8_isUnsure.2.1 2 0 I_X8_isUnsure_0 = true := by decide +kernel
def p_X8_isUnsure (a0 : Nat) (x1 : Int32) (h : AH) : Option (Int32 × AH) :=
  p_X8_isUnsure_2 FU a0 x1 ((0 : Int32)) h
set_option maxRecDepth 100000 in
theorem e_X8_isUnsure_0 {l : Launch} {D : va_G} {dA : Nat → ClassId} {z : Nat} {sa : Nat → Nat} {Hz : Heap} (E : StrOK qLen qCh l D dA z sa Hz) {h0 fin : AH} {x : Int32}  : ∀ (a0 : Nat) (x1 : Int32) (h : AH), p_X8_isUnsure a0 x1 h = some (x, fin) → GM l D dA z sa Hz q_X8_isUnsure h0 (some (.int x)) fin 0 [(0, .ref a0), (1, .int x1)] [] h := by
  intro a0 x1 h hd
  exact step E (is := I_X8_isUnsure_0) (pc := 0) (K := (kx 2 (fun la st h => gR la 0 fun a0 => gI la 1 fun x1 => gI la 2 fun x2 => sE st (p_X8_isUnsure_2 FU a0 x1 x2 h)) k0)) (FI := fI0) (FV := fV0) (FL := fL0) (rt := rtZ) (ft := 2) (by exact hd) ok_X8_isUnsure_0 (kx_ok (fun la st h e => by obtain ⟨a0, m_a0, e1⟩ := gR_inv e; obtain ⟨x1, m_x1, e2⟩ := gI_inv e1; obtain ⟨x2, m_x2, e3⟩ := gI_inv e2; obtain ⟨rfl, ez⟩ := sE_inv e3; exact gm_fewer (e_X8_isUnsure_2 E  FU a0 x1 x2 h ez) (mem_cons m_a0 (mem_cons m_x1 (mem_cons m_x2 mem_nil)))) k0_ok) (fI0_ok E) (fV0_ok E) (fL0_ok E) (rtZ_ok rfl)
theorem c_X8_isUnsure {l : Launch} {D : va_G} {dA : Nat → ClassId} {z : Nat} {sa : Nat → Nat} {Hz : Heap} (E : StrOK qLen qCh l D dA z sa Hz) {a0 : Nat} {x1 : Int32} {h fin : AH} {x : Int32} (hd : p_X8_isUnsure a0 x1 h = some (x, fin)) : CalOK l D dA z sa Hz q_X8_isUnsure [.ref a0, .int x1] h (some (.int x)) fin := calOf (by decide +kernel) (Nat.le_of_ble_eq_true rfl) (e_X8_isUnsure_0 E a0 x1 h hd)
def FI_X9_readUnsure : Nat → List Value → AH → Option (Int32 × AH) := (cx 213 (fun As h => sR As fun a0 As => sI As fun x1 As => sI As fun x2 As => sE As (p_X9_readWhole a0 x1 x2 h)) (cx 212 (fun As h => sR As fun a0 As => sI As fun x1 As => sI As fun x2 As => sE As (p_X9_wholeAt a0 x1 x2 h)) (cx 221 (fun As h => sR As fun a0 As => sI As fun x1 As => sE As (p_X8_isUnsure a0 x1 h)) fI0)))
theorem FI_X9_readUnsure_ok {l : Launch} {D : va_G} {dA : Nat → ClassId} {z : Nat} {sa : Nat → Nat} {Hz : Heap} (E : StrOK qLen qCh l D dA z sa Hz) : ∀ mi As h x h', FI_X9_readUnsure mi As h = some (x, h') → CalOK l D dA z sa Hz (MT mi) As h (some (.int x)) h' := (cxI_ok (fun As h x h2 e => by obtain ⟨_, _, rfl, e0⟩ := sR_inv e; obtain ⟨_, _, rfl, e1⟩ := sI_inv e0; obtain ⟨_, _, rfl, e2⟩ := sI_inv e1; obtain ⟨rfl, ez⟩ := sE_inv e2; exact c_X9_readWhole E ez) ((cxI_ok (fun As h x h2 e => by obtain ⟨_, _, rfl, e0⟩ := sR_inv e; obtain ⟨_, _, rfl, e1⟩ := sI_inv e0; obtain ⟨_, _, rfl, e2⟩ := sI_inv e1; obtain ⟨rfl, ez⟩ := sE_inv e2; exact c_X9_wholeAt E ez) ((cxI_ok (fun As h x h2 e => by obtain ⟨_, _, rfl, e0⟩ := sR_inv e; obtain ⟨_, _, rfl, e1⟩ := sI_inv e0; obtain ⟨rfl, ez⟩ := sE_inv e1; exact c_X8_isUnsure E ez) (fI0_ok E))))))
def FV_X9_readUnsure : Nat → List Value → AH → Option (AH) := (cx 215 (fun As h => sR As fun a0 As => sI As fun x1 As => sI As fun x2 As => sE As (p_X9_lineBegins a0 x1 x2 h)) (cx 209 (fun As h => sR As fun a0 As => sI As fun x1 As => sE As (p_X9_flaw a0 x1 h)) (cx 206 (fun As h => sR As fun a0 As => sE As (p_X9_goesOn a0 h)) fV0)))
theorem FV_X9_readUnsure_ok {l : Launch} {D : va_G} {dA : Nat → ClassId} {z : Nat} {sa : Nat → Nat} {Hz : Heap} (E : StrOK qLen qCh l D dA z sa Hz) : ∀ mi As h h', FV_X9_readUnsure mi As h = some h' → CalOK l D dA z sa Hz (MT mi) As h none h' := (cxV_ok (fun As h h2 e => by obtain ⟨_, _, rfl, e0⟩ := sR_inv e; obtain ⟨_, _, rfl, e1⟩ := sI_inv e0; obtain ⟨_, _, rfl, e2⟩ := sI_inv e1; obtain ⟨rfl, ez⟩ := sE_inv e2; exact c_X9_lineBegins E ez) ((cxV_ok (fun As h h2 e => by obtain ⟨_, _, rfl, e0⟩ := sR_inv e; obtain ⟨_, _, rfl, e1⟩ := sI_inv e0; obtain ⟨rfl, ez⟩ := sE_inv e1; exact c_X9_flaw E ez) ((cxV_ok (fun As h h2 e => by obtain ⟨_, _, rfl, e0⟩ := sR_inv e; obtain ⟨rfl, ez⟩ := sE_inv e0; exact c_X9_goesOn E ez) (fV0_ok E))))))
def I_X9_readUnsure_79 : List AI := [(.aload_n 0, 1, [], 0), (.getfield 120, 3, [8, 4, 2, 1349], 0), (.getfield 230, 3, [7, 13, 2, 1512], 0), (.aload_n 0, 1, [], 0), (.getfield 120, 3, [8, 4, 2, 1349], 0), (.getfield 224, 3, [7, 6, 0, 1498], 0), (.iload_n 2, 1, [], 0), (.iastore, 1, [], 0), (.aload_n 0, 1, [], 0), (.getfield 120, 3, [8, 4, 2, 1349], 0), (.getfield 232, 3, [7, 14, 2, 1514], 0), (.aload_n 0, 1, [], 0), (.getfield 120, 3, [8, 4, 2, 1349], 0), (.getfield 224, 3, [7, 6, 0, 1498], 0), (.iload_n 3, 1, [], 0), (.iastore, 1, [], 0), (.aload_n 0, 1, [], 0), (.getfield 120, 3, [8, 4, 2, 1349], 0), (.dup, 1, [], 0), (.getfield 224, 3, [7, 6, 0, 1498], 0), (.iconst 1, 1, [], 1), (.iadd, 1, [], 0), (.putfield 224, 3, [7, 6, 0, 1498], 0), (.return_, 1, [], 0)]
theorem ok_X9_readUnsure_79 : vBL MT qLen qCh false q_X9_readUnsure.2.2.2.2.1 q_X9_readUnsure.2.2.2.2.2.1 q_X9_readUnsure.2.2.1 q_X9_readUnsure.1.cls q_X9_readUnsure.1.name q_X9_readUnsure.2.1 0 79 I_X9_readUnsure_79 = true := by decide +kernel
def p_X9_readUnsure_79 (a0 : Nat) (x2 : Int32) (x3 : Int32) (h : AH) : Option (AH) :=
  if (tg h a0).1 = 8 then (if (tg h (rR h a0 4)).1 = 7 then (if (tg h a0).1 = 8 then (if (tg h (rR h a0 4)).1 = 7 then (if inB h (rR h (rR h a0 4) 13) 100 (rI h (rR h a0 4) 6) then (let h101 := wI h (rR h (rR h a0 4) 13) (rI h (rR h a0 4) 6).toNatClampNeg x2
  if (tg h101 a0).1 = 8 then (if (tg h101 (rR h101 a0 4)).1 = 7 then (if (tg h101 a0).1 = 8 then (if (tg h101 (rR h101 a0 4)).1 = 7 then (if inB h101 (rR h101 (rR h101 a0 4) 14) 100 (rI h101 (rR h101 a0 4) 6) then (let h102 := wI h101 (rR h101 (rR h101 a0 4) 14) (rI h101 (rR h101 a0 4) 6).toNatClampNeg x3
  if (tg h102 a0).1 = 8 then (if (tg h102 (rR h102 a0 4)).1 = 7 then (if (tg h102 (rR h102 a0 4)).1 = 7 then (let h103 := wI h102 (rR h102 a0 4) 6 ((rI h102 (rR h102 a0 4) 6) + ((1 : Int32)))
  some h103) else none) else none) else none) else none) else none) else none) else none) else none) else none) else none) else none) else none) else none
set_option maxRecDepth 100000 in
theorem e_X9_readUnsure_79 {l : Launch} {D : va_G} {dA : Nat → ClassId} {z : Nat} {sa : Nat → Nat} {Hz : Heap} (E : StrOK qLen qCh l D dA z sa Hz) {h0 fin : AH}  : ∀ (a0 : Nat) (x2 : Int32) (x3 : Int32) (h : AH), p_X9_readUnsure_79 a0 x2 x3 h = some fin → GM l D dA z sa Hz q_X9_readUnsure h0 none fin 79 [(0, .ref a0), (2, .int x2), (3, .int x3)] [] h := by
  intro a0 x2 x3 h hd
  exact step E (is := I_X9_readUnsure_79) (pc := 79) (K := k0) (FI := FI_X9_readUnsure) (FV := FV_X9_readUnsure) (FL := fL0) (rt := rtV) (ft := 0) (by exact hd) ok_X9_readUnsure_79 k0_ok (FI_X9_readUnsure_ok E) (FV_X9_readUnsure_ok E) (fL0_ok E) (rtV_ok rfl)
def I_X9_readUnsure_57 : List AI := [(.aload_n 0, 1, [], 0), (.invokevirtual 101, 3, [2, 206, 1, 8, 1558], 0), (.aload_n 0, 1, [], 0), (.iconst 0, 1, [], 0), (.sipush 4095, 3, [], 4095), (.invokevirtual 179, 3, [1, 213, 3, 8, 1604], 0), (.istore_n 3, 1, [], 0), (.aload_n 0, 1, [], 0), (.getfield 65, 3, [8, 9, 0, 1354], 0), (.iconst 5, 1, [], 5), (.if_icmp .ne 4, 3, [79], 0), (.return_, 1, [], 0)]
theorem ok_X9_readUnsure_57 : vBL MT qLen qCh false q_X9_readUnsure.2.2.2.2.1 q_X9_readUnsure.2.2.2.2.2.1 q_X9_readUnsure.2.2.1 q_X9_readUnsure.1.cls q_X9_readUnsure.1.name q_X9_readUnsure.2.1 0 57 I_X9_readUnsure_57 = true := by decide +kernel
def p_X9_readUnsure_57 (a0 : Nat) (x2 : Int32) (h : AH) : Option (AH) :=
  if (tg h a0).1 = 8 then ((p_X9_goesOn a0 h).bind fun h104 =>
  if (tg h104 a0).1 = 8 then ((p_X9_readWhole a0 ((0 : Int32)) ((4095 : Int32)) h104).bind fun q105 =>
  if (tg q105.2 a0).1 = 8 then (if (rI q105.2 a0 9) = ((5 : Int32)) then (some q105.2)
  else
  if (tg q105.2 a0).1 = 8 then (if (tg q105.2 (rR q105.2 a0 4)).1 = 7 then (if (tg q105.2 a0).1 = 8 then (if (tg q105.2 (rR q105.2 a0 4)).1 = 7 then (if inB q105.2 (rR q105.2 (rR q105.2 a0 4) 13) 100 (rI q105.2 (rR q105.2 a0 4) 6) then (let h106 := wI q105.2 (rR q105.2 (rR q105.2 a0 4) 13) (rI q105.2 (rR q105.2 a0 4) 6).toNatClampNeg x2
  if (tg h106 a0).1 = 8 then (if (tg h106 (rR h106 a0 4)).1 = 7 then (if (tg h106 a0).1 = 8 then (if (tg h106 (rR h106 a0 4)).1 = 7 then (if inB h106 (rR h106 (rR h106 a0 4) 14) 100 (rI h106 (rR h106 a0 4) 6) then (let h107 := wI h106 (rR h106 (rR h106 a0 4) 14) (rI h106 (rR h106 a0 4) 6).toNatClampNeg q105.1
  if (tg h107 a0).1 = 8 then (if (tg h107 (rR h107 a0 4)).1 = 7 then (if (tg h107 (rR h107 a0 4)).1 = 7 then (let h108 := wI h107 (rR h107 a0 4) 6 ((rI h107 (rR h107 a0 4) 6) + ((1 : Int32)))
  some h108) else none) else none) else none) else none) else none) else none) else none) else none) else none) else none) else none) else none) else none) else none) else none) else none
set_option maxRecDepth 100000 in
theorem e_X9_readUnsure_57 {l : Launch} {D : va_G} {dA : Nat → ClassId} {z : Nat} {sa : Nat → Nat} {Hz : Heap} (E : StrOK qLen qCh l D dA z sa Hz) {h0 fin : AH}  : ∀ (a0 : Nat) (x2 : Int32) (h : AH), p_X9_readUnsure_57 a0 x2 h = some fin → GM l D dA z sa Hz q_X9_readUnsure h0 none fin 57 [(0, .ref a0), (2, .int x2)] [] h := by
  intro a0 x2 h hd
  exact step E (is := I_X9_readUnsure_57) (pc := 57) (K := (kx 79 (fun la st h => gR la 0 fun a0 => gI la 2 fun x2 => gI la 3 fun x3 => sE st (p_X9_readUnsure_79 a0 x2 x3 h)) k0)) (FI := FI_X9_readUnsure) (FV := FV_X9_readUnsure) (FL := fL0) (rt := rtV) (ft := 0) (by exact hd) ok_X9_readUnsure_57 (kx_ok (fun la st h e => by obtain ⟨a0, m_a0, e1⟩ := gR_inv e; obtain ⟨x2, m_x2, e2⟩ := gI_inv e1; obtain ⟨x3, m_x3, e3⟩ := gI_inv e2; obtain ⟨rfl, ez⟩ := sE_inv e3; exact gm_fewer (e_X9_readUnsure_79 E  a0 x2 x3 h ez) (mem_cons m_a0 (mem_cons m_x2 (mem_cons m_x3 mem_nil)))) k0_ok) (FI_X9_readUnsure_ok E) (FV_X9_readUnsure_ok E) (fL0_ok E) (rtV_ok rfl)
def I_X9_readUnsure_0 : List AI := [(.aload_n 0, 1, [], 0), (.aload_n 0, 1, [], 0), (.getfield 120, 3, [8, 4, 2, 1349], 0), (.getfield 224, 3, [7, 6, 0, 1498], 0), (.iconst 4, 1, [], 4), (.invokevirtual 189, 3, [2, 215, 3, 8, 1621], 0), (.aload_n 0, 1, [], 0), (.iconst 0, 1, [], 0), (.bipush 15, 2, [], 15), (.invokevirtual 179, 3, [1, 213, 3, 8, 1604], 0), (.istore_n 1, 1, [], 0), (.bipush 8, 2, [], 8), (.iload_n 1, 1, [], 0), (.imul, 1, [], 0), (.aload_n 0, 1, [], 0), (.iconst 0, 1, [], 0), (.bipush 7, 2, [], 7), (.invokevirtual 116, 3, [1, 212, 3, 8, 1608], 0), (.iadd, 1, [], 0), (.istore_n 2, 1, [], 0), (.aload_n 0, 1, [], 0), (.getfield 65, 3, [8, 9, 0, 1354], 0), (.iconst 5, 1, [], 5), (.if_icmp .eq 19, 3, [57], 0), (.aload_n 0, 1, [], 0), (.getfield 120, 3, [8, 4, 2, 1349], 0), (.iload_n 2, 1, [], 0), (.invokevirtual 227, 3, [1, 221, 2, 7, 1654], 0), (.ifCond .eq 8, 3, [57], 0), (.aload_n 0, 1, [], 0), (.iconst 3, 1, [], 3), (.invokevirtual 108, 3, [2, 209, 2, 8, 1595], 0)]
theorem ok_X9_readUnsure_0 : vBL MT qLen qCh false q_X9_readUnsure.2.2.2.2.1 q_X9_readUnsure.2.2.2.2.2.1 q_X9_readUnsure.2.2.1 q_X9_readUnsure.1.cls q_X9_readUnsure.1.name q_X9_readUnsure.2.1 57 0 I_X9_readUnsure_0 = true := by decide +kernel
def p_X9_readUnsure (a0 : Nat) (h : AH) : Option (AH) :=
  if (tg h a0).1 = 8 then (if (tg h (rR h a0 4)).1 = 7 then (if (tg h a0).1 = 8 then ((p_X9_lineBegins a0 (rI h (rR h a0 4) 6) ((4 : Int32)) h).bind fun h109 =>
  if (tg h109 a0).1 = 8 then ((p_X9_readWhole a0 ((0 : Int32)) ((15 : Int32)) h109).bind fun q110 =>
  if (tg q110.2 a0).1 = 8 then ((p_X9_wholeAt a0 ((0 : Int32)) ((7 : Int32)) q110.2).bind fun q111 =>
  let x112 := (((8 : Int32)) * q110.1) + q111.1
  if (tg q111.2 a0).1 = 8 then (if (rI q111.2 a0 9) = ((5 : Int32)) then (p_X9_readUnsure_57 a0 x112 q111.2)
  else
  if (tg q111.2 a0).1 = 8 then (if (tg q111.2 (rR q111.2 a0 4)).1 = 7 then ((p_X8_isUnsure (rR q111.2 a0 4) x112 q111.2).bind fun q113 =>
  if q113.1 = 0 then (p_X9_readUnsure_57 a0 x112 q113.2)
  else
  if (tg q113.2 a0).1 = 8 then ((p_X9_flaw a0 ((3 : Int32)) q113.2).bind fun h114 =>
  p_X9_readUnsure_57 a0 x112 h114) else none) else none) else none) else none) else none) else none) else none) else none) else none
set_option maxRecDepth 100000 in
theorem e_X9_readUnsure_0 {l : Launch} {D : va_G} {dA : Nat → ClassId} {z : Nat} {sa : Nat → Nat} {Hz : Heap} (E : StrOK qLen qCh l D dA z sa Hz) {h0 fin : AH}  : ∀ (a0 : Nat) (h : AH), p_X9_readUnsure a0 h = some fin → GM l D dA z sa Hz q_X9_readUnsure h0 none fin 0 [(0, .ref a0)] [] h := by
  intro a0 h hd
  exact step E (is := I_X9_readUnsure_0) (pc := 0) (K := (kx 57 (fun la st h => gR la 0 fun a0 => gI la 2 fun x2 => sE st (p_X9_readUnsure_57 a0 x2 h)) k0)) (FI := FI_X9_readUnsure) (FV := FV_X9_readUnsure) (FL := fL0) (rt := rtV) (ft := 57) (by exact hd) ok_X9_readUnsure_0 (kx_ok (fun la st h e => by obtain ⟨a0, m_a0, e1⟩ := gR_inv e; obtain ⟨x2, m_x2, e2⟩ := gI_inv e1; obtain ⟨rfl, ez⟩ := sE_inv e2; exact gm_fewer (e_X9_readUnsure_57 E  a0 x2 h ez) (mem_cons m_a0 (mem_cons m_x2 mem_nil))) k0_ok) (FI_X9_readUnsure_ok E) (FV_X9_readUnsure_ok E) (fL0_ok E) (rtV_ok rfl)
theorem c_X9_readUnsure {l : Launch} {D : va_G} {dA : Nat → ClassId} {z : Nat} {sa : Nat → Nat} {Hz : Heap} (E : StrOK qLen qCh l D dA z sa Hz) {a0 : Nat} {h fin : AH} (hd : p_X9_readUnsure a0 h = some fin) : CalOK l D dA z sa Hz q_X9_readUnsure [.ref a0] h none fin := calOf (by decide +kernel) (Nat.le_of_ble_eq_true rfl) (e_X9_readUnsure_0 E a0 h hd)
def I_X8_isSaw_38 : List AI := [(.iconst 0, 1, [], 0), (.ireturn, 1, [], 0)]
theorem ok_X8_isSaw_38 : vBL MT qLen qCh false q_X8_isSaw.2.2.2.2.1 q_X8_isSaw.2.2.2.2.2.1 q_X8_isSaw.2.2.1 q_X8_isSaw.1.cls q_X8_isSaw.1.name q_X8_isSaw.2.1 0 38 I_X8_isSaw_38 = true := by decide +kernel
def p_X8_isSaw_38 (h : AH) : Option (Int32 × AH) :=
  if ((0 : Int32)) &&& 1 = ((0 : Int32)) then some (((0 : Int32)), h) else none
set_option maxRecDepth 100000 in
theorem e_X8_isSaw_38 {l : Launch} {D : va_G} {dA : Nat → ClassId} {z : Nat} {sa : Nat → Nat} {Hz : Heap} (E : StrOK qLen qCh l D dA z sa Hz) {h0 fin : AH} {x : Int32}  : ∀  (h : AH), p_X8_isSaw_38 h = some (x, fin) → GM l D dA z sa Hz q_X8_isSaw h0 (some (.int x)) fin 38 [] [] h := by
  intro h hd
  exact step E (is := I_X8_isSaw_38) (pc := 38) (K := k0) (FI := fI0) (FV := fV0) (FL := fL0) (rt := rtZ) (ft := 0) (by exact hd) ok_X8_isSaw_38 k0_ok (fI0_ok E) (fV0_ok E) (fL0_ok E) (rtZ_ok rfl)
def I_X8_isSaw_32 : List AI := [(.iinc 3 1, 3, [], 1), (.goto (-33), 3, [2], 0)]
theorem ok_X8_isSaw_32 : vBL MT qLen qCh false q_X8_isSaw.2.2.2.2.1 q_X8_isSaw.2.2.2.2.2.1 q_X8_isSaw.2.2.1 q_X8_isSaw.1.cls q_X8_isSaw.1.name q_X8_isSaw.2.1 0 32 I_X8_isSaw_32 = true := by decide +kernel
def p_X8_isSaw_32 (k2 : Nat → Int32 → Int32 → Int32 → AH → Option (Int32 × AH)) (a0 : Nat) (x1 : Int32) (x2 : Int32) (x3 : Int32) (h : AH) : Option (Int32 × AH) :=
  k2 a0 x1 x2 (x3 + (1 : Int32)) h
set_option maxRecDepth 100000 in
theorem e_X8_isSaw_32 {l : Launch} {D : va_G} {dA : Nat → ClassId} {z : Nat} {sa : Nat → Nat} {Hz : Heap} (E : StrOK qLen qCh l D dA z sa Hz) {h0 fin : AH} {x : Int32}  {k2 : Nat → Int32 → Int32 → Int32 → AH → Option (Int32 × AH)} (hk2 : ∀ (a0 : Nat) (x1 : Int32) (x2 : Int32) (x3 : Int32) (h : AH), k2 a0 x1 x2 x3 h = some (x, fin) → GM l D dA z sa Hz q_X8_isSaw h0 (some (.int x)) fin 2 [(0, .ref a0), (1, .int x1), (2, .int x2), (3, .int x3)] [] h) : ∀ (a0 : Nat) (x1 : Int32) (x2 : Int32) (x3 : Int32) (h : AH), p_X8_isSaw_32 k2 a0 x1 x2 x3 h = some (x, fin) → GM l D dA z sa Hz q_X8_isSaw h0 (some (.int x)) fin 32 [(0, .ref a0), (1, .int x1), (2, .int x2), (3, .int x3)] [] h := by
  intro a0 x1 x2 x3 h hd
  exact step E (is := I_X8_isSaw_32) (pc := 32) (K := (kx 2 (fun la st h => gR la 0 fun a0 => gI la 1 fun x1 => gI la 2 fun x2 => gI la 3 fun x3 => sE st (k2 a0 x1 x2 x3 h)) k0)) (FI := fI0) (FV := fV0) (FL := fL0) (rt := rtZ) (ft := 0) (by exact hd) ok_X8_isSaw_32 (kx_ok (fun la st h e => by obtain ⟨a0, m_a0, e1⟩ := gR_inv e; obtain ⟨x1, m_x1, e2⟩ := gI_inv e1; obtain ⟨x2, m_x2, e3⟩ := gI_inv e2; obtain ⟨x3, m_x3, e4⟩ := gI_inv e3; obtain ⟨rfl, ez⟩ := sE_inv e4; exact gm_fewer (hk2 a0 x1 x2 x3 h ez) (mem_cons m_a0 (mem_cons m_x1 (mem_cons m_x2 (mem_cons m_x3 mem_nil))))) k0_ok) (fI0_ok E) (fV0_ok E) (fL0_ok E) (rtZ_ok rfl)
def I_X8_isSaw_2 : List AI := [(.iload_n 3, 1, [], 0), (.aload_n 0, 1, [], 0), (.getfield 47, 3, [7, 7, 0, 1499], 0), (.if_icmp .ge 31, 3, [38], 0), (.aload_n 0, 1, [], 0), (.getfield 34, 3, [7, 15, 2, 1515], 0), (.iload_n 3, 1, [], 0), (.iaload, 1, [], 0), (.iload_n 1, 1, [], 0), (.if_icmp .ne 15, 3, [32], 0), (.aload_n 0, 1, [], 0), (.getfield 37, 3, [7, 16, 2, 1517], 0), (.iload_n 3, 1, [], 0), (.iaload, 1, [], 0), (.iload_n 2, 1, [], 0), (.if_icmp .ne 5, 3, [32], 0), (.iconst 1, 1, [], 1), (.ireturn, 1, [], 0)]
theorem ok_X8_isSaw_2 : vBL MT qLen qCh false q_X8_isSaw.2.2.2.2.1 q_X8_isSaw.2.2.2.2.2.1 q_X8_isSaw.2.2.1 q_X8_isSaw.1.cls q_X8_isSaw.1.name q_X8_isSaw.2.1 0 2 I_X8_isSaw_2 = true := by decide +kernel
def p_X8_isSaw_2 : Nat → Nat → Int32 → Int32 → Int32 → AH → Option (Int32 × AH)
  | 0, _, _, _, _, _ => none
  | n + 1, a0, x1, x2, x3, h => if (tg h a0).1 = 7 then (if x3 < (rI h a0 7) then (if (tg h a0).1 = 7 then (if inB h (rR h a0 15) 100 x3 then (if (rI h (rR h a0 15) x3.toNatClampNeg) = x1 then (if (tg h a0).1 = 7 then (if inB h (rR h a0 16) 100 x3 then (if (rI h (rR h a0 16) x3.toNatClampNeg) = x2 then (if ((1 : Int32)) &&& 1 = ((1 : Int32)) then some (((1 : Int32)), h) else none)
    else
    p_X8_isSaw_32 (p_X8_isSaw_2 n) a0 x1 x2 x3 h) else none) else none)
    else
    p_X8_isSaw_32 (p_X8_isSaw_2 n) a0 x1 x2 x3 h) else none) else none)
    else
    if ((0 : Int32)) &&& 1 = ((0 : Int32)) then some (((0 : Int32)), h) else none) else none
set_option maxRecDepth 100000 in
theorem e_X8_isSaw_2 {l : Launch} {D : va_G} {dA : Nat → ClassId} {z : Nat} {sa : Nat → Nat} {Hz : Heap} (E : StrOK qLen qCh l D dA z sa Hz) {h0 fin : AH} {x : Int32}  : ∀ (n : Nat) (a0 : Nat) (x1 : Int32) (x2 : Int32) (x3 : Int32) (h : AH), p_X8_isSaw_2 n a0 x1 x2 x3 h = some (x, fin) → GM l D dA z sa Hz q_X8_isSaw h0 (some (.int x)) fin 2 [(0, .ref a0), (1, .int x1), (2, .int x2), (3, .int x3)] [] h := by
  intro n
  induction n with
  | zero => intro a0 x1 x2 x3 h hd; exact nomatch hd
  | succ n ih =>
    intro a0 x1 x2 x3 h hd
    exact step E (is := I_X8_isSaw_2) (pc := 2) (K := (kx 38 (fun la st h => sE st (p_X8_isSaw_38 h)) (kx 32 (fun la st h => gR la 0 fun a0 => gI la 1 fun x1 => gI la 2 fun x2 => gI la 3 fun x3 => sE st (p_X8_isSaw_32 (p_X8_isSaw_2 n) a0 x1 x2 x3 h)) k0))) (FI := fI0) (FV := fV0) (FL := fL0) (rt := rtZ) (ft := 0) (by exact hd) ok_X8_isSaw_2 (kx_ok (fun la st h e => by obtain ⟨rfl, ez⟩ := sE_inv e; exact gm_fewer (e_X8_isSaw_38 E   h ez) mem_nil) (kx_ok (fun la st h e => by obtain ⟨a0, m_a0, e1⟩ := gR_inv e; obtain ⟨x1, m_x1, e2⟩ := gI_inv e1; obtain ⟨x2, m_x2, e3⟩ := gI_inv e2; obtain ⟨x3, m_x3, e4⟩ := gI_inv e3; obtain ⟨rfl, ez⟩ := sE_inv e4; exact gm_fewer (e_X8_isSaw_32 E ih a0 x1 x2 x3 h ez) (mem_cons m_a0 (mem_cons m_x1 (mem_cons m_x2 (mem_cons m_x3 mem_nil))))) k0_ok)) (fI0_ok E) (fV0_ok E) (fL0_ok E) (rtZ_ok rfl)
def I_X8_isSaw_0 : List AI := [(.iconst 0, 1, [], 0), (.istore_n 3, 1, [], 0)]
theorem ok_X8_isSaw_0 : vBL MT qLen qCh false q_X8_isSaw.2.2.2.2.1 q_X8_isSaw.2.2.2.2.2.1 q_X8_isSaw.2.2.1 q_X8_isSaw.1.cls q_X8_isSaw.1.name q_X8_isSaw.2.1 2 0 I_X8_isSaw_0 = true := by decide +kernel
def p_X8_isSaw (a0 : Nat) (x1 : Int32) (x2 : Int32) (h : AH) : Option (Int32 × AH) :=
  p_X8_isSaw_2 FU a0 x1 x2 ((0 : Int32)) h
set_option maxRecDepth 100000 in
theorem e_X8_isSaw_0 {l : Launch} {D : va_G} {dA : Nat → ClassId} {z : Nat} {sa : Nat → Nat} {Hz : Heap} (E : StrOK qLen qCh l D dA z sa Hz) {h0 fin : AH} {x : Int32}  : ∀ (a0 : Nat) (x1 : Int32) (x2 : Int32) (h : AH), p_X8_isSaw a0 x1 x2 h = some (x, fin) → GM l D dA z sa Hz q_X8_isSaw h0 (some (.int x)) fin 0 [(0, .ref a0), (1, .int x1), (2, .int x2)] [] h := by
  intro a0 x1 x2 h hd
  exact step E (is := I_X8_isSaw_0) (pc := 0) (K := (kx 2 (fun la st h => gR la 0 fun a0 => gI la 1 fun x1 => gI la 2 fun x2 => gI la 3 fun x3 => sE st (p_X8_isSaw_2 FU a0 x1 x2 x3 h)) k0)) (FI := fI0) (FV := fV0) (FL := fL0) (rt := rtZ) (ft := 2) (by exact hd) ok_X8_isSaw_0 (kx_ok (fun la st h e => by obtain ⟨a0, m_a0, e1⟩ := gR_inv e; obtain ⟨x1, m_x1, e2⟩ := gI_inv e1; obtain ⟨x2, m_x2, e3⟩ := gI_inv e2; obtain ⟨x3, m_x3, e4⟩ := gI_inv e3; obtain ⟨rfl, ez⟩ := sE_inv e4; exact gm_fewer (e_X8_isSaw_2 E  FU a0 x1 x2 x3 h ez) (mem_cons m_a0 (mem_cons m_x1 (mem_cons m_x2 (mem_cons m_x3 mem_nil))))) k0_ok) (fI0_ok E) (fV0_ok E) (fL0_ok E) (rtZ_ok rfl)
theorem c_X8_isSaw {l : Launch} {D : va_G} {dA : Nat → ClassId} {z : Nat} {sa : Nat → Nat} {Hz : Heap} (E : StrOK qLen qCh l D dA z sa Hz) {a0 : Nat} {x1 : Int32} {x2 : Int32} {h fin : AH} {x : Int32} (hd : p_X8_isSaw a0 x1 x2 h = some (x, fin)) : CalOK l D dA z sa Hz q_X8_isSaw [.ref a0, .int x1, .int x2] h (some (.int x)) fin := calOf (by decide +kernel) (Nat.le_of_ble_eq_true rfl) (e_X8_isSaw_0 E a0 x1 x2 h hd)
def FI_X9_readSaw : Nat → List Value → AH → Option (Int32 × AH) := (cx 213 (fun As h => sR As fun a0 As => sI As fun x1 As => sI As fun x2 As => sE As (p_X9_readWhole a0 x1 x2 h)) (cx 219 (fun As h => sR As fun a0 As => sE As (p_X9_modeAt a0 h)) (cx 223 (fun As h => sR As fun a0 As => sI As fun x1 As => sI As fun x2 As => sE As (p_X8_isSaw a0 x1 x2 h)) (cx 208 (fun As h => sR As fun a0 As => sT As fun t1 As => sE As (p_X9_isWord a0 t1 h)) fI0))))
theorem FI_X9_readSaw_ok {l : Launch} {D : va_G} {dA : Nat → ClassId} {z : Nat} {sa : Nat → Nat} {Hz : Heap} (E : StrOK qLen qCh l D dA z sa Hz) : ∀ mi As h x h', FI_X9_readSaw mi As h = some (x, h') → CalOK l D dA z sa Hz (MT mi) As h (some (.int x)) h' := (cxI_ok (fun As h x h2 e => by obtain ⟨_, _, rfl, e0⟩ := sR_inv e; obtain ⟨_, _, rfl, e1⟩ := sI_inv e0; obtain ⟨_, _, rfl, e2⟩ := sI_inv e1; obtain ⟨rfl, ez⟩ := sE_inv e2; exact c_X9_readWhole E ez) ((cxI_ok (fun As h x h2 e => by obtain ⟨_, _, rfl, e0⟩ := sR_inv e; obtain ⟨rfl, ez⟩ := sE_inv e0; exact c_X9_modeAt E ez) ((cxI_ok (fun As h x h2 e => by obtain ⟨_, _, rfl, e0⟩ := sR_inv e; obtain ⟨_, _, rfl, e1⟩ := sI_inv e0; obtain ⟨_, _, rfl, e2⟩ := sI_inv e1; obtain ⟨rfl, ez⟩ := sE_inv e2; exact c_X8_isSaw E ez) ((cxI_ok (fun As h x h2 e => by obtain ⟨_, _, rfl, e0⟩ := sR_inv e; obtain ⟨_, _, rfl, e1⟩ := sT_inv e0; obtain ⟨rfl, ez⟩ := sE_inv e1; exact c_X9_isWord E ez) (fI0_ok E))))))))
def FV_X9_readSaw : Nat → List Value → AH → Option (AH) := (cx 215 (fun As h => sR As fun a0 As => sI As fun x1 As => sI As fun x2 As => sE As (p_X9_lineBegins a0 x1 x2 h)) (cx 209 (fun As h => sR As fun a0 As => sI As fun x1 As => sE As (p_X9_flaw a0 x1 h)) (cx 206 (fun As h => sR As fun a0 As => sE As (p_X9_goesOn a0 h)) fV0)))
theorem FV_X9_readSaw_ok {l : Launch} {D : va_G} {dA : Nat → ClassId} {z : Nat} {sa : Nat → Nat} {Hz : Heap} (E : StrOK qLen qCh l D dA z sa Hz) : ∀ mi As h h', FV_X9_readSaw mi As h = some h' → CalOK l D dA z sa Hz (MT mi) As h none h' := (cxV_ok (fun As h h2 e => by obtain ⟨_, _, rfl, e0⟩ := sR_inv e; obtain ⟨_, _, rfl, e1⟩ := sI_inv e0; obtain ⟨_, _, rfl, e2⟩ := sI_inv e1; obtain ⟨rfl, ez⟩ := sE_inv e2; exact c_X9_lineBegins E ez) ((cxV_ok (fun As h h2 e => by obtain ⟨_, _, rfl, e0⟩ := sR_inv e; obtain ⟨_, _, rfl, e1⟩ := sI_inv e0; obtain ⟨rfl, ez⟩ := sE_inv e1; exact c_X9_flaw E ez) ((cxV_ok (fun As h h2 e => by obtain ⟨_, _, rfl, e0⟩ := sR_inv e; obtain ⟨rfl, ez⟩ := sE_inv e0; exact c_X9_goesOn E ez) (fV0_ok E))))))
def I_X9_readSaw_135 : List AI := [(.aload_n 0, 1, [], 0), (.getfield 120, 3, [8, 4, 2, 1349], 0), (.getfield 250, 3, [7, 15, 2, 1516], 0), (.aload_n 0, 1, [], 0), (.getfield 120, 3, [8, 4, 2, 1349], 0), (.getfield 235, 3, [7, 7, 0, 1500], 0), (.iload_n 1, 1, [], 0), (.iastore, 1, [], 0), (.aload_n 0, 1, [], 0), (.getfield 120, 3, [8, 4, 2, 1349], 0), (.getfield 252, 3, [7, 16, 2, 1518], 0), (.aload_n 0, 1, [], 0), (.getfield 120, 3, [8, 4, 2, 1349], 0), (.getfield 235, 3, [7, 7, 0, 1500], 0), (.iload_n 2, 1, [], 0), (.iastore, 1, [], 0), (.aload_n 0, 1, [], 0), (.getfield 120, 3, [8, 4, 2, 1349], 0), (.getfield 255, 3, [7, 17, 2, 1520], 0), (.aload_n 0, 1, [], 0), (.getfield 120, 3, [8, 4, 2, 1349], 0), (.getfield 235, 3, [7, 7, 0, 1500], 0), (.iload_n 3, 1, [], 0), (.iastore, 1, [], 0), (.aload_n 0, 1, [], 0), (.getfield 120, 3, [8, 4, 2, 1349], 0), (.dup, 1, [], 0), (.getfield 235, 3, [7, 7, 0, 1500], 0), (.iconst 1, 1, [], 1), (.iadd, 1, [], 0), (.putfield 235, 3, [7, 7, 0, 1500], 0), (.return_, 1, [], 0)]
theorem ok_X9_readSaw_135 : vBL MT qLen qCh false q_X9_readSaw.2.2.2.2.1 q_X9_readSaw.2.2.2.2.2.1 q_X9_readSaw.2.2.1 q_X9_readSaw.1.cls q_X9_readSaw.1.name q_X9_readSaw.2.1 0 135 I_X9_readSaw_135 = true := by decide +kernel
def p_X9_readSaw_135 (a0 : Nat) (x1 : Int32) (x2 : Int32) (x3 : Int32) (h : AH) : Option (AH) :=
  if (tg h a0).1 = 8 then (if (tg h (rR h a0 4)).1 = 7 then (if (tg h a0).1 = 8 then (if (tg h (rR h a0 4)).1 = 7 then (if inB h (rR h (rR h a0 4) 15) 100 (rI h (rR h a0 4) 7) then (let h101 := wI h (rR h (rR h a0 4) 15) (rI h (rR h a0 4) 7).toNatClampNeg x1
  if (tg h101 a0).1 = 8 then (if (tg h101 (rR h101 a0 4)).1 = 7 then (if (tg h101 a0).1 = 8 then (if (tg h101 (rR h101 a0 4)).1 = 7 then (if inB h101 (rR h101 (rR h101 a0 4) 16) 100 (rI h101 (rR h101 a0 4) 7) then (let h102 := wI h101 (rR h101 (rR h101 a0 4) 16) (rI h101 (rR h101 a0 4) 7).toNatClampNeg x2
  if (tg h102 a0).1 = 8 then (if (tg h102 (rR h102 a0 4)).1 = 7 then (if (tg h102 a0).1 = 8 then (if (tg h102 (rR h102 a0 4)).1 = 7 then (if inB h102 (rR h102 (rR h102 a0 4) 17) 100 (rI h102 (rR h102 a0 4) 7) then (let h103 := wI h102 (rR h102 (rR h102 a0 4) 17) (rI h102 (rR h102 a0 4) 7).toNatClampNeg x3
  if (tg h103 a0).1 = 8 then (if (tg h103 (rR h103 a0 4)).1 = 7 then (if (tg h103 (rR h103 a0 4)).1 = 7 then (let h104 := wI h103 (rR h103 a0 4) 7 ((rI h103 (rR h103 a0 4) 7) + ((1 : Int32)))
  some h104) else none) else none) else none) else none) else none) else none) else none) else none) else none) else none) else none) else none) else none) else none) else none) else none) else none) else none
set_option maxRecDepth 100000 in
theorem e_X9_readSaw_135 {l : Launch} {D : va_G} {dA : Nat → ClassId} {z : Nat} {sa : Nat → Nat} {Hz : Heap} (E : StrOK qLen qCh l D dA z sa Hz) {h0 fin : AH}  : ∀ (a0 : Nat) (x1 : Int32) (x2 : Int32) (x3 : Int32) (h : AH), p_X9_readSaw_135 a0 x1 x2 x3 h = some fin → GM l D dA z sa Hz q_X9_readSaw h0 none fin 135 [(0, .ref a0), (1, .int x1), (2, .int x2), (3, .int x3)] [] h := by
  intro a0 x1 x2 x3 h hd
  exact step E (is := I_X9_readSaw_135) (pc := 135) (K := k0) (FI := FI_X9_readSaw) (FV := FV_X9_readSaw) (FL := fL0) (rt := rtV) (ft := 0) (by exact hd) ok_X9_readSaw_135 k0_ok (FI_X9_readSaw_ok E) (FV_X9_readSaw_ok E) (fL0_ok E) (rtV_ok rfl)
def I_X9_readSaw_122 : List AI := [(.aload_n 0, 1, [], 0), (.invokevirtual 101, 3, [2, 206, 1, 8, 1558], 0), (.aload_n 0, 1, [], 0), (.getfield 65, 3, [8, 9, 0, 1354], 0), (.iconst 5, 1, [], 5), (.if_icmp .ne 4, 3, [135], 0), (.return_, 1, [], 0)]
theorem ok_X9_readSaw_122 : vBL MT qLen qCh false q_X9_readSaw.2.2.2.2.1 q_X9_readSaw.2.2.2.2.2.1 q_X9_readSaw.2.2.1 q_X9_readSaw.1.cls q_X9_readSaw.1.name q_X9_readSaw.2.1 0 122 I_X9_readSaw_122 = true := by decide +kernel
def p_X9_readSaw_122 (a0 : Nat) (x1 : Int32) (x2 : Int32) (x3 : Int32) (h : AH) : Option (AH) :=
  if (tg h a0).1 = 8 then ((p_X9_goesOn a0 h).bind fun h105 =>
  if (tg h105 a0).1 = 8 then (if (rI h105 a0 9) = ((5 : Int32)) then (some h105)
  else
  if (tg h105 a0).1 = 8 then (if (tg h105 (rR h105 a0 4)).1 = 7 then (if (tg h105 a0).1 = 8 then (if (tg h105 (rR h105 a0 4)).1 = 7 then (if inB h105 (rR h105 (rR h105 a0 4) 15) 100 (rI h105 (rR h105 a0 4) 7) then (let h106 := wI h105 (rR h105 (rR h105 a0 4) 15) (rI h105 (rR h105 a0 4) 7).toNatClampNeg x1
  if (tg h106 a0).1 = 8 then (if (tg h106 (rR h106 a0 4)).1 = 7 then (if (tg h106 a0).1 = 8 then (if (tg h106 (rR h106 a0 4)).1 = 7 then (if inB h106 (rR h106 (rR h106 a0 4) 16) 100 (rI h106 (rR h106 a0 4) 7) then (let h107 := wI h106 (rR h106 (rR h106 a0 4) 16) (rI h106 (rR h106 a0 4) 7).toNatClampNeg x2
  if (tg h107 a0).1 = 8 then (if (tg h107 (rR h107 a0 4)).1 = 7 then (if (tg h107 a0).1 = 8 then (if (tg h107 (rR h107 a0 4)).1 = 7 then (if inB h107 (rR h107 (rR h107 a0 4) 17) 100 (rI h107 (rR h107 a0 4) 7) then (let h108 := wI h107 (rR h107 (rR h107 a0 4) 17) (rI h107 (rR h107 a0 4) 7).toNatClampNeg x3
  if (tg h108 a0).1 = 8 then (if (tg h108 (rR h108 a0 4)).1 = 7 then (if (tg h108 (rR h108 a0 4)).1 = 7 then (let h109 := wI h108 (rR h108 a0 4) 7 ((rI h108 (rR h108 a0 4) 7) + ((1 : Int32)))
  some h109) else none) else none) else none) else none) else none) else none) else none) else none) else none) else none) else none) else none) else none) else none) else none) else none) else none) else none) else none) else none
set_option maxRecDepth 100000 in
theorem e_X9_readSaw_122 {l : Launch} {D : va_G} {dA : Nat → ClassId} {z : Nat} {sa : Nat → Nat} {Hz : Heap} (E : StrOK qLen qCh l D dA z sa Hz) {h0 fin : AH}  : ∀ (a0 : Nat) (x1 : Int32) (x2 : Int32) (x3 : Int32) (h : AH), p_X9_readSaw_122 a0 x1 x2 x3 h = some fin → GM l D dA z sa Hz q_X9_readSaw h0 none fin 122 [(0, .ref a0), (1, .int x1), (2, .int x2), (3, .int x3)] [] h := by
  intro a0 x1 x2 x3 h hd
  exact step E (is := I_X9_readSaw_122) (pc := 122) (K := (kx 135 (fun la st h => gR la 0 fun a0 => gI la 1 fun x1 => gI la 2 fun x2 => gI la 3 fun x3 => sE st (p_X9_readSaw_135 a0 x1 x2 x3 h)) k0)) (FI := FI_X9_readSaw) (FV := FV_X9_readSaw) (FL := fL0) (rt := rtV) (ft := 0) (by exact hd) ok_X9_readSaw_122 (kx_ok (fun la st h e => by obtain ⟨a0, m_a0, e1⟩ := gR_inv e; obtain ⟨x1, m_x1, e2⟩ := gI_inv e1; obtain ⟨x2, m_x2, e3⟩ := gI_inv e2; obtain ⟨x3, m_x3, e4⟩ := gI_inv e3; obtain ⟨rfl, ez⟩ := sE_inv e4; exact gm_fewer (e_X9_readSaw_135 E  a0 x1 x2 x3 h ez) (mem_cons m_a0 (mem_cons m_x1 (mem_cons m_x2 (mem_cons m_x3 mem_nil))))) k0_ok) (FI_X9_readSaw_ok E) (FV_X9_readSaw_ok E) (fL0_ok E) (rtV_ok rfl)
def I_X9_readSaw_111 : List AI := [(.istore_n 3, 1, [], 0), (.iload_n 3, 1, [], 0), (.iconst 1, 1, [], 1), (.if_icmp .ne 8, 3, [122], 0), (.aload_n 0, 1, [], 0), (.iconst 1, 1, [], 1), (.invokevirtual 108, 3, [2, 209, 2, 8, 1595], 0)]
theorem ok_X9_readSaw_111 : vBL MT qLen qCh false q_X9_readSaw.2.2.2.2.1 q_X9_readSaw.2.2.2.2.2.1 q_X9_readSaw.2.2.1 q_X9_readSaw.1.cls q_X9_readSaw.1.name q_X9_readSaw.2.1 122 111 I_X9_readSaw_111 = true := by decide +kernel
def p_X9_readSaw_111 (a0 : Nat) (x1 : Int32) (x2 : Int32) (y0 : Int32) (h : AH) : Option (AH) :=
  if y0 = ((1 : Int32)) then (if (tg h a0).1 = 8 then ((p_X9_flaw a0 ((1 : Int32)) h).bind fun h110 =>
  p_X9_readSaw_122 a0 x1 x2 y0 h110) else none)
  else
  p_X9_readSaw_122 a0 x1 x2 y0 h
set_option maxRecDepth 100000 in
theorem e_X9_readSaw_111 {l : Launch} {D : va_G} {dA : Nat → ClassId} {z : Nat} {sa : Nat → Nat} {Hz : Heap} (E : StrOK qLen qCh l D dA z sa Hz) {h0 fin : AH}  : ∀ (a0 : Nat) (x1 : Int32) (x2 : Int32) (y0 : Int32) (h : AH), p_X9_readSaw_111 a0 x1 x2 y0 h = some fin → GM l D dA z sa Hz q_X9_readSaw h0 none fin 111 [(0, .ref a0), (1, .int x1), (2, .int x2)] [.int y0] h := by
  intro a0 x1 x2 y0 h hd
  exact step E (is := I_X9_readSaw_111) (pc := 111) (K := (kx 122 (fun la st h => gR la 0 fun a0 => gI la 1 fun x1 => gI la 2 fun x2 => gI la 3 fun x3 => sE st (p_X9_readSaw_122 a0 x1 x2 x3 h)) k0)) (FI := FI_X9_readSaw) (FV := FV_X9_readSaw) (FL := fL0) (rt := rtV) (ft := 122) (by exact hd) ok_X9_readSaw_111 (kx_ok (fun la st h e => by obtain ⟨a0, m_a0, e1⟩ := gR_inv e; obtain ⟨x1, m_x1, e2⟩ := gI_inv e1; obtain ⟨x2, m_x2, e3⟩ := gI_inv e2; obtain ⟨x3, m_x3, e4⟩ := gI_inv e3; obtain ⟨rfl, ez⟩ := sE_inv e4; exact gm_fewer (e_X9_readSaw_122 E  a0 x1 x2 x3 h ez) (mem_cons m_a0 (mem_cons m_x1 (mem_cons m_x2 (mem_cons m_x3 mem_nil))))) k0_ok) (FI_X9_readSaw_ok E) (FV_X9_readSaw_ok E) (fL0_ok E) (rtV_ok rfl)
def I_X9_readSaw_110 : List AI := [(.iconst 1, 1, [], 1)]
theorem ok_X9_readSaw_110 : vBL MT qLen qCh false q_X9_readSaw.2.2.2.2.1 q_X9_readSaw.2.2.2.2.2.1 q_X9_readSaw.2.2.1 q_X9_readSaw.1.cls q_X9_readSaw.1.name q_X9_readSaw.2.1 111 110 I_X9_readSaw_110 = true := by decide +kernel
def p_X9_readSaw_110 (a0 : Nat) (x1 : Int32) (x2 : Int32) (h : AH) : Option (AH) :=
  p_X9_readSaw_111 a0 x1 x2 ((1 : Int32)) h
set_option maxRecDepth 100000 in
theorem e_X9_readSaw_110 {l : Launch} {D : va_G} {dA : Nat → ClassId} {z : Nat} {sa : Nat → Nat} {Hz : Heap} (E : StrOK qLen qCh l D dA z sa Hz) {h0 fin : AH}  : ∀ (a0 : Nat) (x1 : Int32) (x2 : Int32) (h : AH), p_X9_readSaw_110 a0 x1 x2 h = some fin → GM l D dA z sa Hz q_X9_readSaw h0 none fin 110 [(0, .ref a0), (1, .int x1), (2, .int x2)] [] h := by
  intro a0 x1 x2 h hd
  exact step E (is := I_X9_readSaw_110) (pc := 110) (K := (kx 111 (fun la st h => gR la 0 fun a0 => gI la 1 fun x1 => gI la 2 fun x2 => sI st fun y0 st => sE st (p_X9_readSaw_111 a0 x1 x2 y0 h)) k0)) (FI := FI_X9_readSaw) (FV := FV_X9_readSaw) (FL := fL0) (rt := rtV) (ft := 111) (by exact hd) ok_X9_readSaw_110 (kx_ok (fun la st h e => by obtain ⟨a0, m_a0, e1⟩ := gR_inv e; obtain ⟨x1, m_x1, e2⟩ := gI_inv e1; obtain ⟨x2, m_x2, e3⟩ := gI_inv e2; obtain ⟨y0, _, rfl, e4⟩ := sI_inv e3; obtain ⟨rfl, ez⟩ := sE_inv e4; exact gm_fewer (e_X9_readSaw_111 E  a0 x1 x2 y0 h ez) (mem_cons m_a0 (mem_cons m_x1 (mem_cons m_x2 mem_nil)))) k0_ok) (FI_X9_readSaw_ok E) (FV_X9_readSaw_ok E) (fL0_ok E) (rtV_ok rfl)
def I_X9_readSaw_96 : List AI := [(.aload_n 0, 1, [], 0), (.ldc 248, 2, [18, 0], 0), (.invokevirtual 104, 3, [1, 208, 2, 8, 1582], 0), (.ifCond .eq 8, 3, [110], 0), (.bipush (-4), 2, [], (-4)), (.goto 4, 3, [111], 0)]
theorem ok_X9_readSaw_96 : vBL MT qLen qCh false q_X9_readSaw.2.2.2.2.1 q_X9_readSaw.2.2.2.2.2.1 q_X9_readSaw.2.2.1 q_X9_readSaw.1.cls q_X9_readSaw.1.name q_X9_readSaw.2.1 0 96 I_X9_readSaw_96 = true := by decide +kernel
def p_X9_readSaw_96 (a0 : Nat) (x1 : Int32) (x2 : Int32) (h : AH) : Option (AH) :=
  if (tg h a0).1 = 8 then ((p_X9_isWord a0 18 h).bind fun q111 =>
  if q111.1 = 0 then (p_X9_readSaw_111 a0 x1 x2 ((1 : Int32)) q111.2)
  else
  p_X9_readSaw_111 a0 x1 x2 ((-4 : Int32)) q111.2) else none
set_option maxRecDepth 100000 in
theorem e_X9_readSaw_96 {l : Launch} {D : va_G} {dA : Nat → ClassId} {z : Nat} {sa : Nat → Nat} {Hz : Heap} (E : StrOK qLen qCh l D dA z sa Hz) {h0 fin : AH}  : ∀ (a0 : Nat) (x1 : Int32) (x2 : Int32) (h : AH), p_X9_readSaw_96 a0 x1 x2 h = some fin → GM l D dA z sa Hz q_X9_readSaw h0 none fin 96 [(0, .ref a0), (1, .int x1), (2, .int x2)] [] h := by
  intro a0 x1 x2 h hd
  exact step E (is := I_X9_readSaw_96) (pc := 96) (K := (kx 110 (fun la st h => gR la 0 fun a0 => gI la 1 fun x1 => gI la 2 fun x2 => sE st (p_X9_readSaw_110 a0 x1 x2 h)) (kx 111 (fun la st h => gR la 0 fun a0 => gI la 1 fun x1 => gI la 2 fun x2 => sI st fun y0 st => sE st (p_X9_readSaw_111 a0 x1 x2 y0 h)) k0))) (FI := FI_X9_readSaw) (FV := FV_X9_readSaw) (FL := fL0) (rt := rtV) (ft := 0) (by exact hd) ok_X9_readSaw_96 (kx_ok (fun la st h e => by obtain ⟨a0, m_a0, e1⟩ := gR_inv e; obtain ⟨x1, m_x1, e2⟩ := gI_inv e1; obtain ⟨x2, m_x2, e3⟩ := gI_inv e2; obtain ⟨rfl, ez⟩ := sE_inv e3; exact gm_fewer (e_X9_readSaw_110 E  a0 x1 x2 h ez) (mem_cons m_a0 (mem_cons m_x1 (mem_cons m_x2 mem_nil)))) (kx_ok (fun la st h e => by obtain ⟨a0, m_a0, e1⟩ := gR_inv e; obtain ⟨x1, m_x1, e2⟩ := gI_inv e1; obtain ⟨x2, m_x2, e3⟩ := gI_inv e2; obtain ⟨y0, _, rfl, e4⟩ := sI_inv e3; obtain ⟨rfl, ez⟩ := sE_inv e4; exact gm_fewer (e_X9_readSaw_111 E  a0 x1 x2 y0 h ez) (mem_cons m_a0 (mem_cons m_x1 (mem_cons m_x2 mem_nil)))) k0_ok)) (FI_X9_readSaw_ok E) (FV_X9_readSaw_ok E) (fL0_ok E) (rtV_ok rfl)
def I_X9_readSaw_82 : List AI := [(.aload_n 0, 1, [], 0), (.ldc 246, 2, [17, 0], 0), (.invokevirtual 104, 3, [1, 208, 2, 8, 1582], 0), (.ifCond .eq 8, 3, [96], 0), (.bipush (-3), 2, [], (-3)), (.goto 18, 3, [111], 0)]
theorem ok_X9_readSaw_82 : vBL MT qLen qCh false q_X9_readSaw.2.2.2.2.1 q_X9_readSaw.2.2.2.2.2.1 q_X9_readSaw.2.2.1 q_X9_readSaw.1.cls q_X9_readSaw.1.name q_X9_readSaw.2.1 0 82 I_X9_readSaw_82 = true := by decide +kernel
def p_X9_readSaw_82 (a0 : Nat) (x1 : Int32) (x2 : Int32) (h : AH) : Option (AH) :=
  if (tg h a0).1 = 8 then ((p_X9_isWord a0 17 h).bind fun q112 =>
  if q112.1 = 0 then (if (tg q112.2 a0).1 = 8 then ((p_X9_isWord a0 18 q112.2).bind fun q113 =>
  if q113.1 = 0 then (p_X9_readSaw_111 a0 x1 x2 ((1 : Int32)) q113.2)
  else
  p_X9_readSaw_111 a0 x1 x2 ((-4 : Int32)) q113.2) else none)
  else
  p_X9_readSaw_111 a0 x1 x2 ((-3 : Int32)) q112.2) else none
set_option maxRecDepth 100000 in
theorem e_X9_readSaw_82 {l : Launch} {D : va_G} {dA : Nat → ClassId} {z : Nat} {sa : Nat → Nat} {Hz : Heap} (E : StrOK qLen qCh l D dA z sa Hz) {h0 fin : AH}  : ∀ (a0 : Nat) (x1 : Int32) (x2 : Int32) (h : AH), p_X9_readSaw_82 a0 x1 x2 h = some fin → GM l D dA z sa Hz q_X9_readSaw h0 none fin 82 [(0, .ref a0), (1, .int x1), (2, .int x2)] [] h := by
  intro a0 x1 x2 h hd
  exact step E (is := I_X9_readSaw_82) (pc := 82) (K := (kx 96 (fun la st h => gR la 0 fun a0 => gI la 1 fun x1 => gI la 2 fun x2 => sE st (p_X9_readSaw_96 a0 x1 x2 h)) (kx 111 (fun la st h => gR la 0 fun a0 => gI la 1 fun x1 => gI la 2 fun x2 => sI st fun y0 st => sE st (p_X9_readSaw_111 a0 x1 x2 y0 h)) k0))) (FI := FI_X9_readSaw) (FV := FV_X9_readSaw) (FL := fL0) (rt := rtV) (ft := 0) (by exact hd) ok_X9_readSaw_82 (kx_ok (fun la st h e => by obtain ⟨a0, m_a0, e1⟩ := gR_inv e; obtain ⟨x1, m_x1, e2⟩ := gI_inv e1; obtain ⟨x2, m_x2, e3⟩ := gI_inv e2; obtain ⟨rfl, ez⟩ := sE_inv e3; exact gm_fewer (e_X9_readSaw_96 E  a0 x1 x2 h ez) (mem_cons m_a0 (mem_cons m_x1 (mem_cons m_x2 mem_nil)))) (kx_ok (fun la st h e => by obtain ⟨a0, m_a0, e1⟩ := gR_inv e; obtain ⟨x1, m_x1, e2⟩ := gI_inv e1; obtain ⟨x2, m_x2, e3⟩ := gI_inv e2; obtain ⟨y0, _, rfl, e4⟩ := sI_inv e3; obtain ⟨rfl, ez⟩ := sE_inv e4; exact gm_fewer (e_X9_readSaw_111 E  a0 x1 x2 y0 h ez) (mem_cons m_a0 (mem_cons m_x1 (mem_cons m_x2 mem_nil)))) k0_ok)) (FI_X9_readSaw_ok E) (FV_X9_readSaw_ok E) (fL0_ok E) (rtV_ok rfl)
def I_X9_readSaw_68 : List AI := [(.aload_n 0, 1, [], 0), (.ldc 244, 2, [16, 0], 0), (.invokevirtual 104, 3, [1, 208, 2, 8, 1582], 0), (.ifCond .eq 8, 3, [82], 0), (.bipush (-2), 2, [], (-2)), (.goto 32, 3, [111], 0)]
theorem ok_X9_readSaw_68 : vBL MT qLen qCh false q_X9_readSaw.2.2.2.2.1 q_X9_readSaw.2.2.2.2.2.1 q_X9_readSaw.2.2.1 q_X9_readSaw.1.cls q_X9_readSaw.1.name q_X9_readSaw.2.1 0 68 I_X9_readSaw_68 = true := by decide +kernel
def p_X9_readSaw_68 (a0 : Nat) (x1 : Int32) (x2 : Int32) (h : AH) : Option (AH) :=
  if (tg h a0).1 = 8 then ((p_X9_isWord a0 16 h).bind fun q114 =>
  if q114.1 = 0 then (if (tg q114.2 a0).1 = 8 then ((p_X9_isWord a0 17 q114.2).bind fun q115 =>
  if q115.1 = 0 then (if (tg q115.2 a0).1 = 8 then ((p_X9_isWord a0 18 q115.2).bind fun q116 =>
  if q116.1 = 0 then (p_X9_readSaw_111 a0 x1 x2 ((1 : Int32)) q116.2)
  else
  p_X9_readSaw_111 a0 x1 x2 ((-4 : Int32)) q116.2) else none)
  else
  p_X9_readSaw_111 a0 x1 x2 ((-3 : Int32)) q115.2) else none)
  else
  p_X9_readSaw_111 a0 x1 x2 ((-2 : Int32)) q114.2) else none
set_option maxRecDepth 100000 in
theorem e_X9_readSaw_68 {l : Launch} {D : va_G} {dA : Nat → ClassId} {z : Nat} {sa : Nat → Nat} {Hz : Heap} (E : StrOK qLen qCh l D dA z sa Hz) {h0 fin : AH}  : ∀ (a0 : Nat) (x1 : Int32) (x2 : Int32) (h : AH), p_X9_readSaw_68 a0 x1 x2 h = some fin → GM l D dA z sa Hz q_X9_readSaw h0 none fin 68 [(0, .ref a0), (1, .int x1), (2, .int x2)] [] h := by
  intro a0 x1 x2 h hd
  exact step E (is := I_X9_readSaw_68) (pc := 68) (K := (kx 82 (fun la st h => gR la 0 fun a0 => gI la 1 fun x1 => gI la 2 fun x2 => sE st (p_X9_readSaw_82 a0 x1 x2 h)) (kx 111 (fun la st h => gR la 0 fun a0 => gI la 1 fun x1 => gI la 2 fun x2 => sI st fun y0 st => sE st (p_X9_readSaw_111 a0 x1 x2 y0 h)) k0))) (FI := FI_X9_readSaw) (FV := FV_X9_readSaw) (FL := fL0) (rt := rtV) (ft := 0) (by exact hd) ok_X9_readSaw_68 (kx_ok (fun la st h e => by obtain ⟨a0, m_a0, e1⟩ := gR_inv e; obtain ⟨x1, m_x1, e2⟩ := gI_inv e1; obtain ⟨x2, m_x2, e3⟩ := gI_inv e2; obtain ⟨rfl, ez⟩ := sE_inv e3; exact gm_fewer (e_X9_readSaw_82 E  a0 x1 x2 h ez) (mem_cons m_a0 (mem_cons m_x1 (mem_cons m_x2 mem_nil)))) (kx_ok (fun la st h e => by obtain ⟨a0, m_a0, e1⟩ := gR_inv e; obtain ⟨x1, m_x1, e2⟩ := gI_inv e1; obtain ⟨x2, m_x2, e3⟩ := gI_inv e2; obtain ⟨y0, _, rfl, e4⟩ := sI_inv e3; obtain ⟨rfl, ez⟩ := sE_inv e4; exact gm_fewer (e_X9_readSaw_111 E  a0 x1 x2 y0 h ez) (mem_cons m_a0 (mem_cons m_x1 (mem_cons m_x2 mem_nil)))) k0_ok)) (FI_X9_readSaw_ok E) (FV_X9_readSaw_ok E) (fL0_ok E) (rtV_ok rfl)
def I_X9_readSaw_51 : List AI := [(.aload_n 0, 1, [], 0), (.invokevirtual 101, 3, [2, 206, 1, 8, 1558], 0), (.aload_n 0, 1, [], 0), (.ldc 242, 2, [15, 0], 0), (.invokevirtual 104, 3, [1, 208, 2, 8, 1582], 0), (.ifCond .eq 7, 3, [68], 0), (.iconst 0, 1, [], 0), (.goto 46, 3, [111], 0)]
theorem ok_X9_readSaw_51 : vBL MT qLen qCh false q_X9_readSaw.2.2.2.2.1 q_X9_readSaw.2.2.2.2.2.1 q_X9_readSaw.2.2.1 q_X9_readSaw.1.cls q_X9_readSaw.1.name q_X9_readSaw.2.1 0 51 I_X9_readSaw_51 = true := by decide +kernel
def p_X9_readSaw_51 (a0 : Nat) (x1 : Int32) (x2 : Int32) (h : AH) : Option (AH) :=
  if (tg h a0).1 = 8 then ((p_X9_goesOn a0 h).bind fun h117 =>
  if (tg h117 a0).1 = 8 then ((p_X9_isWord a0 15 h117).bind fun q118 =>
  if q118.1 = 0 then (if (tg q118.2 a0).1 = 8 then ((p_X9_isWord a0 16 q118.2).bind fun q119 =>
  if q119.1 = 0 then (if (tg q119.2 a0).1 = 8 then ((p_X9_isWord a0 17 q119.2).bind fun q120 =>
  if q120.1 = 0 then (if (tg q120.2 a0).1 = 8 then ((p_X9_isWord a0 18 q120.2).bind fun q121 =>
  if q121.1 = 0 then (p_X9_readSaw_111 a0 x1 x2 ((1 : Int32)) q121.2)
  else
  p_X9_readSaw_111 a0 x1 x2 ((-4 : Int32)) q121.2) else none)
  else
  p_X9_readSaw_111 a0 x1 x2 ((-3 : Int32)) q120.2) else none)
  else
  p_X9_readSaw_111 a0 x1 x2 ((-2 : Int32)) q119.2) else none)
  else
  p_X9_readSaw_111 a0 x1 x2 ((0 : Int32)) q118.2) else none) else none
set_option maxRecDepth 100000 in
theorem e_X9_readSaw_51 {l : Launch} {D : va_G} {dA : Nat → ClassId} {z : Nat} {sa : Nat → Nat} {Hz : Heap} (E : StrOK qLen qCh l D dA z sa Hz) {h0 fin : AH}  : ∀ (a0 : Nat) (x1 : Int32) (x2 : Int32) (h : AH), p_X9_readSaw_51 a0 x1 x2 h = some fin → GM l D dA z sa Hz q_X9_readSaw h0 none fin 51 [(0, .ref a0), (1, .int x1), (2, .int x2)] [] h := by
  intro a0 x1 x2 h hd
  exact step E (is := I_X9_readSaw_51) (pc := 51) (K := (kx 68 (fun la st h => gR la 0 fun a0 => gI la 1 fun x1 => gI la 2 fun x2 => sE st (p_X9_readSaw_68 a0 x1 x2 h)) (kx 111 (fun la st h => gR la 0 fun a0 => gI la 1 fun x1 => gI la 2 fun x2 => sI st fun y0 st => sE st (p_X9_readSaw_111 a0 x1 x2 y0 h)) k0))) (FI := FI_X9_readSaw) (FV := FV_X9_readSaw) (FL := fL0) (rt := rtV) (ft := 0) (by exact hd) ok_X9_readSaw_51 (kx_ok (fun la st h e => by obtain ⟨a0, m_a0, e1⟩ := gR_inv e; obtain ⟨x1, m_x1, e2⟩ := gI_inv e1; obtain ⟨x2, m_x2, e3⟩ := gI_inv e2; obtain ⟨rfl, ez⟩ := sE_inv e3; exact gm_fewer (e_X9_readSaw_68 E  a0 x1 x2 h ez) (mem_cons m_a0 (mem_cons m_x1 (mem_cons m_x2 mem_nil)))) (kx_ok (fun la st h e => by obtain ⟨a0, m_a0, e1⟩ := gR_inv e; obtain ⟨x1, m_x1, e2⟩ := gI_inv e1; obtain ⟨x2, m_x2, e3⟩ := gI_inv e2; obtain ⟨y0, _, rfl, e4⟩ := sI_inv e3; obtain ⟨rfl, ez⟩ := sE_inv e4; exact gm_fewer (e_X9_readSaw_111 E  a0 x1 x2 y0 h ez) (mem_cons m_a0 (mem_cons m_x1 (mem_cons m_x2 mem_nil)))) k0_ok)) (FI_X9_readSaw_ok E) (FV_X9_readSaw_ok E) (fL0_ok E) (rtV_ok rfl)
def I_X9_readSaw_0 : List AI := [(.aload_n 0, 1, [], 0), (.aload_n 0, 1, [], 0), (.getfield 120, 3, [8, 4, 2, 1349], 0), (.getfield 235, 3, [7, 7, 0, 1500], 0), (.bipush 6, 2, [], 6), (.invokevirtual 189, 3, [2, 215, 3, 8, 1621], 0), (.aload_n 0, 1, [], 0), (.iconst 0, 1, [], 0), (.bipush 63, 2, [], 63), (.invokevirtual 179, 3, [1, 213, 3, 8, 1604], 0), (.istore_n 1, 1, [], 0), (.aload_n 0, 1, [], 0), (.invokevirtual 216, 3, [1, 219, 1, 8, 1641], 0), (.istore_n 2, 1, [], 0), (.aload_n 0, 1, [], 0), (.getfield 65, 3, [8, 9, 0, 1354], 0), (.iconst 5, 1, [], 5), (.if_icmp .eq 20, 3, [51], 0), (.aload_n 0, 1, [], 0), (.getfield 120, 3, [8, 4, 2, 1349], 0), (.iload_n 1, 1, [], 0), (.iload_n 2, 1, [], 0), (.invokevirtual 238, 3, [1, 223, 3, 7, 1663], 0), (.ifCond .eq 8, 3, [51], 0), (.aload_n 0, 1, [], 0), (.iconst 3, 1, [], 3), (.invokevirtual 108, 3, [2, 209, 2, 8, 1595], 0)]
theorem ok_X9_readSaw_0 : vBL MT qLen qCh false q_X9_readSaw.2.2.2.2.1 q_X9_readSaw.2.2.2.2.2.1 q_X9_readSaw.2.2.1 q_X9_readSaw.1.cls q_X9_readSaw.1.name q_X9_readSaw.2.1 51 0 I_X9_readSaw_0 = true := by decide +kernel
def p_X9_readSaw (a0 : Nat) (h : AH) : Option (AH) :=
  if (tg h a0).1 = 8 then (if (tg h (rR h a0 4)).1 = 7 then (if (tg h a0).1 = 8 then ((p_X9_lineBegins a0 (rI h (rR h a0 4) 7) ((6 : Int32)) h).bind fun h122 =>
  if (tg h122 a0).1 = 8 then ((p_X9_readWhole a0 ((0 : Int32)) ((63 : Int32)) h122).bind fun q123 =>
  if (tg q123.2 a0).1 = 8 then ((p_X9_modeAt a0 q123.2).bind fun q124 =>
  if (tg q124.2 a0).1 = 8 then (if (rI q124.2 a0 9) = ((5 : Int32)) then (p_X9_readSaw_51 a0 q123.1 q124.1 q124.2)
  else
  if (tg q124.2 a0).1 = 8 then (if (tg q124.2 (rR q124.2 a0 4)).1 = 7 then ((p_X8_isSaw (rR q124.2 a0 4) q123.1 q124.1 q124.2).bind fun q125 =>
  if q125.1 = 0 then (p_X9_readSaw_51 a0 q123.1 q124.1 q125.2)
  else
  if (tg q125.2 a0).1 = 8 then ((p_X9_flaw a0 ((3 : Int32)) q125.2).bind fun h126 =>
  p_X9_readSaw_51 a0 q123.1 q124.1 h126) else none) else none) else none) else none) else none) else none) else none) else none) else none
set_option maxRecDepth 100000 in
theorem e_X9_readSaw_0 {l : Launch} {D : va_G} {dA : Nat → ClassId} {z : Nat} {sa : Nat → Nat} {Hz : Heap} (E : StrOK qLen qCh l D dA z sa Hz) {h0 fin : AH}  : ∀ (a0 : Nat) (h : AH), p_X9_readSaw a0 h = some fin → GM l D dA z sa Hz q_X9_readSaw h0 none fin 0 [(0, .ref a0)] [] h := by
  intro a0 h hd
  exact step E (is := I_X9_readSaw_0) (pc := 0) (K := (kx 51 (fun la st h => gR la 0 fun a0 => gI la 1 fun x1 => gI la 2 fun x2 => sE st (p_X9_readSaw_51 a0 x1 x2 h)) k0)) (FI := FI_X9_readSaw) (FV := FV_X9_readSaw) (FL := fL0) (rt := rtV) (ft := 51) (by exact hd) ok_X9_readSaw_0 (kx_ok (fun la st h e => by obtain ⟨a0, m_a0, e1⟩ := gR_inv e; obtain ⟨x1, m_x1, e2⟩ := gI_inv e1; obtain ⟨x2, m_x2, e3⟩ := gI_inv e2; obtain ⟨rfl, ez⟩ := sE_inv e3; exact gm_fewer (e_X9_readSaw_51 E  a0 x1 x2 h ez) (mem_cons m_a0 (mem_cons m_x1 (mem_cons m_x2 mem_nil)))) k0_ok) (FI_X9_readSaw_ok E) (FV_X9_readSaw_ok E) (fL0_ok E) (rtV_ok rfl)
theorem c_X9_readSaw {l : Launch} {D : va_G} {dA : Nat → ClassId} {z : Nat} {sa : Nat → Nat} {Hz : Heap} (E : StrOK qLen qCh l D dA z sa Hz) {a0 : Nat} {h fin : AH} (hd : p_X9_readSaw a0 h = some fin) : CalOK l D dA z sa Hz q_X9_readSaw [.ref a0] h none fin := calOf (by decide +kernel) (Nat.le_of_ble_eq_true rfl) (e_X9_readSaw_0 E a0 h hd)
