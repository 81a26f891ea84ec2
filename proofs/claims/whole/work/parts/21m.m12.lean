/-! ===== methods 300 to 324 ===== -/
def FI_X9_sweep : Nat → List Value → AH → Option (Int32 × AH) := (cx 250 (fun As h => sR As fun a0 As => sI As fun x1 As => sE As (p_X9_isAsked a0 x1 h)) (cx 249 (fun As h => sI As fun x0 As => sE As (p_X9_isPage x0 h)) (cx 201 (fun As h => sR As fun a0 As => sI As fun x1 As => sE As (p_X9_refused a0 x1 h)) (cx 294 (fun As h => sR As fun a0 As => sI As fun x1 As => sI As fun x2 As => sI As fun x3 As => sE As (p_X9_reaches a0 x1 x2 x3 h)) (cx 233 (fun As h => sR As fun a0 As => sI As fun x1 As => sE As (p_X9_good a0 x1 h)) fI0)))))
theorem FI_X9_sweep_ok {l : Launch} {D : va_G} {dA : Nat → ClassId} {z : Nat} {sa : Nat → Nat} {Hz : Heap} (E : StrOK qLen qCh l D dA z sa Hz) : ∀ mi As h x h', FI_X9_sweep mi As h = some (x, h') → CalOK l D dA z sa Hz (MT mi) As h (some (.int x)) h' := (cxI_ok (fun As h x h2 e => by obtain ⟨_, _, rfl, e0⟩ := sR_inv e; obtain ⟨_, _, rfl, e1⟩ := sI_inv e0; obtain ⟨rfl, ez⟩ := sE_inv e1; exact c_X9_isAsked E ez) ((cxI_ok (fun As h x h2 e => by obtain ⟨_, _, rfl, e0⟩ := sI_inv e; obtain ⟨rfl, ez⟩ := sE_inv e0; exact c_X9_isPage E ez) ((cxI_ok (fun As h x h2 e => by obtain ⟨_, _, rfl, e0⟩ := sR_inv e; obtain ⟨_, _, rfl, e1⟩ := sI_inv e0; obtain ⟨rfl, ez⟩ := sE_inv e1; exact c_X9_refused E ez) ((cxI_ok (fun As h x h2 e => by obtain ⟨_, _, rfl, e0⟩ := sR_inv e; obtain ⟨_, _, rfl, e1⟩ := sI_inv e0; obtain ⟨_, _, rfl, e2⟩ := sI_inv e1; obtain ⟨_, _, rfl, e3⟩ := sI_inv e2; obtain ⟨rfl, ez⟩ := sE_inv e3; exact c_X9_reaches E ez) ((cxI_ok (fun As h x h2 e => by obtain ⟨_, _, rfl, e0⟩ := sR_inv e; obtain ⟨_, _, rfl, e1⟩ := sI_inv e0; obtain ⟨rfl, ez⟩ := sE_inv e1; exact c_X9_good E ez) (fI0_ok E))))))))))
def FV_X9_sweep : Nat → List Value → AH → Option (AH) := (cx 239 (fun As h => sR As fun a0 As => sE As (p_X9_works a0 h)) fV0)
theorem FV_X9_sweep_ok {l : Launch} {D : va_G} {dA : Nat → ClassId} {z : Nat} {sa : Nat → Nat} {Hz : Heap} (E : StrOK qLen qCh l D dA z sa Hz) : ∀ mi As h h', FV_X9_sweep mi As h = some h' → CalOK l D dA z sa Hz (MT mi) As h none h' := (cxV_ok (fun As h h2 e => by obtain ⟨_, _, rfl, e0⟩ := sR_inv e; obtain ⟨rfl, ez⟩ := sE_inv e0; exact c_X9_works E ez) (fV0_ok E))
def I_X9_sweep_20 : List AI := [(.aload_n 0, 1, [], 0), (.iconst 1, 1, [], 1), (.invokevirtual 39, 3, [1, 201, 2, 8, 1481], 0), (.ireturn, 1, [], 0)]
theorem ok_X9_sweep_20 : vBL MT qLen qCh false q_X9_sweep.2.2.2.2.1 q_X9_sweep.2.2.2.2.2.1 q_X9_sweep.2.2.1 q_X9_sweep.1.cls q_X9_sweep.1.name q_X9_sweep.2.1 0 20 I_X9_sweep_20 = true := by decide +kernel
def p_X9_sweep_20 (a0 : Nat) (h : AH) : Option (Int32 × AH) :=
  if (tg h a0).1 = 8 then ((p_X9_refused a0 ((1 : Int32)) h).bind fun q101 =>
  some (q101.1, q101.2)) else none
set_option maxRecDepth 100000 in
theorem e_X9_sweep_20 {l : Launch} {D : va_G} {dA : Nat → ClassId} {z : Nat} {sa : Nat → Nat} {Hz : Heap} (E : StrOK qLen qCh l D dA z sa Hz) {h0 fin : AH} {x : Int32}  : ∀ (a0 : Nat) (h : AH), p_X9_sweep_20 a0 h = some (x, fin) → GM l D dA z sa Hz q_X9_sweep h0 (some (.int x)) fin 20 [(0, .ref a0)] [] h := by
  intro a0 h hd
  exact step E (is := I_X9_sweep_20) (pc := 20) (K := k0) (FI := FI_X9_sweep) (FV := FV_X9_sweep) (FL := fL0) (rt := rtI) (ft := 0) (by exact hd) ok_X9_sweep_20 k0_ok (FI_X9_sweep_ok E) (FV_X9_sweep_ok E) (fL0_ok E) (rtI_ok rfl)
def I_X9_sweep_62 : List AI := [(.aload_n 0, 1, [], 0), (.aload_n 0, 1, [], 0), (.getfield 298, 3, [8, 27, 0, 1372], 0), (.invokevirtual 43, 3, [1, 233, 2, 8, 1694], 0), (.ireturn, 1, [], 0)]
theorem ok_X9_sweep_62 : vBL MT qLen qCh false q_X9_sweep.2.2.2.2.1 q_X9_sweep.2.2.2.2.2.1 q_X9_sweep.2.2.1 q_X9_sweep.1.cls q_X9_sweep.1.name q_X9_sweep.2.1 0 62 I_X9_sweep_62 = true := by decide +kernel
def p_X9_sweep_62 (a0 : Nat) (h : AH) : Option (Int32 × AH) :=
  if (tg h a0).1 = 8 then (if (tg h a0).1 = 8 then ((p_X9_good a0 (rI h a0 27) h).bind fun q102 =>
  some (q102.1, q102.2)) else none) else none
set_option maxRecDepth 100000 in
theorem e_X9_sweep_62 {l : Launch} {D : va_G} {dA : Nat → ClassId} {z : Nat} {sa : Nat → Nat} {Hz : Heap} (E : StrOK qLen qCh l D dA z sa Hz) {h0 fin : AH} {x : Int32}  : ∀ (a0 : Nat) (h : AH), p_X9_sweep_62 a0 h = some (x, fin) → GM l D dA z sa Hz q_X9_sweep h0 (some (.int x)) fin 62 [(0, .ref a0)] [] h := by
  intro a0 h hd
  exact step E (is := I_X9_sweep_62) (pc := 62) (K := k0) (FI := FI_X9_sweep) (FV := FV_X9_sweep) (FL := fL0) (rt := rtI) (ft := 0) (by exact hd) ok_X9_sweep_62 k0_ok (FI_X9_sweep_ok E) (FV_X9_sweep_ok E) (fL0_ok E) (rtI_ok rfl)
def I_X9_sweep_43 : List AI := [(.iload_n 3, 1, [], 0), (.iload_n 2, 1, [], 0), (.if_icmp .gt 17, 3, [62], 0), (.aload_n 0, 1, [], 0), (.iload_n 3, 1, [], 0), (.iconst 0, 1, [], 0), (.iconst 0, 1, [], 0), (.invokevirtual 389, 3, [1, 294, 4, 8, 1919], 0), (.pop, 1, [], 0), (.iinc 3 1, 3, [], 1), (.goto (-16), 3, [43], 0)]
theorem ok_X9_sweep_43 : vBL MT qLen qCh false q_X9_sweep.2.2.2.2.1 q_X9_sweep.2.2.2.2.2.1 q_X9_sweep.2.2.1 q_X9_sweep.1.cls q_X9_sweep.1.name q_X9_sweep.2.1 0 43 I_X9_sweep_43 = true := by decide +kernel
def p_X9_sweep_43 : Nat → Nat → Int32 → Int32 → AH → Option (Int32 × AH)
  | 0, _, _, _, _ => none
  | n + 1, a0, x2, x3, h => if x2 < x3 then (if (tg h a0).1 = 8 then (if (tg h a0).1 = 8 then ((p_X9_good a0 (rI h a0 27) h).bind fun q103 =>
    some (q103.1, q103.2)) else none) else none)
    else
    if (tg h a0).1 = 8 then ((p_X9_reaches a0 x3 ((0 : Int32)) ((0 : Int32)) h).bind fun q104 =>
    p_X9_sweep_43 n a0 x2 (x3 + (1 : Int32)) q104.2) else none
set_option maxRecDepth 100000 in
theorem e_X9_sweep_43 {l : Launch} {D : va_G} {dA : Nat → ClassId} {z : Nat} {sa : Nat → Nat} {Hz : Heap} (E : StrOK qLen qCh l D dA z sa Hz) {h0 fin : AH} {x : Int32}  : ∀ (n : Nat) (a0 : Nat) (x2 : Int32) (x3 : Int32) (h : AH), p_X9_sweep_43 n a0 x2 x3 h = some (x, fin) → GM l D dA z sa Hz q_X9_sweep h0 (some (.int x)) fin 43 [(0, .ref a0), (2, .int x2), (3, .int x3)] [] h := by
  intro n
  induction n with
  | zero => intro a0 x2 x3 h hd; exact nomatch hd
  | succ n ih =>
    intro a0 x2 x3 h hd
    exact step E (is := I_X9_sweep_43) (pc := 43) (K := (kx 62 (fun la st h => gR la 0 fun a0 => sE st (p_X9_sweep_62 a0 h)) (kx 43 (fun la st h => gR la 0 fun a0 => gI la 2 fun x2 => gI la 3 fun x3 => sE st (p_X9_sweep_43 n a0 x2 x3 h)) k0))) (FI := FI_X9_sweep) (FV := FV_X9_sweep) (FL := fL0) (rt := rtI) (ft := 0) (by exact hd) ok_X9_sweep_43 (kx_ok (fun la st h e => by obtain ⟨a0, m_a0, e1⟩ := gR_inv e; obtain ⟨rfl, ez⟩ := sE_inv e1; exact gm_fewer (e_X9_sweep_62 E  a0 h ez) (mem_cons m_a0 mem_nil)) (kx_ok (fun la st h e => by obtain ⟨a0, m_a0, e1⟩ := gR_inv e; obtain ⟨x2, m_x2, e2⟩ := gI_inv e1; obtain ⟨x3, m_x3, e3⟩ := gI_inv e2; obtain ⟨rfl, ez⟩ := sE_inv e3; exact gm_fewer (ih a0 x2 x3 h ez) (mem_cons m_a0 (mem_cons m_x2 (mem_cons m_x3 mem_nil)))) k0_ok)) (FI_X9_sweep_ok E) (FV_X9_sweep_ok E) (fL0_ok E) (rtI_ok rfl)
def I_X9_sweep_37 : List AI := [(.aload_n 0, 1, [], 0), (.invokevirtual 398, 3, [2, 239, 1, 8, 1717], 0), (.iload_n 1, 1, [], 0), (.istore_n 3, 1, [], 0)]
theorem ok_X9_sweep_37 : vBL MT qLen qCh false q_X9_sweep.2.2.2.2.1 q_X9_sweep.2.2.2.2.2.1 q_X9_sweep.2.2.1 q_X9_sweep.1.cls q_X9_sweep.1.name q_X9_sweep.2.1 43 37 I_X9_sweep_37 = true := by decide +kernel
def p_X9_sweep_37 (a0 : Nat) (x1 : Int32) (x2 : Int32) (h : AH) : Option (Int32 × AH) :=
  if (tg h a0).1 = 8 then ((p_X9_works a0 h).bind fun h105 =>
  p_X9_sweep_43 FU a0 x2 x1 h105) else none
set_option maxRecDepth 100000 in
theorem e_X9_sweep_37 {l : Launch} {D : va_G} {dA : Nat → ClassId} {z : Nat} {sa : Nat → Nat} {Hz : Heap} (E : StrOK qLen qCh l D dA z sa Hz) {h0 fin : AH} {x : Int32}  : ∀ (a0 : Nat) (x1 : Int32) (x2 : Int32) (h : AH), p_X9_sweep_37 a0 x1 x2 h = some (x, fin) → GM l D dA z sa Hz q_X9_sweep h0 (some (.int x)) fin 37 [(0, .ref a0), (1, .int x1), (2, .int x2)] [] h := by
  intro a0 x1 x2 h hd
  exact step E (is := I_X9_sweep_37) (pc := 37) (K := (kx 43 (fun la st h => gR la 0 fun a0 => gI la 2 fun x2 => gI la 3 fun x3 => sE st (p_X9_sweep_43 FU a0 x2 x3 h)) k0)) (FI := FI_X9_sweep) (FV := FV_X9_sweep) (FL := fL0) (rt := rtI) (ft := 43) (by exact hd) ok_X9_sweep_37 (kx_ok (fun la st h e => by obtain ⟨a0, m_a0, e1⟩ := gR_inv e; obtain ⟨x2, m_x2, e2⟩ := gI_inv e1; obtain ⟨x3, m_x3, e3⟩ := gI_inv e2; obtain ⟨rfl, ez⟩ := sE_inv e3; exact gm_fewer (e_X9_sweep_43 E  FU a0 x2 x3 h ez) (mem_cons m_a0 (mem_cons m_x2 (mem_cons m_x3 mem_nil)))) k0_ok) (FI_X9_sweep_ok E) (FV_X9_sweep_ok E) (fL0_ok E) (rtI_ok rfl)
def I_X9_sweep_26 : List AI := [(.iload_n 2, 1, [], 0), (.iload_n 1, 1, [], 0), (.if_icmp .ge 9, 3, [37], 0), (.aload_n 0, 1, [], 0), (.iconst 2, 1, [], 2), (.invokevirtual 39, 3, [1, 201, 2, 8, 1481], 0), (.ireturn, 1, [], 0)]
theorem ok_X9_sweep_26 : vBL MT qLen qCh false q_X9_sweep.2.2.2.2.1 q_X9_sweep.2.2.2.2.2.1 q_X9_sweep.2.2.1 q_X9_sweep.1.cls q_X9_sweep.1.name q_X9_sweep.2.1 0 26 I_X9_sweep_26 = true := by decide +kernel
def p_X9_sweep_26 (a0 : Nat) (x1 : Int32) (x2 : Int32) (h : AH) : Option (Int32 × AH) :=
  if x2 < x1 then (if (tg h a0).1 = 8 then ((p_X9_refused a0 ((2 : Int32)) h).bind fun q107 =>
  some (q107.1, q107.2)) else none)
  else
  if (tg h a0).1 = 8 then ((p_X9_works a0 h).bind fun h106 =>
  p_X9_sweep_43 FU a0 x2 x1 h106) else none
set_option maxRecDepth 100000 in
theorem e_X9_sweep_26 {l : Launch} {D : va_G} {dA : Nat → ClassId} {z : Nat} {sa : Nat → Nat} {Hz : Heap} (E : StrOK qLen qCh l D dA z sa Hz) {h0 fin : AH} {x : Int32}  : ∀ (a0 : Nat) (x1 : Int32) (x2 : Int32) (h : AH), p_X9_sweep_26 a0 x1 x2 h = some (x, fin) → GM l D dA z sa Hz q_X9_sweep h0 (some (.int x)) fin 26 [(0, .ref a0), (1, .int x1), (2, .int x2)] [] h := by
  intro a0 x1 x2 h hd
  exact step E (is := I_X9_sweep_26) (pc := 26) (K := (kx 37 (fun la st h => gR la 0 fun a0 => gI la 1 fun x1 => gI la 2 fun x2 => sE st (p_X9_sweep_37 a0 x1 x2 h)) k0)) (FI := FI_X9_sweep) (FV := FV_X9_sweep) (FL := fL0) (rt := rtI) (ft := 0) (by exact hd) ok_X9_sweep_26 (kx_ok (fun la st h e => by obtain ⟨a0, m_a0, e1⟩ := gR_inv e; obtain ⟨x1, m_x1, e2⟩ := gI_inv e1; obtain ⟨x2, m_x2, e3⟩ := gI_inv e2; obtain ⟨rfl, ez⟩ := sE_inv e3; exact gm_fewer (e_X9_sweep_37 E  a0 x1 x2 h ez) (mem_cons m_a0 (mem_cons m_x1 (mem_cons m_x2 mem_nil)))) k0_ok) (FI_X9_sweep_ok E) (FV_X9_sweep_ok E) (fL0_ok E) (rtI_ok rfl)
def I_X9_sweep_0 : List AI := [(.aload_n 0, 1, [], 0), (.iconst 0, 1, [], 0), (.putfield 33, 3, [8, 0, 0, 1345], 0), (.aload_n 0, 1, [], 0), (.iload_n 1, 1, [], 0), (.invokevirtual 404, 3, [1, 250, 2, 8, 1756], 0), (.ifCond .eq 10, 3, [20], 0), (.iload_n 2, 1, [], 0), (.invokestatic 401, 3, [1, 249, 1, 1760], 0), (.ifCond .ne 9, 3, [26], 0)]
theorem ok_X9_sweep_0 : vBL MT qLen qCh false q_X9_sweep.2.2.2.2.1 q_X9_sweep.2.2.2.2.2.1 q_X9_sweep.2.2.1 q_X9_sweep.1.cls q_X9_sweep.1.name q_X9_sweep.2.1 20 0 I_X9_sweep_0 = true := by decide +kernel
def p_X9_sweep (a0 : Nat) (x1 : Int32) (x2 : Int32) (h : AH) : Option (Int32 × AH) :=
  if (tg h a0).1 = 8 then (let h108 := wI h a0 0 ((0 : Int32))
  if (tg h108 a0).1 = 8 then ((p_X9_isAsked a0 x1 h108).bind fun q109 =>
  if q109.1 = 0 then (p_X9_sweep_20 a0 q109.2)
  else
  (p_X9_isPage x2 q109.2).bind fun q110 =>
  if q110.1 = 0 then (p_X9_sweep_20 a0 q110.2)
  else
  if x2 < x1 then (if (tg q110.2 a0).1 = 8 then ((p_X9_refused a0 ((2 : Int32)) q110.2).bind fun q112 =>
  some (q112.1, q112.2)) else none)
  else
  if (tg q110.2 a0).1 = 8 then ((p_X9_works a0 q110.2).bind fun h111 =>
  p_X9_sweep_43 FU a0 x2 x1 h111) else none) else none) else none
set_option maxRecDepth 100000 in
theorem e_X9_sweep_0 {l : Launch} {D : va_G} {dA : Nat → ClassId} {z : Nat} {sa : Nat → Nat} {Hz : Heap} (E : StrOK qLen qCh l D dA z sa Hz) {h0 fin : AH} {x : Int32}  : ∀ (a0 : Nat) (x1 : Int32) (x2 : Int32) (h : AH), p_X9_sweep a0 x1 x2 h = some (x, fin) → GM l D dA z sa Hz q_X9_sweep h0 (some (.int x)) fin 0 [(0, .ref a0), (1, .int x1), (2, .int x2)] [] h := by
  intro a0 x1 x2 h hd
  exact step E (is := I_X9_sweep_0) (pc := 0) (K := (kx 20 (fun la st h => gR la 0 fun a0 => sE st (p_X9_sweep_20 a0 h)) (kx 26 (fun la st h => gR la 0 fun a0 => gI la 1 fun x1 => gI la 2 fun x2 => sE st (p_X9_sweep_26 a0 x1 x2 h)) k0))) (FI := FI_X9_sweep) (FV := FV_X9_sweep) (FL := fL0) (rt := rtI) (ft := 20) (by exact hd) ok_X9_sweep_0 (kx_ok (fun la st h e => by obtain ⟨a0, m_a0, e1⟩ := gR_inv e; obtain ⟨rfl, ez⟩ := sE_inv e1; exact gm_fewer (e_X9_sweep_20 E  a0 h ez) (mem_cons m_a0 mem_nil)) (kx_ok (fun la st h e => by obtain ⟨a0, m_a0, e1⟩ := gR_inv e; obtain ⟨x1, m_x1, e2⟩ := gI_inv e1; obtain ⟨x2, m_x2, e3⟩ := gI_inv e2; obtain ⟨rfl, ez⟩ := sE_inv e3; exact gm_fewer (e_X9_sweep_26 E  a0 x1 x2 h ez) (mem_cons m_a0 (mem_cons m_x1 (mem_cons m_x2 mem_nil)))) k0_ok)) (FI_X9_sweep_ok E) (FV_X9_sweep_ok E) (fL0_ok E) (rtI_ok rfl)
theorem c_X9_sweep {l : Launch} {D : va_G} {dA : Nat → ClassId} {z : Nat} {sa : Nat → Nat} {Hz : Heap} (E : StrOK qLen qCh l D dA z sa Hz) {a0 : Nat} {x1 : Int32} {x2 : Int32} {h fin : AH} {x : Int32} (hd : p_X9_sweep a0 x1 x2 h = some (x, fin)) : CalOK l D dA z sa Hz q_X9_sweep [.ref a0, .int x1, .int x2] h (some (.int x)) fin := calOf (by decide +kernel) (Nat.le_of_ble_eq_true rfl) (e_X9_sweep_0 E a0 x1 x2 h hd)
def FI_X9_refusesDraw : Nat → List Value → AH → Option (Int32 × AH) := (cx 211 (fun As h => sI As fun x0 As => sI As fun x1 As => sI As fun x2 As => sE As (p_X9_in x0 x1 x2 h)) fI0)
theorem FI_X9_refusesDraw_ok {l : Launch} {D : va_G} {dA : Nat → ClassId} {z : Nat} {sa : Nat → Nat} {Hz : Heap} (E : StrOK qLen qCh l D dA z sa Hz) : ∀ mi As h x h', FI_X9_refusesDraw mi As h = some (x, h') → CalOK l D dA z sa Hz (MT mi) As h (some (.int x)) h' := (cxI_ok (fun As h x h2 e => by obtain ⟨_, _, rfl, e0⟩ := sI_inv e; obtain ⟨_, _, rfl, e1⟩ := sI_inv e0; obtain ⟨_, _, rfl, e2⟩ := sI_inv e1; obtain ⟨rfl, ez⟩ := sE_inv e2; exact c_X9_in E ez) (fI0_ok E))
def I_X9_refusesDraw_38 : List AI := [(.ireturn, 1, [], 0)]
theorem ok_X9_refusesDraw_38 : vBL MT qLen qCh false q_X9_refusesDraw.2.2.2.2.1 q_X9_refusesDraw.2.2.2.2.2.1 q_X9_refusesDraw.2.2.1 q_X9_refusesDraw.1.cls q_X9_refusesDraw.1.name q_X9_refusesDraw.2.1 0 38 I_X9_refusesDraw_38 = true := by decide +kernel
def p_X9_refusesDraw_38 (y0 : Int32) (h : AH) : Option (Int32 × AH) :=
  some (y0, h)
set_option maxRecDepth 100000 in
theorem e_X9_refusesDraw_38 {l : Launch} {D : va_G} {dA : Nat → ClassId} {z : Nat} {sa : Nat → Nat} {Hz : Heap} (E : StrOK qLen qCh l D dA z sa Hz) {h0 fin : AH} {x : Int32}  : ∀ (y0 : Int32) (h : AH), p_X9_refusesDraw_38 y0 h = some (x, fin) → GM l D dA z sa Hz q_X9_refusesDraw h0 (some (.int x)) fin 38 [] [.int y0] h := by
  intro y0 h hd
  exact step E (is := I_X9_refusesDraw_38) (pc := 38) (K := k0) (FI := FI_X9_refusesDraw) (FV := fV0) (FL := fL0) (rt := rtI) (ft := 0) (by exact hd) ok_X9_refusesDraw_38 k0_ok (FI_X9_refusesDraw_ok E) (fV0_ok E) (fL0_ok E) (rtI_ok rfl)
def I_X9_refusesDraw_37 : List AI := [(.iconst 2, 1, [], 2)]
theorem ok_X9_refusesDraw_37 : vBL MT qLen qCh false q_X9_refusesDraw.2.2.2.2.1 q_X9_refusesDraw.2.2.2.2.2.1 q_X9_refusesDraw.2.2.1 q_X9_refusesDraw.1.cls q_X9_refusesDraw.1.name q_X9_refusesDraw.2.1 38 37 I_X9_refusesDraw_37 = true := by decide +kernel
def p_X9_refusesDraw_37 (h : AH) : Option (Int32 × AH) :=
  p_X9_refusesDraw_38 ((2 : Int32)) h
set_option maxRecDepth 100000 in
theorem e_X9_refusesDraw_37 {l : Launch} {D : va_G} {dA : Nat → ClassId} {z : Nat} {sa : Nat → Nat} {Hz : Heap} (E : StrOK qLen qCh l D dA z sa Hz) {h0 fin : AH} {x : Int32}  : ∀  (h : AH), p_X9_refusesDraw_37 h = some (x, fin) → GM l D dA z sa Hz q_X9_refusesDraw h0 (some (.int x)) fin 37 [] [] h := by
  intro h hd
  exact step E (is := I_X9_refusesDraw_37) (pc := 37) (K := (kx 38 (fun la st h => sI st fun y0 st => sE st (p_X9_refusesDraw_38 y0 h)) k0)) (FI := FI_X9_refusesDraw) (FV := fV0) (FL := fL0) (rt := rtI) (ft := 38) (by exact hd) ok_X9_refusesDraw_37 (kx_ok (fun la st h e => by obtain ⟨y0, _, rfl, e1⟩ := sI_inv e; obtain ⟨rfl, ez⟩ := sE_inv e1; exact gm_fewer (e_X9_refusesDraw_38 E  y0 h ez) mem_nil) k0_ok) (FI_X9_refusesDraw_ok E) (fV0_ok E) (fL0_ok E) (rtI_ok rfl)
def I_X9_refusesDraw_11 : List AI := [(.iload_n 1, 1, [], 0), (.iconst 0, 1, [], 0), (.ldc_w 442, 3, [0, 1963], 65536), (.invokestatic 112, 3, [1, 211, 3, 1612], 0), (.ifCond .eq 18, 3, [37], 0), (.iload_n 2, 1, [], 0), (.iconst 0, 1, [], 0), (.sipush 200, 3, [], 200), (.invokestatic 112, 3, [1, 211, 3, 1612], 0), (.ifCond .eq 7, 3, [37], 0), (.iconst 0, 1, [], 0), (.goto 4, 3, [38], 0)]
theorem ok_X9_refusesDraw_11 : vBL MT qLen qCh false q_X9_refusesDraw.2.2.2.2.1 q_X9_refusesDraw.2.2.2.2.2.1 q_X9_refusesDraw.2.2.1 q_X9_refusesDraw.1.cls q_X9_refusesDraw.1.name q_X9_refusesDraw.2.1 0 11 I_X9_refusesDraw_11 = true := by decide +kernel
def p_X9_refusesDraw_11 (x1 : Int32) (x2 : Int32) (h : AH) : Option (Int32 × AH) :=
  (p_X9_in x1 ((0 : Int32)) ((65536 : Int32)) h).bind fun q101 =>
  if q101.1 = 0 then (p_X9_refusesDraw_37 q101.2)
  else
  (p_X9_in x2 ((0 : Int32)) ((200 : Int32)) q101.2).bind fun q102 =>
  if q102.1 = 0 then (p_X9_refusesDraw_37 q102.2)
  else
  p_X9_refusesDraw_38 ((0 : Int32)) q102.2
set_option maxRecDepth 100000 in
theorem e_X9_refusesDraw_11 {l : Launch} {D : va_G} {dA : Nat → ClassId} {z : Nat} {sa : Nat → Nat} {Hz : Heap} (E : StrOK qLen qCh l D dA z sa Hz) {h0 fin : AH} {x : Int32}  : ∀ (x1 : Int32) (x2 : Int32) (h : AH), p_X9_refusesDraw_11 x1 x2 h = some (x, fin) → GM l D dA z sa Hz q_X9_refusesDraw h0 (some (.int x)) fin 11 [(1, .int x1), (2, .int x2)] [] h := by
  intro x1 x2 h hd
  exact step E (is := I_X9_refusesDraw_11) (pc := 11) (K := (kx 37 (fun la st h => sE st (p_X9_refusesDraw_37 h)) (kx 38 (fun la st h => sI st fun y0 st => sE st (p_X9_refusesDraw_38 y0 h)) k0))) (FI := FI_X9_refusesDraw) (FV := fV0) (FL := fL0) (rt := rtI) (ft := 0) (by exact hd) ok_X9_refusesDraw_11 (kx_ok (fun la st h e => by obtain ⟨rfl, ez⟩ := sE_inv e; exact gm_fewer (e_X9_refusesDraw_37 E   h ez) mem_nil) (kx_ok (fun la st h e => by obtain ⟨y0, _, rfl, e1⟩ := sI_inv e; obtain ⟨rfl, ez⟩ := sE_inv e1; exact gm_fewer (e_X9_refusesDraw_38 E  y0 h ez) mem_nil) k0_ok)) (FI_X9_refusesDraw_ok E) (fV0_ok E) (fL0_ok E) (rtI_ok rfl)
def I_X9_refusesDraw_0 : List AI := [(.aload_n 0, 1, [], 0), (.getfield 265, 3, [8, 3, 2, 1348], 0), (.ifnonnull 7, 3, [11], 0), (.iconst 1, 1, [], 1), (.goto 30, 3, [38], 0)]
theorem ok_X9_refusesDraw_0 : vBL MT qLen qCh false q_X9_refusesDraw.2.2.2.2.1 q_X9_refusesDraw.2.2.2.2.2.1 q_X9_refusesDraw.2.2.1 q_X9_refusesDraw.1.cls q_X9_refusesDraw.1.name q_X9_refusesDraw.2.1 0 0 I_X9_refusesDraw_0 = true := by decide +kernel
def p_X9_refusesDraw (a0 : Nat) (x1 : Int32) (x2 : Int32) (h : AH) : Option (Int32 × AH) :=
  if (tg h a0).1 = 8 then (if (rR h a0 3) = 0 then (p_X9_refusesDraw_38 ((1 : Int32)) h)
  else
  (p_X9_in x1 ((0 : Int32)) ((65536 : Int32)) h).bind fun q103 =>
  if q103.1 = 0 then (p_X9_refusesDraw_37 q103.2)
  else
  (p_X9_in x2 ((0 : Int32)) ((200 : Int32)) q103.2).bind fun q104 =>
  if q104.1 = 0 then (p_X9_refusesDraw_37 q104.2)
  else
  p_X9_refusesDraw_38 ((0 : Int32)) q104.2) else none
set_option maxRecDepth 100000 in
theorem e_X9_refusesDraw_0 {l : Launch} {D : va_G} {dA : Nat → ClassId} {z : Nat} {sa : Nat → Nat} {Hz : Heap} (E : StrOK qLen qCh l D dA z sa Hz) {h0 fin : AH} {x : Int32}  : ∀ (a0 : Nat) (x1 : Int32) (x2 : Int32) (h : AH), p_X9_refusesDraw a0 x1 x2 h = some (x, fin) → GM l D dA z sa Hz q_X9_refusesDraw h0 (some (.int x)) fin 0 [(0, .ref a0), (1, .int x1), (2, .int x2)] [] h := by
  intro a0 x1 x2 h hd
  exact step E (is := I_X9_refusesDraw_0) (pc := 0) (K := (kx 11 (fun la st h => gI la 1 fun x1 => gI la 2 fun x2 => sE st (p_X9_refusesDraw_11 x1 x2 h)) (kx 38 (fun la st h => sI st fun y0 st => sE st (p_X9_refusesDraw_38 y0 h)) k0))) (FI := FI_X9_refusesDraw) (FV := fV0) (FL := fL0) (rt := rtI) (ft := 0) (by exact hd) ok_X9_refusesDraw_0 (kx_ok (fun la st h e => by obtain ⟨x1, m_x1, e1⟩ := gI_inv e; obtain ⟨x2, m_x2, e2⟩ := gI_inv e1; obtain ⟨rfl, ez⟩ := sE_inv e2; exact gm_fewer (e_X9_refusesDraw_11 E  x1 x2 h ez) (mem_cons m_x1 (mem_cons m_x2 mem_nil))) (kx_ok (fun la st h e => by obtain ⟨y0, _, rfl, e1⟩ := sI_inv e; obtain ⟨rfl, ez⟩ := sE_inv e1; exact gm_fewer (e_X9_refusesDraw_38 E  y0 h ez) mem_nil) k0_ok)) (FI_X9_refusesDraw_ok E) (fV0_ok E) (fL0_ok E) (rtI_ok rfl)
theorem c_X9_refusesDraw {l : Launch} {D : va_G} {dA : Nat → ClassId} {z : Nat} {sa : Nat → Nat} {Hz : Heap} (E : StrOK qLen qCh l D dA z sa Hz) {a0 : Nat} {x1 : Int32} {x2 : Int32} {h fin : AH} {x : Int32} (hd : p_X9_refusesDraw a0 x1 x2 h = some (x, fin)) : CalOK l D dA z sa Hz q_X9_refusesDraw [.ref a0, .int x1, .int x2] h (some (.int x)) fin := calOf (by decide +kernel) (Nat.le_of_ble_eq_true rfl) (e_X9_refusesDraw_0 E a0 x1 x2 h hd)
def FI_X9_draws : Nat → List Value → AH → Option (Int32 × AH) := (cx 228 (fun As h => sI As fun x0 As => sI As fun x1 As => sE As (p_X9_bit x0 x1 h)) (cx 294 (fun As h => sR As fun a0 As => sI As fun x1 As => sI As fun x2 As => sI As fun x3 As => sE As (p_X9_reaches a0 x1 x2 x3 h)) fI0))
theorem FI_X9_draws_ok {l : Launch} {D : va_G} {dA : Nat → ClassId} {z : Nat} {sa : Nat → Nat} {Hz : Heap} (E : StrOK qLen qCh l D dA z sa Hz) : ∀ mi As h x h', FI_X9_draws mi As h = some (x, h') → CalOK l D dA z sa Hz (MT mi) As h (some (.int x)) h' := (cxI_ok (fun As h x h2 e => by obtain ⟨_, _, rfl, e0⟩ := sI_inv e; obtain ⟨_, _, rfl, e1⟩ := sI_inv e0; obtain ⟨rfl, ez⟩ := sE_inv e1; exact c_X9_bit E ez) ((cxI_ok (fun As h x h2 e => by obtain ⟨_, _, rfl, e0⟩ := sR_inv e; obtain ⟨_, _, rfl, e1⟩ := sI_inv e0; obtain ⟨_, _, rfl, e2⟩ := sI_inv e1; obtain ⟨_, _, rfl, e3⟩ := sI_inv e2; obtain ⟨rfl, ez⟩ := sE_inv e3; exact c_X9_reaches E ez) (fI0_ok E))))
def FV_X9_draws : Nat → List Value → AH → Option (AH) := (cx 239 (fun As h => sR As fun a0 As => sE As (p_X9_works a0 h)) fV0)
theorem FV_X9_draws_ok {l : Launch} {D : va_G} {dA : Nat → ClassId} {z : Nat} {sa : Nat → Nat} {Hz : Heap} (E : StrOK qLen qCh l D dA z sa Hz) : ∀ mi As h h', FV_X9_draws mi As h = some h' → CalOK l D dA z sa Hz (MT mi) As h none h' := (cxV_ok (fun As h h2 e => by obtain ⟨_, _, rfl, e0⟩ := sR_inv e; obtain ⟨rfl, ez⟩ := sE_inv e0; exact c_X9_works E ez) (fV0_ok E))
def I_X9_draws_80 : List AI := [(.return_, 1, [], 0)]
theorem ok_X9_draws_80 : vBL MT qLen qCh false q_X9_draws.2.2.2.2.1 q_X9_draws.2.2.2.2.2.1 q_X9_draws.2.2.1 q_X9_draws.1.cls q_X9_draws.1.name q_X9_draws.2.1 0 80 I_X9_draws_80 = true := by decide +kernel
def p_X9_draws_80 (h : AH) : Option (AH) :=
  some h
set_option maxRecDepth 100000 in
theorem e_X9_draws_80 {l : Launch} {D : va_G} {dA : Nat → ClassId} {z : Nat} {sa : Nat → Nat} {Hz : Heap} (E : StrOK qLen qCh l D dA z sa Hz) {h0 fin : AH}  : ∀  (h : AH), p_X9_draws_80 h = some fin → GM l D dA z sa Hz q_X9_draws h0 none fin 80 [] [] h := by
  intro h hd
  exact step E (is := I_X9_draws_80) (pc := 80) (K := k0) (FI := FI_X9_draws) (FV := FV_X9_draws) (FL := fL0) (rt := rtV) (ft := 0) (by exact hd) ok_X9_draws_80 k0_ok (FI_X9_draws_ok E) (FV_X9_draws_ok E) (fL0_ok E) (rtV_ok rfl)
def I_X9_draws_9 : List AI := [(.iload 4, 2, [], 0), (.iload_n 2, 1, [], 0), (.if_icmp .ge 68, 3, [80], 0), (.ldc2_w 443, 3, [0, 1968], 75), (.iload_n 3, 1, [], 0), (.i2l, 1, [], 0), (.lmul, 1, [], 0), (.ldc2_w 445, 3, [0, 1969], 74), (.ladd, 1, [], 0), (.ldc2_w 447, 3, [0, 1970], 65537), (.lrem, 1, [], 0), (.l2i, 1, [], 0), (.istore_n 3, 1, [], 0), (.iload_n 3, 1, [], 0), (.bipush 64, 2, [], 64), (.irem, 1, [], 0), (.istore 5, 2, [], 0), (.ldc2_w 443, 3, [0, 1968], 75), (.iload_n 3, 1, [], 0), (.i2l, 1, [], 0), (.lmul, 1, [], 0), (.ldc2_w 445, 3, [0, 1969], 74), (.ladd, 1, [], 0), (.ldc2_w 447, 3, [0, 1970], 65537), (.lrem, 1, [], 0), (.l2i, 1, [], 0), (.istore_n 3, 1, [], 0), (.aload_n 0, 1, [], 0), (.iload 5, 2, [], 0), (.iload_n 3, 1, [], 0), (.iconst 4, 1, [], 4), (.irem, 1, [], 0), (.iconst 0, 1, [], 0), (.invokestatic 307, 3, [1, 228, 2, 1679], 0), (.iload_n 3, 1, [], 0), (.iconst 4, 1, [], 4), (.irem, 1, [], 0), (.iconst 1, 1, [], 1), (.invokestatic 307, 3, [1, 228, 2, 1679], 0), (.invokevirtual 389, 3, [1, 294, 4, 8, 1919], 0), (.pop, 1, [], 0), (.iinc 4 1, 3, [], 1), (.goto (-68), 3, [9], 0)]
theorem ok_X9_draws_9 : vBL MT qLen qCh false q_X9_draws.2.2.2.2.1 q_X9_draws.2.2.2.2.2.1 q_X9_draws.2.2.1 q_X9_draws.1.cls q_X9_draws.1.name q_X9_draws.2.1 0 9 I_X9_draws_9 = true := by decide +kernel
def p_X9_draws_9 : Nat → Nat → Int32 → Int32 → Int32 → AH → Option (AH)
  | 0, _, _, _, _, _ => none
  | n + 1, a0, x2, x3, x4, h => if x4 < x2 then (if ((65537 : Int32).toInt64) = 0 then none else
    let x101 := (lrm ((((75 : Int32).toInt64) * x3.toInt64) + ((74 : Int32).toInt64)) ((65537 : Int32).toInt64)).toInt32
    if ((64 : Int32)) = 0 then none else
    let x102 := irm x101 ((64 : Int32))
    if ((65537 : Int32).toInt64) = 0 then none else
    let x103 := (lrm ((((75 : Int32).toInt64) * x101.toInt64) + ((74 : Int32).toInt64)) ((65537 : Int32).toInt64)).toInt32
    if ((4 : Int32)) = 0 then none else
    (p_X9_bit (irm x103 ((4 : Int32))) ((0 : Int32)) h).bind fun q104 =>
    if ((4 : Int32)) = 0 then none else
    (p_X9_bit (irm x103 ((4 : Int32))) ((1 : Int32)) q104.2).bind fun q105 =>
    if (tg q105.2 a0).1 = 8 then ((p_X9_reaches a0 x102 q104.1 q105.1 q105.2).bind fun q106 =>
    p_X9_draws_9 n a0 x2 x103 (x4 + (1 : Int32)) q106.2) else none)
    else
    some h
set_option maxRecDepth 100000 in
theorem e_X9_draws_9 {l : Launch} {D : va_G} {dA : Nat → ClassId} {z : Nat} {sa : Nat → Nat} {Hz : Heap} (E : StrOK qLen qCh l D dA z sa Hz) {h0 fin : AH}  : ∀ (n : Nat) (a0 : Nat) (x2 : Int32) (x3 : Int32) (x4 : Int32) (h : AH), p_X9_draws_9 n a0 x2 x3 x4 h = some fin → GM l D dA z sa Hz q_X9_draws h0 none fin 9 [(0, .ref a0), (2, .int x2), (3, .int x3), (4, .int x4)] [] h := by
  intro n
  induction n with
  | zero => intro a0 x2 x3 x4 h hd; exact nomatch hd
  | succ n ih =>
    intro a0 x2 x3 x4 h hd
    exact step E (is := I_X9_draws_9) (pc := 9) (K := (kx 80 (fun la st h => sE st (p_X9_draws_80 h)) (kx 9 (fun la st h => gR la 0 fun a0 => gI la 2 fun x2 => gI la 3 fun x3 => gI la 4 fun x4 => sE st (p_X9_draws_9 n a0 x2 x3 x4 h)) k0))) (FI := FI_X9_draws) (FV := FV_X9_draws) (FL := fL0) (rt := rtV) (ft := 0) (by exact hd) ok_X9_draws_9 (kx_ok (fun la st h e => by obtain ⟨rfl, ez⟩ := sE_inv e; exact gm_fewer (e_X9_draws_80 E   h ez) mem_nil) (kx_ok (fun la st h e => by obtain ⟨a0, m_a0, e1⟩ := gR_inv e; obtain ⟨x2, m_x2, e2⟩ := gI_inv e1; obtain ⟨x3, m_x3, e3⟩ := gI_inv e2; obtain ⟨x4, m_x4, e4⟩ := gI_inv e3; obtain ⟨rfl, ez⟩ := sE_inv e4; exact gm_fewer (ih a0 x2 x3 x4 h ez) (mem_cons m_a0 (mem_cons m_x2 (mem_cons m_x3 (mem_cons m_x4 mem_nil))))) k0_ok)) (FI_X9_draws_ok E) (FV_X9_draws_ok E) (fL0_ok E) (rtV_ok rfl)
def I_X9_draws_0 : List AI := [(.iload_n 1, 1, [], 0), (.istore_n 3, 1, [], 0), (.aload_n 0, 1, [], 0), (.invokevirtual 398, 3, [2, 239, 1, 8, 1717], 0), (.iconst 0, 1, [], 0), (.istore 4, 2, [], 0)]
theorem ok_X9_draws_0 : vBL MT qLen qCh false q_X9_draws.2.2.2.2.1 q_X9_draws.2.2.2.2.2.1 q_X9_draws.2.2.1 q_X9_draws.1.cls q_X9_draws.1.name q_X9_draws.2.1 9 0 I_X9_draws_0 = true := by decide +kernel
def p_X9_draws (a0 : Nat) (x1 : Int32) (x2 : Int32) (h : AH) : Option (AH) :=
  if (tg h a0).1 = 8 then ((p_X9_works a0 h).bind fun h107 =>
  p_X9_draws_9 FU a0 x2 x1 ((0 : Int32)) h107) else none
set_option maxRecDepth 100000 in
theorem e_X9_draws_0 {l : Launch} {D : va_G} {dA : Nat → ClassId} {z : Nat} {sa : Nat → Nat} {Hz : Heap} (E : StrOK qLen qCh l D dA z sa Hz) {h0 fin : AH}  : ∀ (a0 : Nat) (x1 : Int32) (x2 : Int32) (h : AH), p_X9_draws a0 x1 x2 h = some fin → GM l D dA z sa Hz q_X9_draws h0 none fin 0 [(0, .ref a0), (1, .int x1), (2, .int x2)] [] h := by
  intro a0 x1 x2 h hd
  exact step E (is := I_X9_draws_0) (pc := 0) (K := (kx 9 (fun la st h => gR la 0 fun a0 => gI la 2 fun x2 => gI la 3 fun x3 => gI la 4 fun x4 => sE st (p_X9_draws_9 FU a0 x2 x3 x4 h)) k0)) (FI := FI_X9_draws) (FV := FV_X9_draws) (FL := fL0) (rt := rtV) (ft := 9) (by exact hd) ok_X9_draws_0 (kx_ok (fun la st h e => by obtain ⟨a0, m_a0, e1⟩ := gR_inv e; obtain ⟨x2, m_x2, e2⟩ := gI_inv e1; obtain ⟨x3, m_x3, e3⟩ := gI_inv e2; obtain ⟨x4, m_x4, e4⟩ := gI_inv e3; obtain ⟨rfl, ez⟩ := sE_inv e4; exact gm_fewer (e_X9_draws_9 E  FU a0 x2 x3 x4 h ez) (mem_cons m_a0 (mem_cons m_x2 (mem_cons m_x3 (mem_cons m_x4 mem_nil))))) k0_ok) (FI_X9_draws_ok E) (FV_X9_draws_ok E) (fL0_ok E) (rtV_ok rfl)
theorem c_X9_draws {l : Launch} {D : va_G} {dA : Nat → ClassId} {z : Nat} {sa : Nat → Nat} {Hz : Heap} (E : StrOK qLen qCh l D dA z sa Hz) {a0 : Nat} {x1 : Int32} {x2 : Int32} {h fin : AH} (hd : p_X9_draws a0 x1 x2 h = some fin) : CalOK l D dA z sa Hz q_X9_draws [.ref a0, .int x1, .int x2] h none fin := calOf (by decide +kernel) (Nat.le_of_ble_eq_true rfl) (e_X9_draws_0 E a0 x1 x2 h hd)
def FI_X9_drawnFaults : Nat → List Value → AH → Option (Int32 × AH) := (cx 301 (fun As h => sR As fun a0 As => sI As fun x1 As => sI As fun x2 As => sE As (p_X9_refusesDraw a0 x1 x2 h)) (cx 201 (fun As h => sR As fun a0 As => sI As fun x1 As => sE As (p_X9_refused a0 x1 h)) (cx 233 (fun As h => sR As fun a0 As => sI As fun x1 As => sE As (p_X9_good a0 x1 h)) fI0)))
theorem FI_X9_drawnFaults_ok {l : Launch} {D : va_G} {dA : Nat → ClassId} {z : Nat} {sa : Nat → Nat} {Hz : Heap} (E : StrOK qLen qCh l D dA z sa Hz) : ∀ mi As h x h', FI_X9_drawnFaults mi As h = some (x, h') → CalOK l D dA z sa Hz (MT mi) As h (some (.int x)) h' := (cxI_ok (fun As h x h2 e => by obtain ⟨_, _, rfl, e0⟩ := sR_inv e; obtain ⟨_, _, rfl, e1⟩ := sI_inv e0; obtain ⟨_, _, rfl, e2⟩ := sI_inv e1; obtain ⟨rfl, ez⟩ := sE_inv e2; exact c_X9_refusesDraw E ez) ((cxI_ok (fun As h x h2 e => by obtain ⟨_, _, rfl, e0⟩ := sR_inv e; obtain ⟨_, _, rfl, e1⟩ := sI_inv e0; obtain ⟨rfl, ez⟩ := sE_inv e1; exact c_X9_refused E ez) ((cxI_ok (fun As h x h2 e => by obtain ⟨_, _, rfl, e0⟩ := sR_inv e; obtain ⟨_, _, rfl, e1⟩ := sI_inv e0; obtain ⟨rfl, ez⟩ := sE_inv e1; exact c_X9_good E ez) (fI0_ok E))))))
def FV_X9_drawnFaults : Nat → List Value → AH → Option (AH) := (cx 302 (fun As h => sR As fun a0 As => sI As fun x1 As => sI As fun x2 As => sE As (p_X9_draws a0 x1 x2 h)) fV0)
theorem FV_X9_drawnFaults_ok {l : Launch} {D : va_G} {dA : Nat → ClassId} {z : Nat} {sa : Nat → Nat} {Hz : Heap} (E : StrOK qLen qCh l D dA z sa Hz) : ∀ mi As h h', FV_X9_drawnFaults mi As h = some h' → CalOK l D dA z sa Hz (MT mi) As h none h' := (cxV_ok (fun As h h2 e => by obtain ⟨_, _, rfl, e0⟩ := sR_inv e; obtain ⟨_, _, rfl, e1⟩ := sI_inv e0; obtain ⟨_, _, rfl, e2⟩ := sI_inv e1; obtain ⟨rfl, ez⟩ := sE_inv e2; exact c_X9_draws E ez) (fV0_ok E))
def I_X9_drawnFaults_22 : List AI := [(.aload_n 0, 1, [], 0), (.iload_n 1, 1, [], 0), (.iload_n 2, 1, [], 0), (.invokevirtual 452, 3, [2, 302, 3, 8, 1964], 0), (.aload_n 0, 1, [], 0), (.aload_n 0, 1, [], 0), (.getfield 298, 3, [8, 27, 0, 1372], 0), (.invokevirtual 43, 3, [1, 233, 2, 8, 1694], 0), (.ireturn, 1, [], 0)]
theorem ok_X9_drawnFaults_22 : vBL MT qLen qCh false q_X9_drawnFaults.2.2.2.2.1 q_X9_drawnFaults.2.2.2.2.2.1 q_X9_drawnFaults.2.2.1 q_X9_drawnFaults.1.cls q_X9_drawnFaults.1.name q_X9_drawnFaults.2.1 0 22 I_X9_drawnFaults_22 = true := by decide +kernel
def p_X9_drawnFaults_22 (a0 : Nat) (x1 : Int32) (x2 : Int32) (h : AH) : Option (Int32 × AH) :=
  if (tg h a0).1 = 8 then ((p_X9_draws a0 x1 x2 h).bind fun h101 =>
  if (tg h101 a0).1 = 8 then (if (tg h101 a0).1 = 8 then ((p_X9_good a0 (rI h101 a0 27) h101).bind fun q102 =>
  some (q102.1, q102.2)) else none) else none) else none
set_option maxRecDepth 100000 in
theorem e_X9_drawnFaults_22 {l : Launch} {D : va_G} {dA : Nat → ClassId} {z : Nat} {sa : Nat → Nat} {Hz : Heap} (E : StrOK qLen qCh l D dA z sa Hz) {h0 fin : AH} {x : Int32}  : ∀ (a0 : Nat) (x1 : Int32) (x2 : Int32) (h : AH), p_X9_drawnFaults_22 a0 x1 x2 h = some (x, fin) → GM l D dA z sa Hz q_X9_drawnFaults h0 (some (.int x)) fin 22 [(0, .ref a0), (1, .int x1), (2, .int x2)] [] h := by
  intro a0 x1 x2 h hd
  exact step E (is := I_X9_drawnFaults_22) (pc := 22) (K := k0) (FI := FI_X9_drawnFaults) (FV := FV_X9_drawnFaults) (FL := fL0) (rt := rtI) (ft := 0) (by exact hd) ok_X9_drawnFaults_22 k0_ok (FI_X9_drawnFaults_ok E) (FV_X9_drawnFaults_ok E) (fL0_ok E) (rtI_ok rfl)
def I_X9_drawnFaults_0 : List AI := [(.aload_n 0, 1, [], 0), (.iconst 0, 1, [], 0), (.putfield 33, 3, [8, 0, 0, 1345], 0), (.aload_n 0, 1, [], 0), (.iload_n 1, 1, [], 0), (.iload_n 2, 1, [], 0), (.invokevirtual 449, 3, [1, 301, 3, 8, 1959], 0), (.istore_n 3, 1, [], 0), (.iload_n 3, 1, [], 0), (.ifCond .le 9, 3, [22], 0), (.aload_n 0, 1, [], 0), (.iload_n 3, 1, [], 0), (.invokevirtual 39, 3, [1, 201, 2, 8, 1481], 0), (.ireturn, 1, [], 0)]
theorem ok_X9_drawnFaults_0 : vBL MT qLen qCh false q_X9_drawnFaults.2.2.2.2.1 q_X9_drawnFaults.2.2.2.2.2.1 q_X9_drawnFaults.2.2.1 q_X9_drawnFaults.1.cls q_X9_drawnFaults.1.name q_X9_drawnFaults.2.1 0 0 I_X9_drawnFaults_0 = true := by decide +kernel
def p_X9_drawnFaults (a0 : Nat) (x1 : Int32) (x2 : Int32) (h : AH) : Option (Int32 × AH) :=
  if (tg h a0).1 = 8 then (let h103 := wI h a0 0 ((0 : Int32))
  if (tg h103 a0).1 = 8 then ((p_X9_refusesDraw a0 x1 x2 h103).bind fun q104 =>
  if 0 < q104.1 then (if (tg q104.2 a0).1 = 8 then ((p_X9_refused a0 q104.1 q104.2).bind fun q107 =>
  some (q107.1, q107.2)) else none)
  else
  if (tg q104.2 a0).1 = 8 then ((p_X9_draws a0 x1 x2 q104.2).bind fun h105 =>
  if (tg h105 a0).1 = 8 then (if (tg h105 a0).1 = 8 then ((p_X9_good a0 (rI h105 a0 27) h105).bind fun q106 =>
  some (q106.1, q106.2)) else none) else none) else none) else none) else none
set_option maxRecDepth 100000 in
theorem e_X9_drawnFaults_0 {l : Launch} {D : va_G} {dA : Nat → ClassId} {z : Nat} {sa : Nat → Nat} {Hz : Heap} (E : StrOK qLen qCh l D dA z sa Hz) {h0 fin : AH} {x : Int32}  : ∀ (a0 : Nat) (x1 : Int32) (x2 : Int32) (h : AH), p_X9_drawnFaults a0 x1 x2 h = some (x, fin) → GM l D dA z sa Hz q_X9_drawnFaults h0 (some (.int x)) fin 0 [(0, .ref a0), (1, .int x1), (2, .int x2)] [] h := by
  intro a0 x1 x2 h hd
  exact step E (is := I_X9_drawnFaults_0) (pc := 0) (K := (kx 22 (fun la st h => gR la 0 fun a0 => gI la 1 fun x1 => gI la 2 fun x2 => sE st (p_X9_drawnFaults_22 a0 x1 x2 h)) k0)) (FI := FI_X9_drawnFaults) (FV := FV_X9_drawnFaults) (FL := fL0) (rt := rtI) (ft := 0) (by exact hd) ok_X9_drawnFaults_0 (kx_ok (fun la st h e => by obtain ⟨a0, m_a0, e1⟩ := gR_inv e; obtain ⟨x1, m_x1, e2⟩ := gI_inv e1; obtain ⟨x2, m_x2, e3⟩ := gI_inv e2; obtain ⟨rfl, ez⟩ := sE_inv e3; exact gm_fewer (e_X9_drawnFaults_22 E  a0 x1 x2 h ez) (mem_cons m_a0 (mem_cons m_x1 (mem_cons m_x2 mem_nil)))) k0_ok) (FI_X9_drawnFaults_ok E) (FV_X9_drawnFaults_ok E) (fL0_ok E) (rtI_ok rfl)
theorem c_X9_drawnFaults {l : Launch} {D : va_G} {dA : Nat → ClassId} {z : Nat} {sa : Nat → Nat} {Hz : Heap} (E : StrOK qLen qCh l D dA z sa Hz) {a0 : Nat} {x1 : Int32} {x2 : Int32} {h fin : AH} {x : Int32} (hd : p_X9_drawnFaults a0 x1 x2 h = some (x, fin)) : CalOK l D dA z sa Hz q_X9_drawnFaults [.ref a0, .int x1, .int x2] h (some (.int x)) fin := calOf (by decide +kernel) (Nat.le_of_ble_eq_true rfl) (e_X9_drawnFaults_0 E a0 x1 x2 h hd)
def FI_X9_drawnMarks : Nat → List Value → AH → Option (Int32 × AH) := (cx 301 (fun As h => sR As fun a0 As => sI As fun x1 As => sI As fun x2 As => sE As (p_X9_refusesDraw a0 x1 x2 h)) (cx 201 (fun As h => sR As fun a0 As => sI As fun x1 As => sE As (p_X9_refused a0 x1 h)) (cx 233 (fun As h => sR As fun a0 As => sI As fun x1 As => sE As (p_X9_good a0 x1 h)) fI0)))
theorem FI_X9_drawnMarks_ok {l : Launch} {D : va_G} {dA : Nat → ClassId} {z : Nat} {sa : Nat → Nat} {Hz : Heap} (E : StrOK qLen qCh l D dA z sa Hz) : ∀ mi As h x h', FI_X9_drawnMarks mi As h = some (x, h') → CalOK l D dA z sa Hz (MT mi) As h (some (.int x)) h' := (cxI_ok (fun As h x h2 e => by obtain ⟨_, _, rfl, e0⟩ := sR_inv e; obtain ⟨_, _, rfl, e1⟩ := sI_inv e0; obtain ⟨_, _, rfl, e2⟩ := sI_inv e1; obtain ⟨rfl, ez⟩ := sE_inv e2; exact c_X9_refusesDraw E ez) ((cxI_ok (fun As h x h2 e => by obtain ⟨_, _, rfl, e0⟩ := sR_inv e; obtain ⟨_, _, rfl, e1⟩ := sI_inv e0; obtain ⟨rfl, ez⟩ := sE_inv e1; exact c_X9_refused E ez) ((cxI_ok (fun As h x h2 e => by obtain ⟨_, _, rfl, e0⟩ := sR_inv e; obtain ⟨_, _, rfl, e1⟩ := sI_inv e0; obtain ⟨rfl, ez⟩ := sE_inv e1; exact c_X9_good E ez) (fI0_ok E))))))
def FV_X9_drawnMarks : Nat → List Value → AH → Option (AH) := (cx 302 (fun As h => sR As fun a0 As => sI As fun x1 As => sI As fun x2 As => sE As (p_X9_draws a0 x1 x2 h)) fV0)
theorem FV_X9_drawnMarks_ok {l : Launch} {D : va_G} {dA : Nat → ClassId} {z : Nat} {sa : Nat → Nat} {Hz : Heap} (E : StrOK qLen qCh l D dA z sa Hz) : ∀ mi As h h', FV_X9_drawnMarks mi As h = some h' → CalOK l D dA z sa Hz (MT mi) As h none h' := (cxV_ok (fun As h h2 e => by obtain ⟨_, _, rfl, e0⟩ := sR_inv e; obtain ⟨_, _, rfl, e1⟩ := sI_inv e0; obtain ⟨_, _, rfl, e2⟩ := sI_inv e1; obtain ⟨rfl, ez⟩ := sE_inv e2; exact c_X9_draws E ez) (fV0_ok E))
def I_X9_drawnMarks_22 : List AI := [(.aload_n 0, 1, [], 0), (.iload_n 1, 1, [], 0), (.iload_n 2, 1, [], 0), (.invokevirtual 452, 3, [2, 302, 3, 8, 1964], 0), (.aload_n 0, 1, [], 0), (.aload_n 0, 1, [], 0), (.getfield 21, 3, [8, 16, 2, 1361], 0), (.sipush 145, 3, [], 145), (.iaload, 1, [], 0), (.invokevirtual 43, 3, [1, 233, 2, 8, 1694], 0), (.ireturn, 1, [], 0)]
theorem ok_X9_drawnMarks_22 : vBL MT qLen qCh false q_X9_drawnMarks.2.2.2.2.1 q_X9_drawnMarks.2.2.2.2.2.1 q_X9_drawnMarks.2.2.1 q_X9_drawnMarks.1.cls q_X9_drawnMarks.1.name q_X9_drawnMarks.2.1 0 22 I_X9_drawnMarks_22 = true := by decide +kernel
def p_X9_drawnMarks_22 (a0 : Nat) (x1 : Int32) (x2 : Int32) (h : AH) : Option (Int32 × AH) :=
  if (tg h a0).1 = 8 then ((p_X9_draws a0 x1 x2 h).bind fun h101 =>
  if (tg h101 a0).1 = 8 then (if inB h101 (rR h101 a0 16) 100 ((145 : Int32)) then (if (tg h101 a0).1 = 8 then ((p_X9_good a0 (rI h101 (rR h101 a0 16) ((145 : Int32)).toNatClampNeg) h101).bind fun q102 =>
  some (q102.1, q102.2)) else none) else none) else none) else none
set_option maxRecDepth 100000 in
theorem e_X9_drawnMarks_22 {l : Launch} {D : va_G} {dA : Nat → ClassId} {z : Nat} {sa : Nat → Nat} {Hz : Heap} (E : StrOK qLen qCh l D dA z sa Hz) {h0 fin : AH} {x : Int32}  : ∀ (a0 : Nat) (x1 : Int32) (x2 : Int32) (h : AH), p_X9_drawnMarks_22 a0 x1 x2 h = some (x, fin) → GM l D dA z sa Hz q_X9_drawnMarks h0 (some (.int x)) fin 22 [(0, .ref a0), (1, .int x1), (2, .int x2)] [] h := by
  intro a0 x1 x2 h hd
  exact step E (is := I_X9_drawnMarks_22) (pc := 22) (K := k0) (FI := FI_X9_drawnMarks) (FV := FV_X9_drawnMarks) (FL := fL0) (rt := rtI) (ft := 0) (by exact hd) ok_X9_drawnMarks_22 k0_ok (FI_X9_drawnMarks_ok E) (FV_X9_drawnMarks_ok E) (fL0_ok E) (rtI_ok rfl)
def I_X9_drawnMarks_0 : List AI := [(.aload_n 0, 1, [], 0), (.iconst 0, 1, [], 0), (.putfield 33, 3, [8, 0, 0, 1345], 0), (.aload_n 0, 1, [], 0), (.iload_n 1, 1, [], 0), (.iload_n 2, 1, [], 0), (.invokevirtual 449, 3, [1, 301, 3, 8, 1959], 0), (.istore_n 3, 1, [], 0), (.iload_n 3, 1, [], 0), (.ifCond .le 9, 3, [22], 0), (.aload_n 0, 1, [], 0), (.iload_n 3, 1, [], 0), (.invokevirtual 39, 3, [1, 201, 2, 8, 1481], 0), (.ireturn, 1, [], 0)]
theorem ok_X9_drawnMarks_0 : vBL MT qLen qCh false q_X9_drawnMarks.2.2.2.2.1 q_X9_drawnMarks.2.2.2.2.2.1 q_X9_drawnMarks.2.2.1 q_X9_drawnMarks.1.cls q_X9_drawnMarks.1.name q_X9_drawnMarks.2.1 0 0 I_X9_drawnMarks_0 = true := by decide +kernel
def p_X9_drawnMarks (a0 : Nat) (x1 : Int32) (x2 : Int32) (h : AH) : Option (Int32 × AH) :=
  if (tg h a0).1 = 8 then (let h103 := wI h a0 0 ((0 : Int32))
  if (tg h103 a0).1 = 8 then ((p_X9_refusesDraw a0 x1 x2 h103).bind fun q104 =>
  if 0 < q104.1 then (if (tg q104.2 a0).1 = 8 then ((p_X9_refused a0 q104.1 q104.2).bind fun q107 =>
  some (q107.1, q107.2)) else none)
  else
  if (tg q104.2 a0).1 = 8 then ((p_X9_draws a0 x1 x2 q104.2).bind fun h105 =>
  if (tg h105 a0).1 = 8 then (if inB h105 (rR h105 a0 16) 100 ((145 : Int32)) then (if (tg h105 a0).1 = 8 then ((p_X9_good a0 (rI h105 (rR h105 a0 16) ((145 : Int32)).toNatClampNeg) h105).bind fun q106 =>
  some (q106.1, q106.2)) else none) else none) else none) else none) else none) else none
set_option maxRecDepth 100000 in
theorem e_X9_drawnMarks_0 {l : Launch} {D : va_G} {dA : Nat → ClassId} {z : Nat} {sa : Nat → Nat} {Hz : Heap} (E : StrOK qLen qCh l D dA z sa Hz) {h0 fin : AH} {x : Int32}  : ∀ (a0 : Nat) (x1 : Int32) (x2 : Int32) (h : AH), p_X9_drawnMarks a0 x1 x2 h = some (x, fin) → GM l D dA z sa Hz q_X9_drawnMarks h0 (some (.int x)) fin 0 [(0, .ref a0), (1, .int x1), (2, .int x2)] [] h := by
  intro a0 x1 x2 h hd
  exact step E (is := I_X9_drawnMarks_0) (pc := 0) (K := (kx 22 (fun la st h => gR la 0 fun a0 => gI la 1 fun x1 => gI la 2 fun x2 => sE st (p_X9_drawnMarks_22 a0 x1 x2 h)) k0)) (FI := FI_X9_drawnMarks) (FV := FV_X9_drawnMarks) (FL := fL0) (rt := rtI) (ft := 0) (by exact hd) ok_X9_drawnMarks_0 (kx_ok (fun la st h e => by obtain ⟨a0, m_a0, e1⟩ := gR_inv e; obtain ⟨x1, m_x1, e2⟩ := gI_inv e1; obtain ⟨x2, m_x2, e3⟩ := gI_inv e2; obtain ⟨rfl, ez⟩ := sE_inv e3; exact gm_fewer (e_X9_drawnMarks_22 E  a0 x1 x2 h ez) (mem_cons m_a0 (mem_cons m_x1 (mem_cons m_x2 mem_nil)))) k0_ok) (FI_X9_drawnMarks_ok E) (FV_X9_drawnMarks_ok E) (fL0_ok E) (rtI_ok rfl)
theorem c_X9_drawnMarks {l : Launch} {D : va_G} {dA : Nat → ClassId} {z : Nat} {sa : Nat → Nat} {Hz : Heap} (E : StrOK qLen qCh l D dA z sa Hz) {a0 : Nat} {x1 : Int32} {x2 : Int32} {h fin : AH} {x : Int32} (hd : p_X9_drawnMarks a0 x1 x2 h = some (x, fin)) : CalOK l D dA z sa Hz q_X9_drawnMarks [.ref a0, .int x1, .int x2] h (some (.int x)) fin := calOf (by decide +kernel) (Nat.le_of_ble_eq_true rfl) (e_X9_drawnMarks_0 E a0 x1 x2 h hd)
def I_X9_common_31 : List AI := [(.lload 4, 2, [], 0), (.lreturn, 1, [], 0)]
theorem ok_X9_common_31 : vBL MT qLen qCh false q_X9_common.2.2.2.2.1 q_X9_common.2.2.2.2.2.1 q_X9_common.2.2.1 q_X9_common.1.cls q_X9_common.1.name q_X9_common.2.1 0 31 I_X9_common_31 = true := by decide +kernel
def p_X9_common_31 (w4 : Int64) (h : AH) : Option (Int64 × AH) :=
  some (w4, h)
set_option maxRecDepth 100000 in
theorem e_X9_common_31 {l : Launch} {D : va_G} {dA : Nat → ClassId} {z : Nat} {sa : Nat → Nat} {Hz : Heap} (E : StrOK qLen qCh l D dA z sa Hz) {h0 fin : AH} {x : Int64}  : ∀ (w4 : Int64) (h : AH), p_X9_common_31 w4 h = some (x, fin) → GM l D dA z sa Hz q_X9_common h0 (some (.long x)) fin 31 [(4, .long w4)] [] h := by
  intro w4 h hd
  exact step E (is := I_X9_common_31) (pc := 31) (K := k0) (FI := fI0) (FV := fV0) (FL := fL0) (rt := rtL) (ft := 0) (by exact hd) ok_X9_common_31 k0_ok (fI0_ok E) (fV0_ok E) (fL0_ok E) (rtL_ok rfl)
def I_X9_common_6 : List AI := [(.lload 6, 2, [], 0), (.lconst 0, 1, [], 0), (.lcmp, 1, [], 0), (.ifCond .eq 21, 3, [31], 0), (.lload 4, 2, [], 0), (.lload 6, 2, [], 0), (.lrem, 1, [], 0), (.lstore 8, 2, [], 0), (.lload 6, 2, [], 0), (.lstore 4, 2, [], 0), (.lload 8, 2, [], 0), (.lstore 6, 2, [], 0), (.goto (-22), 3, [6], 0)]
theorem ok_X9_common_6 : vBL MT qLen qCh false q_X9_common.2.2.2.2.1 q_X9_common.2.2.2.2.2.1 q_X9_common.2.2.1 q_X9_common.1.cls q_X9_common.1.name q_X9_common.2.1 0 6 I_X9_common_6 = true := by decide +kernel
def p_X9_common_6 : Nat → Int64 → Int64 → AH → Option (Int64 × AH)
  | 0, _, _, _ => none
  | n + 1, w4, w6, h => if (lg_cmp w6 ((0 : Int32).toInt64)) = 0 then (some (w4, h))
    else
    if w6 = 0 then none else
    let w101 := lrm w4 w6
    p_X9_common_6 n w6 w101 h
set_option maxRecDepth 100000 in
theorem e_X9_common_6 {l : Launch} {D : va_G} {dA : Nat → ClassId} {z : Nat} {sa : Nat → Nat} {Hz : Heap} (E : StrOK qLen qCh l D dA z sa Hz) {h0 fin : AH} {x : Int64}  : ∀ (n : Nat) (w4 : Int64) (w6 : Int64) (h : AH), p_X9_common_6 n w4 w6 h = some (x, fin) → GM l D dA z sa Hz q_X9_common h0 (some (.long x)) fin 6 [(4, .long w4), (6, .long w6)] [] h := by
  intro n
  induction n with
  | zero => intro w4 w6 h hd; exact nomatch hd
  | succ n ih =>
    intro w4 w6 h hd
    exact step E (is := I_X9_common_6) (pc := 6) (K := (kx 31 (fun la st h => gL la 4 fun w4 => sE st (p_X9_common_31 w4 h)) (kx 6 (fun la st h => gL la 4 fun w4 => gL la 6 fun w6 => sE st (p_X9_common_6 n w4 w6 h)) k0))) (FI := fI0) (FV := fV0) (FL := fL0) (rt := rtL) (ft := 0) (by exact hd) ok_X9_common_6 (kx_ok (fun la st h e => by obtain ⟨w4, m_w4, e1⟩ := gL_inv e; obtain ⟨rfl, ez⟩ := sE_inv e1; exact gm_fewer (e_X9_common_31 E  w4 h ez) (mem_cons m_w4 mem_nil)) (kx_ok (fun la st h e => by obtain ⟨w4, m_w4, e1⟩ := gL_inv e; obtain ⟨w6, m_w6, e2⟩ := gL_inv e1; obtain ⟨rfl, ez⟩ := sE_inv e2; exact gm_fewer (ih w4 w6 h ez) (mem_cons m_w4 (mem_cons m_w6 mem_nil))) k0_ok)) (fI0_ok E) (fV0_ok E) (fL0_ok E) (rtL_ok rfl)
def I_X9_common_0 : List AI := [(.lload_n 0, 1, [], 0), (.lstore 4, 2, [], 0), (.lload_n 2, 1, [], 0), (.lstore 6, 2, [], 0)]
theorem ok_X9_common_0 : vBL MT qLen qCh false q_X9_common.2.2.2.2.1 q_X9_common.2.2.2.2.2.1 q_X9_common.2.2.1 q_X9_common.1.cls q_X9_common.1.name q_X9_common.2.1 6 0 I_X9_common_0 = true := by decide +kernel
def p_X9_common (w0 : Int64) (w2 : Int64) (h : AH) : Option (Int64 × AH) :=
  p_X9_common_6 FU w0 w2 h
set_option maxRecDepth 100000 in
theorem e_X9_common_0 {l : Launch} {D : va_G} {dA : Nat → ClassId} {z : Nat} {sa : Nat → Nat} {Hz : Heap} (E : StrOK qLen qCh l D dA z sa Hz) {h0 fin : AH} {x : Int64}  : ∀ (w0 : Int64) (w2 : Int64) (h : AH), p_X9_common w0 w2 h = some (x, fin) → GM l D dA z sa Hz q_X9_common h0 (some (.long x)) fin 0 [(0, .long w0), (2, .long w2)] [] h := by
  intro w0 w2 h hd
  exact step E (is := I_X9_common_0) (pc := 0) (K := (kx 6 (fun la st h => gL la 4 fun w4 => gL la 6 fun w6 => sE st (p_X9_common_6 FU w4 w6 h)) k0)) (FI := fI0) (FV := fV0) (FL := fL0) (rt := rtL) (ft := 6) (by exact hd) ok_X9_common_0 (kx_ok (fun la st h e => by obtain ⟨w4, m_w4, e1⟩ := gL_inv e; obtain ⟨w6, m_w6, e2⟩ := gL_inv e1; obtain ⟨rfl, ez⟩ := sE_inv e2; exact gm_fewer (e_X9_common_6 E  FU w4 w6 h ez) (mem_cons m_w4 (mem_cons m_w6 mem_nil))) k0_ok) (fI0_ok E) (fV0_ok E) (fL0_ok E) (rtL_ok rfl)
theorem c_X9_common {l : Launch} {D : va_G} {dA : Nat → ClassId} {z : Nat} {sa : Nat → Nat} {Hz : Heap} (E : StrOK qLen qCh l D dA z sa Hz) {w0 : Int64} {w2 : Int64} {h fin : AH} {x : Int64} (hd : p_X9_common w0 w2 h = some (x, fin)) : CalOK l D dA z sa Hz q_X9_common [.long w0, .long w2] h (some (.long x)) fin := calOf (by decide +kernel) (Nat.le_of_ble_eq_true rfl) (e_X9_common_0 E w0 w2 h hd)
def FI_X9_fraction : Nat → List Value → AH → Option (Int32 × AH) := (cx 233 (fun As h => sR As fun a0 As => sI As fun x1 As => sE As (p_X9_good a0 x1 h)) fI0)
theorem FI_X9_fraction_ok {l : Launch} {D : va_G} {dA : Nat → ClassId} {z : Nat} {sa : Nat → Nat} {Hz : Heap} (E : StrOK qLen qCh l D dA z sa Hz) : ∀ mi As h x h', FI_X9_fraction mi As h = some (x, h') → CalOK l D dA z sa Hz (MT mi) As h (some (.int x)) h' := (cxI_ok (fun As h x h2 e => by obtain ⟨_, _, rfl, e0⟩ := sR_inv e; obtain ⟨_, _, rfl, e1⟩ := sI_inv e0; obtain ⟨rfl, ez⟩ := sE_inv e1; exact c_X9_good E ez) (fI0_ok E))
def FL_X9_fraction : Nat → List Value → AH → Option (Int64 × AH) := (cx 305 (fun As h => sL As fun w0 As => sL As fun w1 As => sE As (p_X9_common w0 w1 h)) fL0)
theorem FL_X9_fraction_ok {l : Launch} {D : va_G} {dA : Nat → ClassId} {z : Nat} {sa : Nat → Nat} {Hz : Heap} (E : StrOK qLen qCh l D dA z sa Hz) : ∀ mi As h x h', FL_X9_fraction mi As h = some (x, h') → CalOK l D dA z sa Hz (MT mi) As h (some (.long x)) h' := (cxL_ok (fun As h x h2 e => by obtain ⟨_, _, rfl, e0⟩ := sL_inv e; obtain ⟨_, _, rfl, e1⟩ := sL_inv e0; obtain ⟨rfl, ez⟩ := sE_inv e1; exact c_X9_common E ez) (fL0_ok E))
def I_X9_fraction_16 : List AI := [(.lload_n 1, 1, [], 0), (.lload_n 3, 1, [], 0), (.invokestatic 46, 3, [3, 305, 2, 1983], 0), (.ldiv, 1, [], 0), (.lreturn, 1, [], 0)]
theorem ok_X9_fraction_16 : vBL MT qLen qCh false q_X9_fraction.2.2.2.2.1 q_X9_fraction.2.2.2.2.2.1 q_X9_fraction.2.2.1 q_X9_fraction.1.cls q_X9_fraction.1.name q_X9_fraction.2.1 0 16 I_X9_fraction_16 = true := by decide +kernel
def p_X9_fraction_16 (w1 : Int64) (w3 : Int64) (v0 : Int64) (h : AH) : Option (Int64 × AH) :=
  (p_X9_common w1 w3 h).bind fun q101 =>
  if q101.1 = 0 then none else
  some ((v0 / q101.1), q101.2)
set_option maxRecDepth 100000 in
theorem e_X9_fraction_16 {l : Launch} {D : va_G} {dA : Nat → ClassId} {z : Nat} {sa : Nat → Nat} {Hz : Heap} (E : StrOK qLen qCh l D dA z sa Hz) {h0 fin : AH} {x : Int64}  : ∀ (w1 : Int64) (w3 : Int64) (v0 : Int64) (h : AH), p_X9_fraction_16 w1 w3 v0 h = some (x, fin) → GM l D dA z sa Hz q_X9_fraction h0 (some (.long x)) fin 16 [(1, .long w1), (3, .long w3)] [.long v0] h := by
  intro w1 w3 v0 h hd
  exact step E (is := I_X9_fraction_16) (pc := 16) (K := k0) (FI := FI_X9_fraction) (FV := fV0) (FL := FL_X9_fraction) (rt := rtL) (ft := 0) (by exact hd) ok_X9_fraction_16 k0_ok (FI_X9_fraction_ok E) (fV0_ok E) (FL_X9_fraction_ok E) (rtL_ok rfl)
def I_X9_fraction_15 : List AI := [(.lload_n 1, 1, [], 0)]
theorem ok_X9_fraction_15 : vBL MT qLen qCh false q_X9_fraction.2.2.2.2.1 q_X9_fraction.2.2.2.2.2.1 q_X9_fraction.2.2.1 q_X9_fraction.1.cls q_X9_fraction.1.name q_X9_fraction.2.1 16 15 I_X9_fraction_15 = true := by decide +kernel
def p_X9_fraction_15 (w1 : Int64) (w3 : Int64) (h : AH) : Option (Int64 × AH) :=
  p_X9_fraction_16 w1 w3 w1 h
set_option maxRecDepth 100000 in
theorem e_X9_fraction_15 {l : Launch} {D : va_G} {dA : Nat → ClassId} {z : Nat} {sa : Nat → Nat} {Hz : Heap} (E : StrOK qLen qCh l D dA z sa Hz) {h0 fin : AH} {x : Int64}  : ∀ (w1 : Int64) (w3 : Int64) (h : AH), p_X9_fraction_15 w1 w3 h = some (x, fin) → GM l D dA z sa Hz q_X9_fraction h0 (some (.long x)) fin 15 [(1, .long w1), (3, .long w3)] [] h := by
  intro w1 w3 h hd
  exact step E (is := I_X9_fraction_15) (pc := 15) (K := (kx 16 (fun la st h => gL la 1 fun w1 => gL la 3 fun w3 => sL st fun v0 st => sE st (p_X9_fraction_16 w1 w3 v0 h)) k0)) (FI := FI_X9_fraction) (FV := fV0) (FL := FL_X9_fraction) (rt := rtL) (ft := 16) (by exact hd) ok_X9_fraction_15 (kx_ok (fun la st h e => by obtain ⟨w1, m_w1, e1⟩ := gL_inv e; obtain ⟨w3, m_w3, e2⟩ := gL_inv e1; obtain ⟨v0, _, rfl, e3⟩ := sL_inv e2; obtain ⟨rfl, ez⟩ := sE_inv e3; exact gm_fewer (e_X9_fraction_16 E  w1 w3 v0 h ez) (mem_cons m_w1 (mem_cons m_w3 mem_nil))) k0_ok) (FI_X9_fraction_ok E) (fV0_ok E) (FL_X9_fraction_ok E) (rtL_ok rfl)
def I_X9_fraction_0 : List AI := [(.aload_n 0, 1, [], 0), (.iconst 0, 1, [], 0), (.invokevirtual 43, 3, [1, 233, 2, 8, 1694], 0), (.pop, 1, [], 0), (.iload 5, 2, [], 0), (.ifCond .eq 7, 3, [15], 0), (.lload_n 3, 1, [], 0), (.goto 4, 3, [16], 0)]
theorem ok_X9_fraction_0 : vBL MT qLen qCh false q_X9_fraction.2.2.2.2.1 q_X9_fraction.2.2.2.2.2.1 q_X9_fraction.2.2.1 q_X9_fraction.1.cls q_X9_fraction.1.name q_X9_fraction.2.1 0 0 I_X9_fraction_0 = true := by decide +kernel
def p_X9_fraction (a0 : Nat) (w1 : Int64) (w3 : Int64) (x5 : Int32) (h : AH) : Option (Int64 × AH) :=
  if (tg h a0).1 = 8 then ((p_X9_good a0 ((0 : Int32)) h).bind fun q102 =>
  if x5 = 0 then (p_X9_fraction_16 w1 w3 w1 q102.2)
  else
  p_X9_fraction_16 w1 w3 w3 q102.2) else none
set_option maxRecDepth 100000 in
theorem e_X9_fraction_0 {l : Launch} {D : va_G} {dA : Nat → ClassId} {z : Nat} {sa : Nat → Nat} {Hz : Heap} (E : StrOK qLen qCh l D dA z sa Hz) {h0 fin : AH} {x : Int64}  : ∀ (a0 : Nat) (w1 : Int64) (w3 : Int64) (x5 : Int32) (h : AH), p_X9_fraction a0 w1 w3 x5 h = some (x, fin) → GM l D dA z sa Hz q_X9_fraction h0 (some (.long x)) fin 0 [(0, .ref a0), (1, .long w1), (3, .long w3), (5, .int x5)] [] h := by
  intro a0 w1 w3 x5 h hd
  exact step E (is := I_X9_fraction_0) (pc := 0) (K := (kx 15 (fun la st h => gL la 1 fun w1 => gL la 3 fun w3 => sE st (p_X9_fraction_15 w1 w3 h)) (kx 16 (fun la st h => gL la 1 fun w1 => gL la 3 fun w3 => sL st fun v0 st => sE st (p_X9_fraction_16 w1 w3 v0 h)) k0))) (FI := FI_X9_fraction) (FV := fV0) (FL := FL_X9_fraction) (rt := rtL) (ft := 0) (by exact hd) ok_X9_fraction_0 (kx_ok (fun la st h e => by obtain ⟨w1, m_w1, e1⟩ := gL_inv e; obtain ⟨w3, m_w3, e2⟩ := gL_inv e1; obtain ⟨rfl, ez⟩ := sE_inv e2; exact gm_fewer (e_X9_fraction_15 E  w1 w3 h ez) (mem_cons m_w1 (mem_cons m_w3 mem_nil))) (kx_ok (fun la st h e => by obtain ⟨w1, m_w1, e1⟩ := gL_inv e; obtain ⟨w3, m_w3, e2⟩ := gL_inv e1; obtain ⟨v0, _, rfl, e3⟩ := sL_inv e2; obtain ⟨rfl, ez⟩ := sE_inv e3; exact gm_fewer (e_X9_fraction_16 E  w1 w3 v0 h ez) (mem_cons m_w1 (mem_cons m_w3 mem_nil))) k0_ok)) (FI_X9_fraction_ok E) (fV0_ok E) (FL_X9_fraction_ok E) (rtL_ok rfl)
theorem c_X9_fraction {l : Launch} {D : va_G} {dA : Nat → ClassId} {z : Nat} {sa : Nat → Nat} {Hz : Heap} (E : StrOK qLen qCh l D dA z sa Hz) {a0 : Nat} {w1 : Int64} {w3 : Int64} {x5 : Int32} {h fin : AH} {x : Int64} (hd : p_X9_fraction a0 w1 w3 x5 h = some (x, fin)) : CalOK l D dA z sa Hz q_X9_fraction [.ref a0, .long w1, .long w3, .int x5] h (some (.long x)) fin := calOf (by decide +kernel) (Nat.le_of_ble_eq_true rfl) (e_X9_fraction_0 E a0 w1 w3 x5 h hd)
def FI_X9_rate : Nat → List Value → AH → Option (Int32 × AH) := (cx 201 (fun As h => sR As fun a0 As => sI As fun x1 As => sE As (p_X9_refused a0 x1 h)) fI0)
theorem FI_X9_rate_ok {l : Launch} {D : va_G} {dA : Nat → ClassId} {z : Nat} {sa : Nat → Nat} {Hz : Heap} (E : StrOK qLen qCh l D dA z sa Hz) : ∀ mi As h x h', FI_X9_rate mi As h = some (x, h') → CalOK l D dA z sa Hz (MT mi) As h (some (.int x)) h' := (cxI_ok (fun As h x h2 e => by obtain ⟨_, _, rfl, e0⟩ := sR_inv e; obtain ⟨_, _, rfl, e1⟩ := sI_inv e0; obtain ⟨rfl, ez⟩ := sE_inv e1; exact c_X9_refused E ez) (fI0_ok E))
def FL_X9_rate : Nat → List Value → AH → Option (Int64 × AH) := (cx 306 (fun As h => sR As fun a0 As => sL As fun w1 As => sL As fun w2 As => sI As fun x3 As => sE As (p_X9_fraction a0 w1 w2 x3 h)) fL0)
theorem FL_X9_rate_ok {l : Launch} {D : va_G} {dA : Nat → ClassId} {z : Nat} {sa : Nat → Nat} {Hz : Heap} (E : StrOK qLen qCh l D dA z sa Hz) : ∀ mi As h x h', FL_X9_rate mi As h = some (x, h') → CalOK l D dA z sa Hz (MT mi) As h (some (.long x)) h' := (cxL_ok (fun As h x h2 e => by obtain ⟨_, _, rfl, e0⟩ := sR_inv e; obtain ⟨_, _, rfl, e1⟩ := sL_inv e0; obtain ⟨_, _, rfl, e2⟩ := sL_inv e1; obtain ⟨_, _, rfl, e3⟩ := sI_inv e2; obtain ⟨rfl, ez⟩ := sE_inv e3; exact c_X9_fraction E ez) (fL0_ok E))
def I_X9_rate_41 : List AI := [(.iload_n 1, 1, [], 0), (.invokevirtual 455, 3, [3, 306, 4, 8, 1979], 0), (.lreturn, 1, [], 0)]
theorem ok_X9_rate_41 : vBL MT qLen qCh false q_X9_rate.2.2.2.2.1 q_X9_rate.2.2.2.2.2.1 q_X9_rate.2.2.1 q_X9_rate.1.cls q_X9_rate.1.name q_X9_rate.2.1 0 41 I_X9_rate_41 = true := by decide +kernel
def p_X9_rate_41 (x1 : Int32) (v0 : Int64) (v1 : Int64) (b2 : Nat) (h : AH) : Option (Int64 × AH) :=
  if (tg h b2).1 = 8 then ((p_X9_fraction b2 v1 v0 x1 h).bind fun q101 =>
  some (q101.1, q101.2)) else none
set_option maxRecDepth 100000 in
theorem e_X9_rate_41 {l : Launch} {D : va_G} {dA : Nat → ClassId} {z : Nat} {sa : Nat → Nat} {Hz : Heap} (E : StrOK qLen qCh l D dA z sa Hz) {h0 fin : AH} {x : Int64}  : ∀ (x1 : Int32) (v0 : Int64) (v1 : Int64) (b2 : Nat) (h : AH), p_X9_rate_41 x1 v0 v1 b2 h = some (x, fin) → GM l D dA z sa Hz q_X9_rate h0 (some (.long x)) fin 41 [(1, .int x1)] [.long v0, .long v1, .ref b2] h := by
  intro x1 v0 v1 b2 h hd
  exact step E (is := I_X9_rate_41) (pc := 41) (K := k0) (FI := FI_X9_rate) (FV := fV0) (FL := FL_X9_rate) (rt := rtL) (ft := 0) (by exact hd) ok_X9_rate_41 k0_ok (FI_X9_rate_ok E) (fV0_ok E) (FL_X9_rate_ok E) (rtL_ok rfl)
def I_X9_rate_36 : List AI := [(.aload_n 0, 1, [], 0), (.getfield 291, 3, [8, 25, 0, 1370], 0), (.i2l, 1, [], 0)]
theorem ok_X9_rate_36 : vBL MT qLen qCh false q_X9_rate.2.2.2.2.1 q_X9_rate.2.2.2.2.2.1 q_X9_rate.2.2.1 q_X9_rate.1.cls q_X9_rate.1.name q_X9_rate.2.1 41 36 I_X9_rate_36 = true := by decide +kernel
def p_X9_rate_36 (a0 : Nat) (x1 : Int32) (v0 : Int64) (b1 : Nat) (h : AH) : Option (Int64 × AH) :=
  if (tg h a0).1 = 8 then (p_X9_rate_41 x1 ((rI h a0 25).toInt64) v0 b1 h) else none
set_option maxRecDepth 100000 in
theorem e_X9_rate_36 {l : Launch} {D : va_G} {dA : Nat → ClassId} {z : Nat} {sa : Nat → Nat} {Hz : Heap} (E : StrOK qLen qCh l D dA z sa Hz) {h0 fin : AH} {x : Int64}  : ∀ (a0 : Nat) (x1 : Int32) (v0 : Int64) (b1 : Nat) (h : AH), p_X9_rate_36 a0 x1 v0 b1 h = some (x, fin) → GM l D dA z sa Hz q_X9_rate h0 (some (.long x)) fin 36 [(0, .ref a0), (1, .int x1)] [.long v0, .ref b1] h := by
  intro a0 x1 v0 b1 h hd
  exact step E (is := I_X9_rate_36) (pc := 36) (K := (kx 41 (fun la st h => gI la 1 fun x1 => sL st fun v0 st => sL st fun v1 st => sR st fun b2 st => sE st (p_X9_rate_41 x1 v0 v1 b2 h)) k0)) (FI := FI_X9_rate) (FV := fV0) (FL := FL_X9_rate) (rt := rtL) (ft := 41) (by exact hd) ok_X9_rate_36 (kx_ok (fun la st h e => by obtain ⟨x1, m_x1, e1⟩ := gI_inv e; obtain ⟨v0, _, rfl, e2⟩ := sL_inv e1; obtain ⟨v1, _, rfl, e3⟩ := sL_inv e2; obtain ⟨b2, _, rfl, e4⟩ := sR_inv e3; obtain ⟨rfl, ez⟩ := sE_inv e4; exact gm_fewer (e_X9_rate_41 E  x1 v0 v1 b2 h ez) (mem_cons m_x1 mem_nil)) k0_ok) (FI_X9_rate_ok E) (fV0_ok E) (FL_X9_rate_ok E) (rtL_ok rfl)
def I_X9_rate_19 : List AI := [(.aload_n 0, 1, [], 0), (.aload_n 0, 1, [], 0), (.getfield 288, 3, [8, 24, 0, 1369], 0), (.i2l, 1, [], 0), (.aload_n 0, 1, [], 0), (.getfield 291, 3, [8, 25, 0, 1370], 0), (.ifCond .ne 7, 3, [36], 0), (.lconst 1, 1, [], 1), (.goto 8, 3, [41], 0)]
theorem ok_X9_rate_19 : vBL MT qLen qCh false q_X9_rate.2.2.2.2.1 q_X9_rate.2.2.2.2.2.1 q_X9_rate.2.2.1 q_X9_rate.1.cls q_X9_rate.1.name q_X9_rate.2.1 0 19 I_X9_rate_19 = true := by decide +kernel
def p_X9_rate_19 (a0 : Nat) (x1 : Int32) (h : AH) : Option (Int64 × AH) :=
  if (tg h a0).1 = 8 then (if (tg h a0).1 = 8 then (if (rI h a0 25) = 0 then (p_X9_rate_41 x1 ((1 : Int32).toInt64) ((rI h a0 24).toInt64) a0 h)
  else
  if (tg h a0).1 = 8 then (p_X9_rate_41 x1 ((rI h a0 25).toInt64) ((rI h a0 24).toInt64) a0 h) else none) else none) else none
set_option maxRecDepth 100000 in
theorem e_X9_rate_19 {l : Launch} {D : va_G} {dA : Nat → ClassId} {z : Nat} {sa : Nat → Nat} {Hz : Heap} (E : StrOK qLen qCh l D dA z sa Hz) {h0 fin : AH} {x : Int64}  : ∀ (a0 : Nat) (x1 : Int32) (h : AH), p_X9_rate_19 a0 x1 h = some (x, fin) → GM l D dA z sa Hz q_X9_rate h0 (some (.long x)) fin 19 [(0, .ref a0), (1, .int x1)] [] h := by
  intro a0 x1 h hd
  exact step E (is := I_X9_rate_19) (pc := 19) (K := (kx 36 (fun la st h => gR la 0 fun a0 => gI la 1 fun x1 => sL st fun v0 st => sR st fun b1 st => sE st (p_X9_rate_36 a0 x1 v0 b1 h)) (kx 41 (fun la st h => gI la 1 fun x1 => sL st fun v0 st => sL st fun v1 st => sR st fun b2 st => sE st (p_X9_rate_41 x1 v0 v1 b2 h)) k0))) (FI := FI_X9_rate) (FV := fV0) (FL := FL_X9_rate) (rt := rtL) (ft := 0) (by exact hd) ok_X9_rate_19 (kx_ok (fun la st h e => by obtain ⟨a0, m_a0, e1⟩ := gR_inv e; obtain ⟨x1, m_x1, e2⟩ := gI_inv e1; obtain ⟨v0, _, rfl, e3⟩ := sL_inv e2; obtain ⟨b1, _, rfl, e4⟩ := sR_inv e3; obtain ⟨rfl, ez⟩ := sE_inv e4; exact gm_fewer (e_X9_rate_36 E  a0 x1 v0 b1 h ez) (mem_cons m_a0 (mem_cons m_x1 mem_nil))) (kx_ok (fun la st h e => by obtain ⟨x1, m_x1, e1⟩ := gI_inv e; obtain ⟨v0, _, rfl, e2⟩ := sL_inv e1; obtain ⟨v1, _, rfl, e3⟩ := sL_inv e2; obtain ⟨b2, _, rfl, e4⟩ := sR_inv e3; obtain ⟨rfl, ez⟩ := sE_inv e4; exact gm_fewer (e_X9_rate_41 E  x1 v0 v1 b2 h ez) (mem_cons m_x1 mem_nil)) k0_ok)) (FI_X9_rate_ok E) (fV0_ok E) (FL_X9_rate_ok E) (rtL_ok rfl)
def I_X9_rate_0 : List AI := [(.aload_n 0, 1, [], 0), (.iconst 0, 1, [], 0), (.putfield 33, 3, [8, 0, 0, 1345], 0), (.aload_n 0, 1, [], 0), (.getfield 265, 3, [8, 3, 2, 1348], 0), (.ifnonnull 10, 3, [19], 0), (.aload_n 0, 1, [], 0), (.iconst 1, 1, [], 1), (.invokevirtual 39, 3, [1, 201, 2, 8, 1481], 0), (.i2l, 1, [], 0), (.lreturn, 1, [], 0)]
theorem ok_X9_rate_0 : vBL MT qLen qCh false q_X9_rate.2.2.2.2.1 q_X9_rate.2.2.2.2.2.1 q_X9_rate.2.2.1 q_X9_rate.1.cls q_X9_rate.1.name q_X9_rate.2.1 0 0 I_X9_rate_0 = true := by decide +kernel
def p_X9_rate (a0 : Nat) (x1 : Int32) (h : AH) : Option (Int64 × AH) :=
  if (tg h a0).1 = 8 then (let h102 := wI h a0 0 ((0 : Int32))
  if (tg h102 a0).1 = 8 then (if (rR h102 a0 3) = 0 then (if (tg h102 a0).1 = 8 then ((p_X9_refused a0 ((1 : Int32)) h102).bind fun q103 =>
  some (q103.1.toInt64, q103.2)) else none)
  else
  if (tg h102 a0).1 = 8 then (if (tg h102 a0).1 = 8 then (if (rI h102 a0 25) = 0 then (p_X9_rate_41 x1 ((1 : Int32).toInt64) ((rI h102 a0 24).toInt64) a0 h102)
  else
  if (tg h102 a0).1 = 8 then (p_X9_rate_41 x1 ((rI h102 a0 25).toInt64) ((rI h102 a0 24).toInt64) a0 h102) else none) else none) else none) else none) else none
set_option maxRecDepth 100000 in
theorem e_X9_rate_0 {l : Launch} {D : va_G} {dA : Nat → ClassId} {z : Nat} {sa : Nat → Nat} {Hz : Heap} (E : StrOK qLen qCh l D dA z sa Hz) {h0 fin : AH} {x : Int64}  : ∀ (a0 : Nat) (x1 : Int32) (h : AH), p_X9_rate a0 x1 h = some (x, fin) → GM l D dA z sa Hz q_X9_rate h0 (some (.long x)) fin 0 [(0, .ref a0), (1, .int x1)] [] h := by
  intro a0 x1 h hd
  exact step E (is := I_X9_rate_0) (pc := 0) (K := (kx 19 (fun la st h => gR la 0 fun a0 => gI la 1 fun x1 => sE st (p_X9_rate_19 a0 x1 h)) k0)) (FI := FI_X9_rate) (FV := fV0) (FL := FL_X9_rate) (rt := rtL) (ft := 0) (by exact hd) ok_X9_rate_0 (kx_ok (fun la st h e => by obtain ⟨a0, m_a0, e1⟩ := gR_inv e; obtain ⟨x1, m_x1, e2⟩ := gI_inv e1; obtain ⟨rfl, ez⟩ := sE_inv e2; exact gm_fewer (e_X9_rate_19 E  a0 x1 h ez) (mem_cons m_a0 (mem_cons m_x1 mem_nil))) k0_ok) (FI_X9_rate_ok E) (fV0_ok E) (FL_X9_rate_ok E) (rtL_ok rfl)
theorem c_X9_rate {l : Launch} {D : va_G} {dA : Nat → ClassId} {z : Nat} {sa : Nat → Nat} {Hz : Heap} (E : StrOK qLen qCh l D dA z sa Hz) {a0 : Nat} {x1 : Int32} {h fin : AH} {x : Int64} (hd : p_X9_rate a0 x1 h = some (x, fin)) : CalOK l D dA z sa Hz q_X9_rate [.ref a0, .int x1] h (some (.long x)) fin := calOf (by decide +kernel) (Nat.le_of_ble_eq_true rfl) (e_X9_rate_0 E a0 x1 h hd)
def FI_X9_wrongSaw : Nat → List Value → AH → Option (Int32 × AH) := (cx 228 (fun As h => sI As fun x0 As => sI As fun x1 As => sE As (p_X9_bit x0 x1 h)) (cx 258 (fun As h => sR As fun a0 As => sI As fun x1 As => sI As fun x2 As => sI As fun x3 As => sE As (p_X9_looks a0 x1 x2 x3 h)) fI0))
theorem FI_X9_wrongSaw_ok {l : Launch} {D : va_G} {dA : Nat → ClassId} {z : Nat} {sa : Nat → Nat} {Hz : Heap} (E : StrOK qLen qCh l D dA z sa Hz) : ∀ mi As h x h', FI_X9_wrongSaw mi As h = some (x, h') → CalOK l D dA z sa Hz (MT mi) As h (some (.int x)) h' := (cxI_ok (fun As h x h2 e => by obtain ⟨_, _, rfl, e0⟩ := sI_inv e; obtain ⟨_, _, rfl, e1⟩ := sI_inv e0; obtain ⟨rfl, ez⟩ := sE_inv e1; exact c_X9_bit E ez) ((cxI_ok (fun As h x h2 e => by obtain ⟨_, _, rfl, e0⟩ := sR_inv e; obtain ⟨_, _, rfl, e1⟩ := sI_inv e0; obtain ⟨_, _, rfl, e2⟩ := sI_inv e1; obtain ⟨_, _, rfl, e3⟩ := sI_inv e2; obtain ⟨rfl, ez⟩ := sE_inv e3; exact c_X9_looks E ez) (fI0_ok E))))
def FV_X9_wrongSaw : Nat → List Value → AH → Option (AH) := (cx 231 (fun As h => sR As fun a0 As => sI As fun x1 As => sE As (p_X9_asTold a0 x1 h)) fV0)
theorem FV_X9_wrongSaw_ok {l : Launch} {D : va_G} {dA : Nat → ClassId} {z : Nat} {sa : Nat → Nat} {Hz : Heap} (E : StrOK qLen qCh l D dA z sa Hz) : ∀ mi As h h', FV_X9_wrongSaw mi As h = some h' → CalOK l D dA z sa Hz (MT mi) As h none h' := (cxV_ok (fun As h h2 e => by obtain ⟨_, _, rfl, e0⟩ := sR_inv e; obtain ⟨_, _, rfl, e1⟩ := sI_inv e0; obtain ⟨rfl, ez⟩ := sE_inv e1; exact c_X9_asTold E ez) (fV0_ok E))
def I_X9_wrongSaw_87 : List AI := [(.bipush (-2), 2, [], (-2)), (.ireturn, 1, [], 0)]
theorem ok_X9_wrongSaw_87 : vBL MT qLen qCh false q_X9_wrongSaw.2.2.2.2.1 q_X9_wrongSaw.2.2.2.2.2.1 q_X9_wrongSaw.2.2.1 q_X9_wrongSaw.1.cls q_X9_wrongSaw.1.name q_X9_wrongSaw.2.1 0 87 I_X9_wrongSaw_87 = true := by decide +kernel
def p_X9_wrongSaw_87 (h : AH) : Option (Int32 × AH) :=
  some (((-2 : Int32)), h)
set_option maxRecDepth 100000 in
theorem e_X9_wrongSaw_87 {l : Launch} {D : va_G} {dA : Nat → ClassId} {z : Nat} {sa : Nat → Nat} {Hz : Heap} (E : StrOK qLen qCh l D dA z sa Hz) {h0 fin : AH} {x : Int32}  : ∀  (h : AH), p_X9_wrongSaw_87 h = some (x, fin) → GM l D dA z sa Hz q_X9_wrongSaw h0 (some (.int x)) fin 87 [] [] h := by
  intro h hd
  exact step E (is := I_X9_wrongSaw_87) (pc := 87) (K := k0) (FI := FI_X9_wrongSaw) (FV := FV_X9_wrongSaw) (FL := fL0) (rt := rtI) (ft := 0) (by exact hd) ok_X9_wrongSaw_87 k0_ok (FI_X9_wrongSaw_ok E) (FV_X9_wrongSaw_ok E) (fL0_ok E) (rtI_ok rfl)
def I_X9_wrongSaw_81 : List AI := [(.iinc 2 1, 3, [], 1), (.goto (-77), 3, [7], 0)]
theorem ok_X9_wrongSaw_81 : vBL MT qLen qCh false q_X9_wrongSaw.2.2.2.2.1 q_X9_wrongSaw.2.2.2.2.2.1 q_X9_wrongSaw.2.2.1 q_X9_wrongSaw.1.cls q_X9_wrongSaw.1.name q_X9_wrongSaw.2.1 0 81 I_X9_wrongSaw_81 = true := by decide +kernel
def p_X9_wrongSaw_81 (k7 : Nat → Int32 → AH → Option (Int32 × AH)) (a0 : Nat) (x2 : Int32) (h : AH) : Option (Int32 × AH) :=
  k7 a0 (x2 + (1 : Int32)) h
set_option maxRecDepth 100000 in
theorem e_X9_wrongSaw_81 {l : Launch} {D : va_G} {dA : Nat → ClassId} {z : Nat} {sa : Nat → Nat} {Hz : Heap} (E : StrOK qLen qCh l D dA z sa Hz) {h0 fin : AH} {x : Int32}  {k7 : Nat → Int32 → AH → Option (Int32 × AH)} (hk7 : ∀ (a0 : Nat) (x2 : Int32) (h : AH), k7 a0 x2 h = some (x, fin) → GM l D dA z sa Hz q_X9_wrongSaw h0 (some (.int x)) fin 7 [(0, .ref a0), (2, .int x2)] [] h) : ∀ (a0 : Nat) (x2 : Int32) (h : AH), p_X9_wrongSaw_81 k7 a0 x2 h = some (x, fin) → GM l D dA z sa Hz q_X9_wrongSaw h0 (some (.int x)) fin 81 [(0, .ref a0), (2, .int x2)] [] h := by
  intro a0 x2 h hd
  exact step E (is := I_X9_wrongSaw_81) (pc := 81) (K := (kx 7 (fun la st h => gR la 0 fun a0 => gI la 2 fun x2 => sE st (k7 a0 x2 h)) k0)) (FI := FI_X9_wrongSaw) (FV := FV_X9_wrongSaw) (FL := fL0) (rt := rtI) (ft := 0) (by exact hd) ok_X9_wrongSaw_81 (kx_ok (fun la st h e => by obtain ⟨a0, m_a0, e1⟩ := gR_inv e; obtain ⟨x2, m_x2, e2⟩ := gI_inv e1; obtain ⟨rfl, ez⟩ := sE_inv e2; exact gm_fewer (hk7 a0 x2 h ez) (mem_cons m_a0 (mem_cons m_x2 mem_nil))) k0_ok) (FI_X9_wrongSaw_ok E) (FV_X9_wrongSaw_ok E) (fL0_ok E) (rtI_ok rfl)
def I_X9_wrongSaw_67 : List AI := [(.aload_n 0, 1, [], 0), (.getfield 265, 3, [8, 3, 2, 1348], 0), (.getfield 255, 3, [7, 17, 2, 1520], 0), (.iload_n 2, 1, [], 0), (.iaload, 1, [], 0), (.if_icmp .eq 5, 3, [81], 0), (.iload_n 2, 1, [], 0), (.ireturn, 1, [], 0)]
theorem ok_X9_wrongSaw_67 : vBL MT qLen qCh false q_X9_wrongSaw.2.2.2.2.1 q_X9_wrongSaw.2.2.2.2.2.1 q_X9_wrongSaw.2.2.1 q_X9_wrongSaw.1.cls q_X9_wrongSaw.1.name q_X9_wrongSaw.2.1 0 67 I_X9_wrongSaw_67 = true := by decide +kernel
def p_X9_wrongSaw_67 (k7 : Nat → Int32 → AH → Option (Int32 × AH)) (a0 : Nat) (x2 : Int32) (y0 : Int32) (h : AH) : Option (Int32 × AH) :=
  if (tg h a0).1 = 8 then (if (tg h (rR h a0 3)).1 = 7 then (if inB h (rR h (rR h a0 3) 17) 100 x2 then (if y0 = (rI h (rR h (rR h a0 3) 17) x2.toNatClampNeg) then (k7 a0 (x2 + (1 : Int32)) h)
  else
  some (x2, h)) else none) else none) else none
set_option maxRecDepth 100000 in
theorem e_X9_wrongSaw_67 {l : Launch} {D : va_G} {dA : Nat → ClassId} {z : Nat} {sa : Nat → Nat} {Hz : Heap} (E : StrOK qLen qCh l D dA z sa Hz) {h0 fin : AH} {x : Int32}  {k7 : Nat → Int32 → AH → Option (Int32 × AH)} (hk7 : ∀ (a0 : Nat) (x2 : Int32) (h : AH), k7 a0 x2 h = some (x, fin) → GM l D dA z sa Hz q_X9_wrongSaw h0 (some (.int x)) fin 7 [(0, .ref a0), (2, .int x2)] [] h) : ∀ (a0 : Nat) (x2 : Int32) (y0 : Int32) (h : AH), p_X9_wrongSaw_67 k7 a0 x2 y0 h = some (x, fin) → GM l D dA z sa Hz q_X9_wrongSaw h0 (some (.int x)) fin 67 [(0, .ref a0), (2, .int x2)] [.int y0] h := by
  intro a0 x2 y0 h hd
  exact step E (is := I_X9_wrongSaw_67) (pc := 67) (K := (kx 81 (fun la st h => gR la 0 fun a0 => gI la 2 fun x2 => sE st (p_X9_wrongSaw_81 k7 a0 x2 h)) k0)) (FI := FI_X9_wrongSaw) (FV := FV_X9_wrongSaw) (FL := fL0) (rt := rtI) (ft := 0) (by exact hd) ok_X9_wrongSaw_67 (kx_ok (fun la st h e => by obtain ⟨a0, m_a0, e1⟩ := gR_inv e; obtain ⟨x2, m_x2, e2⟩ := gI_inv e1; obtain ⟨rfl, ez⟩ := sE_inv e2; exact gm_fewer (e_X9_wrongSaw_81 E hk7 a0 x2 h ez) (mem_cons m_a0 (mem_cons m_x2 mem_nil))) k0_ok) (FI_X9_wrongSaw_ok E) (FV_X9_wrongSaw_ok E) (fL0_ok E) (rtI_ok rfl)
def I_X9_wrongSaw_66 : List AI := [(.iload_n 3, 1, [], 0)]
theorem ok_X9_wrongSaw_66 : vBL MT qLen qCh false q_X9_wrongSaw.2.2.2.2.1 q_X9_wrongSaw.2.2.2.2.2.1 q_X9_wrongSaw.2.2.1 q_X9_wrongSaw.1.cls q_X9_wrongSaw.1.name q_X9_wrongSaw.2.1 67 66 I_X9_wrongSaw_66 = true := by decide +kernel
def p_X9_wrongSaw_66 (k7 : Nat → Int32 → AH → Option (Int32 × AH)) (a0 : Nat) (x2 : Int32) (x3 : Int32) (h : AH) : Option (Int32 × AH) :=
  p_X9_wrongSaw_67 k7 a0 x2 x3 h
set_option maxRecDepth 100000 in
theorem e_X9_wrongSaw_66 {l : Launch} {D : va_G} {dA : Nat → ClassId} {z : Nat} {sa : Nat → Nat} {Hz : Heap} (E : StrOK qLen qCh l D dA z sa Hz) {h0 fin : AH} {x : Int32}  {k7 : Nat → Int32 → AH → Option (Int32 × AH)} (hk7 : ∀ (a0 : Nat) (x2 : Int32) (h : AH), k7 a0 x2 h = some (x, fin) → GM l D dA z sa Hz q_X9_wrongSaw h0 (some (.int x)) fin 7 [(0, .ref a0), (2, .int x2)] [] h) : ∀ (a0 : Nat) (x2 : Int32) (x3 : Int32) (h : AH), p_X9_wrongSaw_66 k7 a0 x2 x3 h = some (x, fin) → GM l D dA z sa Hz q_X9_wrongSaw h0 (some (.int x)) fin 66 [(0, .ref a0), (2, .int x2), (3, .int x3)] [] h := by
  intro a0 x2 x3 h hd
  exact step E (is := I_X9_wrongSaw_66) (pc := 66) (K := (kx 67 (fun la st h => gR la 0 fun a0 => gI la 2 fun x2 => sI st fun y0 st => sE st (p_X9_wrongSaw_67 k7 a0 x2 y0 h)) k0)) (FI := FI_X9_wrongSaw) (FV := FV_X9_wrongSaw) (FL := fL0) (rt := rtI) (ft := 67) (by exact hd) ok_X9_wrongSaw_66 (kx_ok (fun la st h e => by obtain ⟨a0, m_a0, e1⟩ := gR_inv e; obtain ⟨x2, m_x2, e2⟩ := gI_inv e1; obtain ⟨y0, _, rfl, e3⟩ := sI_inv e2; obtain ⟨rfl, ez⟩ := sE_inv e3; exact gm_fewer (e_X9_wrongSaw_67 E hk7 a0 x2 y0 h ez) (mem_cons m_a0 (mem_cons m_x2 mem_nil))) k0_ok) (FI_X9_wrongSaw_ok E) (FV_X9_wrongSaw_ok E) (fL0_ok E) (rtI_ok rfl)
def I_X9_wrongSaw_7 : List AI := [(.iload_n 2, 1, [], 0), (.aload_n 0, 1, [], 0), (.getfield 265, 3, [8, 3, 2, 1348], 0), (.getfield 235, 3, [7, 7, 0, 1500], 0), (.if_icmp .ge 72, 3, [87], 0), (.aload_n 0, 1, [], 0), (.aload_n 0, 1, [], 0), (.getfield 265, 3, [8, 3, 2, 1348], 0), (.getfield 250, 3, [7, 15, 2, 1516], 0), (.iload_n 2, 1, [], 0), (.iaload, 1, [], 0), (.aload_n 0, 1, [], 0), (.getfield 265, 3, [8, 3, 2, 1348], 0), (.getfield 252, 3, [7, 16, 2, 1518], 0), (.iload_n 2, 1, [], 0), (.iaload, 1, [], 0), (.iconst 0, 1, [], 0), (.invokestatic 307, 3, [1, 228, 2, 1679], 0), (.aload_n 0, 1, [], 0), (.getfield 265, 3, [8, 3, 2, 1348], 0), (.getfield 252, 3, [7, 16, 2, 1518], 0), (.iload_n 2, 1, [], 0), (.iaload, 1, [], 0), (.iconst 1, 1, [], 1), (.invokestatic 307, 3, [1, 228, 2, 1679], 0), (.invokevirtual 376, 3, [1, 258, 4, 8, 1763], 0), (.istore_n 3, 1, [], 0), (.iload_n 3, 1, [], 0), (.ifCond .lt 7, 3, [66], 0), (.iconst 0, 1, [], 0), (.goto 4, 3, [67], 0)]
theorem ok_X9_wrongSaw_7 : vBL MT qLen qCh false q_X9_wrongSaw.2.2.2.2.1 q_X9_wrongSaw.2.2.2.2.2.1 q_X9_wrongSaw.2.2.1 q_X9_wrongSaw.1.cls q_X9_wrongSaw.1.name q_X9_wrongSaw.2.1 0 7 I_X9_wrongSaw_7 = true := by decide +kernel
def p_X9_wrongSaw_7 : Nat → Nat → Int32 → AH → Option (Int32 × AH)
  | 0, _, _, _ => none
  | n + 1, a0, x2, h => if (tg h a0).1 = 8 then (if (tg h (rR h a0 3)).1 = 7 then (if x2 < (rI h (rR h a0 3) 7) then (if (tg h a0).1 = 8 then (if (tg h (rR h a0 3)).1 = 7 then (if inB h (rR h (rR h a0 3) 15) 100 x2 then (if (tg h a0).1 = 8 then (if (tg h (rR h a0 3)).1 = 7 then (if inB h (rR h (rR h a0 3) 16) 100 x2 then ((p_X9_bit (rI h (rR h (rR h a0 3) 16) x2.toNatClampNeg) ((0 : Int32)) h).bind fun q101 =>
    if (tg q101.2 a0).1 = 8 then (if (tg q101.2 (rR q101.2 a0 3)).1 = 7 then (if inB q101.2 (rR q101.2 (rR q101.2 a0 3) 16) 100 x2 then ((p_X9_bit (rI q101.2 (rR q101.2 (rR q101.2 a0 3) 16) x2.toNatClampNeg) ((1 : Int32)) q101.2).bind fun q102 =>
    if (tg q102.2 a0).1 = 8 then ((p_X9_looks a0 (rI h (rR h (rR h a0 3) 15) x2.toNatClampNeg) q101.1 q102.1 q102.2).bind fun q103 =>
    if q103.1 < 0 then (p_X9_wrongSaw_67 (p_X9_wrongSaw_7 n) a0 x2 q103.1 q103.2)
    else
    p_X9_wrongSaw_67 (p_X9_wrongSaw_7 n) a0 x2 ((0 : Int32)) q103.2) else none) else none) else none) else none) else none) else none) else none) else none) else none) else none)
    else
    some (((-2 : Int32)), h)) else none) else none
set_option maxRecDepth 100000 in
theorem e_X9_wrongSaw_7 {l : Launch} {D : va_G} {dA : Nat → ClassId} {z : Nat} {sa : Nat → Nat} {Hz : Heap} (E : StrOK qLen qCh l D dA z sa Hz) {h0 fin : AH} {x : Int32}  : ∀ (n : Nat) (a0 : Nat) (x2 : Int32) (h : AH), p_X9_wrongSaw_7 n a0 x2 h = some (x, fin) → GM l D dA z sa Hz q_X9_wrongSaw h0 (some (.int x)) fin 7 [(0, .ref a0), (2, .int x2)] [] h := by
  intro n
  induction n with
  | zero => intro a0 x2 h hd; exact nomatch hd
  | succ n ih =>
    intro a0 x2 h hd
    exact step E (is := I_X9_wrongSaw_7) (pc := 7) (K := (kx 87 (fun la st h => sE st (p_X9_wrongSaw_87 h)) (kx 66 (fun la st h => gR la 0 fun a0 => gI la 2 fun x2 => gI la 3 fun x3 => sE st (p_X9_wrongSaw_66 (p_X9_wrongSaw_7 n) a0 x2 x3 h)) (kx 67 (fun la st h => gR la 0 fun a0 => gI la 2 fun x2 => sI st fun y0 st => sE st (p_X9_wrongSaw_67 (p_X9_wrongSaw_7 n) a0 x2 y0 h)) k0)))) (FI := FI_X9_wrongSaw) (FV := FV_X9_wrongSaw) (FL := fL0) (rt := rtI) (ft := 0) (by exact hd) ok_X9_wrongSaw_7 (kx_ok (fun la st h e => by obtain ⟨rfl, ez⟩ := sE_inv e; exact gm_fewer (e_X9_wrongSaw_87 E   h ez) mem_nil) (kx_ok (fun la st h e => by obtain ⟨a0, m_a0, e1⟩ := gR_inv e; obtain ⟨x2, m_x2, e2⟩ := gI_inv e1; obtain ⟨x3, m_x3, e3⟩ := gI_inv e2; obtain ⟨rfl, ez⟩ := sE_inv e3; exact gm_fewer (e_X9_wrongSaw_66 E ih a0 x2 x3 h ez) (mem_cons m_a0 (mem_cons m_x2 (mem_cons m_x3 mem_nil)))) (kx_ok (fun la st h e => by obtain ⟨a0, m_a0, e1⟩ := gR_inv e; obtain ⟨x2, m_x2, e2⟩ := gI_inv e1; obtain ⟨y0, _, rfl, e3⟩ := sI_inv e2; obtain ⟨rfl, ez⟩ := sE_inv e3; exact gm_fewer (e_X9_wrongSaw_67 E ih a0 x2 y0 h ez) (mem_cons m_a0 (mem_cons m_x2 mem_nil))) k0_ok))) (FI_X9_wrongSaw_ok E) (FV_X9_wrongSaw_ok E) (fL0_ok E) (rtI_ok rfl)
def I_X9_wrongSaw_0 : List AI := [(.aload_n 0, 1, [], 0), (.iload_n 1, 1, [], 0), (.invokevirtual 267, 3, [2, 231, 2, 8, 1675], 0), (.iconst 0, 1, [], 0), (.istore_n 2, 1, [], 0)]
theorem ok_X9_wrongSaw_0 : vBL MT qLen qCh false q_X9_wrongSaw.2.2.2.2.1 q_X9_wrongSaw.2.2.2.2.2.1 q_X9_wrongSaw.2.2.1 q_X9_wrongSaw.1.cls q_X9_wrongSaw.1.name q_X9_wrongSaw.2.1 7 0 I_X9_wrongSaw_0 = true := by decide +kernel
def p_X9_wrongSaw (a0 : Nat) (x1 : Int32) (h : AH) : Option (Int32 × AH) :=
  if (tg h a0).1 = 8 then ((p_X9_asTold a0 x1 h).bind fun h104 =>
  p_X9_wrongSaw_7 FU a0 ((0 : Int32)) h104) else none
set_option maxRecDepth 100000 in
theorem e_X9_wrongSaw_0 {l : Launch} {D : va_G} {dA : Nat → ClassId} {z : Nat} {sa : Nat → Nat} {Hz : Heap} (E : StrOK qLen qCh l D dA z sa Hz) {h0 fin : AH} {x : Int32}  : ∀ (a0 : Nat) (x1 : Int32) (h : AH), p_X9_wrongSaw a0 x1 h = some (x, fin) → GM l D dA z sa Hz q_X9_wrongSaw h0 (some (.int x)) fin 0 [(0, .ref a0), (1, .int x1)] [] h := by
  intro a0 x1 h hd
  exact step E (is := I_X9_wrongSaw_0) (pc := 0) (K := (kx 7 (fun la st h => gR la 0 fun a0 => gI la 2 fun x2 => sE st (p_X9_wrongSaw_7 FU a0 x2 h)) k0)) (FI := FI_X9_wrongSaw) (FV := FV_X9_wrongSaw) (FL := fL0) (rt := rtI) (ft := 7) (by exact hd) ok_X9_wrongSaw_0 (kx_ok (fun la st h e => by obtain ⟨a0, m_a0, e1⟩ := gR_inv e; obtain ⟨x2, m_x2, e2⟩ := gI_inv e1; obtain ⟨rfl, ez⟩ := sE_inv e2; exact gm_fewer (e_X9_wrongSaw_7 E  FU a0 x2 h ez) (mem_cons m_a0 (mem_cons m_x2 mem_nil))) k0_ok) (FI_X9_wrongSaw_ok E) (FV_X9_wrongSaw_ok E) (fL0_ok E) (rtI_ok rfl)
theorem c_X9_wrongSaw {l : Launch} {D : va_G} {dA : Nat → ClassId} {z : Nat} {sa : Nat → Nat} {Hz : Heap} (E : StrOK qLen qCh l D dA z sa Hz) {a0 : Nat} {x1 : Int32} {h fin : AH} {x : Int32} (hd : p_X9_wrongSaw a0 x1 h = some (x, fin)) : CalOK l D dA z sa Hz q_X9_wrongSaw [.ref a0, .int x1] h (some (.int x)) fin := calOf (by decide +kernel) (Nat.le_of_ble_eq_true rfl) (e_X9_wrongSaw_0 E a0 x1 h hd)
def FI_X9_fitting : Nat → List Value → AH → Option (Int32 × AH) := (cx 308 (fun As h => sR As fun a0 As => sI As fun x1 As => sE As (p_X9_wrongSaw a0 x1 h)) (cx 228 (fun As h => sI As fun x0 As => sI As fun x1 As => sE As (p_X9_bit x0 x1 h)) fI0))
theorem FI_X9_fitting_ok {l : Launch} {D : va_G} {dA : Nat → ClassId} {z : Nat} {sa : Nat → Nat} {Hz : Heap} (E : StrOK qLen qCh l D dA z sa Hz) : ∀ mi As h x h', FI_X9_fitting mi As h = some (x, h') → CalOK l D dA z sa Hz (MT mi) As h (some (.int x)) h' := (cxI_ok (fun As h x h2 e => by obtain ⟨_, _, rfl, e0⟩ := sR_inv e; obtain ⟨_, _, rfl, e1⟩ := sI_inv e0; obtain ⟨rfl, ez⟩ := sE_inv e1; exact c_X9_wrongSaw E ez) ((cxI_ok (fun As h x h2 e => by obtain ⟨_, _, rfl, e0⟩ := sI_inv e; obtain ⟨_, _, rfl, e1⟩ := sI_inv e0; obtain ⟨rfl, ez⟩ := sE_inv e1; exact c_X9_bit E ez) (fI0_ok E))))
def I_X9_fitting_178 : List AI := [(.iload_n 2, 1, [], 0), (.ireturn, 1, [], 0)]
theorem ok_X9_fitting_178 : vBL MT qLen qCh false q_X9_fitting.2.2.2.2.1 q_X9_fitting.2.2.2.2.2.1 q_X9_fitting.2.2.1 q_X9_fitting.1.cls q_X9_fitting.1.name q_X9_fitting.2.1 0 178 I_X9_fitting_178 = true := by decide +kernel
def p_X9_fitting_178 (x2 : Int32) (h : AH) : Option (Int32 × AH) :=
  some (x2, h)
set_option maxRecDepth 100000 in
theorem e_X9_fitting_178 {l : Launch} {D : va_G} {dA : Nat → ClassId} {z : Nat} {sa : Nat → Nat} {Hz : Heap} (E : StrOK qLen qCh l D dA z sa Hz) {h0 fin : AH} {x : Int32}  : ∀ (x2 : Int32) (h : AH), p_X9_fitting_178 x2 h = some (x, fin) → GM l D dA z sa Hz q_X9_fitting h0 (some (.int x)) fin 178 [(2, .int x2)] [] h := by
  intro x2 h hd
  exact step E (is := I_X9_fitting_178) (pc := 178) (K := k0) (FI := FI_X9_fitting) (FV := fV0) (FL := fL0) (rt := rtI) (ft := 0) (by exact hd) ok_X9_fitting_178 k0_ok (FI_X9_fitting_ok E) (fV0_ok E) (fL0_ok E) (rtI_ok rfl)
def I_X9_fitting_166 : List AI := [(.aload_n 0, 1, [], 0), (.getfield 459, 3, [8, 36, 0, 1381], 0), (.ifCond .ne 8, 3, [178], 0), (.aload_n 0, 1, [], 0), (.iconst 0, 1, [], 0), (.putfield 465, 3, [8, 38, 0, 1383], 0)]
theorem ok_X9_fitting_166 : vBL MT qLen qCh false q_X9_fitting.2.2.2.2.1 q_X9_fitting.2.2.2.2.2.1 q_X9_fitting.2.2.1 q_X9_fitting.1.cls q_X9_fitting.1.name q_X9_fitting.2.1 178 166 I_X9_fitting_166 = true := by decide +kernel
def p_X9_fitting_166 (a0 : Nat) (x2 : Int32) (h : AH) : Option (Int32 × AH) :=
  if (tg h a0).1 = 8 then (if (rI h a0 36) = 0 then (if (tg h a0).1 = 8 then (let h101 := wI h a0 38 ((0 : Int32))
  p_X9_fitting_178 x2 h101) else none)
  else
  p_X9_fitting_178 x2 h) else none
set_option maxRecDepth 100000 in
theorem e_X9_fitting_166 {l : Launch} {D : va_G} {dA : Nat → ClassId} {z : Nat} {sa : Nat → Nat} {Hz : Heap} (E : StrOK qLen qCh l D dA z sa Hz) {h0 fin : AH} {x : Int32}  : ∀ (a0 : Nat) (x2 : Int32) (h : AH), p_X9_fitting_166 a0 x2 h = some (x, fin) → GM l D dA z sa Hz q_X9_fitting h0 (some (.int x)) fin 166 [(0, .ref a0), (2, .int x2)] [] h := by
  intro a0 x2 h hd
  exact step E (is := I_X9_fitting_166) (pc := 166) (K := (kx 178 (fun la st h => gI la 2 fun x2 => sE st (p_X9_fitting_178 x2 h)) k0)) (FI := FI_X9_fitting) (FV := fV0) (FL := fL0) (rt := rtI) (ft := 178) (by exact hd) ok_X9_fitting_166 (kx_ok (fun la st h e => by obtain ⟨x2, m_x2, e1⟩ := gI_inv e; obtain ⟨rfl, ez⟩ := sE_inv e1; exact gm_fewer (e_X9_fitting_178 E  x2 h ez) (mem_cons m_x2 mem_nil)) k0_ok) (FI_X9_fitting_ok E) (fV0_ok E) (fL0_ok E) (rtI_ok rfl)
def I_X9_fitting_160 : List AI := [(.iinc 3 1, 3, [], 1), (.goto (-114), 3, [49], 0)]
theorem ok_X9_fitting_160 : vBL MT qLen qCh false q_X9_fitting.2.2.2.2.1 q_X9_fitting.2.2.2.2.2.1 q_X9_fitting.2.2.1 q_X9_fitting.1.cls q_X9_fitting.1.name q_X9_fitting.2.1 0 160 I_X9_fitting_160 = true := by decide +kernel
def p_X9_fitting_160 (k49 : Nat → Int32 → Int32 → Int32 → AH → Option (Int32 × AH)) (a0 : Nat) (x1 : Int32) (x2 : Int32) (x3 : Int32) (h : AH) : Option (Int32 × AH) :=
  k49 a0 x1 x2 (x3 + (1 : Int32)) h
set_option maxRecDepth 100000 in
theorem e_X9_fitting_160 {l : Launch} {D : va_G} {dA : Nat → ClassId} {z : Nat} {sa : Nat → Nat} {Hz : Heap} (E : StrOK qLen qCh l D dA z sa Hz) {h0 fin : AH} {x : Int32}  {k49 : Nat → Int32 → Int32 → Int32 → AH → Option (Int32 × AH)} (hk49 : ∀ (a0 : Nat) (x1 : Int32) (x2 : Int32) (x3 : Int32) (h : AH), k49 a0 x1 x2 x3 h = some (x, fin) → GM l D dA z sa Hz q_X9_fitting h0 (some (.int x)) fin 49 [(0, .ref a0), (1, .int x1), (2, .int x2), (3, .int x3)] [] h) : ∀ (a0 : Nat) (x1 : Int32) (x2 : Int32) (x3 : Int32) (h : AH), p_X9_fitting_160 k49 a0 x1 x2 x3 h = some (x, fin) → GM l D dA z sa Hz q_X9_fitting h0 (some (.int x)) fin 160 [(0, .ref a0), (1, .int x1), (2, .int x2), (3, .int x3)] [] h := by
  intro a0 x1 x2 x3 h hd
  exact step E (is := I_X9_fitting_160) (pc := 160) (K := (kx 49 (fun la st h => gR la 0 fun a0 => gI la 1 fun x1 => gI la 2 fun x2 => gI la 3 fun x3 => sE st (k49 a0 x1 x2 x3 h)) k0)) (FI := FI_X9_fitting) (FV := fV0) (FL := fL0) (rt := rtI) (ft := 0) (by exact hd) ok_X9_fitting_160 (kx_ok (fun la st h e => by obtain ⟨a0, m_a0, e1⟩ := gR_inv e; obtain ⟨x1, m_x1, e2⟩ := gI_inv e1; obtain ⟨x2, m_x2, e3⟩ := gI_inv e2; obtain ⟨x3, m_x3, e4⟩ := gI_inv e3; obtain ⟨rfl, ez⟩ := sE_inv e4; exact gm_fewer (hk49 a0 x1 x2 x3 h ez) (mem_cons m_a0 (mem_cons m_x1 (mem_cons m_x2 (mem_cons m_x3 mem_nil))))) k0_ok) (FI_X9_fitting_ok E) (fV0_ok E) (fL0_ok E) (rtI_ok rfl)
def I_X9_fitting_152 : List AI := [(.iadd, 1, [], 0), (.iastore, 1, [], 0), (.iinc 4 1, 3, [], 1), (.goto (-39), 3, [118], 0)]
theorem ok_X9_fitting_152 : vBL MT qLen qCh false q_X9_fitting.2.2.2.2.1 q_X9_fitting.2.2.2.2.2.1 q_X9_fitting.2.2.1 q_X9_fitting.1.cls q_X9_fitting.1.name q_X9_fitting.2.1 0 152 I_X9_fitting_152 = true := by decide +kernel
def p_X9_fitting_152 (k118 : Nat → Int32 → Int32 → Int32 → Int32 → AH → Option (Int32 × AH)) (a0 : Nat) (x1 : Int32) (x2 : Int32) (x3 : Int32) (x4 : Int32) (y0 : Int32) (y1 : Int32) (y2 : Int32) (b3 : Nat) (h : AH) : Option (Int32 × AH) :=
  if inB h b3 100 y2 then (let h102 := wI h b3 y2.toNatClampNeg (y1 + y0)
  k118 a0 x1 x2 x3 (x4 + (1 : Int32)) h102) else none
set_option maxRecDepth 100000 in
theorem e_X9_fitting_152 {l : Launch} {D : va_G} {dA : Nat → ClassId} {z : Nat} {sa : Nat → Nat} {Hz : Heap} (E : StrOK qLen qCh l D dA z sa Hz) {h0 fin : AH} {x : Int32}  {k118 : Nat → Int32 → Int32 → Int32 → Int32 → AH → Option (Int32 × AH)} (hk118 : ∀ (a0 : Nat) (x1 : Int32) (x2 : Int32) (x3 : Int32) (x4 : Int32) (h : AH), k118 a0 x1 x2 x3 x4 h = some (x, fin) → GM l D dA z sa Hz q_X9_fitting h0 (some (.int x)) fin 118 [(0, .ref a0), (1, .int x1), (2, .int x2), (3, .int x3), (4, .int x4)] [] h) : ∀ (a0 : Nat) (x1 : Int32) (x2 : Int32) (x3 : Int32) (x4 : Int32) (y0 : Int32) (y1 : Int32) (y2 : Int32) (b3 : Nat) (h : AH), p_X9_fitting_152 k118 a0 x1 x2 x3 x4 y0 y1 y2 b3 h = some (x, fin) → GM l D dA z sa Hz q_X9_fitting h0 (some (.int x)) fin 152 [(0, .ref a0), (1, .int x1), (2, .int x2), (3, .int x3), (4, .int x4)] [.int y0, .int y1, .int y2, .ref b3] h := by
  intro a0 x1 x2 x3 x4 y0 y1 y2 b3 h hd
  exact step E (is := I_X9_fitting_152) (pc := 152) (K := (kx 118 (fun la st h => gR la 0 fun a0 => gI la 1 fun x1 => gI la 2 fun x2 => gI la 3 fun x3 => gI la 4 fun x4 => sE st (k118 a0 x1 x2 x3 x4 h)) k0)) (FI := FI_X9_fitting) (FV := fV0) (FL := fL0) (rt := rtI) (ft := 0) (by exact hd) ok_X9_fitting_152 (kx_ok (fun la st h e => by obtain ⟨a0, m_a0, e1⟩ := gR_inv e; obtain ⟨x1, m_x1, e2⟩ := gI_inv e1; obtain ⟨x2, m_x2, e3⟩ := gI_inv e2; obtain ⟨x3, m_x3, e4⟩ := gI_inv e3; obtain ⟨x4, m_x4, e5⟩ := gI_inv e4; obtain ⟨rfl, ez⟩ := sE_inv e5; exact gm_fewer (hk118 a0 x1 x2 x3 x4 h ez) (mem_cons m_a0 (mem_cons m_x1 (mem_cons m_x2 (mem_cons m_x3 (mem_cons m_x4 mem_nil)))))) k0_ok) (FI_X9_fitting_ok E) (fV0_ok E) (fL0_ok E) (rtI_ok rfl)
def I_X9_fitting_151 : List AI := [(.iconst 0, 1, [], 0)]
theorem ok_X9_fitting_151 : vBL MT qLen qCh false q_X9_fitting.2.2.2.2.1 q_X9_fitting.2.2.2.2.2.1 q_X9_fitting.2.2.1 q_X9_fitting.1.cls q_X9_fitting.1.name q_X9_fitting.2.1 152 151 I_X9_fitting_151 = true := by decide +kernel
def p_X9_fitting_151 (k118 : Nat → Int32 → Int32 → Int32 → Int32 → AH → Option (Int32 × AH)) (a0 : Nat) (x1 : Int32) (x2 : Int32) (x3 : Int32) (x4 : Int32) (y0 : Int32) (y1 : Int32) (b2 : Nat) (h : AH) : Option (Int32 × AH) :=
  p_X9_fitting_152 k118 a0 x1 x2 x3 x4 ((0 : Int32)) y0 y1 b2 h
set_option maxRecDepth 100000 in
theorem e_X9_fitting_151 {l : Launch} {D : va_G} {dA : Nat → ClassId} {z : Nat} {sa : Nat → Nat} {Hz : Heap} (E : StrOK qLen qCh l D dA z sa Hz) {h0 fin : AH} {x : Int32}  {k118 : Nat → Int32 → Int32 → Int32 → Int32 → AH → Option (Int32 × AH)} (hk118 : ∀ (a0 : Nat) (x1 : Int32) (x2 : Int32) (x3 : Int32) (x4 : Int32) (h : AH), k118 a0 x1 x2 x3 x4 h = some (x, fin) → GM l D dA z sa Hz q_X9_fitting h0 (some (.int x)) fin 118 [(0, .ref a0), (1, .int x1), (2, .int x2), (3, .int x3), (4, .int x4)] [] h) : ∀ (a0 : Nat) (x1 : Int32) (x2 : Int32) (x3 : Int32) (x4 : Int32) (y0 : Int32) (y1 : Int32) (b2 : Nat) (h : AH), p_X9_fitting_151 k118 a0 x1 x2 x3 x4 y0 y1 b2 h = some (x, fin) → GM l D dA z sa Hz q_X9_fitting h0 (some (.int x)) fin 151 [(0, .ref a0), (1, .int x1), (2, .int x2), (3, .int x3), (4, .int x4)] [.int y0, .int y1, .ref b2] h := by
  intro a0 x1 x2 x3 x4 y0 y1 b2 h hd
  exact step E (is := I_X9_fitting_151) (pc := 151) (K := (kx 152 (fun la st h => gR la 0 fun a0 => gI la 1 fun x1 => gI la 2 fun x2 => gI la 3 fun x3 => gI la 4 fun x4 => sI st fun y0 st => sI st fun y1 st => sI st fun y2 st => sR st fun b3 st => sE st (p_X9_fitting_152 k118 a0 x1 x2 x3 x4 y0 y1 y2 b3 h)) k0)) (FI := FI_X9_fitting) (FV := fV0) (FL := fL0) (rt := rtI) (ft := 152) (by exact hd) ok_X9_fitting_151 (kx_ok (fun la st h e => by obtain ⟨a0, m_a0, e1⟩ := gR_inv e; obtain ⟨x1, m_x1, e2⟩ := gI_inv e1; obtain ⟨x2, m_x2, e3⟩ := gI_inv e2; obtain ⟨x3, m_x3, e4⟩ := gI_inv e3; obtain ⟨x4, m_x4, e5⟩ := gI_inv e4; obtain ⟨y0, _, rfl, e6⟩ := sI_inv e5; obtain ⟨y1, _, rfl, e7⟩ := sI_inv e6; obtain ⟨y2, _, rfl, e8⟩ := sI_inv e7; obtain ⟨b3, _, rfl, e9⟩ := sR_inv e8; obtain ⟨rfl, ez⟩ := sE_inv e9; exact gm_fewer (e_X9_fitting_152 E hk118 a0 x1 x2 x3 x4 y0 y1 y2 b3 h ez) (mem_cons m_a0 (mem_cons m_x1 (mem_cons m_x2 (mem_cons m_x3 (mem_cons m_x4 mem_nil)))))) k0_ok) (FI_X9_fitting_ok E) (fV0_ok E) (fL0_ok E) (rtI_ok rfl)
def I_X9_fitting_118 : List AI := [(.iload 4, 2, [], 0), (.aload_n 0, 1, [], 0), (.getfield 265, 3, [8, 3, 2, 1348], 0), (.getfield 224, 3, [7, 6, 0, 1498], 0), (.if_icmp .ge 33, 3, [160], 0), (.aload_n 0, 1, [], 0), (.getfield 30, 3, [8, 39, 2, 1384], 0), (.iload 4, 2, [], 0), (.dup2, 1, [], 0), (.iaload, 1, [], 0), (.iload_n 3, 1, [], 0), (.iload 4, 2, [], 0), (.invokestatic 307, 3, [1, 228, 2, 1679], 0), (.ifCond .eq 7, 3, [151], 0), (.iconst 1, 1, [], 1), (.goto 4, 3, [152], 0)]
theorem ok_X9_fitting_118 : vBL MT qLen qCh false q_X9_fitting.2.2.2.2.1 q_X9_fitting.2.2.2.2.2.1 q_X9_fitting.2.2.1 q_X9_fitting.1.cls q_X9_fitting.1.name q_X9_fitting.2.1 0 118 I_X9_fitting_118 = true := by decide +kernel
def p_X9_fitting_118 (k49 : Nat → Int32 → Int32 → Int32 → AH → Option (Int32 × AH)) : Nat → Nat → Int32 → Int32 → Int32 → Int32 → AH → Option (Int32 × AH)
  | 0, _, _, _, _, _, _ => none
  | n + 1, a0, x1, x2, x3, x4, h => if (tg h a0).1 = 8 then (if (tg h (rR h a0 3)).1 = 7 then (if x4 < (rI h (rR h a0 3) 6) then (if (tg h a0).1 = 8 then (if inB h (rR h a0 39) 100 x4 then ((p_X9_bit x3 x4 h).bind fun q103 =>
    if q103.1 = 0 then (p_X9_fitting_152 (p_X9_fitting_118 k49 n) a0 x1 x2 x3 x4 ((0 : Int32)) (rI h (rR h a0 39) x4.toNatClampNeg) x4 (rR h a0 39) q103.2)
    else
    p_X9_fitting_152 (p_X9_fitting_118 k49 n) a0 x1 x2 x3 x4 ((1 : Int32)) (rI h (rR h a0 39) x4.toNatClampNeg) x4 (rR h a0 39) q103.2) else none) else none)
    else
    p_X9_fitting_160 k49 a0 x1 x2 x3 h) else none) else none
set_option maxRecDepth 100000 in
theorem e_X9_fitting_118 {l : Launch} {D : va_G} {dA : Nat → ClassId} {z : Nat} {sa : Nat → Nat} {Hz : Heap} (E : StrOK qLen qCh l D dA z sa Hz) {h0 fin : AH} {x : Int32}  {k49 : Nat → Int32 → Int32 → Int32 → AH → Option (Int32 × AH)} (hk49 : ∀ (a0 : Nat) (x1 : Int32) (x2 : Int32) (x3 : Int32) (h : AH), k49 a0 x1 x2 x3 h = some (x, fin) → GM l D dA z sa Hz q_X9_fitting h0 (some (.int x)) fin 49 [(0, .ref a0), (1, .int x1), (2, .int x2), (3, .int x3)] [] h) : ∀ (n : Nat) (a0 : Nat) (x1 : Int32) (x2 : Int32) (x3 : Int32) (x4 : Int32) (h : AH), p_X9_fitting_118 k49 n a0 x1 x2 x3 x4 h = some (x, fin) → GM l D dA z sa Hz q_X9_fitting h0 (some (.int x)) fin 118 [(0, .ref a0), (1, .int x1), (2, .int x2), (3, .int x3), (4, .int x4)] [] h := by
  intro n
  induction n with
  | zero => intro a0 x1 x2 x3 x4 h hd; exact nomatch hd
  | succ n ih =>
    intro a0 x1 x2 x3 x4 h hd
    exact step E (is := I_X9_fitting_118) (pc := 118) (K := (kx 160 (fun la st h => gR la 0 fun a0 => gI la 1 fun x1 => gI la 2 fun x2 => gI la 3 fun x3 => sE st (p_X9_fitting_160 k49 a0 x1 x2 x3 h)) (kx 151 (fun la st h => gR la 0 fun a0 => gI la 1 fun x1 => gI la 2 fun x2 => gI la 3 fun x3 => gI la 4 fun x4 => sI st fun y0 st => sI st fun y1 st => sR st fun b2 st => sE st (p_X9_fitting_151 (p_X9_fitting_118 k49 n) a0 x1 x2 x3 x4 y0 y1 b2 h)) (kx 152 (fun la st h => gR la 0 fun a0 => gI la 1 fun x1 => gI la 2 fun x2 => gI la 3 fun x3 => gI la 4 fun x4 => sI st fun y0 st => sI st fun y1 st => sI st fun y2 st => sR st fun b3 st => sE st (p_X9_fitting_152 (p_X9_fitting_118 k49 n) a0 x1 x2 x3 x4 y0 y1 y2 b3 h)) k0)))) (FI := FI_X9_fitting) (FV := fV0) (FL := fL0) (rt := rtI) (ft := 0) (by exact hd) ok_X9_fitting_118 (kx_ok (fun la st h e => by obtain ⟨a0, m_a0, e1⟩ := gR_inv e; obtain ⟨x1, m_x1, e2⟩ := gI_inv e1; obtain ⟨x2, m_x2, e3⟩ := gI_inv e2; obtain ⟨x3, m_x3, e4⟩ := gI_inv e3; obtain ⟨rfl, ez⟩ := sE_inv e4; exact gm_fewer (e_X9_fitting_160 E hk49 a0 x1 x2 x3 h ez) (mem_cons m_a0 (mem_cons m_x1 (mem_cons m_x2 (mem_cons m_x3 mem_nil))))) (kx_ok (fun la st h e => by obtain ⟨a0, m_a0, e1⟩ := gR_inv e; obtain ⟨x1, m_x1, e2⟩ := gI_inv e1; obtain ⟨x2, m_x2, e3⟩ := gI_inv e2; obtain ⟨x3, m_x3, e4⟩ := gI_inv e3; obtain ⟨x4, m_x4, e5⟩ := gI_inv e4; obtain ⟨y0, _, rfl, e6⟩ := sI_inv e5; obtain ⟨y1, _, rfl, e7⟩ := sI_inv e6; obtain ⟨b2, _, rfl, e8⟩ := sR_inv e7; obtain ⟨rfl, ez⟩ := sE_inv e8; exact gm_fewer (e_X9_fitting_151 E ih a0 x1 x2 x3 x4 y0 y1 b2 h ez) (mem_cons m_a0 (mem_cons m_x1 (mem_cons m_x2 (mem_cons m_x3 (mem_cons m_x4 mem_nil)))))) (kx_ok (fun la st h e => by obtain ⟨a0, m_a0, e1⟩ := gR_inv e; obtain ⟨x1, m_x1, e2⟩ := gI_inv e1; obtain ⟨x2, m_x2, e3⟩ := gI_inv e2; obtain ⟨x3, m_x3, e4⟩ := gI_inv e3; obtain ⟨x4, m_x4, e5⟩ := gI_inv e4; obtain ⟨y0, _, rfl, e6⟩ := sI_inv e5; obtain ⟨y1, _, rfl, e7⟩ := sI_inv e6; obtain ⟨y2, _, rfl, e8⟩ := sI_inv e7; obtain ⟨b3, _, rfl, e9⟩ := sR_inv e8; obtain ⟨rfl, ez⟩ := sE_inv e9; exact gm_fewer (e_X9_fitting_152 E ih a0 x1 x2 x3 x4 y0 y1 y2 b3 h ez) (mem_cons m_a0 (mem_cons m_x1 (mem_cons m_x2 (mem_cons m_x3 (mem_cons m_x4 mem_nil)))))) k0_ok))) (FI_X9_fitting_ok E) (fV0_ok E) (fL0_ok E) (rtI_ok rfl)
def I_X9_fitting_85 : List AI := [(.aload_n 0, 1, [], 0), (.dup, 1, [], 0), (.getfield 459, 3, [8, 36, 0, 1381], 0), (.iconst 1, 1, [], 1), (.iadd, 1, [], 0), (.putfield 459, 3, [8, 36, 0, 1381], 0), (.aload_n 0, 1, [], 0), (.dup, 1, [], 0), (.getfield 462, 3, [8, 37, 0, 1382], 0), (.iload_n 3, 1, [], 0), (.ior, 1, [], 0), (.putfield 462, 3, [8, 37, 0, 1382], 0), (.aload_n 0, 1, [], 0), (.dup, 1, [], 0), (.getfield 465, 3, [8, 38, 0, 1383], 0), (.iload_n 3, 1, [], 0), (.iand, 1, [], 0), (.putfield 465, 3, [8, 38, 0, 1383], 0), (.iconst 0, 1, [], 0), (.istore 4, 2, [], 0)]
theorem ok_X9_fitting_85 : vBL MT qLen qCh false q_X9_fitting.2.2.2.2.1 q_X9_fitting.2.2.2.2.2.1 q_X9_fitting.2.2.1 q_X9_fitting.1.cls q_X9_fitting.1.name q_X9_fitting.2.1 118 85 I_X9_fitting_85 = true := by decide +kernel
def p_X9_fitting_85 (k49 : Nat → Int32 → Int32 → Int32 → AH → Option (Int32 × AH)) (a0 : Nat) (x1 : Int32) (x2 : Int32) (x3 : Int32) (h : AH) : Option (Int32 × AH) :=
  if (tg h a0).1 = 8 then (if (tg h a0).1 = 8 then (let h104 := wI h a0 36 ((rI h a0 36) + ((1 : Int32)))
  if (tg h104 a0).1 = 8 then (if (tg h104 a0).1 = 8 then (let h105 := wI h104 a0 37 ((rI h104 a0 37) ||| x3)
  if (tg h105 a0).1 = 8 then (if (tg h105 a0).1 = 8 then (let h106 := wI h105 a0 38 ((rI h105 a0 38) &&& x3)
  p_X9_fitting_118 k49 FU a0 x1 x2 x3 ((0 : Int32)) h106) else none) else none) else none) else none) else none) else none
set_option maxRecDepth 100000 in
theorem e_X9_fitting_85 {l : Launch} {D : va_G} {dA : Nat → ClassId} {z : Nat} {sa : Nat → Nat} {Hz : Heap} (E : StrOK qLen qCh l D dA z sa Hz) {h0 fin : AH} {x : Int32}  {k49 : Nat → Int32 → Int32 → Int32 → AH → Option (Int32 × AH)} (hk49 : ∀ (a0 : Nat) (x1 : Int32) (x2 : Int32) (x3 : Int32) (h : AH), k49 a0 x1 x2 x3 h = some (x, fin) → GM l D dA z sa Hz q_X9_fitting h0 (some (.int x)) fin 49 [(0, .ref a0), (1, .int x1), (2, .int x2), (3, .int x3)] [] h) : ∀ (a0 : Nat) (x1 : Int32) (x2 : Int32) (x3 : Int32) (h : AH), p_X9_fitting_85 k49 a0 x1 x2 x3 h = some (x, fin) → GM l D dA z sa Hz q_X9_fitting h0 (some (.int x)) fin 85 [(0, .ref a0), (1, .int x1), (2, .int x2), (3, .int x3)] [] h := by
  intro a0 x1 x2 x3 h hd
  exact step E (is := I_X9_fitting_85) (pc := 85) (K := (kx 118 (fun la st h => gR la 0 fun a0 => gI la 1 fun x1 => gI la 2 fun x2 => gI la 3 fun x3 => gI la 4 fun x4 => sE st (p_X9_fitting_118 k49 FU a0 x1 x2 x3 x4 h)) k0)) (FI := FI_X9_fitting) (FV := fV0) (FL := fL0) (rt := rtI) (ft := 118) (by exact hd) ok_X9_fitting_85 (kx_ok (fun la st h e => by obtain ⟨a0, m_a0, e1⟩ := gR_inv e; obtain ⟨x1, m_x1, e2⟩ := gI_inv e1; obtain ⟨x2, m_x2, e3⟩ := gI_inv e2; obtain ⟨x3, m_x3, e4⟩ := gI_inv e3; obtain ⟨x4, m_x4, e5⟩ := gI_inv e4; obtain ⟨rfl, ez⟩ := sE_inv e5; exact gm_fewer (e_X9_fitting_118 E hk49 FU a0 x1 x2 x3 x4 h ez) (mem_cons m_a0 (mem_cons m_x1 (mem_cons m_x2 (mem_cons m_x3 (mem_cons m_x4 mem_nil)))))) k0_ok) (FI_X9_fitting_ok E) (fV0_ok E) (fL0_ok E) (rtI_ok rfl)
def I_X9_fitting_75 : List AI := [(.aload_n 0, 1, [], 0), (.getfield 459, 3, [8, 36, 0, 1381], 0), (.iload_n 1, 1, [], 0), (.if_icmp .ne 5, 3, [85], 0), (.iload_n 3, 1, [], 0), (.istore_n 2, 1, [], 0)]
theorem ok_X9_fitting_75 : vBL MT qLen qCh false q_X9_fitting.2.2.2.2.1 q_X9_fitting.2.2.2.2.2.1 q_X9_fitting.2.2.1 q_X9_fitting.1.cls q_X9_fitting.1.name q_X9_fitting.2.1 85 75 I_X9_fitting_75 = true := by decide +kernel
def p_X9_fitting_75 (k49 : Nat → Int32 → Int32 → Int32 → AH → Option (Int32 × AH)) (a0 : Nat) (x1 : Int32) (x2 : Int32) (x3 : Int32) (h : AH) : Option (Int32 × AH) :=
  if (tg h a0).1 = 8 then (if (rI h a0 36) = x1 then (p_X9_fitting_85 k49 a0 x1 x3 x3 h)
  else
  p_X9_fitting_85 k49 a0 x1 x2 x3 h) else none
set_option maxRecDepth 100000 in
theorem e_X9_fitting_75 {l : Launch} {D : va_G} {dA : Nat → ClassId} {z : Nat} {sa : Nat → Nat} {Hz : Heap} (E : StrOK qLen qCh l D dA z sa Hz) {h0 fin : AH} {x : Int32}  {k49 : Nat → Int32 → Int32 → Int32 → AH → Option (Int32 × AH)} (hk49 : ∀ (a0 : Nat) (x1 : Int32) (x2 : Int32) (x3 : Int32) (h : AH), k49 a0 x1 x2 x3 h = some (x, fin) → GM l D dA z sa Hz q_X9_fitting h0 (some (.int x)) fin 49 [(0, .ref a0), (1, .int x1), (2, .int x2), (3, .int x3)] [] h) : ∀ (a0 : Nat) (x1 : Int32) (x2 : Int32) (x3 : Int32) (h : AH), p_X9_fitting_75 k49 a0 x1 x2 x3 h = some (x, fin) → GM l D dA z sa Hz q_X9_fitting h0 (some (.int x)) fin 75 [(0, .ref a0), (1, .int x1), (2, .int x2), (3, .int x3)] [] h := by
  intro a0 x1 x2 x3 h hd
  exact step E (is := I_X9_fitting_75) (pc := 75) (K := (kx 85 (fun la st h => gR la 0 fun a0 => gI la 1 fun x1 => gI la 2 fun x2 => gI la 3 fun x3 => sE st (p_X9_fitting_85 k49 a0 x1 x2 x3 h)) k0)) (FI := FI_X9_fitting) (FV := fV0) (FL := fL0) (rt := rtI) (ft := 85) (by exact hd) ok_X9_fitting_75 (kx_ok (fun la st h e => by obtain ⟨a0, m_a0, e1⟩ := gR_inv e; obtain ⟨x1, m_x1, e2⟩ := gI_inv e1; obtain ⟨x2, m_x2, e3⟩ := gI_inv e2; obtain ⟨x3, m_x3, e4⟩ := gI_inv e3; obtain ⟨rfl, ez⟩ := sE_inv e4; exact gm_fewer (e_X9_fitting_85 E hk49 a0 x1 x2 x3 h ez) (mem_cons m_a0 (mem_cons m_x1 (mem_cons m_x2 (mem_cons m_x3 mem_nil))))) k0_ok) (FI_X9_fitting_ok E) (fV0_ok E) (fL0_ok E) (rtI_ok rfl)
def I_X9_fitting_49 : List AI := [(.iload_n 3, 1, [], 0), (.iconst 1, 1, [], 1), (.aload_n 0, 1, [], 0), (.getfield 265, 3, [8, 3, 2, 1348], 0), (.getfield 224, 3, [7, 6, 0, 1498], 0), (.ishl, 1, [], 0), (.if_icmp .ge 107, 3, [166], 0), (.aload_n 0, 1, [], 0), (.iload_n 3, 1, [], 0), (.invokevirtual 468, 3, [1, 308, 2, 8, 1994], 0), (.bipush (-2), 2, [], (-2)), (.if_icmp .eq 6, 3, [75], 0), (.goto 88, 3, [160], 0)]
theorem ok_X9_fitting_49 : vBL MT qLen qCh false q_X9_fitting.2.2.2.2.1 q_X9_fitting.2.2.2.2.2.1 q_X9_fitting.2.2.1 q_X9_fitting.1.cls q_X9_fitting.1.name q_X9_fitting.2.1 0 49 I_X9_fitting_49 = true := by decide +kernel
def p_X9_fitting_49 : Nat → Nat → Int32 → Int32 → Int32 → AH → Option (Int32 × AH)
  | 0, _, _, _, _, _ => none
  | n + 1, a0, x1, x2, x3, h => if (tg h a0).1 = 8 then (if (tg h (rR h a0 3)).1 = 7 then (if x3 < (((1 : Int32)) <<< ((rI h (rR h a0 3) 6) &&& 31)) then (if (tg h a0).1 = 8 then ((p_X9_wrongSaw a0 x3 h).bind fun q108 =>
    if q108.1 = ((-2 : Int32)) then (if (tg q108.2 a0).1 = 8 then (if (rI q108.2 a0 36) = x1 then (p_X9_fitting_85 (p_X9_fitting_49 n) a0 x1 x3 x3 q108.2)
    else
    p_X9_fitting_85 (p_X9_fitting_49 n) a0 x1 x2 x3 q108.2) else none)
    else
    p_X9_fitting_160 (p_X9_fitting_49 n) a0 x1 x2 x3 q108.2) else none)
    else
    if (tg h a0).1 = 8 then (if (rI h a0 36) = 0 then (if (tg h a0).1 = 8 then (let h107 := wI h a0 38 ((0 : Int32))
    p_X9_fitting_178 x2 h107) else none)
    else
    p_X9_fitting_178 x2 h) else none) else none) else none
set_option maxRecDepth 100000 in
theorem e_X9_fitting_49 {l : Launch} {D : va_G} {dA : Nat → ClassId} {z : Nat} {sa : Nat → Nat} {Hz : Heap} (E : StrOK qLen qCh l D dA z sa Hz) {h0 fin : AH} {x : Int32}  : ∀ (n : Nat) (a0 : Nat) (x1 : Int32) (x2 : Int32) (x3 : Int32) (h : AH), p_X9_fitting_49 n a0 x1 x2 x3 h = some (x, fin) → GM l D dA z sa Hz q_X9_fitting h0 (some (.int x)) fin 49 [(0, .ref a0), (1, .int x1), (2, .int x2), (3, .int x3)] [] h := by
  intro n
  induction n with
  | zero => intro a0 x1 x2 x3 h hd; exact nomatch hd
  | succ n ih =>
    intro a0 x1 x2 x3 h hd
    exact step E (is := I_X9_fitting_49) (pc := 49) (K := (kx 166 (fun la st h => gR la 0 fun a0 => gI la 2 fun x2 => sE st (p_X9_fitting_166 a0 x2 h)) (kx 75 (fun la st h => gR la 0 fun a0 => gI la 1 fun x1 => gI la 2 fun x2 => gI la 3 fun x3 => sE st (p_X9_fitting_75 (p_X9_fitting_49 n) a0 x1 x2 x3 h)) (kx 160 (fun la st h => gR la 0 fun a0 => gI la 1 fun x1 => gI la 2 fun x2 => gI la 3 fun x3 => sE st (p_X9_fitting_160 (p_X9_fitting_49 n) a0 x1 x2 x3 h)) k0)))) (FI := FI_X9_fitting) (FV := fV0) (FL := fL0) (rt := rtI) (ft := 0) (by exact hd) ok_X9_fitting_49 (kx_ok (fun la st h e => by obtain ⟨a0, m_a0, e1⟩ := gR_inv e; obtain ⟨x2, m_x2, e2⟩ := gI_inv e1; obtain ⟨rfl, ez⟩ := sE_inv e2; exact gm_fewer (e_X9_fitting_166 E  a0 x2 h ez) (mem_cons m_a0 (mem_cons m_x2 mem_nil))) (kx_ok (fun la st h e => by obtain ⟨a0, m_a0, e1⟩ := gR_inv e; obtain ⟨x1, m_x1, e2⟩ := gI_inv e1; obtain ⟨x2, m_x2, e3⟩ := gI_inv e2; obtain ⟨x3, m_x3, e4⟩ := gI_inv e3; obtain ⟨rfl, ez⟩ := sE_inv e4; exact gm_fewer (e_X9_fitting_75 E ih a0 x1 x2 x3 h ez) (mem_cons m_a0 (mem_cons m_x1 (mem_cons m_x2 (mem_cons m_x3 mem_nil))))) (kx_ok (fun la st h e => by obtain ⟨a0, m_a0, e1⟩ := gR_inv e; obtain ⟨x1, m_x1, e2⟩ := gI_inv e1; obtain ⟨x2, m_x2, e3⟩ := gI_inv e2; obtain ⟨x3, m_x3, e4⟩ := gI_inv e3; obtain ⟨rfl, ez⟩ := sE_inv e4; exact gm_fewer (e_X9_fitting_160 E ih a0 x1 x2 x3 h ez) (mem_cons m_a0 (mem_cons m_x1 (mem_cons m_x2 (mem_cons m_x3 mem_nil))))) k0_ok))) (FI_X9_fitting_ok E) (fV0_ok E) (fL0_ok E) (rtI_ok rfl)
def I_X9_fitting_47 : List AI := [(.iconst 0, 1, [], 0), (.istore_n 3, 1, [], 0)]
theorem ok_X9_fitting_47 : vBL MT qLen qCh false q_X9_fitting.2.2.2.2.1 q_X9_fitting.2.2.2.2.2.1 q_X9_fitting.2.2.1 q_X9_fitting.1.cls q_X9_fitting.1.name q_X9_fitting.2.1 49 47 I_X9_fitting_47 = true := by decide +kernel
def p_X9_fitting_47 (a0 : Nat) (x1 : Int32) (x2 : Int32) (h : AH) : Option (Int32 × AH) :=
  p_X9_fitting_49 FU a0 x1 x2 ((0 : Int32)) h
set_option maxRecDepth 100000 in
theorem e_X9_fitting_47 {l : Launch} {D : va_G} {dA : Nat → ClassId} {z : Nat} {sa : Nat → Nat} {Hz : Heap} (E : StrOK qLen qCh l D dA z sa Hz) {h0 fin : AH} {x : Int32}  : ∀ (a0 : Nat) (x1 : Int32) (x2 : Int32) (h : AH), p_X9_fitting_47 a0 x1 x2 h = some (x, fin) → GM l D dA z sa Hz q_X9_fitting h0 (some (.int x)) fin 47 [(0, .ref a0), (1, .int x1), (2, .int x2)] [] h := by
  intro a0 x1 x2 h hd
  exact step E (is := I_X9_fitting_47) (pc := 47) (K := (kx 49 (fun la st h => gR la 0 fun a0 => gI la 1 fun x1 => gI la 2 fun x2 => gI la 3 fun x3 => sE st (p_X9_fitting_49 FU a0 x1 x2 x3 h)) k0)) (FI := FI_X9_fitting) (FV := fV0) (FL := fL0) (rt := rtI) (ft := 49) (by exact hd) ok_X9_fitting_47 (kx_ok (fun la st h e => by obtain ⟨a0, m_a0, e1⟩ := gR_inv e; obtain ⟨x1, m_x1, e2⟩ := gI_inv e1; obtain ⟨x2, m_x2, e3⟩ := gI_inv e2; obtain ⟨x3, m_x3, e4⟩ := gI_inv e3; obtain ⟨rfl, ez⟩ := sE_inv e4; exact gm_fewer (e_X9_fitting_49 E  FU a0 x1 x2 x3 h ez) (mem_cons m_a0 (mem_cons m_x1 (mem_cons m_x2 (mem_cons m_x3 mem_nil))))) k0_ok) (FI_X9_fitting_ok E) (fV0_ok E) (fL0_ok E) (rtI_ok rfl)
def I_X9_fitting_29 : List AI := [(.iload_n 3, 1, [], 0), (.iconst 4, 1, [], 4), (.if_icmp .ge 16, 3, [47], 0), (.aload_n 0, 1, [], 0), (.getfield 30, 3, [8, 39, 2, 1384], 0), (.iload_n 3, 1, [], 0), (.iconst 0, 1, [], 0), (.iastore, 1, [], 0), (.iinc 3 1, 3, [], 1), (.goto (-15), 3, [29], 0)]
theorem ok_X9_fitting_29 : vBL MT qLen qCh false q_X9_fitting.2.2.2.2.1 q_X9_fitting.2.2.2.2.2.1 q_X9_fitting.2.2.1 q_X9_fitting.1.cls q_X9_fitting.1.name q_X9_fitting.2.1 0 29 I_X9_fitting_29 = true := by decide +kernel
def p_X9_fitting_29 : Nat → Nat → Int32 → Int32 → Int32 → AH → Option (Int32 × AH)
  | 0, _, _, _, _, _ => none
  | n + 1, a0, x1, x2, x3, h => if x3 < ((4 : Int32)) then (if (tg h a0).1 = 8 then (if inB h (rR h a0 39) 100 x3 then (let h109 := wI h (rR h a0 39) x3.toNatClampNeg ((0 : Int32))
    p_X9_fitting_29 n a0 x1 x2 (x3 + (1 : Int32)) h109) else none) else none)
    else
    p_X9_fitting_49 FU a0 x1 x2 ((0 : Int32)) h
set_option maxRecDepth 100000 in
theorem e_X9_fitting_29 {l : Launch} {D : va_G} {dA : Nat → ClassId} {z : Nat} {sa : Nat → Nat} {Hz : Heap} (E : StrOK qLen qCh l D dA z sa Hz) {h0 fin : AH} {x : Int32}  : ∀ (n : Nat) (a0 : Nat) (x1 : Int32) (x2 : Int32) (x3 : Int32) (h : AH), p_X9_fitting_29 n a0 x1 x2 x3 h = some (x, fin) → GM l D dA z sa Hz q_X9_fitting h0 (some (.int x)) fin 29 [(0, .ref a0), (1, .int x1), (2, .int x2), (3, .int x3)] [] h := by
  intro n
  induction n with
  | zero => intro a0 x1 x2 x3 h hd; exact nomatch hd
  | succ n ih =>
    intro a0 x1 x2 x3 h hd
    exact step E (is := I_X9_fitting_29) (pc := 29) (K := (kx 47 (fun la st h => gR la 0 fun a0 => gI la 1 fun x1 => gI la 2 fun x2 => sE st (p_X9_fitting_47 a0 x1 x2 h)) (kx 29 (fun la st h => gR la 0 fun a0 => gI la 1 fun x1 => gI la 2 fun x2 => gI la 3 fun x3 => sE st (p_X9_fitting_29 n a0 x1 x2 x3 h)) k0))) (FI := FI_X9_fitting) (FV := fV0) (FL := fL0) (rt := rtI) (ft := 0) (by exact hd) ok_X9_fitting_29 (kx_ok (fun la st h e => by obtain ⟨a0, m_a0, e1⟩ := gR_inv e; obtain ⟨x1, m_x1, e2⟩ := gI_inv e1; obtain ⟨x2, m_x2, e3⟩ := gI_inv e2; obtain ⟨rfl, ez⟩ := sE_inv e3; exact gm_fewer (e_X9_fitting_47 E  a0 x1 x2 h ez) (mem_cons m_a0 (mem_cons m_x1 (mem_cons m_x2 mem_nil)))) (kx_ok (fun la st h e => by obtain ⟨a0, m_a0, e1⟩ := gR_inv e; obtain ⟨x1, m_x1, e2⟩ := gI_inv e1; obtain ⟨x2, m_x2, e3⟩ := gI_inv e2; obtain ⟨x3, m_x3, e4⟩ := gI_inv e3; obtain ⟨rfl, ez⟩ := sE_inv e4; exact gm_fewer (ih a0 x1 x2 x3 h ez) (mem_cons m_a0 (mem_cons m_x1 (mem_cons m_x2 (mem_cons m_x3 mem_nil))))) k0_ok)) (FI_X9_fitting_ok E) (fV0_ok E) (fL0_ok E) (rtI_ok rfl)
def I_X9_fitting_0 : List AI := [(.aload_n 0, 1, [], 0), (.iconst 0, 1, [], 0), (.putfield 459, 3, [8, 36, 0, 1381], 0), (.aload_n 0, 1, [], 0), (.iconst 0, 1, [], 0), (.putfield 462, 3, [8, 37, 0, 1382], 0), (.aload_n 0, 1, [], 0), (.iconst 1, 1, [], 1), (.aload_n 0, 1, [], 0), (.getfield 265, 3, [8, 3, 2, 1348], 0), (.getfield 224, 3, [7, 6, 0, 1498], 0), (.ishl, 1, [], 0), (.iconst 1, 1, [], 1), (.isub, 1, [], 0), (.putfield 465, 3, [8, 38, 0, 1383], 0), (.iconst (-1), 1, [], (-1)), (.istore_n 2, 1, [], 0), (.iconst 0, 1, [], 0), (.istore_n 3, 1, [], 0)]
theorem ok_X9_fitting_0 : vBL MT qLen qCh false q_X9_fitting.2.2.2.2.1 q_X9_fitting.2.2.2.2.2.1 q_X9_fitting.2.2.1 q_X9_fitting.1.cls q_X9_fitting.1.name q_X9_fitting.2.1 29 0 I_X9_fitting_0 = true := by decide +kernel
def p_X9_fitting (a0 : Nat) (x1 : Int32) (h : AH) : Option (Int32 × AH) :=
  if (tg h a0).1 = 8 then (let h110 := wI h a0 36 ((0 : Int32))
  if (tg h110 a0).1 = 8 then (let h111 := wI h110 a0 37 ((0 : Int32))
  if (tg h111 a0).1 = 8 then (if (tg h111 (rR h111 a0 3)).1 = 7 then (if (tg h111 a0).1 = 8 then (let h112 := wI h111 a0 38 ((((1 : Int32)) <<< ((rI h111 (rR h111 a0 3) 6) &&& 31)) - ((1 : Int32)))
  p_X9_fitting_29 FU a0 x1 ((-1 : Int32)) ((0 : Int32)) h112) else none) else none) else none) else none) else none
set_option maxRecDepth 100000 in
theorem e_X9_fitting_0 {l : Launch} {D : va_G} {dA : Nat → ClassId} {z : Nat} {sa : Nat → Nat} {Hz : Heap} (E : StrOK qLen qCh l D dA z sa Hz) {h0 fin : AH} {x : Int32}  : ∀ (a0 : Nat) (x1 : Int32) (h : AH), p_X9_fitting a0 x1 h = some (x, fin) → GM l D dA z sa Hz q_X9_fitting h0 (some (.int x)) fin 0 [(0, .ref a0), (1, .int x1)] [] h := by
  intro a0 x1 h hd
  exact step E (is := I_X9_fitting_0) (pc := 0) (K := (kx 29 (fun la st h => gR la 0 fun a0 => gI la 1 fun x1 => gI la 2 fun x2 => gI la 3 fun x3 => sE st (p_X9_fitting_29 FU a0 x1 x2 x3 h)) k0)) (FI := FI_X9_fitting) (FV := fV0) (FL := fL0) (rt := rtI) (ft := 29) (by exact hd) ok_X9_fitting_0 (kx_ok (fun la st h e => by obtain ⟨a0, m_a0, e1⟩ := gR_inv e; obtain ⟨x1, m_x1, e2⟩ := gI_inv e1; obtain ⟨x2, m_x2, e3⟩ := gI_inv e2; obtain ⟨x3, m_x3, e4⟩ := gI_inv e3; obtain ⟨rfl, ez⟩ := sE_inv e4; exact gm_fewer (e_X9_fitting_29 E  FU a0 x1 x2 x3 h ez) (mem_cons m_a0 (mem_cons m_x1 (mem_cons m_x2 (mem_cons m_x3 mem_nil))))) k0_ok) (FI_X9_fitting_ok E) (fV0_ok E) (fL0_ok E) (rtI_ok rfl)
theorem c_X9_fitting {l : Launch} {D : va_G} {dA : Nat → ClassId} {z : Nat} {sa : Nat → Nat} {Hz : Heap} (E : StrOK qLen qCh l D dA z sa Hz) {a0 : Nat} {x1 : Int32} {h fin : AH} {x : Int32} (hd : p_X9_fitting a0 x1 h = some (x, fin)) : CalOK l D dA z sa Hz q_X9_fitting [.ref a0, .int x1] h (some (.int x)) fin := calOf (by decide +kernel) (Nat.le_of_ble_eq_true rfl) (e_X9_fitting_0 E a0 x1 h hd)
def FI_X9_fits : Nat → List Value → AH → Option (Int32 × AH) := (cx 201 (fun As h => sR As fun a0 As => sI As fun x1 As => sE As (p_X9_refused a0 x1 h)) (cx 309 (fun As h => sR As fun a0 As => sI As fun x1 As => sE As (p_X9_fitting a0 x1 h)) (cx 233 (fun As h => sR As fun a0 As => sI As fun x1 As => sE As (p_X9_good a0 x1 h)) fI0)))
theorem FI_X9_fits_ok {l : Launch} {D : va_G} {dA : Nat → ClassId} {z : Nat} {sa : Nat → Nat} {Hz : Heap} (E : StrOK qLen qCh l D dA z sa Hz) : ∀ mi As h x h', FI_X9_fits mi As h = some (x, h') → CalOK l D dA z sa Hz (MT mi) As h (some (.int x)) h' := (cxI_ok (fun As h x h2 e => by obtain ⟨_, _, rfl, e0⟩ := sR_inv e; obtain ⟨_, _, rfl, e1⟩ := sI_inv e0; obtain ⟨rfl, ez⟩ := sE_inv e1; exact c_X9_refused E ez) ((cxI_ok (fun As h x h2 e => by obtain ⟨_, _, rfl, e0⟩ := sR_inv e; obtain ⟨_, _, rfl, e1⟩ := sI_inv e0; obtain ⟨rfl, ez⟩ := sE_inv e1; exact c_X9_fitting E ez) ((cxI_ok (fun As h x h2 e => by obtain ⟨_, _, rfl, e0⟩ := sR_inv e; obtain ⟨_, _, rfl, e1⟩ := sI_inv e0; obtain ⟨rfl, ez⟩ := sE_inv e1; exact c_X9_good E ez) (fI0_ok E))))))
def I_X9_fits_18 : List AI := [(.aload_n 0, 1, [], 0), (.iconst (-1), 1, [], (-1)), (.invokevirtual 471, 3, [1, 309, 2, 8, 1990], 0), (.pop, 1, [], 0), (.aload_n 0, 1, [], 0), (.aload_n 0, 1, [], 0), (.getfield 459, 3, [8, 36, 0, 1381], 0), (.invokevirtual 43, 3, [1, 233, 2, 8, 1694], 0), (.ireturn, 1, [], 0)]
theorem ok_X9_fits_18 : vBL MT qLen qCh false q_X9_fits.2.2.2.2.1 q_X9_fits.2.2.2.2.2.1 q_X9_fits.2.2.1 q_X9_fits.1.cls q_X9_fits.1.name q_X9_fits.2.1 0 18 I_X9_fits_18 = true := by decide +kernel
def p_X9_fits_18 (a0 : Nat) (h : AH) : Option (Int32 × AH) :=
  if (tg h a0).1 = 8 then ((p_X9_fitting a0 ((-1 : Int32)) h).bind fun q101 =>
  if (tg q101.2 a0).1 = 8 then (if (tg q101.2 a0).1 = 8 then ((p_X9_good a0 (rI q101.2 a0 36) q101.2).bind fun q102 =>
  some (q102.1, q102.2)) else none) else none) else none
set_option maxRecDepth 100000 in
theorem e_X9_fits_18 {l : Launch} {D : va_G} {dA : Nat → ClassId} {z : Nat} {sa : Nat → Nat} {Hz : Heap} (E : StrOK qLen qCh l D dA z sa Hz) {h0 fin : AH} {x : Int32}  : ∀ (a0 : Nat) (h : AH), p_X9_fits_18 a0 h = some (x, fin) → GM l D dA z sa Hz q_X9_fits h0 (some (.int x)) fin 18 [(0, .ref a0)] [] h := by
  intro a0 h hd
  exact step E (is := I_X9_fits_18) (pc := 18) (K := k0) (FI := FI_X9_fits) (FV := fV0) (FL := fL0) (rt := rtI) (ft := 0) (by exact hd) ok_X9_fits_18 k0_ok (FI_X9_fits_ok E) (fV0_ok E) (fL0_ok E) (rtI_ok rfl)
def I_X9_fits_0 : List AI := [(.aload_n 0, 1, [], 0), (.iconst 0, 1, [], 0), (.putfield 33, 3, [8, 0, 0, 1345], 0), (.aload_n 0, 1, [], 0), (.getfield 265, 3, [8, 3, 2, 1348], 0), (.ifnonnull 9, 3, [18], 0), (.aload_n 0, 1, [], 0), (.iconst 1, 1, [], 1), (.invokevirtual 39, 3, [1, 201, 2, 8, 1481], 0), (.ireturn, 1, [], 0)]
theorem ok_X9_fits_0 : vBL MT qLen qCh false q_X9_fits.2.2.2.2.1 q_X9_fits.2.2.2.2.2.1 q_X9_fits.2.2.1 q_X9_fits.1.cls q_X9_fits.1.name q_X9_fits.2.1 0 0 I_X9_fits_0 = true := by decide +kernel
def p_X9_fits (a0 : Nat) (h : AH) : Option (Int32 × AH) :=
  if (tg h a0).1 = 8 then (let h103 := wI h a0 0 ((0 : Int32))
  if (tg h103 a0).1 = 8 then (if (rR h103 a0 3) = 0 then (if (tg h103 a0).1 = 8 then ((p_X9_refused a0 ((1 : Int32)) h103).bind fun q106 =>
  some (q106.1, q106.2)) else none)
  else
  if (tg h103 a0).1 = 8 then ((p_X9_fitting a0 ((-1 : Int32)) h103).bind fun q104 =>
  if (tg q104.2 a0).1 = 8 then (if (tg q104.2 a0).1 = 8 then ((p_X9_good a0 (rI q104.2 a0 36) q104.2).bind fun q105 =>
  some (q105.1, q105.2)) else none) else none) else none) else none) else none
set_option maxRecDepth 100000 in
theorem e_X9_fits_0 {l : Launch} {D : va_G} {dA : Nat → ClassId} {z : Nat} {sa : Nat → Nat} {Hz : Heap} (E : StrOK qLen qCh l D dA z sa Hz) {h0 fin : AH} {x : Int32}  : ∀ (a0 : Nat) (h : AH), p_X9_fits a0 h = some (x, fin) → GM l D dA z sa Hz q_X9_fits h0 (some (.int x)) fin 0 [(0, .ref a0)] [] h := by
  intro a0 h hd
  exact step E (is := I_X9_fits_0) (pc := 0) (K := (kx 18 (fun la st h => gR la 0 fun a0 => sE st (p_X9_fits_18 a0 h)) k0)) (FI := FI_X9_fits) (FV := fV0) (FL := fL0) (rt := rtI) (ft := 0) (by exact hd) ok_X9_fits_0 (kx_ok (fun la st h e => by obtain ⟨a0, m_a0, e1⟩ := gR_inv e; obtain ⟨rfl, ez⟩ := sE_inv e1; exact gm_fewer (e_X9_fits_18 E  a0 h ez) (mem_cons m_a0 mem_nil)) k0_ok) (FI_X9_fits_ok E) (fV0_ok E) (fL0_ok E) (rtI_ok rfl)
theorem c_X9_fits {l : Launch} {D : va_G} {dA : Nat → ClassId} {z : Nat} {sa : Nat → Nat} {Hz : Heap} (E : StrOK qLen qCh l D dA z sa Hz) {a0 : Nat} {h fin : AH} {x : Int32} (hd : p_X9_fits a0 h = some (x, fin)) : CalOK l D dA z sa Hz q_X9_fits [.ref a0] h (some (.int x)) fin := calOf (by decide +kernel) (Nat.le_of_ble_eq_true rfl) (e_X9_fits_0 E a0 h hd)
def FI_X9_fitAt : Nat → List Value → AH → Option (Int32 × AH) := (cx 201 (fun As h => sR As fun a0 As => sI As fun x1 As => sE As (p_X9_refused a0 x1 h)) (cx 309 (fun As h => sR As fun a0 As => sI As fun x1 As => sE As (p_X9_fitting a0 x1 h)) (cx 233 (fun As h => sR As fun a0 As => sI As fun x1 As => sE As (p_X9_good a0 x1 h)) fI0)))
theorem FI_X9_fitAt_ok {l : Launch} {D : va_G} {dA : Nat → ClassId} {z : Nat} {sa : Nat → Nat} {Hz : Heap} (E : StrOK qLen qCh l D dA z sa Hz) : ∀ mi As h x h', FI_X9_fitAt mi As h = some (x, h') → CalOK l D dA z sa Hz (MT mi) As h (some (.int x)) h' := (cxI_ok (fun As h x h2 e => by obtain ⟨_, _, rfl, e0⟩ := sR_inv e; obtain ⟨_, _, rfl, e1⟩ := sI_inv e0; obtain ⟨rfl, ez⟩ := sE_inv e1; exact c_X9_refused E ez) ((cxI_ok (fun As h x h2 e => by obtain ⟨_, _, rfl, e0⟩ := sR_inv e; obtain ⟨_, _, rfl, e1⟩ := sI_inv e0; obtain ⟨rfl, ez⟩ := sE_inv e1; exact c_X9_fitting E ez) ((cxI_ok (fun As h x h2 e => by obtain ⟨_, _, rfl, e0⟩ := sR_inv e; obtain ⟨_, _, rfl, e1⟩ := sI_inv e0; obtain ⟨rfl, ez⟩ := sE_inv e1; exact c_X9_good E ez) (fI0_ok E))))))
def I_X9_fitAt_16 : List AI := [(.aload_n 0, 1, [], 0), (.iconst 1, 1, [], 1), (.invokevirtual 39, 3, [1, 201, 2, 8, 1481], 0), (.ireturn, 1, [], 0)]
theorem ok_X9_fitAt_16 : vBL MT qLen qCh false q_X9_fitAt.2.2.2.2.1 q_X9_fitAt.2.2.2.2.2.1 q_X9_fitAt.2.2.1 q_X9_fitAt.1.cls q_X9_fitAt.1.name q_X9_fitAt.2.1 0 16 I_X9_fitAt_16 = true := by decide +kernel
def p_X9_fitAt_16 (a0 : Nat) (h : AH) : Option (Int32 × AH) :=
  if (tg h a0).1 = 8 then ((p_X9_refused a0 ((1 : Int32)) h).bind fun q101 =>
  some (q101.1, q101.2)) else none
set_option maxRecDepth 100000 in
theorem e_X9_fitAt_16 {l : Launch} {D : va_G} {dA : Nat → ClassId} {z : Nat} {sa : Nat → Nat} {Hz : Heap} (E : StrOK qLen qCh l D dA z sa Hz) {h0 fin : AH} {x : Int32}  : ∀ (a0 : Nat) (h : AH), p_X9_fitAt_16 a0 h = some (x, fin) → GM l D dA z sa Hz q_X9_fitAt h0 (some (.int x)) fin 16 [(0, .ref a0)] [] h := by
  intro a0 h hd
  exact step E (is := I_X9_fitAt_16) (pc := 16) (K := k0) (FI := FI_X9_fitAt) (FV := fV0) (FL := fL0) (rt := rtI) (ft := 0) (by exact hd) ok_X9_fitAt_16 k0_ok (FI_X9_fitAt_ok E) (fV0_ok E) (fL0_ok E) (rtI_ok rfl)
def I_X9_fitAt_46 : List AI := [(.ireturn, 1, [], 0)]
theorem ok_X9_fitAt_46 : vBL MT qLen qCh false q_X9_fitAt.2.2.2.2.1 q_X9_fitAt.2.2.2.2.2.1 q_X9_fitAt.2.2.1 q_X9_fitAt.1.cls q_X9_fitAt.1.name q_X9_fitAt.2.1 0 46 I_X9_fitAt_46 = true := by decide +kernel
def p_X9_fitAt_46 (y0 : Int32) (h : AH) : Option (Int32 × AH) :=
  some (y0, h)
set_option maxRecDepth 100000 in
theorem e_X9_fitAt_46 {l : Launch} {D : va_G} {dA : Nat → ClassId} {z : Nat} {sa : Nat → Nat} {Hz : Heap} (E : StrOK qLen qCh l D dA z sa Hz) {h0 fin : AH} {x : Int32}  : ∀ (y0 : Int32) (h : AH), p_X9_fitAt_46 y0 h = some (x, fin) → GM l D dA z sa Hz q_X9_fitAt h0 (some (.int x)) fin 46 [] [.int y0] h := by
  intro y0 h hd
  exact step E (is := I_X9_fitAt_46) (pc := 46) (K := k0) (FI := FI_X9_fitAt) (FV := fV0) (FL := fL0) (rt := rtI) (ft := 0) (by exact hd) ok_X9_fitAt_46 k0_ok (FI_X9_fitAt_ok E) (fV0_ok E) (fL0_ok E) (rtI_ok rfl)
def I_X9_fitAt_41 : List AI := [(.aload_n 0, 1, [], 0), (.iload_n 2, 1, [], 0), (.invokevirtual 43, 3, [1, 233, 2, 8, 1694], 0)]
theorem ok_X9_fitAt_41 : vBL MT qLen qCh false q_X9_fitAt.2.2.2.2.1 q_X9_fitAt.2.2.2.2.2.1 q_X9_fitAt.2.2.1 q_X9_fitAt.1.cls q_X9_fitAt.1.name q_X9_fitAt.2.1 46 41 I_X9_fitAt_41 = true := by decide +kernel
def p_X9_fitAt_41 (a0 : Nat) (x2 : Int32) (h : AH) : Option (Int32 × AH) :=
  if (tg h a0).1 = 8 then ((p_X9_good a0 x2 h).bind fun q102 =>
  p_X9_fitAt_46 q102.1 q102.2) else none
set_option maxRecDepth 100000 in
theorem e_X9_fitAt_41 {l : Launch} {D : va_G} {dA : Nat → ClassId} {z : Nat} {sa : Nat → Nat} {Hz : Heap} (E : StrOK qLen qCh l D dA z sa Hz) {h0 fin : AH} {x : Int32}  : ∀ (a0 : Nat) (x2 : Int32) (h : AH), p_X9_fitAt_41 a0 x2 h = some (x, fin) → GM l D dA z sa Hz q_X9_fitAt h0 (some (.int x)) fin 41 [(0, .ref a0), (2, .int x2)] [] h := by
  intro a0 x2 h hd
  exact step E (is := I_X9_fitAt_41) (pc := 41) (K := (kx 46 (fun la st h => sI st fun y0 st => sE st (p_X9_fitAt_46 y0 h)) k0)) (FI := FI_X9_fitAt) (FV := fV0) (FL := fL0) (rt := rtI) (ft := 46) (by exact hd) ok_X9_fitAt_41 (kx_ok (fun la st h e => by obtain ⟨y0, _, rfl, e1⟩ := sI_inv e; obtain ⟨rfl, ez⟩ := sE_inv e1; exact gm_fewer (e_X9_fitAt_46 E  y0 h ez) mem_nil) k0_ok) (FI_X9_fitAt_ok E) (fV0_ok E) (fL0_ok E) (rtI_ok rfl)
def I_X9_fitAt_22 : List AI := [(.aload_n 0, 1, [], 0), (.iload_n 1, 1, [], 0), (.invokevirtual 471, 3, [1, 309, 2, 8, 1990], 0), (.istore_n 2, 1, [], 0), (.iload_n 2, 1, [], 0), (.iconst (-1), 1, [], (-1)), (.if_icmp .ne 11, 3, [41], 0), (.aload_n 0, 1, [], 0), (.iconst 1, 1, [], 1), (.invokevirtual 39, 3, [1, 201, 2, 8, 1481], 0), (.goto 8, 3, [46], 0)]
theorem ok_X9_fitAt_22 : vBL MT qLen qCh false q_X9_fitAt.2.2.2.2.1 q_X9_fitAt.2.2.2.2.2.1 q_X9_fitAt.2.2.1 q_X9_fitAt.1.cls q_X9_fitAt.1.name q_X9_fitAt.2.1 0 22 I_X9_fitAt_22 = true := by decide +kernel
def p_X9_fitAt_22 (a0 : Nat) (x1 : Int32) (h : AH) : Option (Int32 × AH) :=
  if (tg h a0).1 = 8 then ((p_X9_fitting a0 x1 h).bind fun q103 =>
  if q103.1 = ((-1 : Int32)) then (if (tg q103.2 a0).1 = 8 then ((p_X9_refused a0 ((1 : Int32)) q103.2).bind fun q105 =>
  p_X9_fitAt_46 q105.1 q105.2) else none)
  else
  if (tg q103.2 a0).1 = 8 then ((p_X9_good a0 q103.1 q103.2).bind fun q104 =>
  p_X9_fitAt_46 q104.1 q104.2) else none) else none
set_option maxRecDepth 100000 in
theorem e_X9_fitAt_22 {l : Launch} {D : va_G} {dA : Nat → ClassId} {z : Nat} {sa : Nat → Nat} {Hz : Heap} (E : StrOK qLen qCh l D dA z sa Hz) {h0 fin : AH} {x : Int32}  : ∀ (a0 : Nat) (x1 : Int32) (h : AH), p_X9_fitAt_22 a0 x1 h = some (x, fin) → GM l D dA z sa Hz q_X9_fitAt h0 (some (.int x)) fin 22 [(0, .ref a0), (1, .int x1)] [] h := by
  intro a0 x1 h hd
  exact step E (is := I_X9_fitAt_22) (pc := 22) (K := (kx 41 (fun la st h => gR la 0 fun a0 => gI la 2 fun x2 => sE st (p_X9_fitAt_41 a0 x2 h)) (kx 46 (fun la st h => sI st fun y0 st => sE st (p_X9_fitAt_46 y0 h)) k0))) (FI := FI_X9_fitAt) (FV := fV0) (FL := fL0) (rt := rtI) (ft := 0) (by exact hd) ok_X9_fitAt_22 (kx_ok (fun la st h e => by obtain ⟨a0, m_a0, e1⟩ := gR_inv e; obtain ⟨x2, m_x2, e2⟩ := gI_inv e1; obtain ⟨rfl, ez⟩ := sE_inv e2; exact gm_fewer (e_X9_fitAt_41 E  a0 x2 h ez) (mem_cons m_a0 (mem_cons m_x2 mem_nil))) (kx_ok (fun la st h e => by obtain ⟨y0, _, rfl, e1⟩ := sI_inv e; obtain ⟨rfl, ez⟩ := sE_inv e1; exact gm_fewer (e_X9_fitAt_46 E  y0 h ez) mem_nil) k0_ok)) (FI_X9_fitAt_ok E) (fV0_ok E) (fL0_ok E) (rtI_ok rfl)
def I_X9_fitAt_0 : List AI := [(.aload_n 0, 1, [], 0), (.iconst 0, 1, [], 0), (.putfield 33, 3, [8, 0, 0, 1345], 0), (.aload_n 0, 1, [], 0), (.getfield 265, 3, [8, 3, 2, 1348], 0), (.ifnull 7, 3, [16], 0), (.iload_n 1, 1, [], 0), (.ifCond .ge 9, 3, [22], 0)]
theorem ok_X9_fitAt_0 : vBL MT qLen qCh false q_X9_fitAt.2.2.2.2.1 q_X9_fitAt.2.2.2.2.2.1 q_X9_fitAt.2.2.1 q_X9_fitAt.1.cls q_X9_fitAt.1.name q_X9_fitAt.2.1 16 0 I_X9_fitAt_0 = true := by decide +kernel
def p_X9_fitAt (a0 : Nat) (x1 : Int32) (h : AH) : Option (Int32 × AH) :=
  if (tg h a0).1 = 8 then (let h106 := wI h a0 0 ((0 : Int32))
  if (tg h106 a0).1 = 8 then (if (rR h106 a0 3) = 0 then (p_X9_fitAt_16 a0 h106)
  else
  if x1 < 0 then (p_X9_fitAt_16 a0 h106)
  else
  if (tg h106 a0).1 = 8 then ((p_X9_fitting a0 x1 h106).bind fun q107 =>
  if q107.1 = ((-1 : Int32)) then (if (tg q107.2 a0).1 = 8 then ((p_X9_refused a0 ((1 : Int32)) q107.2).bind fun q109 =>
  p_X9_fitAt_46 q109.1 q109.2) else none)
  else
  if (tg q107.2 a0).1 = 8 then ((p_X9_good a0 q107.1 q107.2).bind fun q108 =>
  p_X9_fitAt_46 q108.1 q108.2) else none) else none) else none) else none
set_option maxRecDepth 100000 in
theorem e_X9_fitAt_0 {l : Launch} {D : va_G} {dA : Nat → ClassId} {z : Nat} {sa : Nat → Nat} {Hz : Heap} (E : StrOK qLen qCh l D dA z sa Hz) {h0 fin : AH} {x : Int32}  : ∀ (a0 : Nat) (x1 : Int32) (h : AH), p_X9_fitAt a0 x1 h = some (x, fin) → GM l D dA z sa Hz q_X9_fitAt h0 (some (.int x)) fin 0 [(0, .ref a0), (1, .int x1)] [] h := by
  intro a0 x1 h hd
  exact step E (is := I_X9_fitAt_0) (pc := 0) (K := (kx 16 (fun la st h => gR la 0 fun a0 => sE st (p_X9_fitAt_16 a0 h)) (kx 22 (fun la st h => gR la 0 fun a0 => gI la 1 fun x1 => sE st (p_X9_fitAt_22 a0 x1 h)) k0))) (FI := FI_X9_fitAt) (FV := fV0) (FL := fL0) (rt := rtI) (ft := 16) (by exact hd) ok_X9_fitAt_0 (kx_ok (fun la st h e => by obtain ⟨a0, m_a0, e1⟩ := gR_inv e; obtain ⟨rfl, ez⟩ := sE_inv e1; exact gm_fewer (e_X9_fitAt_16 E  a0 h ez) (mem_cons m_a0 mem_nil)) (kx_ok (fun la st h e => by obtain ⟨a0, m_a0, e1⟩ := gR_inv e; obtain ⟨x1, m_x1, e2⟩ := gI_inv e1; obtain ⟨rfl, ez⟩ := sE_inv e2; exact gm_fewer (e_X9_fitAt_22 E  a0 x1 h ez) (mem_cons m_a0 (mem_cons m_x1 mem_nil))) k0_ok)) (FI_X9_fitAt_ok E) (fV0_ok E) (fL0_ok E) (rtI_ok rfl)
theorem c_X9_fitAt {l : Launch} {D : va_G} {dA : Nat → ClassId} {z : Nat} {sa : Nat → Nat} {Hz : Heap} (E : StrOK qLen qCh l D dA z sa Hz) {a0 : Nat} {x1 : Int32} {h fin : AH} {x : Int32} (hd : p_X9_fitAt a0 x1 h = some (x, fin)) : CalOK l D dA z sa Hz q_X9_fitAt [.ref a0, .int x1] h (some (.int x)) fin := calOf (by decide +kernel) (Nat.le_of_ble_eq_true rfl) (e_X9_fitAt_0 E a0 x1 h hd)
def FI_X9_could : Nat → List Value → AH → Option (Int32 × AH) := (cx 201 (fun As h => sR As fun a0 As => sI As fun x1 As => sE As (p_X9_refused a0 x1 h)) (cx 309 (fun As h => sR As fun a0 As => sI As fun x1 As => sE As (p_X9_fitting a0 x1 h)) (cx 233 (fun As h => sR As fun a0 As => sI As fun x1 As => sE As (p_X9_good a0 x1 h)) fI0)))
theorem FI_X9_could_ok {l : Launch} {D : va_G} {dA : Nat → ClassId} {z : Nat} {sa : Nat → Nat} {Hz : Heap} (E : StrOK qLen qCh l D dA z sa Hz) : ∀ mi As h x h', FI_X9_could mi As h = some (x, h') → CalOK l D dA z sa Hz (MT mi) As h (some (.int x)) h' := (cxI_ok (fun As h x h2 e => by obtain ⟨_, _, rfl, e0⟩ := sR_inv e; obtain ⟨_, _, rfl, e1⟩ := sI_inv e0; obtain ⟨rfl, ez⟩ := sE_inv e1; exact c_X9_refused E ez) ((cxI_ok (fun As h x h2 e => by obtain ⟨_, _, rfl, e0⟩ := sR_inv e; obtain ⟨_, _, rfl, e1⟩ := sI_inv e0; obtain ⟨rfl, ez⟩ := sE_inv e1; exact c_X9_fitting E ez) ((cxI_ok (fun As h x h2 e => by obtain ⟨_, _, rfl, e0⟩ := sR_inv e; obtain ⟨_, _, rfl, e1⟩ := sI_inv e0; obtain ⟨rfl, ez⟩ := sE_inv e1; exact c_X9_good E ez) (fI0_ok E))))))
def I_X9_could_18 : List AI := [(.aload_n 0, 1, [], 0), (.iconst (-1), 1, [], (-1)), (.invokevirtual 471, 3, [1, 309, 2, 8, 1990], 0), (.pop, 1, [], 0), (.aload_n 0, 1, [], 0), (.aload_n 0, 1, [], 0), (.getfield 462, 3, [8, 37, 0, 1382], 0), (.invokevirtual 43, 3, [1, 233, 2, 8, 1694], 0), (.ireturn, 1, [], 0)]
theorem ok_X9_could_18 : vBL MT qLen qCh false q_X9_could.2.2.2.2.1 q_X9_could.2.2.2.2.2.1 q_X9_could.2.2.1 q_X9_could.1.cls q_X9_could.1.name q_X9_could.2.1 0 18 I_X9_could_18 = true := by decide +kernel
def p_X9_could_18 (a0 : Nat) (h : AH) : Option (Int32 × AH) :=
  if (tg h a0).1 = 8 then ((p_X9_fitting a0 ((-1 : Int32)) h).bind fun q101 =>
  if (tg q101.2 a0).1 = 8 then (if (tg q101.2 a0).1 = 8 then ((p_X9_good a0 (rI q101.2 a0 37) q101.2).bind fun q102 =>
  some (q102.1, q102.2)) else none) else none) else none
set_option maxRecDepth 100000 in
theorem e_X9_could_18 {l : Launch} {D : va_G} {dA : Nat → ClassId} {z : Nat} {sa : Nat → Nat} {Hz : Heap} (E : StrOK qLen qCh l D dA z sa Hz) {h0 fin : AH} {x : Int32}  : ∀ (a0 : Nat) (h : AH), p_X9_could_18 a0 h = some (x, fin) → GM l D dA z sa Hz q_X9_could h0 (some (.int x)) fin 18 [(0, .ref a0)] [] h := by
  intro a0 h hd
  exact step E (is := I_X9_could_18) (pc := 18) (K := k0) (FI := FI_X9_could) (FV := fV0) (FL := fL0) (rt := rtI) (ft := 0) (by exact hd) ok_X9_could_18 k0_ok (FI_X9_could_ok E) (fV0_ok E) (fL0_ok E) (rtI_ok rfl)
def I_X9_could_0 : List AI := [(.aload_n 0, 1, [], 0), (.iconst 0, 1, [], 0), (.putfield 33, 3, [8, 0, 0, 1345], 0), (.aload_n 0, 1, [], 0), (.getfield 265, 3, [8, 3, 2, 1348], 0), (.ifnonnull 9, 3, [18], 0), (.aload_n 0, 1, [], 0), (.iconst 1, 1, [], 1), (.invokevirtual 39, 3, [1, 201, 2, 8, 1481], 0), (.ireturn, 1, [], 0)]
theorem ok_X9_could_0 : vBL MT qLen qCh false q_X9_could.2.2.2.2.1 q_X9_could.2.2.2.2.2.1 q_X9_could.2.2.1 q_X9_could.1.cls q_X9_could.1.name q_X9_could.2.1 0 0 I_X9_could_0 = true := by decide +kernel
def p_X9_could (a0 : Nat) (h : AH) : Option (Int32 × AH) :=
  if (tg h a0).1 = 8 then (let h103 := wI h a0 0 ((0 : Int32))
  if (tg h103 a0).1 = 8 then (if (rR h103 a0 3) = 0 then (if (tg h103 a0).1 = 8 then ((p_X9_refused a0 ((1 : Int32)) h103).bind fun q106 =>
  some (q106.1, q106.2)) else none)
  else
  if (tg h103 a0).1 = 8 then ((p_X9_fitting a0 ((-1 : Int32)) h103).bind fun q104 =>
  if (tg q104.2 a0).1 = 8 then (if (tg q104.2 a0).1 = 8 then ((p_X9_good a0 (rI q104.2 a0 37) q104.2).bind fun q105 =>
  some (q105.1, q105.2)) else none) else none) else none) else none) else none
set_option maxRecDepth 100000 in
theorem e_X9_could_0 {l : Launch} {D : va_G} {dA : Nat → ClassId} {z : Nat} {sa : Nat → Nat} {Hz : Heap} (E : StrOK qLen qCh l D dA z sa Hz) {h0 fin : AH} {x : Int32}  : ∀ (a0 : Nat) (h : AH), p_X9_could a0 h = some (x, fin) → GM l D dA z sa Hz q_X9_could h0 (some (.int x)) fin 0 [(0, .ref a0)] [] h := by
  intro a0 h hd
  exact step E (is := I_X9_could_0) (pc := 0) (K := (kx 18 (fun la st h => gR la 0 fun a0 => sE st (p_X9_could_18 a0 h)) k0)) (FI := FI_X9_could) (FV := fV0) (FL := fL0) (rt := rtI) (ft := 0) (by exact hd) ok_X9_could_0 (kx_ok (fun la st h e => by obtain ⟨a0, m_a0, e1⟩ := gR_inv e; obtain ⟨rfl, ez⟩ := sE_inv e1; exact gm_fewer (e_X9_could_18 E  a0 h ez) (mem_cons m_a0 mem_nil)) k0_ok) (FI_X9_could_ok E) (fV0_ok E) (fL0_ok E) (rtI_ok rfl)
theorem c_X9_could {l : Launch} {D : va_G} {dA : Nat → ClassId} {z : Nat} {sa : Nat → Nat} {Hz : Heap} (E : StrOK qLen qCh l D dA z sa Hz) {a0 : Nat} {h fin : AH} {x : Int32} (hd : p_X9_could a0 h = some (x, fin)) : CalOK l D dA z sa Hz q_X9_could [.ref a0] h (some (.int x)) fin := calOf (by decide +kernel) (Nat.le_of_ble_eq_true rfl) (e_X9_could_0 E a0 h hd)
def FI_X9_surely : Nat → List Value → AH → Option (Int32 × AH) := (cx 201 (fun As h => sR As fun a0 As => sI As fun x1 As => sE As (p_X9_refused a0 x1 h)) (cx 309 (fun As h => sR As fun a0 As => sI As fun x1 As => sE As (p_X9_fitting a0 x1 h)) (cx 233 (fun As h => sR As fun a0 As => sI As fun x1 As => sE As (p_X9_good a0 x1 h)) fI0)))
theorem FI_X9_surely_ok {l : Launch} {D : va_G} {dA : Nat → ClassId} {z : Nat} {sa : Nat → Nat} {Hz : Heap} (E : StrOK qLen qCh l D dA z sa Hz) : ∀ mi As h x h', FI_X9_surely mi As h = some (x, h') → CalOK l D dA z sa Hz (MT mi) As h (some (.int x)) h' := (cxI_ok (fun As h x h2 e => by obtain ⟨_, _, rfl, e0⟩ := sR_inv e; obtain ⟨_, _, rfl, e1⟩ := sI_inv e0; obtain ⟨rfl, ez⟩ := sE_inv e1; exact c_X9_refused E ez) ((cxI_ok (fun As h x h2 e => by obtain ⟨_, _, rfl, e0⟩ := sR_inv e; obtain ⟨_, _, rfl, e1⟩ := sI_inv e0; obtain ⟨rfl, ez⟩ := sE_inv e1; exact c_X9_fitting E ez) ((cxI_ok (fun As h x h2 e => by obtain ⟨_, _, rfl, e0⟩ := sR_inv e; obtain ⟨_, _, rfl, e1⟩ := sI_inv e0; obtain ⟨rfl, ez⟩ := sE_inv e1; exact c_X9_good E ez) (fI0_ok E))))))
def I_X9_surely_18 : List AI := [(.aload_n 0, 1, [], 0), (.iconst (-1), 1, [], (-1)), (.invokevirtual 471, 3, [1, 309, 2, 8, 1990], 0), (.pop, 1, [], 0), (.aload_n 0, 1, [], 0), (.aload_n 0, 1, [], 0), (.getfield 465, 3, [8, 38, 0, 1383], 0), (.invokevirtual 43, 3, [1, 233, 2, 8, 1694], 0), (.ireturn, 1, [], 0)]
theorem ok_X9_surely_18 : vBL MT qLen qCh false q_X9_surely.2.2.2.2.1 q_X9_surely.2.2.2.2.2.1 q_X9_surely.2.2.1 q_X9_surely.1.cls q_X9_surely.1.name q_X9_surely.2.1 0 18 I_X9_surely_18 = true := by decide +kernel
def p_X9_surely_18 (a0 : Nat) (h : AH) : Option (Int32 × AH) :=
  if (tg h a0).1 = 8 then ((p_X9_fitting a0 ((-1 : Int32)) h).bind fun q101 =>
  if (tg q101.2 a0).1 = 8 then (if (tg q101.2 a0).1 = 8 then ((p_X9_good a0 (rI q101.2 a0 38) q101.2).bind fun q102 =>
  some (q102.1, q102.2)) else none) else none) else none
set_option maxRecDepth 100000 in
theorem e_X9_surely_18 {l : Launch} {D : va_G} {dA : Nat → ClassId} {z : Nat} {sa : Nat → Nat} {Hz : Heap} (E : StrOK qLen qCh l D dA z sa Hz) {h0 fin : AH} {x : Int32}  : ∀ (a0 : Nat) (h : AH), p_X9_surely_18 a0 h = some (x, fin) → GM l D dA z sa Hz q_X9_surely h0 (some (.int x)) fin 18 [(0, .ref a0)] [] h := by
  intro a0 h hd
  exact step E (is := I_X9_surely_18) (pc := 18) (K := k0) (FI := FI_X9_surely) (FV := fV0) (FL := fL0) (rt := rtI) (ft := 0) (by exact hd) ok_X9_surely_18 k0_ok (FI_X9_surely_ok E) (fV0_ok E) (fL0_ok E) (rtI_ok rfl)
def I_X9_surely_0 : List AI := [(.aload_n 0, 1, [], 0), (.iconst 0, 1, [], 0), (.putfield 33, 3, [8, 0, 0, 1345], 0), (.aload_n 0, 1, [], 0), (.getfield 265, 3, [8, 3, 2, 1348], 0), (.ifnonnull 9, 3, [18], 0), (.aload_n 0, 1, [], 0), (.iconst 1, 1, [], 1), (.invokevirtual 39, 3, [1, 201, 2, 8, 1481], 0), (.ireturn, 1, [], 0)]
theorem ok_X9_surely_0 : vBL MT qLen qCh false q_X9_surely.2.2.2.2.1 q_X9_surely.2.2.2.2.2.1 q_X9_surely.2.2.1 q_X9_surely.1.cls q_X9_surely.1.name q_X9_surely.2.1 0 0 I_X9_surely_0 = true := by decide +kernel
def p_X9_surely (a0 : Nat) (h : AH) : Option (Int32 × AH) :=
  if (tg h a0).1 = 8 then (let h103 := wI h a0 0 ((0 : Int32))
  if (tg h103 a0).1 = 8 then (if (rR h103 a0 3) = 0 then (if (tg h103 a0).1 = 8 then ((p_X9_refused a0 ((1 : Int32)) h103).bind fun q106 =>
  some (q106.1, q106.2)) else none)
  else
  if (tg h103 a0).1 = 8 then ((p_X9_fitting a0 ((-1 : Int32)) h103).bind fun q104 =>
  if (tg q104.2 a0).1 = 8 then (if (tg q104.2 a0).1 = 8 then ((p_X9_good a0 (rI q104.2 a0 38) q104.2).bind fun q105 =>
  some (q105.1, q105.2)) else none) else none) else none) else none) else none
set_option maxRecDepth 100000 in
theorem e_X9_surely_0 {l : Launch} {D : va_G} {dA : Nat → ClassId} {z : Nat} {sa : Nat → Nat} {Hz : Heap} (E : StrOK qLen qCh l D dA z sa Hz) {h0 fin : AH} {x : Int32}  : ∀ (a0 : Nat) (h : AH), p_X9_surely a0 h = some (x, fin) → GM l D dA z sa Hz q_X9_surely h0 (some (.int x)) fin 0 [(0, .ref a0)] [] h := by
  intro a0 h hd
  exact step E (is := I_X9_surely_0) (pc := 0) (K := (kx 18 (fun la st h => gR la 0 fun a0 => sE st (p_X9_surely_18 a0 h)) k0)) (FI := FI_X9_surely) (FV := fV0) (FL := fL0) (rt := rtI) (ft := 0) (by exact hd) ok_X9_surely_0 (kx_ok (fun la st h e => by obtain ⟨a0, m_a0, e1⟩ := gR_inv e; obtain ⟨rfl, ez⟩ := sE_inv e1; exact gm_fewer (e_X9_surely_18 E  a0 h ez) (mem_cons m_a0 mem_nil)) k0_ok) (FI_X9_surely_ok E) (fV0_ok E) (fL0_ok E) (rtI_ok rfl)
theorem c_X9_surely {l : Launch} {D : va_G} {dA : Nat → ClassId} {z : Nat} {sa : Nat → Nat} {Hz : Heap} (E : StrOK qLen qCh l D dA z sa Hz) {a0 : Nat} {h fin : AH} {x : Int32} (hd : p_X9_surely a0 h = some (x, fin)) : CalOK l D dA z sa Hz q_X9_surely [.ref a0] h (some (.int x)) fin := calOf (by decide +kernel) (Nat.le_of_ble_eq_true rfl) (e_X9_surely_0 E a0 h hd)
def FI_X9_asks : Nat → List Value → AH → Option (Int32 × AH) := (cx 309 (fun As h => sR As fun a0 As => sI As fun x1 As => sE As (p_X9_fitting a0 x1 h)) fI0)
theorem FI_X9_asks_ok {l : Launch} {D : va_G} {dA : Nat → ClassId} {z : Nat} {sa : Nat → Nat} {Hz : Heap} (E : StrOK qLen qCh l D dA z sa Hz) : ∀ mi As h x h', FI_X9_asks mi As h = some (x, h') → CalOK l D dA z sa Hz (MT mi) As h (some (.int x)) h' := (cxI_ok (fun As h x h2 e => by obtain ⟨_, _, rfl, e0⟩ := sR_inv e; obtain ⟨_, _, rfl, e1⟩ := sI_inv e0; obtain ⟨rfl, ez⟩ := sE_inv e1; exact c_X9_fitting E ez) (fI0_ok E))
def I_X9_asks_106 : List AI := [(.iload_n 1, 1, [], 0), (.ireturn, 1, [], 0)]
theorem ok_X9_asks_106 : vBL MT qLen qCh false q_X9_asks.2.2.2.2.1 q_X9_asks.2.2.2.2.2.1 q_X9_asks.2.2.1 q_X9_asks.1.cls q_X9_asks.1.name q_X9_asks.2.1 0 106 I_X9_asks_106 = true := by decide +kernel
def p_X9_asks_106 (x1 : Int32) (h : AH) : Option (Int32 × AH) :=
  some (x1, h)
set_option maxRecDepth 100000 in
theorem e_X9_asks_106 {l : Launch} {D : va_G} {dA : Nat → ClassId} {z : Nat} {sa : Nat → Nat} {Hz : Heap} (E : StrOK qLen qCh l D dA z sa Hz) {h0 fin : AH} {x : Int32}  : ∀ (x1 : Int32) (h : AH), p_X9_asks_106 x1 h = some (x, fin) → GM l D dA z sa Hz q_X9_asks h0 (some (.int x)) fin 106 [(1, .int x1)] [] h := by
  intro x1 h hd
  exact step E (is := I_X9_asks_106) (pc := 106) (K := k0) (FI := FI_X9_asks) (FV := fV0) (FL := fL0) (rt := rtI) (ft := 0) (by exact hd) ok_X9_asks_106 k0_ok (FI_X9_asks_ok E) (fV0_ok E) (fL0_ok E) (rtI_ok rfl)
def I_X9_asks_100 : List AI := [(.iinc 2 1, 3, [], 1), (.goto (-86), 3, [17], 0)]
theorem ok_X9_asks_100 : vBL MT qLen qCh false q_X9_asks.2.2.2.2.1 q_X9_asks.2.2.2.2.2.1 q_X9_asks.2.2.1 q_X9_asks.1.cls q_X9_asks.1.name q_X9_asks.2.1 0 100 I_X9_asks_100 = true := by decide +kernel
def p_X9_asks_100 (k17 : Nat → Int32 → Int32 → AH → Option (Int32 × AH)) (a0 : Nat) (x1 : Int32) (x2 : Int32) (h : AH) : Option (Int32 × AH) :=
  k17 a0 x1 (x2 + (1 : Int32)) h
set_option maxRecDepth 100000 in
theorem e_X9_asks_100 {l : Launch} {D : va_G} {dA : Nat → ClassId} {z : Nat} {sa : Nat → Nat} {Hz : Heap} (E : StrOK qLen qCh l D dA z sa Hz) {h0 fin : AH} {x : Int32}  {k17 : Nat → Int32 → Int32 → AH → Option (Int32 × AH)} (hk17 : ∀ (a0 : Nat) (x1 : Int32) (x2 : Int32) (h : AH), k17 a0 x1 x2 h = some (x, fin) → GM l D dA z sa Hz q_X9_asks h0 (some (.int x)) fin 17 [(0, .ref a0), (1, .int x1), (2, .int x2)] [] h) : ∀ (a0 : Nat) (x1 : Int32) (x2 : Int32) (h : AH), p_X9_asks_100 k17 a0 x1 x2 h = some (x, fin) → GM l D dA z sa Hz q_X9_asks h0 (some (.int x)) fin 100 [(0, .ref a0), (1, .int x1), (2, .int x2)] [] h := by
  intro a0 x1 x2 h hd
  exact step E (is := I_X9_asks_100) (pc := 100) (K := (kx 17 (fun la st h => gR la 0 fun a0 => gI la 1 fun x1 => gI la 2 fun x2 => sE st (k17 a0 x1 x2 h)) k0)) (FI := FI_X9_asks) (FV := fV0) (FL := fL0) (rt := rtI) (ft := 0) (by exact hd) ok_X9_asks_100 (kx_ok (fun la st h e => by obtain ⟨a0, m_a0, e1⟩ := gR_inv e; obtain ⟨x1, m_x1, e2⟩ := gI_inv e1; obtain ⟨x2, m_x2, e3⟩ := gI_inv e2; obtain ⟨rfl, ez⟩ := sE_inv e3; exact gm_fewer (hk17 a0 x1 x2 h ez) (mem_cons m_a0 (mem_cons m_x1 (mem_cons m_x2 mem_nil)))) k0_ok) (FI_X9_asks_ok E) (fV0_ok E) (fL0_ok E) (rtI_ok rfl)
def I_X9_asks_93 : List AI := [(.iload_n 2, 1, [], 0), (.istore_n 1, 1, [], 0), (.aload_n 0, 1, [], 0), (.iload_n 3, 1, [], 0), (.putfield 474, 3, [8, 40, 0, 1385], 0)]
theorem ok_X9_asks_93 : vBL MT qLen qCh false q_X9_asks.2.2.2.2.1 q_X9_asks.2.2.2.2.2.1 q_X9_asks.2.2.1 q_X9_asks.1.cls q_X9_asks.1.name q_X9_asks.2.1 100 93 I_X9_asks_93 = true := by decide +kernel
def p_X9_asks_93 (k17 : Nat → Int32 → Int32 → AH → Option (Int32 × AH)) (a0 : Nat) (x2 : Int32) (x3 : Int32) (h : AH) : Option (Int32 × AH) :=
  if (tg h a0).1 = 8 then (let h101 := wI h a0 40 x3
  p_X9_asks_100 k17 a0 x2 x2 h101) else none
set_option maxRecDepth 100000 in
theorem e_X9_asks_93 {l : Launch} {D : va_G} {dA : Nat → ClassId} {z : Nat} {sa : Nat → Nat} {Hz : Heap} (E : StrOK qLen qCh l D dA z sa Hz) {h0 fin : AH} {x : Int32}  {k17 : Nat → Int32 → Int32 → AH → Option (Int32 × AH)} (hk17 : ∀ (a0 : Nat) (x1 : Int32) (x2 : Int32) (h : AH), k17 a0 x1 x2 h = some (x, fin) → GM l D dA z sa Hz q_X9_asks h0 (some (.int x)) fin 17 [(0, .ref a0), (1, .int x1), (2, .int x2)] [] h) : ∀ (a0 : Nat) (x2 : Int32) (x3 : Int32) (h : AH), p_X9_asks_93 k17 a0 x2 x3 h = some (x, fin) → GM l D dA z sa Hz q_X9_asks h0 (some (.int x)) fin 93 [(0, .ref a0), (2, .int x2), (3, .int x3)] [] h := by
  intro a0 x2 x3 h hd
  exact step E (is := I_X9_asks_93) (pc := 93) (K := (kx 100 (fun la st h => gR la 0 fun a0 => gI la 1 fun x1 => gI la 2 fun x2 => sE st (p_X9_asks_100 k17 a0 x1 x2 h)) k0)) (FI := FI_X9_asks) (FV := fV0) (FL := fL0) (rt := rtI) (ft := 100) (by exact hd) ok_X9_asks_93 (kx_ok (fun la st h e => by obtain ⟨a0, m_a0, e1⟩ := gR_inv e; obtain ⟨x1, m_x1, e2⟩ := gI_inv e1; obtain ⟨x2, m_x2, e3⟩ := gI_inv e2; obtain ⟨rfl, ez⟩ := sE_inv e3; exact gm_fewer (e_X9_asks_100 E hk17 a0 x1 x2 h ez) (mem_cons m_a0 (mem_cons m_x1 (mem_cons m_x2 mem_nil)))) k0_ok) (FI_X9_asks_ok E) (fV0_ok E) (fL0_ok E) (rtI_ok rfl)
def I_X9_asks_75 : List AI := [(.istore_n 3, 1, [], 0), (.iload_n 1, 1, [], 0), (.bipush (-2), 2, [], (-2)), (.if_icmp .eq 14, 3, [93], 0), (.iload_n 3, 1, [], 0), (.aload_n 0, 1, [], 0), (.getfield 474, 3, [8, 40, 0, 1385], 0), (.if_icmp .lt 6, 3, [93], 0), (.goto 10, 3, [100], 0)]
theorem ok_X9_asks_75 : vBL MT qLen qCh false q_X9_asks.2.2.2.2.1 q_X9_asks.2.2.2.2.2.1 q_X9_asks.2.2.1 q_X9_asks.1.cls q_X9_asks.1.name q_X9_asks.2.1 0 75 I_X9_asks_75 = true := by decide +kernel
def p_X9_asks_75 (k17 : Nat → Int32 → Int32 → AH → Option (Int32 × AH)) (a0 : Nat) (x1 : Int32) (x2 : Int32) (y0 : Int32) (h : AH) : Option (Int32 × AH) :=
  if x1 = ((-2 : Int32)) then (p_X9_asks_93 k17 a0 x2 y0 h)
  else
  if (tg h a0).1 = 8 then (if y0 < (rI h a0 40) then (p_X9_asks_93 k17 a0 x2 y0 h)
  else
  p_X9_asks_100 k17 a0 x1 x2 h) else none
set_option maxRecDepth 100000 in
theorem e_X9_asks_75 {l : Launch} {D : va_G} {dA : Nat → ClassId} {z : Nat} {sa : Nat → Nat} {Hz : Heap} (E : StrOK qLen qCh l D dA z sa Hz) {h0 fin : AH} {x : Int32}  {k17 : Nat → Int32 → Int32 → AH → Option (Int32 × AH)} (hk17 : ∀ (a0 : Nat) (x1 : Int32) (x2 : Int32) (h : AH), k17 a0 x1 x2 h = some (x, fin) → GM l D dA z sa Hz q_X9_asks h0 (some (.int x)) fin 17 [(0, .ref a0), (1, .int x1), (2, .int x2)] [] h) : ∀ (a0 : Nat) (x1 : Int32) (x2 : Int32) (y0 : Int32) (h : AH), p_X9_asks_75 k17 a0 x1 x2 y0 h = some (x, fin) → GM l D dA z sa Hz q_X9_asks h0 (some (.int x)) fin 75 [(0, .ref a0), (1, .int x1), (2, .int x2)] [.int y0] h := by
  intro a0 x1 x2 y0 h hd
  exact step E (is := I_X9_asks_75) (pc := 75) (K := (kx 93 (fun la st h => gR la 0 fun a0 => gI la 2 fun x2 => gI la 3 fun x3 => sE st (p_X9_asks_93 k17 a0 x2 x3 h)) (kx 100 (fun la st h => gR la 0 fun a0 => gI la 1 fun x1 => gI la 2 fun x2 => sE st (p_X9_asks_100 k17 a0 x1 x2 h)) k0))) (FI := FI_X9_asks) (FV := fV0) (FL := fL0) (rt := rtI) (ft := 0) (by exact hd) ok_X9_asks_75 (kx_ok (fun la st h e => by obtain ⟨a0, m_a0, e1⟩ := gR_inv e; obtain ⟨x2, m_x2, e2⟩ := gI_inv e1; obtain ⟨x3, m_x3, e3⟩ := gI_inv e2; obtain ⟨rfl, ez⟩ := sE_inv e3; exact gm_fewer (e_X9_asks_93 E hk17 a0 x2 x3 h ez) (mem_cons m_a0 (mem_cons m_x2 (mem_cons m_x3 mem_nil)))) (kx_ok (fun la st h e => by obtain ⟨a0, m_a0, e1⟩ := gR_inv e; obtain ⟨x1, m_x1, e2⟩ := gI_inv e1; obtain ⟨x2, m_x2, e3⟩ := gI_inv e2; obtain ⟨rfl, ez⟩ := sE_inv e3; exact gm_fewer (e_X9_asks_100 E hk17 a0 x1 x2 h ez) (mem_cons m_a0 (mem_cons m_x1 (mem_cons m_x2 mem_nil)))) k0_ok)) (FI_X9_asks_ok E) (fV0_ok E) (fL0_ok E) (rtI_ok rfl)
def I_X9_asks_64 : List AI := [(.aload_n 0, 1, [], 0), (.getfield 459, 3, [8, 36, 0, 1381], 0), (.aload_n 0, 1, [], 0), (.getfield 30, 3, [8, 39, 2, 1384], 0), (.iload_n 2, 1, [], 0), (.iaload, 1, [], 0), (.isub, 1, [], 0)]
theorem ok_X9_asks_64 : vBL MT qLen qCh false q_X9_asks.2.2.2.2.1 q_X9_asks.2.2.2.2.2.1 q_X9_asks.2.2.1 q_X9_asks.1.cls q_X9_asks.1.name q_X9_asks.2.1 75 64 I_X9_asks_64 = true := by decide +kernel
def p_X9_asks_64 (k17 : Nat → Int32 → Int32 → AH → Option (Int32 × AH)) (a0 : Nat) (x1 : Int32) (x2 : Int32) (h : AH) : Option (Int32 × AH) :=
  if (tg h a0).1 = 8 then (if (tg h a0).1 = 8 then (if inB h (rR h a0 39) 100 x2 then (p_X9_asks_75 k17 a0 x1 x2 ((rI h a0 36) - (rI h (rR h a0 39) x2.toNatClampNeg)) h) else none) else none) else none
set_option maxRecDepth 100000 in
theorem e_X9_asks_64 {l : Launch} {D : va_G} {dA : Nat → ClassId} {z : Nat} {sa : Nat → Nat} {Hz : Heap} (E : StrOK qLen qCh l D dA z sa Hz) {h0 fin : AH} {x : Int32}  {k17 : Nat → Int32 → Int32 → AH → Option (Int32 × AH)} (hk17 : ∀ (a0 : Nat) (x1 : Int32) (x2 : Int32) (h : AH), k17 a0 x1 x2 h = some (x, fin) → GM l D dA z sa Hz q_X9_asks h0 (some (.int x)) fin 17 [(0, .ref a0), (1, .int x1), (2, .int x2)] [] h) : ∀ (a0 : Nat) (x1 : Int32) (x2 : Int32) (h : AH), p_X9_asks_64 k17 a0 x1 x2 h = some (x, fin) → GM l D dA z sa Hz q_X9_asks h0 (some (.int x)) fin 64 [(0, .ref a0), (1, .int x1), (2, .int x2)] [] h := by
  intro a0 x1 x2 h hd
  exact step E (is := I_X9_asks_64) (pc := 64) (K := (kx 75 (fun la st h => gR la 0 fun a0 => gI la 1 fun x1 => gI la 2 fun x2 => sI st fun y0 st => sE st (p_X9_asks_75 k17 a0 x1 x2 y0 h)) k0)) (FI := FI_X9_asks) (FV := fV0) (FL := fL0) (rt := rtI) (ft := 75) (by exact hd) ok_X9_asks_64 (kx_ok (fun la st h e => by obtain ⟨a0, m_a0, e1⟩ := gR_inv e; obtain ⟨x1, m_x1, e2⟩ := gI_inv e1; obtain ⟨x2, m_x2, e3⟩ := gI_inv e2; obtain ⟨y0, _, rfl, e4⟩ := sI_inv e3; obtain ⟨rfl, ez⟩ := sE_inv e4; exact gm_fewer (e_X9_asks_75 E hk17 a0 x1 x2 y0 h ez) (mem_cons m_a0 (mem_cons m_x1 (mem_cons m_x2 mem_nil)))) k0_ok) (FI_X9_asks_ok E) (fV0_ok E) (fL0_ok E) (rtI_ok rfl)
def I_X9_asks_17 : List AI := [(.iload_n 2, 1, [], 0), (.aload_n 0, 1, [], 0), (.getfield 265, 3, [8, 3, 2, 1348], 0), (.getfield 224, 3, [7, 6, 0, 1498], 0), (.if_icmp .ge 81, 3, [106], 0), (.aload_n 0, 1, [], 0), (.getfield 459, 3, [8, 36, 0, 1381], 0), (.ifCond .le 74, 3, [106], 0), (.aload_n 0, 1, [], 0), (.getfield 30, 3, [8, 39, 2, 1384], 0), (.iload_n 2, 1, [], 0), (.iaload, 1, [], 0), (.aload_n 0, 1, [], 0), (.getfield 459, 3, [8, 36, 0, 1381], 0), (.aload_n 0, 1, [], 0), (.getfield 30, 3, [8, 39, 2, 1384], 0), (.iload_n 2, 1, [], 0), (.iaload, 1, [], 0), (.isub, 1, [], 0), (.if_icmp .le 12, 3, [64], 0), (.aload_n 0, 1, [], 0), (.getfield 30, 3, [8, 39, 2, 1384], 0), (.iload_n 2, 1, [], 0), (.iaload, 1, [], 0), (.goto 14, 3, [75], 0)]
theorem ok_X9_asks_17 : vBL MT qLen qCh false q_X9_asks.2.2.2.2.1 q_X9_asks.2.2.2.2.2.1 q_X9_asks.2.2.1 q_X9_asks.1.cls q_X9_asks.1.name q_X9_asks.2.1 0 17 I_X9_asks_17 = true := by decide +kernel
def p_X9_asks_17 : Nat → Nat → Int32 → Int32 → AH → Option (Int32 × AH)
  | 0, _, _, _, _ => none
  | n + 1, a0, x1, x2, h => if (tg h a0).1 = 8 then (if (tg h (rR h a0 3)).1 = 7 then (if x2 < (rI h (rR h a0 3) 6) then (if (tg h a0).1 = 8 then (if 0 < (rI h a0 36) then (if (tg h a0).1 = 8 then (if inB h (rR h a0 39) 100 x2 then (if (tg h a0).1 = 8 then (if (tg h a0).1 = 8 then (if inB h (rR h a0 39) 100 x2 then (if ((rI h a0 36) - (rI h (rR h a0 39) x2.toNatClampNeg)) < (rI h (rR h a0 39) x2.toNatClampNeg) then (if (tg h a0).1 = 8 then (if inB h (rR h a0 39) 100 x2 then (p_X9_asks_75 (p_X9_asks_17 n) a0 x1 x2 (rI h (rR h a0 39) x2.toNatClampNeg) h) else none) else none)
    else
    if (tg h a0).1 = 8 then (if (tg h a0).1 = 8 then (if inB h (rR h a0 39) 100 x2 then (p_X9_asks_75 (p_X9_asks_17 n) a0 x1 x2 ((rI h a0 36) - (rI h (rR h a0 39) x2.toNatClampNeg)) h) else none) else none) else none) else none) else none) else none) else none) else none)
    else
    p_X9_asks_106 x1 h) else none)
    else
    p_X9_asks_106 x1 h) else none) else none
set_option maxRecDepth 100000 in
theorem e_X9_asks_17 {l : Launch} {D : va_G} {dA : Nat → ClassId} {z : Nat} {sa : Nat → Nat} {Hz : Heap} (E : StrOK qLen qCh l D dA z sa Hz) {h0 fin : AH} {x : Int32}  : ∀ (n : Nat) (a0 : Nat) (x1 : Int32) (x2 : Int32) (h : AH), p_X9_asks_17 n a0 x1 x2 h = some (x, fin) → GM l D dA z sa Hz q_X9_asks h0 (some (.int x)) fin 17 [(0, .ref a0), (1, .int x1), (2, .int x2)] [] h := by
  intro n
  induction n with
  | zero => intro a0 x1 x2 h hd; exact nomatch hd
  | succ n ih =>
    intro a0 x1 x2 h hd
    exact step E (is := I_X9_asks_17) (pc := 17) (K := (kx 106 (fun la st h => gI la 1 fun x1 => sE st (p_X9_asks_106 x1 h)) (kx 64 (fun la st h => gR la 0 fun a0 => gI la 1 fun x1 => gI la 2 fun x2 => sE st (p_X9_asks_64 (p_X9_asks_17 n) a0 x1 x2 h)) (kx 75 (fun la st h => gR la 0 fun a0 => gI la 1 fun x1 => gI la 2 fun x2 => sI st fun y0 st => sE st (p_X9_asks_75 (p_X9_asks_17 n) a0 x1 x2 y0 h)) k0)))) (FI := FI_X9_asks) (FV := fV0) (FL := fL0) (rt := rtI) (ft := 0) (by exact hd) ok_X9_asks_17 (kx_ok (fun la st h e => by obtain ⟨x1, m_x1, e1⟩ := gI_inv e; obtain ⟨rfl, ez⟩ := sE_inv e1; exact gm_fewer (e_X9_asks_106 E  x1 h ez) (mem_cons m_x1 mem_nil)) (kx_ok (fun la st h e => by obtain ⟨a0, m_a0, e1⟩ := gR_inv e; obtain ⟨x1, m_x1, e2⟩ := gI_inv e1; obtain ⟨x2, m_x2, e3⟩ := gI_inv e2; obtain ⟨rfl, ez⟩ := sE_inv e3; exact gm_fewer (e_X9_asks_64 E ih a0 x1 x2 h ez) (mem_cons m_a0 (mem_cons m_x1 (mem_cons m_x2 mem_nil)))) (kx_ok (fun la st h e => by obtain ⟨a0, m_a0, e1⟩ := gR_inv e; obtain ⟨x1, m_x1, e2⟩ := gI_inv e1; obtain ⟨x2, m_x2, e3⟩ := gI_inv e2; obtain ⟨y0, _, rfl, e4⟩ := sI_inv e3; obtain ⟨rfl, ez⟩ := sE_inv e4; exact gm_fewer (e_X9_asks_75 E ih a0 x1 x2 y0 h ez) (mem_cons m_a0 (mem_cons m_x1 (mem_cons m_x2 mem_nil)))) k0_ok))) (FI_X9_asks_ok E) (fV0_ok E) (fL0_ok E) (rtI_ok rfl)
def I_X9_asks_0 : List AI := [(.aload_n 0, 1, [], 0), (.iconst (-1), 1, [], (-1)), (.invokevirtual 471, 3, [1, 309, 2, 8, 1990], 0), (.pop, 1, [], 0), (.bipush (-2), 2, [], (-2)), (.istore_n 1, 1, [], 0), (.aload_n 0, 1, [], 0), (.bipush (-2), 2, [], (-2)), (.putfield 474, 3, [8, 40, 0, 1385], 0), (.iconst 0, 1, [], 0), (.istore_n 2, 1, [], 0)]
theorem ok_X9_asks_0 : vBL MT qLen qCh false q_X9_asks.2.2.2.2.1 q_X9_asks.2.2.2.2.2.1 q_X9_asks.2.2.1 q_X9_asks.1.cls q_X9_asks.1.name q_X9_asks.2.1 17 0 I_X9_asks_0 = true := by decide +kernel
def p_X9_asks (a0 : Nat) (h : AH) : Option (Int32 × AH) :=
  if (tg h a0).1 = 8 then ((p_X9_fitting a0 ((-1 : Int32)) h).bind fun q102 =>
  if (tg q102.2 a0).1 = 8 then (let h103 := wI q102.2 a0 40 ((-2 : Int32))
  p_X9_asks_17 FU a0 ((-2 : Int32)) ((0 : Int32)) h103) else none) else none
set_option maxRecDepth 100000 in
theorem e_X9_asks_0 {l : Launch} {D : va_G} {dA : Nat → ClassId} {z : Nat} {sa : Nat → Nat} {Hz : Heap} (E : StrOK qLen qCh l D dA z sa Hz) {h0 fin : AH} {x : Int32}  : ∀ (a0 : Nat) (h : AH), p_X9_asks a0 h = some (x, fin) → GM l D dA z sa Hz q_X9_asks h0 (some (.int x)) fin 0 [(0, .ref a0)] [] h := by
  intro a0 h hd
  exact step E (is := I_X9_asks_0) (pc := 0) (K := (kx 17 (fun la st h => gR la 0 fun a0 => gI la 1 fun x1 => gI la 2 fun x2 => sE st (p_X9_asks_17 FU a0 x1 x2 h)) k0)) (FI := FI_X9_asks) (FV := fV0) (FL := fL0) (rt := rtI) (ft := 17) (by exact hd) ok_X9_asks_0 (kx_ok (fun la st h e => by obtain ⟨a0, m_a0, e1⟩ := gR_inv e; obtain ⟨x1, m_x1, e2⟩ := gI_inv e1; obtain ⟨x2, m_x2, e3⟩ := gI_inv e2; obtain ⟨rfl, ez⟩ := sE_inv e3; exact gm_fewer (e_X9_asks_17 E  FU a0 x1 x2 h ez) (mem_cons m_a0 (mem_cons m_x1 (mem_cons m_x2 mem_nil)))) k0_ok) (FI_X9_asks_ok E) (fV0_ok E) (fL0_ok E) (rtI_ok rfl)
theorem c_X9_asks {l : Launch} {D : va_G} {dA : Nat → ClassId} {z : Nat} {sa : Nat → Nat} {Hz : Heap} (E : StrOK qLen qCh l D dA z sa Hz) {a0 : Nat} {h fin : AH} {x : Int32} (hd : p_X9_asks a0 h = some (x, fin)) : CalOK l D dA z sa Hz q_X9_asks [.ref a0] h (some (.int x)) fin := calOf (by decide +kernel) (Nat.le_of_ble_eq_true rfl) (e_X9_asks_0 E a0 h hd)
def FI_X9_ask : Nat → List Value → AH → Option (Int32 × AH) := (cx 201 (fun As h => sR As fun a0 As => sI As fun x1 As => sE As (p_X9_refused a0 x1 h)) (cx 314 (fun As h => sR As fun a0 As => sE As (p_X9_asks a0 h)) (cx 233 (fun As h => sR As fun a0 As => sI As fun x1 As => sE As (p_X9_good a0 x1 h)) fI0)))
theorem FI_X9_ask_ok {l : Launch} {D : va_G} {dA : Nat → ClassId} {z : Nat} {sa : Nat → Nat} {Hz : Heap} (E : StrOK qLen qCh l D dA z sa Hz) : ∀ mi As h x h', FI_X9_ask mi As h = some (x, h') → CalOK l D dA z sa Hz (MT mi) As h (some (.int x)) h' := (cxI_ok (fun As h x h2 e => by obtain ⟨_, _, rfl, e0⟩ := sR_inv e; obtain ⟨_, _, rfl, e1⟩ := sI_inv e0; obtain ⟨rfl, ez⟩ := sE_inv e1; exact c_X9_refused E ez) ((cxI_ok (fun As h x h2 e => by obtain ⟨_, _, rfl, e0⟩ := sR_inv e; obtain ⟨rfl, ez⟩ := sE_inv e0; exact c_X9_asks E ez) ((cxI_ok (fun As h x h2 e => by obtain ⟨_, _, rfl, e0⟩ := sR_inv e; obtain ⟨_, _, rfl, e1⟩ := sI_inv e0; obtain ⟨rfl, ez⟩ := sE_inv e1; exact c_X9_good E ez) (fI0_ok E))))))
def I_X9_ask_28 : List AI := [(.ireturn, 1, [], 0)]
theorem ok_X9_ask_28 : vBL MT qLen qCh false q_X9_ask.2.2.2.2.1 q_X9_ask.2.2.2.2.2.1 q_X9_ask.2.2.1 q_X9_ask.1.cls q_X9_ask.1.name q_X9_ask.2.1 0 28 I_X9_ask_28 = true := by decide +kernel
def p_X9_ask_28 (y0 : Int32) (h : AH) : Option (Int32 × AH) :=
  some (y0, h)
set_option maxRecDepth 100000 in
theorem e_X9_ask_28 {l : Launch} {D : va_G} {dA : Nat → ClassId} {z : Nat} {sa : Nat → Nat} {Hz : Heap} (E : StrOK qLen qCh l D dA z sa Hz) {h0 fin : AH} {x : Int32}  : ∀ (y0 : Int32) (h : AH), p_X9_ask_28 y0 h = some (x, fin) → GM l D dA z sa Hz q_X9_ask h0 (some (.int x)) fin 28 [] [.int y0] h := by
  intro y0 h hd
  exact step E (is := I_X9_ask_28) (pc := 28) (K := k0) (FI := FI_X9_ask) (FV := fV0) (FL := fL0) (rt := rtI) (ft := 0) (by exact hd) ok_X9_ask_28 k0_ok (FI_X9_ask_ok E) (fV0_ok E) (fL0_ok E) (rtI_ok rfl)
def I_X9_ask_20 : List AI := [(.aload_n 0, 1, [], 0), (.aload_n 0, 1, [], 0), (.invokevirtual 477, 3, [1, 314, 1, 8, 2014], 0), (.invokevirtual 43, 3, [1, 233, 2, 8, 1694], 0)]
theorem ok_X9_ask_20 : vBL MT qLen qCh false q_X9_ask.2.2.2.2.1 q_X9_ask.2.2.2.2.2.1 q_X9_ask.2.2.1 q_X9_ask.1.cls q_X9_ask.1.name q_X9_ask.2.1 28 20 I_X9_ask_20 = true := by decide +kernel
def p_X9_ask_20 (a0 : Nat) (h : AH) : Option (Int32 × AH) :=
  if (tg h a0).1 = 8 then ((p_X9_asks a0 h).bind fun q101 =>
  if (tg q101.2 a0).1 = 8 then ((p_X9_good a0 q101.1 q101.2).bind fun q102 =>
  p_X9_ask_28 q102.1 q102.2) else none) else none
set_option maxRecDepth 100000 in
theorem e_X9_ask_20 {l : Launch} {D : va_G} {dA : Nat → ClassId} {z : Nat} {sa : Nat → Nat} {Hz : Heap} (E : StrOK qLen qCh l D dA z sa Hz) {h0 fin : AH} {x : Int32}  : ∀ (a0 : Nat) (h : AH), p_X9_ask_20 a0 h = some (x, fin) → GM l D dA z sa Hz q_X9_ask h0 (some (.int x)) fin 20 [(0, .ref a0)] [] h := by
  intro a0 h hd
  exact step E (is := I_X9_ask_20) (pc := 20) (K := (kx 28 (fun la st h => sI st fun y0 st => sE st (p_X9_ask_28 y0 h)) k0)) (FI := FI_X9_ask) (FV := fV0) (FL := fL0) (rt := rtI) (ft := 28) (by exact hd) ok_X9_ask_20 (kx_ok (fun la st h e => by obtain ⟨y0, _, rfl, e1⟩ := sI_inv e; obtain ⟨rfl, ez⟩ := sE_inv e1; exact gm_fewer (e_X9_ask_28 E  y0 h ez) mem_nil) k0_ok) (FI_X9_ask_ok E) (fV0_ok E) (fL0_ok E) (rtI_ok rfl)
def I_X9_ask_0 : List AI := [(.aload_n 0, 1, [], 0), (.iconst 0, 1, [], 0), (.putfield 33, 3, [8, 0, 0, 1345], 0), (.aload_n 0, 1, [], 0), (.getfield 265, 3, [8, 3, 2, 1348], 0), (.ifnonnull 11, 3, [20], 0), (.aload_n 0, 1, [], 0), (.iconst 1, 1, [], 1), (.invokevirtual 39, 3, [1, 201, 2, 8, 1481], 0), (.goto 11, 3, [28], 0)]
theorem ok_X9_ask_0 : vBL MT qLen qCh false q_X9_ask.2.2.2.2.1 q_X9_ask.2.2.2.2.2.1 q_X9_ask.2.2.1 q_X9_ask.1.cls q_X9_ask.1.name q_X9_ask.2.1 0 0 I_X9_ask_0 = true := by decide +kernel
def p_X9_ask (a0 : Nat) (h : AH) : Option (Int32 × AH) :=
  if (tg h a0).1 = 8 then (let h103 := wI h a0 0 ((0 : Int32))
  if (tg h103 a0).1 = 8 then (if (rR h103 a0 3) = 0 then (if (tg h103 a0).1 = 8 then ((p_X9_refused a0 ((1 : Int32)) h103).bind fun q106 =>
  p_X9_ask_28 q106.1 q106.2) else none)
  else
  if (tg h103 a0).1 = 8 then ((p_X9_asks a0 h103).bind fun q104 =>
  if (tg q104.2 a0).1 = 8 then ((p_X9_good a0 q104.1 q104.2).bind fun q105 =>
  p_X9_ask_28 q105.1 q105.2) else none) else none) else none) else none
set_option maxRecDepth 100000 in
theorem e_X9_ask_0 {l : Launch} {D : va_G} {dA : Nat → ClassId} {z : Nat} {sa : Nat → Nat} {Hz : Heap} (E : StrOK qLen qCh l D dA z sa Hz) {h0 fin : AH} {x : Int32}  : ∀ (a0 : Nat) (h : AH), p_X9_ask a0 h = some (x, fin) → GM l D dA z sa Hz q_X9_ask h0 (some (.int x)) fin 0 [(0, .ref a0)] [] h := by
  intro a0 h hd
  exact step E (is := I_X9_ask_0) (pc := 0) (K := (kx 20 (fun la st h => gR la 0 fun a0 => sE st (p_X9_ask_20 a0 h)) (kx 28 (fun la st h => sI st fun y0 st => sE st (p_X9_ask_28 y0 h)) k0))) (FI := FI_X9_ask) (FV := fV0) (FL := fL0) (rt := rtI) (ft := 0) (by exact hd) ok_X9_ask_0 (kx_ok (fun la st h e => by obtain ⟨a0, m_a0, e1⟩ := gR_inv e; obtain ⟨rfl, ez⟩ := sE_inv e1; exact gm_fewer (e_X9_ask_20 E  a0 h ez) (mem_cons m_a0 mem_nil)) (kx_ok (fun la st h e => by obtain ⟨y0, _, rfl, e1⟩ := sI_inv e; obtain ⟨rfl, ez⟩ := sE_inv e1; exact gm_fewer (e_X9_ask_28 E  y0 h ez) mem_nil) k0_ok)) (FI_X9_ask_ok E) (fV0_ok E) (fL0_ok E) (rtI_ok rfl)
theorem c_X9_ask {l : Launch} {D : va_G} {dA : Nat → ClassId} {z : Nat} {sa : Nat → Nat} {Hz : Heap} (E : StrOK qLen qCh l D dA z sa Hz) {a0 : Nat} {h fin : AH} {x : Int32} (hd : p_X9_ask a0 h = some (x, fin)) : CalOK l D dA z sa Hz q_X9_ask [.ref a0] h (some (.int x)) fin := calOf (by decide +kernel) (Nat.le_of_ble_eq_true rfl) (e_X9_ask_0 E a0 h hd)
def FI_X9_askLeaves : Nat → List Value → AH → Option (Int32 × AH) := (cx 201 (fun As h => sR As fun a0 As => sI As fun x1 As => sE As (p_X9_refused a0 x1 h)) (cx 314 (fun As h => sR As fun a0 As => sE As (p_X9_asks a0 h)) (cx 233 (fun As h => sR As fun a0 As => sI As fun x1 As => sE As (p_X9_good a0 x1 h)) fI0)))
theorem FI_X9_askLeaves_ok {l : Launch} {D : va_G} {dA : Nat → ClassId} {z : Nat} {sa : Nat → Nat} {Hz : Heap} (E : StrOK qLen qCh l D dA z sa Hz) : ∀ mi As h x h', FI_X9_askLeaves mi As h = some (x, h') → CalOK l D dA z sa Hz (MT mi) As h (some (.int x)) h' := (cxI_ok (fun As h x h2 e => by obtain ⟨_, _, rfl, e0⟩ := sR_inv e; obtain ⟨_, _, rfl, e1⟩ := sI_inv e0; obtain ⟨rfl, ez⟩ := sE_inv e1; exact c_X9_refused E ez) ((cxI_ok (fun As h x h2 e => by obtain ⟨_, _, rfl, e0⟩ := sR_inv e; obtain ⟨rfl, ez⟩ := sE_inv e0; exact c_X9_asks E ez) ((cxI_ok (fun As h x h2 e => by obtain ⟨_, _, rfl, e0⟩ := sR_inv e; obtain ⟨_, _, rfl, e1⟩ := sI_inv e0; obtain ⟨rfl, ez⟩ := sE_inv e1; exact c_X9_good E ez) (fI0_ok E))))))
def I_X9_askLeaves_18 : List AI := [(.aload_n 0, 1, [], 0), (.invokevirtual 477, 3, [1, 314, 1, 8, 2014], 0), (.pop, 1, [], 0), (.aload_n 0, 1, [], 0), (.aload_n 0, 1, [], 0), (.getfield 474, 3, [8, 40, 0, 1385], 0), (.invokevirtual 43, 3, [1, 233, 2, 8, 1694], 0), (.ireturn, 1, [], 0)]
theorem ok_X9_askLeaves_18 : vBL MT qLen qCh false q_X9_askLeaves.2.2.2.2.1 q_X9_askLeaves.2.2.2.2.2.1 q_X9_askLeaves.2.2.1 q_X9_askLeaves.1.cls q_X9_askLeaves.1.name q_X9_askLeaves.2.1 0 18 I_X9_askLeaves_18 = true := by decide +kernel
def p_X9_askLeaves_18 (a0 : Nat) (h : AH) : Option (Int32 × AH) :=
  if (tg h a0).1 = 8 then ((p_X9_asks a0 h).bind fun q101 =>
  if (tg q101.2 a0).1 = 8 then (if (tg q101.2 a0).1 = 8 then ((p_X9_good a0 (rI q101.2 a0 40) q101.2).bind fun q102 =>
  some (q102.1, q102.2)) else none) else none) else none
set_option maxRecDepth 100000 in
theorem e_X9_askLeaves_18 {l : Launch} {D : va_G} {dA : Nat → ClassId} {z : Nat} {sa : Nat → Nat} {Hz : Heap} (E : StrOK qLen qCh l D dA z sa Hz) {h0 fin : AH} {x : Int32}  : ∀ (a0 : Nat) (h : AH), p_X9_askLeaves_18 a0 h = some (x, fin) → GM l D dA z sa Hz q_X9_askLeaves h0 (some (.int x)) fin 18 [(0, .ref a0)] [] h := by
  intro a0 h hd
  exact step E (is := I_X9_askLeaves_18) (pc := 18) (K := k0) (FI := FI_X9_askLeaves) (FV := fV0) (FL := fL0) (rt := rtI) (ft := 0) (by exact hd) ok_X9_askLeaves_18 k0_ok (FI_X9_askLeaves_ok E) (fV0_ok E) (fL0_ok E) (rtI_ok rfl)
def I_X9_askLeaves_0 : List AI := [(.aload_n 0, 1, [], 0), (.iconst 0, 1, [], 0), (.putfield 33, 3, [8, 0, 0, 1345], 0), (.aload_n 0, 1, [], 0), (.getfield 265, 3, [8, 3, 2, 1348], 0), (.ifnonnull 9, 3, [18], 0), (.aload_n 0, 1, [], 0), (.iconst 1, 1, [], 1), (.invokevirtual 39, 3, [1, 201, 2, 8, 1481], 0), (.ireturn, 1, [], 0)]
theorem ok_X9_askLeaves_0 : vBL MT qLen qCh false q_X9_askLeaves.2.2.2.2.1 q_X9_askLeaves.2.2.2.2.2.1 q_X9_askLeaves.2.2.1 q_X9_askLeaves.1.cls q_X9_askLeaves.1.name q_X9_askLeaves.2.1 0 0 I_X9_askLeaves_0 = true := by decide +kernel
def p_X9_askLeaves (a0 : Nat) (h : AH) : Option (Int32 × AH) :=
  if (tg h a0).1 = 8 then (let h103 := wI h a0 0 ((0 : Int32))
  if (tg h103 a0).1 = 8 then (if (rR h103 a0 3) = 0 then (if (tg h103 a0).1 = 8 then ((p_X9_refused a0 ((1 : Int32)) h103).bind fun q106 =>
  some (q106.1, q106.2)) else none)
  else
  if (tg h103 a0).1 = 8 then ((p_X9_asks a0 h103).bind fun q104 =>
  if (tg q104.2 a0).1 = 8 then (if (tg q104.2 a0).1 = 8 then ((p_X9_good a0 (rI q104.2 a0 40) q104.2).bind fun q105 =>
  some (q105.1, q105.2)) else none) else none) else none) else none) else none
set_option maxRecDepth 100000 in
theorem e_X9_askLeaves_0 {l : Launch} {D : va_G} {dA : Nat → ClassId} {z : Nat} {sa : Nat → Nat} {Hz : Heap} (E : StrOK qLen qCh l D dA z sa Hz) {h0 fin : AH} {x : Int32}  : ∀ (a0 : Nat) (h : AH), p_X9_askLeaves a0 h = some (x, fin) → GM l D dA z sa Hz q_X9_askLeaves h0 (some (.int x)) fin 0 [(0, .ref a0)] [] h := by
  intro a0 h hd
  exact step E (is := I_X9_askLeaves_0) (pc := 0) (K := (kx 18 (fun la st h => gR la 0 fun a0 => sE st (p_X9_askLeaves_18 a0 h)) k0)) (FI := FI_X9_askLeaves) (FV := fV0) (FL := fL0) (rt := rtI) (ft := 0) (by exact hd) ok_X9_askLeaves_0 (kx_ok (fun la st h e => by obtain ⟨a0, m_a0, e1⟩ := gR_inv e; obtain ⟨rfl, ez⟩ := sE_inv e1; exact gm_fewer (e_X9_askLeaves_18 E  a0 h ez) (mem_cons m_a0 mem_nil)) k0_ok) (FI_X9_askLeaves_ok E) (fV0_ok E) (fL0_ok E) (rtI_ok rfl)
theorem c_X9_askLeaves {l : Launch} {D : va_G} {dA : Nat → ClassId} {z : Nat} {sa : Nat → Nat} {Hz : Heap} (E : StrOK qLen qCh l D dA z sa Hz) {a0 : Nat} {h fin : AH} {x : Int32} (hd : p_X9_askLeaves a0 h = some (x, fin)) : CalOK l D dA z sa Hz q_X9_askLeaves [.ref a0] h (some (.int x)) fin := calOf (by decide +kernel) (Nat.le_of_ble_eq_true rfl) (e_X9_askLeaves_0 E a0 h hd)
def FI_X9_judge : Nat → List Value → AH → Option (Int32 × AH) := (cx 201 (fun As h => sR As fun a0 As => sI As fun x1 As => sE As (p_X9_refused a0 x1 h)) (cx 308 (fun As h => sR As fun a0 As => sI As fun x1 As => sE As (p_X9_wrongSaw a0 x1 h)) (cx 233 (fun As h => sR As fun a0 As => sI As fun x1 As => sE As (p_X9_good a0 x1 h)) fI0)))
theorem FI_X9_judge_ok {l : Launch} {D : va_G} {dA : Nat → ClassId} {z : Nat} {sa : Nat → Nat} {Hz : Heap} (E : StrOK qLen qCh l D dA z sa Hz) : ∀ mi As h x h', FI_X9_judge mi As h = some (x, h') → CalOK l D dA z sa Hz (MT mi) As h (some (.int x)) h' := (cxI_ok (fun As h x h2 e => by obtain ⟨_, _, rfl, e0⟩ := sR_inv e; obtain ⟨_, _, rfl, e1⟩ := sI_inv e0; obtain ⟨rfl, ez⟩ := sE_inv e1; exact c_X9_refused E ez) ((cxI_ok (fun As h x h2 e => by obtain ⟨_, _, rfl, e0⟩ := sR_inv e; obtain ⟨_, _, rfl, e1⟩ := sI_inv e0; obtain ⟨rfl, ez⟩ := sE_inv e1; exact c_X9_wrongSaw E ez) ((cxI_ok (fun As h x h2 e => by obtain ⟨_, _, rfl, e0⟩ := sR_inv e; obtain ⟨_, _, rfl, e1⟩ := sI_inv e0; obtain ⟨rfl, ez⟩ := sE_inv e1; exact c_X9_good E ez) (fI0_ok E))))))
def I_X9_judge_29 : List AI := [(.ireturn, 1, [], 0)]
theorem ok_X9_judge_29 : vBL MT qLen qCh false q_X9_judge.2.2.2.2.1 q_X9_judge.2.2.2.2.2.1 q_X9_judge.2.2.1 q_X9_judge.1.cls q_X9_judge.1.name q_X9_judge.2.1 0 29 I_X9_judge_29 = true := by decide +kernel
def p_X9_judge_29 (y0 : Int32) (h : AH) : Option (Int32 × AH) :=
  some (y0, h)
set_option maxRecDepth 100000 in
theorem e_X9_judge_29 {l : Launch} {D : va_G} {dA : Nat → ClassId} {z : Nat} {sa : Nat → Nat} {Hz : Heap} (E : StrOK qLen qCh l D dA z sa Hz) {h0 fin : AH} {x : Int32}  : ∀ (y0 : Int32) (h : AH), p_X9_judge_29 y0 h = some (x, fin) → GM l D dA z sa Hz q_X9_judge h0 (some (.int x)) fin 29 [] [.int y0] h := by
  intro y0 h hd
  exact step E (is := I_X9_judge_29) (pc := 29) (K := k0) (FI := FI_X9_judge) (FV := fV0) (FL := fL0) (rt := rtI) (ft := 0) (by exact hd) ok_X9_judge_29 k0_ok (FI_X9_judge_ok E) (fV0_ok E) (fL0_ok E) (rtI_ok rfl)
def I_X9_judge_20 : List AI := [(.aload_n 0, 1, [], 0), (.aload_n 0, 1, [], 0), (.iconst 0, 1, [], 0), (.invokevirtual 468, 3, [1, 308, 2, 8, 1994], 0), (.invokevirtual 43, 3, [1, 233, 2, 8, 1694], 0)]
theorem ok_X9_judge_20 : vBL MT qLen qCh false q_X9_judge.2.2.2.2.1 q_X9_judge.2.2.2.2.2.1 q_X9_judge.2.2.1 q_X9_judge.1.cls q_X9_judge.1.name q_X9_judge.2.1 29 20 I_X9_judge_20 = true := by decide +kernel
def p_X9_judge_20 (a0 : Nat) (h : AH) : Option (Int32 × AH) :=
  if (tg h a0).1 = 8 then ((p_X9_wrongSaw a0 ((0 : Int32)) h).bind fun q101 =>
  if (tg q101.2 a0).1 = 8 then ((p_X9_good a0 q101.1 q101.2).bind fun q102 =>
  p_X9_judge_29 q102.1 q102.2) else none) else none
set_option maxRecDepth 100000 in
theorem e_X9_judge_20 {l : Launch} {D : va_G} {dA : Nat → ClassId} {z : Nat} {sa : Nat → Nat} {Hz : Heap} (E : StrOK qLen qCh l D dA z sa Hz) {h0 fin : AH} {x : Int32}  : ∀ (a0 : Nat) (h : AH), p_X9_judge_20 a0 h = some (x, fin) → GM l D dA z sa Hz q_X9_judge h0 (some (.int x)) fin 20 [(0, .ref a0)] [] h := by
  intro a0 h hd
  exact step E (is := I_X9_judge_20) (pc := 20) (K := (kx 29 (fun la st h => sI st fun y0 st => sE st (p_X9_judge_29 y0 h)) k0)) (FI := FI_X9_judge) (FV := fV0) (FL := fL0) (rt := rtI) (ft := 29) (by exact hd) ok_X9_judge_20 (kx_ok (fun la st h e => by obtain ⟨y0, _, rfl, e1⟩ := sI_inv e; obtain ⟨rfl, ez⟩ := sE_inv e1; exact gm_fewer (e_X9_judge_29 E  y0 h ez) mem_nil) k0_ok) (FI_X9_judge_ok E) (fV0_ok E) (fL0_ok E) (rtI_ok rfl)
def I_X9_judge_0 : List AI := [(.aload_n 0, 1, [], 0), (.iconst 0, 1, [], 0), (.putfield 33, 3, [8, 0, 0, 1345], 0), (.aload_n 0, 1, [], 0), (.getfield 265, 3, [8, 3, 2, 1348], 0), (.ifnonnull 11, 3, [20], 0), (.aload_n 0, 1, [], 0), (.iconst 1, 1, [], 1), (.invokevirtual 39, 3, [1, 201, 2, 8, 1481], 0), (.goto 12, 3, [29], 0)]
theorem ok_X9_judge_0 : vBL MT qLen qCh false q_X9_judge.2.2.2.2.1 q_X9_judge.2.2.2.2.2.1 q_X9_judge.2.2.1 q_X9_judge.1.cls q_X9_judge.1.name q_X9_judge.2.1 0 0 I_X9_judge_0 = true := by decide +kernel
def p_X9_judge (a0 : Nat) (h : AH) : Option (Int32 × AH) :=
  if (tg h a0).1 = 8 then (let h103 := wI h a0 0 ((0 : Int32))
  if (tg h103 a0).1 = 8 then (if (rR h103 a0 3) = 0 then (if (tg h103 a0).1 = 8 then ((p_X9_refused a0 ((1 : Int32)) h103).bind fun q106 =>
  p_X9_judge_29 q106.1 q106.2) else none)
  else
  if (tg h103 a0).1 = 8 then ((p_X9_wrongSaw a0 ((0 : Int32)) h103).bind fun q104 =>
  if (tg q104.2 a0).1 = 8 then ((p_X9_good a0 q104.1 q104.2).bind fun q105 =>
  p_X9_judge_29 q105.1 q105.2) else none) else none) else none) else none
set_option maxRecDepth 100000 in
theorem e_X9_judge_0 {l : Launch} {D : va_G} {dA : Nat → ClassId} {z : Nat} {sa : Nat → Nat} {Hz : Heap} (E : StrOK qLen qCh l D dA z sa Hz) {h0 fin : AH} {x : Int32}  : ∀ (a0 : Nat) (h : AH), p_X9_judge a0 h = some (x, fin) → GM l D dA z sa Hz q_X9_judge h0 (some (.int x)) fin 0 [(0, .ref a0)] [] h := by
  intro a0 h hd
  exact step E (is := I_X9_judge_0) (pc := 0) (K := (kx 20 (fun la st h => gR la 0 fun a0 => sE st (p_X9_judge_20 a0 h)) (kx 29 (fun la st h => sI st fun y0 st => sE st (p_X9_judge_29 y0 h)) k0))) (FI := FI_X9_judge) (FV := fV0) (FL := fL0) (rt := rtI) (ft := 0) (by exact hd) ok_X9_judge_0 (kx_ok (fun la st h e => by obtain ⟨a0, m_a0, e1⟩ := gR_inv e; obtain ⟨rfl, ez⟩ := sE_inv e1; exact gm_fewer (e_X9_judge_20 E  a0 h ez) (mem_cons m_a0 mem_nil)) (kx_ok (fun la st h e => by obtain ⟨y0, _, rfl, e1⟩ := sI_inv e; obtain ⟨rfl, ez⟩ := sE_inv e1; exact gm_fewer (e_X9_judge_29 E  y0 h ez) mem_nil) k0_ok)) (FI_X9_judge_ok E) (fV0_ok E) (fL0_ok E) (rtI_ok rfl)
theorem c_X9_judge {l : Launch} {D : va_G} {dA : Nat → ClassId} {z : Nat} {sa : Nat → Nat} {Hz : Heap} (E : StrOK qLen qCh l D dA z sa Hz) {a0 : Nat} {h fin : AH} {x : Int32} (hd : p_X9_judge a0 h = some (x, fin)) : CalOK l D dA z sa Hz q_X9_judge [.ref a0] h (some (.int x)) fin := calOf (by decide +kernel) (Nat.le_of_ble_eq_true rfl) (e_X9_judge_0 E a0 h hd)
def FV_X9_remembers : Nat → List Value → AH → Option (AH) := (cx 239 (fun As h => sR As fun a0 As => sE As (p_X9_works a0 h)) fV0)
theorem FV_X9_remembers_ok {l : Launch} {D : va_G} {dA : Nat → ClassId} {z : Nat} {sa : Nat → Nat} {Hz : Heap} (E : StrOK qLen qCh l D dA z sa Hz) : ∀ mi As h h', FV_X9_remembers mi As h = some h' → CalOK l D dA z sa Hz (MT mi) As h none h' := (cxV_ok (fun As h h2 e => by obtain ⟨_, _, rfl, e0⟩ := sR_inv e; obtain ⟨rfl, ez⟩ := sE_inv e0; exact c_X9_works E ez) (fV0_ok E))
def I_X9_remembers_86 : List AI := [(.aload_n 0, 1, [], 0), (.dup, 1, [], 0), (.getfield 273, 3, [8, 19, 0, 1364], 0), (.iconst 1, 1, [], 1), (.iadd, 1, [], 0), (.putfield 273, 3, [8, 19, 0, 1364], 0), (.aload_n 0, 1, [], 0), (.invokevirtual 398, 3, [2, 239, 1, 8, 1717], 0), (.return_, 1, [], 0)]
theorem ok_X9_remembers_86 : vBL MT qLen qCh false q_X9_remembers.2.2.2.2.1 q_X9_remembers.2.2.2.2.2.1 q_X9_remembers.2.2.1 q_X9_remembers.1.cls q_X9_remembers.1.name q_X9_remembers.2.1 0 86 I_X9_remembers_86 = true := by decide +kernel
def p_X9_remembers_86 (a0 : Nat) (h : AH) : Option (AH) :=
  if (tg h a0).1 = 8 then (if (tg h a0).1 = 8 then (let h101 := wI h a0 19 ((rI h a0 19) + ((1 : Int32)))
  if (tg h101 a0).1 = 8 then ((p_X9_works a0 h101).bind fun h102 =>
  some h102) else none) else none) else none
set_option maxRecDepth 100000 in
theorem e_X9_remembers_86 {l : Launch} {D : va_G} {dA : Nat → ClassId} {z : Nat} {sa : Nat → Nat} {Hz : Heap} (E : StrOK qLen qCh l D dA z sa Hz) {h0 fin : AH}  : ∀ (a0 : Nat) (h : AH), p_X9_remembers_86 a0 h = some fin → GM l D dA z sa Hz q_X9_remembers h0 none fin 86 [(0, .ref a0)] [] h := by
  intro a0 h hd
  exact step E (is := I_X9_remembers_86) (pc := 86) (K := k0) (FI := fI0) (FV := FV_X9_remembers) (FL := fL0) (rt := rtV) (ft := 0) (by exact hd) ok_X9_remembers_86 k0_ok (fI0_ok E) (FV_X9_remembers_ok E) (fL0_ok E) (rtV_ok rfl)
def I_X9_remembers_52 : List AI := [(.iload_n 1, 1, [], 0), (.sipush 244, 3, [], 244), (.if_icmp .ge 30, 3, [86], 0), (.aload_n 0, 1, [], 0), (.getfield 24, 3, [8, 17, 2, 1362], 0), (.sipush 244, 3, [], 244), (.aload_n 0, 1, [], 0), (.getfield 273, 3, [8, 19, 0, 1364], 0), (.imul, 1, [], 0), (.iload_n 1, 1, [], 0), (.iadd, 1, [], 0), (.aload_n 0, 1, [], 0), (.getfield 17, 3, [8, 15, 2, 1360], 0), (.iload_n 1, 1, [], 0), (.iaload, 1, [], 0), (.iastore, 1, [], 0), (.iinc 1 1, 3, [], 1), (.goto (-31), 3, [52], 0)]
theorem ok_X9_remembers_52 : vBL MT qLen qCh false q_X9_remembers.2.2.2.2.1 q_X9_remembers.2.2.2.2.2.1 q_X9_remembers.2.2.1 q_X9_remembers.1.cls q_X9_remembers.1.name q_X9_remembers.2.1 0 52 I_X9_remembers_52 = true := by decide +kernel
def p_X9_remembers_52 : Nat → Nat → Int32 → AH → Option (AH)
  | 0, _, _, _ => none
  | n + 1, a0, x1, h => if x1 < ((244 : Int32)) then (if (tg h a0).1 = 8 then (if (tg h a0).1 = 8 then (if (tg h a0).1 = 8 then (if inB h (rR h a0 15) 100 x1 then (if inB h (rR h a0 17) 100 ((((244 : Int32)) * (rI h a0 19)) + x1) then (let h105 := wI h (rR h a0 17) ((((244 : Int32)) * (rI h a0 19)) + x1).toNatClampNeg (rI h (rR h a0 15) x1.toNatClampNeg)
    p_X9_remembers_52 n a0 (x1 + (1 : Int32)) h105) else none) else none) else none) else none) else none)
    else
    if (tg h a0).1 = 8 then (if (tg h a0).1 = 8 then (let h103 := wI h a0 19 ((rI h a0 19) + ((1 : Int32)))
    if (tg h103 a0).1 = 8 then ((p_X9_works a0 h103).bind fun h104 =>
    some h104) else none) else none) else none
set_option maxRecDepth 100000 in
theorem e_X9_remembers_52 {l : Launch} {D : va_G} {dA : Nat → ClassId} {z : Nat} {sa : Nat → Nat} {Hz : Heap} (E : StrOK qLen qCh l D dA z sa Hz) {h0 fin : AH}  : ∀ (n : Nat) (a0 : Nat) (x1 : Int32) (h : AH), p_X9_remembers_52 n a0 x1 h = some fin → GM l D dA z sa Hz q_X9_remembers h0 none fin 52 [(0, .ref a0), (1, .int x1)] [] h := by
  intro n
  induction n with
  | zero => intro a0 x1 h hd; exact nomatch hd
  | succ n ih =>
    intro a0 x1 h hd
    exact step E (is := I_X9_remembers_52) (pc := 52) (K := (kx 86 (fun la st h => gR la 0 fun a0 => sE st (p_X9_remembers_86 a0 h)) (kx 52 (fun la st h => gR la 0 fun a0 => gI la 1 fun x1 => sE st (p_X9_remembers_52 n a0 x1 h)) k0))) (FI := fI0) (FV := FV_X9_remembers) (FL := fL0) (rt := rtV) (ft := 0) (by exact hd) ok_X9_remembers_52 (kx_ok (fun la st h e => by obtain ⟨a0, m_a0, e1⟩ := gR_inv e; obtain ⟨rfl, ez⟩ := sE_inv e1; exact gm_fewer (e_X9_remembers_86 E  a0 h ez) (mem_cons m_a0 mem_nil)) (kx_ok (fun la st h e => by obtain ⟨a0, m_a0, e1⟩ := gR_inv e; obtain ⟨x1, m_x1, e2⟩ := gI_inv e1; obtain ⟨rfl, ez⟩ := sE_inv e2; exact gm_fewer (ih a0 x1 h ez) (mem_cons m_a0 (mem_cons m_x1 mem_nil))) k0_ok)) (fI0_ok E) (FV_X9_remembers_ok E) (fL0_ok E) (rtV_ok rfl)
def I_X9_remembers_50 : List AI := [(.iconst 0, 1, [], 0), (.istore_n 1, 1, [], 0)]
theorem ok_X9_remembers_50 : vBL MT qLen qCh false q_X9_remembers.2.2.2.2.1 q_X9_remembers.2.2.2.2.2.1 q_X9_remembers.2.2.1 q_X9_remembers.1.cls q_X9_remembers.1.name q_X9_remembers.2.1 52 50 I_X9_remembers_50 = true := by decide +kernel
def p_X9_remembers_50 (a0 : Nat) (h : AH) : Option (AH) :=
  p_X9_remembers_52 FU a0 ((0 : Int32)) h
set_option maxRecDepth 100000 in
theorem e_X9_remembers_50 {l : Launch} {D : va_G} {dA : Nat → ClassId} {z : Nat} {sa : Nat → Nat} {Hz : Heap} (E : StrOK qLen qCh l D dA z sa Hz) {h0 fin : AH}  : ∀ (a0 : Nat) (h : AH), p_X9_remembers_50 a0 h = some fin → GM l D dA z sa Hz q_X9_remembers h0 none fin 50 [(0, .ref a0)] [] h := by
  intro a0 h hd
  exact step E (is := I_X9_remembers_50) (pc := 50) (K := (kx 52 (fun la st h => gR la 0 fun a0 => gI la 1 fun x1 => sE st (p_X9_remembers_52 FU a0 x1 h)) k0)) (FI := fI0) (FV := FV_X9_remembers) (FL := fL0) (rt := rtV) (ft := 52) (by exact hd) ok_X9_remembers_50 (kx_ok (fun la st h e => by obtain ⟨a0, m_a0, e1⟩ := gR_inv e; obtain ⟨x1, m_x1, e2⟩ := gI_inv e1; obtain ⟨rfl, ez⟩ := sE_inv e2; exact gm_fewer (e_X9_remembers_52 E  FU a0 x1 h ez) (mem_cons m_a0 (mem_cons m_x1 mem_nil))) k0_ok) (fI0_ok E) (FV_X9_remembers_ok E) (fL0_ok E) (rtV_ok rfl)
def I_X9_remembers_40 : List AI := [(.aload_n 0, 1, [], 0), (.dup, 1, [], 0), (.getfield 273, 3, [8, 19, 0, 1364], 0), (.iconst 1, 1, [], 1), (.isub, 1, [], 0), (.putfield 273, 3, [8, 19, 0, 1364], 0)]
theorem ok_X9_remembers_40 : vBL MT qLen qCh false q_X9_remembers.2.2.2.2.1 q_X9_remembers.2.2.2.2.2.1 q_X9_remembers.2.2.1 q_X9_remembers.1.cls q_X9_remembers.1.name q_X9_remembers.2.1 50 40 I_X9_remembers_40 = true := by decide +kernel
def p_X9_remembers_40 (a0 : Nat) (h : AH) : Option (AH) :=
  if (tg h a0).1 = 8 then (if (tg h a0).1 = 8 then (let h106 := wI h a0 19 ((rI h a0 19) - ((1 : Int32)))
  p_X9_remembers_50 a0 h106) else none) else none
set_option maxRecDepth 100000 in
theorem e_X9_remembers_40 {l : Launch} {D : va_G} {dA : Nat → ClassId} {z : Nat} {sa : Nat → Nat} {Hz : Heap} (E : StrOK qLen qCh l D dA z sa Hz) {h0 fin : AH}  : ∀ (a0 : Nat) (h : AH), p_X9_remembers_40 a0 h = some fin → GM l D dA z sa Hz q_X9_remembers h0 none fin 40 [(0, .ref a0)] [] h := by
  intro a0 h hd
  exact step E (is := I_X9_remembers_40) (pc := 40) (K := (kx 50 (fun la st h => gR la 0 fun a0 => sE st (p_X9_remembers_50 a0 h)) k0)) (FI := fI0) (FV := FV_X9_remembers) (FL := fL0) (rt := rtV) (ft := 50) (by exact hd) ok_X9_remembers_40 (kx_ok (fun la st h e => by obtain ⟨a0, m_a0, e1⟩ := gR_inv e; obtain ⟨rfl, ez⟩ := sE_inv e1; exact gm_fewer (e_X9_remembers_50 E  a0 h ez) (mem_cons m_a0 mem_nil)) k0_ok) (fI0_ok E) (FV_X9_remembers_ok E) (fL0_ok E) (rtV_ok rfl)
def I_X9_remembers_11 : List AI := [(.iload_n 1, 1, [], 0), (.sipush 3660, 3, [], 3660), (.if_icmp .ge 25, 3, [40], 0), (.aload_n 0, 1, [], 0), (.getfield 24, 3, [8, 17, 2, 1362], 0), (.iload_n 1, 1, [], 0), (.aload_n 0, 1, [], 0), (.getfield 24, 3, [8, 17, 2, 1362], 0), (.iload_n 1, 1, [], 0), (.sipush 244, 3, [], 244), (.iadd, 1, [], 0), (.iaload, 1, [], 0), (.iastore, 1, [], 0), (.iinc 1 1, 3, [], 1), (.goto (-26), 3, [11], 0)]
theorem ok_X9_remembers_11 : vBL MT qLen qCh false q_X9_remembers.2.2.2.2.1 q_X9_remembers.2.2.2.2.2.1 q_X9_remembers.2.2.1 q_X9_remembers.1.cls q_X9_remembers.1.name q_X9_remembers.2.1 0 11 I_X9_remembers_11 = true := by decide +kernel
def p_X9_remembers_11 : Nat → Nat → Int32 → AH → Option (AH)
  | 0, _, _, _ => none
  | n + 1, a0, x1, h => if x1 < ((3660 : Int32)) then (if (tg h a0).1 = 8 then (if (tg h a0).1 = 8 then (if inB h (rR h a0 17) 100 (x1 + ((244 : Int32))) then (if inB h (rR h a0 17) 100 x1 then (let h108 := wI h (rR h a0 17) x1.toNatClampNeg (rI h (rR h a0 17) (x1 + ((244 : Int32))).toNatClampNeg)
    p_X9_remembers_11 n a0 (x1 + (1 : Int32)) h108) else none) else none) else none) else none)
    else
    if (tg h a0).1 = 8 then (if (tg h a0).1 = 8 then (let h107 := wI h a0 19 ((rI h a0 19) - ((1 : Int32)))
    p_X9_remembers_50 a0 h107) else none) else none
set_option maxRecDepth 100000 in
theorem e_X9_remembers_11 {l : Launch} {D : va_G} {dA : Nat → ClassId} {z : Nat} {sa : Nat → Nat} {Hz : Heap} (E : StrOK qLen qCh l D dA z sa Hz) {h0 fin : AH}  : ∀ (n : Nat) (a0 : Nat) (x1 : Int32) (h : AH), p_X9_remembers_11 n a0 x1 h = some fin → GM l D dA z sa Hz q_X9_remembers h0 none fin 11 [(0, .ref a0), (1, .int x1)] [] h := by
  intro n
  induction n with
  | zero => intro a0 x1 h hd; exact nomatch hd
  | succ n ih =>
    intro a0 x1 h hd
    exact step E (is := I_X9_remembers_11) (pc := 11) (K := (kx 40 (fun la st h => gR la 0 fun a0 => sE st (p_X9_remembers_40 a0 h)) (kx 11 (fun la st h => gR la 0 fun a0 => gI la 1 fun x1 => sE st (p_X9_remembers_11 n a0 x1 h)) k0))) (FI := fI0) (FV := FV_X9_remembers) (FL := fL0) (rt := rtV) (ft := 0) (by exact hd) ok_X9_remembers_11 (kx_ok (fun la st h e => by obtain ⟨a0, m_a0, e1⟩ := gR_inv e; obtain ⟨rfl, ez⟩ := sE_inv e1; exact gm_fewer (e_X9_remembers_40 E  a0 h ez) (mem_cons m_a0 mem_nil)) (kx_ok (fun la st h e => by obtain ⟨a0, m_a0, e1⟩ := gR_inv e; obtain ⟨x1, m_x1, e2⟩ := gI_inv e1; obtain ⟨rfl, ez⟩ := sE_inv e2; exact gm_fewer (ih a0 x1 h ez) (mem_cons m_a0 (mem_cons m_x1 mem_nil))) k0_ok)) (fI0_ok E) (FV_X9_remembers_ok E) (fL0_ok E) (rtV_ok rfl)
def I_X9_remembers_0 : List AI := [(.aload_n 0, 1, [], 0), (.getfield 273, 3, [8, 19, 0, 1364], 0), (.bipush 16, 2, [], 16), (.if_icmp .ne 44, 3, [50], 0), (.iconst 0, 1, [], 0), (.istore_n 1, 1, [], 0)]
theorem ok_X9_remembers_0 : vBL MT qLen qCh false q_X9_remembers.2.2.2.2.1 q_X9_remembers.2.2.2.2.2.1 q_X9_remembers.2.2.1 q_X9_remembers.1.cls q_X9_remembers.1.name q_X9_remembers.2.1 11 0 I_X9_remembers_0 = true := by decide +kernel
def p_X9_remembers (a0 : Nat) (h : AH) : Option (AH) :=
  if (tg h a0).1 = 8 then (if (rI h a0 19) = ((16 : Int32)) then (p_X9_remembers_11 FU a0 ((0 : Int32)) h)
  else
  p_X9_remembers_50 a0 h) else none
set_option maxRecDepth 100000 in
theorem e_X9_remembers_0 {l : Launch} {D : va_G} {dA : Nat → ClassId} {z : Nat} {sa : Nat → Nat} {Hz : Heap} (E : StrOK qLen qCh l D dA z sa Hz) {h0 fin : AH}  : ∀ (a0 : Nat) (h : AH), p_X9_remembers a0 h = some fin → GM l D dA z sa Hz q_X9_remembers h0 none fin 0 [(0, .ref a0)] [] h := by
  intro a0 h hd
  exact step E (is := I_X9_remembers_0) (pc := 0) (K := (kx 50 (fun la st h => gR la 0 fun a0 => sE st (p_X9_remembers_50 a0 h)) (kx 11 (fun la st h => gR la 0 fun a0 => gI la 1 fun x1 => sE st (p_X9_remembers_11 FU a0 x1 h)) k0))) (FI := fI0) (FV := FV_X9_remembers) (FL := fL0) (rt := rtV) (ft := 11) (by exact hd) ok_X9_remembers_0 (kx_ok (fun la st h e => by obtain ⟨a0, m_a0, e1⟩ := gR_inv e; obtain ⟨rfl, ez⟩ := sE_inv e1; exact gm_fewer (e_X9_remembers_50 E  a0 h ez) (mem_cons m_a0 mem_nil)) (kx_ok (fun la st h e => by obtain ⟨a0, m_a0, e1⟩ := gR_inv e; obtain ⟨x1, m_x1, e2⟩ := gI_inv e1; obtain ⟨rfl, ez⟩ := sE_inv e2; exact gm_fewer (e_X9_remembers_11 E  FU a0 x1 h ez) (mem_cons m_a0 (mem_cons m_x1 mem_nil))) k0_ok)) (fI0_ok E) (FV_X9_remembers_ok E) (fL0_ok E) (rtV_ok rfl)
theorem c_X9_remembers {l : Launch} {D : va_G} {dA : Nat → ClassId} {z : Nat} {sa : Nat → Nat} {Hz : Heap} (E : StrOK qLen qCh l D dA z sa Hz) {a0 : Nat} {h fin : AH} (hd : p_X9_remembers a0 h = some fin) : CalOK l D dA z sa Hz q_X9_remembers [.ref a0] h none fin := calOf (by decide +kernel) (Nat.le_of_ble_eq_true rfl) (e_X9_remembers_0 E a0 h hd)
def FI_X9_counted : Nat → List Value → AH → Option (Int32 × AH) := (cx 233 (fun As h => sR As fun a0 As => sI As fun x1 As => sE As (p_X9_good a0 x1 h)) fI0)
theorem FI_X9_counted_ok {l : Launch} {D : va_G} {dA : Nat → ClassId} {z : Nat} {sa : Nat → Nat} {Hz : Heap} (E : StrOK qLen qCh l D dA z sa Hz) : ∀ mi As h x h', FI_X9_counted mi As h = some (x, h') → CalOK l D dA z sa Hz (MT mi) As h (some (.int x)) h' := (cxI_ok (fun As h x h2 e => by obtain ⟨_, _, rfl, e0⟩ := sR_inv e; obtain ⟨_, _, rfl, e1⟩ := sI_inv e0; obtain ⟨rfl, ez⟩ := sE_inv e1; exact c_X9_good E ez) (fI0_ok E))
def FV_X9_counted : Nat → List Value → AH → Option (AH) := (cx 232 (fun As h => sR As fun a0 As => sE As (p_X9_remains a0 h)) fV0)
theorem FV_X9_counted_ok {l : Launch} {D : va_G} {dA : Nat → ClassId} {z : Nat} {sa : Nat → Nat} {Hz : Heap} (E : StrOK qLen qCh l D dA z sa Hz) : ∀ mi As h h', FV_X9_counted mi As h = some h' → CalOK l D dA z sa Hz (MT mi) As h none h' := (cxV_ok (fun As h h2 e => by obtain ⟨_, _, rfl, e0⟩ := sR_inv e; obtain ⟨rfl, ez⟩ := sE_inv e0; exact c_X9_remains E ez) (fV0_ok E))
def I_X9_counted_53 : List AI := [(.iadd, 1, [], 0), (.putfield 288, 3, [8, 24, 0, 1369], 0), (.aload_n 0, 1, [], 0), (.invokevirtual 270, 3, [2, 232, 1, 8, 1690], 0), (.aload_n 0, 1, [], 0), (.iload_n 1, 1, [], 0), (.invokevirtual 43, 3, [1, 233, 2, 8, 1694], 0), (.ireturn, 1, [], 0)]
theorem ok_X9_counted_53 : vBL MT qLen qCh false q_X9_counted.2.2.2.2.1 q_X9_counted.2.2.2.2.2.1 q_X9_counted.2.2.1 q_X9_counted.1.cls q_X9_counted.1.name q_X9_counted.2.1 0 53 I_X9_counted_53 = true := by decide +kernel
def p_X9_counted_53 (a0 : Nat) (x1 : Int32) (y0 : Int32) (y1 : Int32) (b2 : Nat) (h : AH) : Option (Int32 × AH) :=
  if (tg h b2).1 = 8 then (let h101 := wI h b2 24 (y1 + y0)
  if (tg h101 a0).1 = 8 then ((p_X9_remains a0 h101).bind fun h102 =>
  if (tg h102 a0).1 = 8 then ((p_X9_good a0 x1 h102).bind fun q103 =>
  some (q103.1, q103.2)) else none) else none) else none
set_option maxRecDepth 100000 in
theorem e_X9_counted_53 {l : Launch} {D : va_G} {dA : Nat → ClassId} {z : Nat} {sa : Nat → Nat} {Hz : Heap} (E : StrOK qLen qCh l D dA z sa Hz) {h0 fin : AH} {x : Int32}  : ∀ (a0 : Nat) (x1 : Int32) (y0 : Int32) (y1 : Int32) (b2 : Nat) (h : AH), p_X9_counted_53 a0 x1 y0 y1 b2 h = some (x, fin) → GM l D dA z sa Hz q_X9_counted h0 (some (.int x)) fin 53 [(0, .ref a0), (1, .int x1)] [.int y0, .int y1, .ref b2] h := by
  intro a0 x1 y0 y1 b2 h hd
  exact step E (is := I_X9_counted_53) (pc := 53) (K := k0) (FI := FI_X9_counted) (FV := FV_X9_counted) (FL := fL0) (rt := rtI) (ft := 0) (by exact hd) ok_X9_counted_53 k0_ok (FI_X9_counted_ok E) (FV_X9_counted_ok E) (fL0_ok E) (rtI_ok rfl)
def I_X9_counted_52 : List AI := [(.iconst 0, 1, [], 0)]
theorem ok_X9_counted_52 : vBL MT qLen qCh false q_X9_counted.2.2.2.2.1 q_X9_counted.2.2.2.2.2.1 q_X9_counted.2.2.1 q_X9_counted.1.cls q_X9_counted.1.name q_X9_counted.2.1 53 52 I_X9_counted_52 = true := by decide +kernel
def p_X9_counted_52 (a0 : Nat) (x1 : Int32) (y0 : Int32) (b1 : Nat) (h : AH) : Option (Int32 × AH) :=
  p_X9_counted_53 a0 x1 ((0 : Int32)) y0 b1 h
set_option maxRecDepth 100000 in
theorem e_X9_counted_52 {l : Launch} {D : va_G} {dA : Nat → ClassId} {z : Nat} {sa : Nat → Nat} {Hz : Heap} (E : StrOK qLen qCh l D dA z sa Hz) {h0 fin : AH} {x : Int32}  : ∀ (a0 : Nat) (x1 : Int32) (y0 : Int32) (b1 : Nat) (h : AH), p_X9_counted_52 a0 x1 y0 b1 h = some (x, fin) → GM l D dA z sa Hz q_X9_counted h0 (some (.int x)) fin 52 [(0, .ref a0), (1, .int x1)] [.int y0, .ref b1] h := by
  intro a0 x1 y0 b1 h hd
  exact step E (is := I_X9_counted_52) (pc := 52) (K := (kx 53 (fun la st h => gR la 0 fun a0 => gI la 1 fun x1 => sI st fun y0 st => sI st fun y1 st => sR st fun b2 st => sE st (p_X9_counted_53 a0 x1 y0 y1 b2 h)) k0)) (FI := FI_X9_counted) (FV := FV_X9_counted) (FL := fL0) (rt := rtI) (ft := 53) (by exact hd) ok_X9_counted_52 (kx_ok (fun la st h e => by obtain ⟨a0, m_a0, e1⟩ := gR_inv e; obtain ⟨x1, m_x1, e2⟩ := gI_inv e1; obtain ⟨y0, _, rfl, e3⟩ := sI_inv e2; obtain ⟨y1, _, rfl, e4⟩ := sI_inv e3; obtain ⟨b2, _, rfl, e5⟩ := sR_inv e4; obtain ⟨rfl, ez⟩ := sE_inv e5; exact gm_fewer (e_X9_counted_53 E  a0 x1 y0 y1 b2 h ez) (mem_cons m_a0 (mem_cons m_x1 mem_nil))) k0_ok) (FI_X9_counted_ok E) (FV_X9_counted_ok E) (fL0_ok E) (rtI_ok rfl)
def I_X9_counted_0 : List AI := [(.aload_n 0, 1, [], 0), (.dup, 1, [], 0), (.getfield 279, 3, [8, 21, 0, 1366], 0), (.aload_n 0, 1, [], 0), (.getfield 298, 3, [8, 27, 0, 1372], 0), (.iadd, 1, [], 0), (.putfield 279, 3, [8, 21, 0, 1366], 0), (.aload_n 0, 1, [], 0), (.dup, 1, [], 0), (.getfield 285, 3, [8, 23, 0, 1368], 0), (.aload_n 0, 1, [], 0), (.getfield 301, 3, [8, 28, 0, 1373], 0), (.iadd, 1, [], 0), (.putfield 285, 3, [8, 23, 0, 1368], 0), (.aload_n 0, 1, [], 0), (.dup, 1, [], 0), (.getfield 291, 3, [8, 25, 0, 1370], 0), (.iconst 1, 1, [], 1), (.iadd, 1, [], 0), (.putfield 291, 3, [8, 25, 0, 1370], 0), (.aload_n 0, 1, [], 0), (.dup, 1, [], 0), (.getfield 288, 3, [8, 24, 0, 1369], 0), (.aload_n 0, 1, [], 0), (.getfield 372, 3, [8, 31, 3, 1376], 0), (.ifCond .eq 7, 3, [52], 0), (.iconst 1, 1, [], 1), (.goto 4, 3, [53], 0)]
theorem ok_X9_counted_0 : vBL MT qLen qCh false q_X9_counted.2.2.2.2.1 q_X9_counted.2.2.2.2.2.1 q_X9_counted.2.2.1 q_X9_counted.1.cls q_X9_counted.1.name q_X9_counted.2.1 0 0 I_X9_counted_0 = true := by decide +kernel
def p_X9_counted (a0 : Nat) (x1 : Int32) (h : AH) : Option (Int32 × AH) :=
  if (tg h a0).1 = 8 then (if (tg h a0).1 = 8 then (if (tg h a0).1 = 8 then (let h104 := wI h a0 21 ((rI h a0 21) + (rI h a0 27))
  if (tg h104 a0).1 = 8 then (if (tg h104 a0).1 = 8 then (if (tg h104 a0).1 = 8 then (let h105 := wI h104 a0 23 ((rI h104 a0 23) + (rI h104 a0 28))
  if (tg h105 a0).1 = 8 then (if (tg h105 a0).1 = 8 then (let h106 := wI h105 a0 25 ((rI h105 a0 25) + ((1 : Int32)))
  if (tg h106 a0).1 = 8 then (if (tg h106 a0).1 = 8 then (if (rI h106 a0 31) = 0 then (p_X9_counted_53 a0 x1 ((0 : Int32)) (rI h106 a0 24) a0 h106)
  else
  p_X9_counted_53 a0 x1 ((1 : Int32)) (rI h106 a0 24) a0 h106) else none) else none) else none) else none) else none) else none) else none) else none) else none) else none
set_option maxRecDepth 100000 in
theorem e_X9_counted_0 {l : Launch} {D : va_G} {dA : Nat → ClassId} {z : Nat} {sa : Nat → Nat} {Hz : Heap} (E : StrOK qLen qCh l D dA z sa Hz) {h0 fin : AH} {x : Int32}  : ∀ (a0 : Nat) (x1 : Int32) (h : AH), p_X9_counted a0 x1 h = some (x, fin) → GM l D dA z sa Hz q_X9_counted h0 (some (.int x)) fin 0 [(0, .ref a0), (1, .int x1)] [] h := by
  intro a0 x1 h hd
  exact step E (is := I_X9_counted_0) (pc := 0) (K := (kx 52 (fun la st h => gR la 0 fun a0 => gI la 1 fun x1 => sI st fun y0 st => sR st fun b1 st => sE st (p_X9_counted_52 a0 x1 y0 b1 h)) (kx 53 (fun la st h => gR la 0 fun a0 => gI la 1 fun x1 => sI st fun y0 st => sI st fun y1 st => sR st fun b2 st => sE st (p_X9_counted_53 a0 x1 y0 y1 b2 h)) k0))) (FI := FI_X9_counted) (FV := FV_X9_counted) (FL := fL0) (rt := rtI) (ft := 0) (by exact hd) ok_X9_counted_0 (kx_ok (fun la st h e => by obtain ⟨a0, m_a0, e1⟩ := gR_inv e; obtain ⟨x1, m_x1, e2⟩ := gI_inv e1; obtain ⟨y0, _, rfl, e3⟩ := sI_inv e2; obtain ⟨b1, _, rfl, e4⟩ := sR_inv e3; obtain ⟨rfl, ez⟩ := sE_inv e4; exact gm_fewer (e_X9_counted_52 E  a0 x1 y0 b1 h ez) (mem_cons m_a0 (mem_cons m_x1 mem_nil))) (kx_ok (fun la st h e => by obtain ⟨a0, m_a0, e1⟩ := gR_inv e; obtain ⟨x1, m_x1, e2⟩ := gI_inv e1; obtain ⟨y0, _, rfl, e3⟩ := sI_inv e2; obtain ⟨y1, _, rfl, e4⟩ := sI_inv e3; obtain ⟨b2, _, rfl, e5⟩ := sR_inv e4; obtain ⟨rfl, ez⟩ := sE_inv e5; exact gm_fewer (e_X9_counted_53 E  a0 x1 y0 y1 b2 h ez) (mem_cons m_a0 (mem_cons m_x1 mem_nil))) k0_ok)) (FI_X9_counted_ok E) (FV_X9_counted_ok E) (fL0_ok E) (rtI_ok rfl)
theorem c_X9_counted {l : Launch} {D : va_G} {dA : Nat → ClassId} {z : Nat} {sa : Nat → Nat} {Hz : Heap} (E : StrOK qLen qCh l D dA z sa Hz) {a0 : Nat} {x1 : Int32} {h fin : AH} {x : Int32} (hd : p_X9_counted a0 x1 h = some (x, fin)) : CalOK l D dA z sa Hz q_X9_counted [.ref a0, .int x1] h (some (.int x)) fin := calOf (by decide +kernel) (Nat.le_of_ble_eq_true rfl) (e_X9_counted_0 E a0 x1 h hd)
def FI_X9_access : Nat → List Value → AH → Option (Int32 × AH) := (cx 250 (fun As h => sR As fun a0 As => sI As fun x1 As => sE As (p_X9_isAsked a0 x1 h)) (cx 201 (fun As h => sR As fun a0 As => sI As fun x1 As => sE As (p_X9_refused a0 x1 h)) (cx 294 (fun As h => sR As fun a0 As => sI As fun x1 As => sI As fun x2 As => sI As fun x3 As => sE As (p_X9_reaches a0 x1 x2 x3 h)) (cx 319 (fun As h => sR As fun a0 As => sI As fun x1 As => sE As (p_X9_counted a0 x1 h)) fI0))))
theorem FI_X9_access_ok {l : Launch} {D : va_G} {dA : Nat → ClassId} {z : Nat} {sa : Nat → Nat} {Hz : Heap} (E : StrOK qLen qCh l D dA z sa Hz) : ∀ mi As h x h', FI_X9_access mi As h = some (x, h') → CalOK l D dA z sa Hz (MT mi) As h (some (.int x)) h' := (cxI_ok (fun As h x h2 e => by obtain ⟨_, _, rfl, e0⟩ := sR_inv e; obtain ⟨_, _, rfl, e1⟩ := sI_inv e0; obtain ⟨rfl, ez⟩ := sE_inv e1; exact c_X9_isAsked E ez) ((cxI_ok (fun As h x h2 e => by obtain ⟨_, _, rfl, e0⟩ := sR_inv e; obtain ⟨_, _, rfl, e1⟩ := sI_inv e0; obtain ⟨rfl, ez⟩ := sE_inv e1; exact c_X9_refused E ez) ((cxI_ok (fun As h x h2 e => by obtain ⟨_, _, rfl, e0⟩ := sR_inv e; obtain ⟨_, _, rfl, e1⟩ := sI_inv e0; obtain ⟨_, _, rfl, e2⟩ := sI_inv e1; obtain ⟨_, _, rfl, e3⟩ := sI_inv e2; obtain ⟨rfl, ez⟩ := sE_inv e3; exact c_X9_reaches E ez) ((cxI_ok (fun As h x h2 e => by obtain ⟨_, _, rfl, e0⟩ := sR_inv e; obtain ⟨_, _, rfl, e1⟩ := sI_inv e0; obtain ⟨rfl, ez⟩ := sE_inv e1; exact c_X9_counted E ez) (fI0_ok E))))))))
def FV_X9_access : Nat → List Value → AH → Option (AH) := (cx 318 (fun As h => sR As fun a0 As => sE As (p_X9_remembers a0 h)) fV0)
theorem FV_X9_access_ok {l : Launch} {D : va_G} {dA : Nat → ClassId} {z : Nat} {sa : Nat → Nat} {Hz : Heap} (E : StrOK qLen qCh l D dA z sa Hz) : ∀ mi As h h', FV_X9_access mi As h = some h' → CalOK l D dA z sa Hz (MT mi) As h none h' := (cxV_ok (fun As h h2 e => by obtain ⟨_, _, rfl, e0⟩ := sR_inv e; obtain ⟨rfl, ez⟩ := sE_inv e0; exact c_X9_remembers E ez) (fV0_ok E))
def I_X9_access_19 : List AI := [(.aload_n 0, 1, [], 0), (.invokevirtual 480, 3, [2, 318, 1, 8, 2030], 0), (.aload_n 0, 1, [], 0), (.aload_n 0, 1, [], 0), (.iload_n 1, 1, [], 0), (.iload_n 2, 1, [], 0), (.iload_n 3, 1, [], 0), (.invokevirtual 389, 3, [1, 294, 4, 8, 1919], 0), (.invokevirtual 483, 3, [1, 319, 2, 8, 2034], 0), (.ireturn, 1, [], 0)]
theorem ok_X9_access_19 : vBL MT qLen qCh false q_X9_access.2.2.2.2.1 q_X9_access.2.2.2.2.2.1 q_X9_access.2.2.1 q_X9_access.1.cls q_X9_access.1.name q_X9_access.2.1 0 19 I_X9_access_19 = true := by decide +kernel
def p_X9_access_19 (a0 : Nat) (x1 : Int32) (x2 : Int32) (x3 : Int32) (h : AH) : Option (Int32 × AH) :=
  if (tg h a0).1 = 8 then ((p_X9_remembers a0 h).bind fun h101 =>
  if (tg h101 a0).1 = 8 then ((p_X9_reaches a0 x1 x2 x3 h101).bind fun q102 =>
  if (tg q102.2 a0).1 = 8 then ((p_X9_counted a0 q102.1 q102.2).bind fun q103 =>
  some (q103.1, q103.2)) else none) else none) else none
set_option maxRecDepth 100000 in
theorem e_X9_access_19 {l : Launch} {D : va_G} {dA : Nat → ClassId} {z : Nat} {sa : Nat → Nat} {Hz : Heap} (E : StrOK qLen qCh l D dA z sa Hz) {h0 fin : AH} {x : Int32}  : ∀ (a0 : Nat) (x1 : Int32) (x2 : Int32) (x3 : Int32) (h : AH), p_X9_access_19 a0 x1 x2 x3 h = some (x, fin) → GM l D dA z sa Hz q_X9_access h0 (some (.int x)) fin 19 [(0, .ref a0), (1, .int x1), (2, .int x2), (3, .int x3)] [] h := by
  intro a0 x1 x2 x3 h hd
  exact step E (is := I_X9_access_19) (pc := 19) (K := k0) (FI := FI_X9_access) (FV := FV_X9_access) (FL := fL0) (rt := rtI) (ft := 0) (by exact hd) ok_X9_access_19 k0_ok (FI_X9_access_ok E) (FV_X9_access_ok E) (fL0_ok E) (rtI_ok rfl)
def I_X9_access_0 : List AI := [(.aload_n 0, 1, [], 0), (.iconst 0, 1, [], 0), (.putfield 33, 3, [8, 0, 0, 1345], 0), (.aload_n 0, 1, [], 0), (.iload_n 1, 1, [], 0), (.invokevirtual 404, 3, [1, 250, 2, 8, 1756], 0), (.ifCond .ne 9, 3, [19], 0), (.aload_n 0, 1, [], 0), (.iconst 1, 1, [], 1), (.invokevirtual 39, 3, [1, 201, 2, 8, 1481], 0), (.ireturn, 1, [], 0)]
theorem ok_X9_access_0 : vBL MT qLen qCh false q_X9_access.2.2.2.2.1 q_X9_access.2.2.2.2.2.1 q_X9_access.2.2.1 q_X9_access.1.cls q_X9_access.1.name q_X9_access.2.1 0 0 I_X9_access_0 = true := by decide +kernel
def p_X9_access (a0 : Nat) (x1 : Int32) (x2 : Int32) (x3 : Int32) (h : AH) : Option (Int32 × AH) :=
  if (tg h a0).1 = 8 then (let h104 := wI h a0 0 ((0 : Int32))
  if (tg h104 a0).1 = 8 then ((p_X9_isAsked a0 x1 h104).bind fun q105 =>
  if q105.1 = 0 then (if (tg q105.2 a0).1 = 8 then ((p_X9_refused a0 ((1 : Int32)) q105.2).bind fun q109 =>
  some (q109.1, q109.2)) else none)
  else
  if (tg q105.2 a0).1 = 8 then ((p_X9_remembers a0 q105.2).bind fun h106 =>
  if (tg h106 a0).1 = 8 then ((p_X9_reaches a0 x1 x2 x3 h106).bind fun q107 =>
  if (tg q107.2 a0).1 = 8 then ((p_X9_counted a0 q107.1 q107.2).bind fun q108 =>
  some (q108.1, q108.2)) else none) else none) else none) else none) else none
set_option maxRecDepth 100000 in
theorem e_X9_access_0 {l : Launch} {D : va_G} {dA : Nat → ClassId} {z : Nat} {sa : Nat → Nat} {Hz : Heap} (E : StrOK qLen qCh l D dA z sa Hz) {h0 fin : AH} {x : Int32}  : ∀ (a0 : Nat) (x1 : Int32) (x2 : Int32) (x3 : Int32) (h : AH), p_X9_access a0 x1 x2 x3 h = some (x, fin) → GM l D dA z sa Hz q_X9_access h0 (some (.int x)) fin 0 [(0, .ref a0), (1, .int x1), (2, .int x2), (3, .int x3)] [] h := by
  intro a0 x1 x2 x3 h hd
  exact step E (is := I_X9_access_0) (pc := 0) (K := (kx 19 (fun la st h => gR la 0 fun a0 => gI la 1 fun x1 => gI la 2 fun x2 => gI la 3 fun x3 => sE st (p_X9_access_19 a0 x1 x2 x3 h)) k0)) (FI := FI_X9_access) (FV := FV_X9_access) (FL := fL0) (rt := rtI) (ft := 0) (by exact hd) ok_X9_access_0 (kx_ok (fun la st h e => by obtain ⟨a0, m_a0, e1⟩ := gR_inv e; obtain ⟨x1, m_x1, e2⟩ := gI_inv e1; obtain ⟨x2, m_x2, e3⟩ := gI_inv e2; obtain ⟨x3, m_x3, e4⟩ := gI_inv e3; obtain ⟨rfl, ez⟩ := sE_inv e4; exact gm_fewer (e_X9_access_19 E  a0 x1 x2 x3 h ez) (mem_cons m_a0 (mem_cons m_x1 (mem_cons m_x2 (mem_cons m_x3 mem_nil))))) k0_ok) (FI_X9_access_ok E) (FV_X9_access_ok E) (fL0_ok E) (rtI_ok rfl)
theorem c_X9_access {l : Launch} {D : va_G} {dA : Nat → ClassId} {z : Nat} {sa : Nat → Nat} {Hz : Heap} (E : StrOK qLen qCh l D dA z sa Hz) {a0 : Nat} {x1 : Int32} {x2 : Int32} {x3 : Int32} {h fin : AH} {x : Int32} (hd : p_X9_access a0 x1 x2 x3 h = some (x, fin)) : CalOK l D dA z sa Hz q_X9_access [.ref a0, .int x1, .int x2, .int x3] h (some (.int x)) fin := calOf (by decide +kernel) (Nat.le_of_ble_eq_true rfl) (e_X9_access_0 E a0 x1 x2 x3 h hd)
def FI_X9_stores : Nat → List Value → AH → Option (Int32 × AH) := (cx 294 (fun As h => sR As fun a0 As => sI As fun x1 As => sI As fun x2 As => sI As fun x3 As => sE As (p_X9_reaches a0 x1 x2 x3 h)) (cx 283 (fun As h => sR As fun a0 As => sI As fun x1 As => sE As (p_X9_isWatched a0 x1 h)) (cx 265 (fun As h => sR As fun a0 As => sI As fun x1 As => sI As fun x2 As => sE As (p_X9_tableOf a0 x1 x2 h)) fI0)))
theorem FI_X9_stores_ok {l : Launch} {D : va_G} {dA : Nat → ClassId} {z : Nat} {sa : Nat → Nat} {Hz : Heap} (E : StrOK qLen qCh l D dA z sa Hz) : ∀ mi As h x h', FI_X9_stores mi As h = some (x, h') → CalOK l D dA z sa Hz (MT mi) As h (some (.int x)) h' := (cxI_ok (fun As h x h2 e => by obtain ⟨_, _, rfl, e0⟩ := sR_inv e; obtain ⟨_, _, rfl, e1⟩ := sI_inv e0; obtain ⟨_, _, rfl, e2⟩ := sI_inv e1; obtain ⟨_, _, rfl, e3⟩ := sI_inv e2; obtain ⟨rfl, ez⟩ := sE_inv e3; exact c_X9_reaches E ez) ((cxI_ok (fun As h x h2 e => by obtain ⟨_, _, rfl, e0⟩ := sR_inv e; obtain ⟨_, _, rfl, e1⟩ := sI_inv e0; obtain ⟨rfl, ez⟩ := sE_inv e1; exact c_X9_isWatched E ez) ((cxI_ok (fun As h x h2 e => by obtain ⟨_, _, rfl, e0⟩ := sR_inv e; obtain ⟨_, _, rfl, e1⟩ := sI_inv e0; obtain ⟨_, _, rfl, e2⟩ := sI_inv e1; obtain ⟨rfl, ez⟩ := sE_inv e2; exact c_X9_tableOf E ez) (fI0_ok E))))))
def I_X9_stores_179 : List AI := [(.iload 5, 2, [], 0), (.ireturn, 1, [], 0)]
theorem ok_X9_stores_179 : vBL MT qLen qCh false q_X9_stores.2.2.2.2.1 q_X9_stores.2.2.2.2.2.1 q_X9_stores.2.2.1 q_X9_stores.1.cls q_X9_stores.1.name q_X9_stores.2.1 0 179 I_X9_stores_179 = true := by decide +kernel
def p_X9_stores_179 (x5 : Int32) (h : AH) : Option (Int32 × AH) :=
  some (x5, h)
set_option maxRecDepth 100000 in
theorem e_X9_stores_179 {l : Launch} {D : va_G} {dA : Nat → ClassId} {z : Nat} {sa : Nat → Nat} {Hz : Heap} (E : StrOK qLen qCh l D dA z sa Hz) {h0 fin : AH} {x : Int32}  : ∀ (x5 : Int32) (h : AH), p_X9_stores_179 x5 h = some (x, fin) → GM l D dA z sa Hz q_X9_stores h0 (some (.int x)) fin 179 [(5, .int x5)] [] h := by
  intro x5 h hd
  exact step E (is := I_X9_stores_179) (pc := 179) (K := k0) (FI := FI_X9_stores) (FV := fV0) (FL := fL0) (rt := rtI) (ft := 0) (by exact hd) ok_X9_stores_179 k0_ok (FI_X9_stores_ok E) (fV0_ok E) (fL0_ok E) (rtI_ok rfl)
def I_X9_stores_144 : List AI := [(.aload_n 0, 1, [], 0), (.iload 6, 2, [], 0), (.invokevirtual 386, 3, [1, 283, 2, 8, 1887], 0), (.ifCond .ne 29, 3, [179], 0), (.aload_n 0, 1, [], 0), (.getfield 21, 3, [8, 16, 2, 1361], 0), (.aload_n 0, 1, [], 0), (.getfield 369, 3, [8, 30, 0, 1375], 0), (.iaload, 1, [], 0), (.iconst (-1), 1, [], (-1)), (.if_icmp .eq 16, 3, [179], 0), (.aload_n 0, 1, [], 0), (.getfield 21, 3, [8, 16, 2, 1361], 0), (.aload_n 0, 1, [], 0), (.getfield 369, 3, [8, 30, 0, 1375], 0), (.dup2, 1, [], 0), (.iaload, 1, [], 0), (.iconst 2, 1, [], 2), (.ior, 1, [], 0), (.iastore, 1, [], 0)]
theorem ok_X9_stores_144 : vBL MT qLen qCh false q_X9_stores.2.2.2.2.1 q_X9_stores.2.2.2.2.2.1 q_X9_stores.2.2.1 q_X9_stores.1.cls q_X9_stores.1.name q_X9_stores.2.1 179 144 I_X9_stores_144 = true := by decide +kernel
def p_X9_stores_144 (a0 : Nat) (x5 : Int32) (x6 : Int32) (h : AH) : Option (Int32 × AH) :=
  if (tg h a0).1 = 8 then ((p_X9_isWatched a0 x6 h).bind fun q101 =>
  if q101.1 = 0 then (if (tg q101.2 a0).1 = 8 then (if (tg q101.2 a0).1 = 8 then (if inB q101.2 (rR q101.2 a0 16) 100 (rI q101.2 a0 30) then (if (rI q101.2 (rR q101.2 a0 16) (rI q101.2 a0 30).toNatClampNeg) = ((-1 : Int32)) then (p_X9_stores_179 x5 q101.2)
  else
  if (tg q101.2 a0).1 = 8 then (if (tg q101.2 a0).1 = 8 then (if inB q101.2 (rR q101.2 a0 16) 100 (rI q101.2 a0 30) then (if inB q101.2 (rR q101.2 a0 16) 100 (rI q101.2 a0 30) then (let h102 := wI q101.2 (rR q101.2 a0 16) (rI q101.2 a0 30).toNatClampNeg ((rI q101.2 (rR q101.2 a0 16) (rI q101.2 a0 30).toNatClampNeg) ||| ((2 : Int32)))
  p_X9_stores_179 x5 h102) else none) else none) else none) else none) else none) else none) else none)
  else
  p_X9_stores_179 x5 q101.2) else none
set_option maxRecDepth 100000 in
theorem e_X9_stores_144 {l : Launch} {D : va_G} {dA : Nat → ClassId} {z : Nat} {sa : Nat → Nat} {Hz : Heap} (E : StrOK qLen qCh l D dA z sa Hz) {h0 fin : AH} {x : Int32}  : ∀ (a0 : Nat) (x5 : Int32) (x6 : Int32) (h : AH), p_X9_stores_144 a0 x5 x6 h = some (x, fin) → GM l D dA z sa Hz q_X9_stores h0 (some (.int x)) fin 144 [(0, .ref a0), (5, .int x5), (6, .int x6)] [] h := by
  intro a0 x5 x6 h hd
  exact step E (is := I_X9_stores_144) (pc := 144) (K := (kx 179 (fun la st h => gI la 5 fun x5 => sE st (p_X9_stores_179 x5 h)) k0)) (FI := FI_X9_stores) (FV := fV0) (FL := fL0) (rt := rtI) (ft := 179) (by exact hd) ok_X9_stores_144 (kx_ok (fun la st h e => by obtain ⟨x5, m_x5, e1⟩ := gI_inv e; obtain ⟨rfl, ez⟩ := sE_inv e1; exact gm_fewer (e_X9_stores_179 E  x5 h ez) (mem_cons m_x5 mem_nil)) k0_ok) (FI_X9_stores_ok E) (fV0_ok E) (fL0_ok E) (rtI_ok rfl)
def I_X9_stores_126 : List AI := [(.iload 9, 2, [], 0), (.iconst (-1), 1, [], (-1)), (.if_icmp .eq 15, 3, [144], 0), (.aload_n 0, 1, [], 0), (.getfield 21, 3, [8, 16, 2, 1361], 0), (.sipush 171, 3, [], 171), (.iload 9, 2, [], 0), (.iadd, 1, [], 0), (.iconst 1, 1, [], 1), (.iastore, 1, [], 0)]
theorem ok_X9_stores_126 : vBL MT qLen qCh false q_X9_stores.2.2.2.2.1 q_X9_stores.2.2.2.2.2.1 q_X9_stores.2.2.1 q_X9_stores.1.cls q_X9_stores.1.name q_X9_stores.2.1 144 126 I_X9_stores_126 = true := by decide +kernel
def p_X9_stores_126 (a0 : Nat) (x5 : Int32) (x6 : Int32) (x9 : Int32) (h : AH) : Option (Int32 × AH) :=
  if x9 = ((-1 : Int32)) then (p_X9_stores_144 a0 x5 x6 h)
  else
  if (tg h a0).1 = 8 then (if inB h (rR h a0 16) 100 (((171 : Int32)) + x9) then (let h103 := wI h (rR h a0 16) (((171 : Int32)) + x9).toNatClampNeg ((1 : Int32))
  p_X9_stores_144 a0 x5 x6 h103) else none) else none
set_option maxRecDepth 100000 in
theorem e_X9_stores_126 {l : Launch} {D : va_G} {dA : Nat → ClassId} {z : Nat} {sa : Nat → Nat} {Hz : Heap} (E : StrOK qLen qCh l D dA z sa Hz) {h0 fin : AH} {x : Int32}  : ∀ (a0 : Nat) (x5 : Int32) (x6 : Int32) (x9 : Int32) (h : AH), p_X9_stores_126 a0 x5 x6 x9 h = some (x, fin) → GM l D dA z sa Hz q_X9_stores h0 (some (.int x)) fin 126 [(0, .ref a0), (5, .int x5), (6, .int x6), (9, .int x9)] [] h := by
  intro a0 x5 x6 x9 h hd
  exact step E (is := I_X9_stores_126) (pc := 126) (K := (kx 144 (fun la st h => gR la 0 fun a0 => gI la 5 fun x5 => gI la 6 fun x6 => sE st (p_X9_stores_144 a0 x5 x6 h)) k0)) (FI := FI_X9_stores) (FV := fV0) (FL := fL0) (rt := rtI) (ft := 144) (by exact hd) ok_X9_stores_126 (kx_ok (fun la st h e => by obtain ⟨a0, m_a0, e1⟩ := gR_inv e; obtain ⟨x5, m_x5, e2⟩ := gI_inv e1; obtain ⟨x6, m_x6, e3⟩ := gI_inv e2; obtain ⟨rfl, ez⟩ := sE_inv e3; exact gm_fewer (e_X9_stores_144 E  a0 x5 x6 h ez) (mem_cons m_a0 (mem_cons m_x5 (mem_cons m_x6 mem_nil)))) k0_ok) (FI_X9_stores_ok E) (fV0_ok E) (fL0_ok E) (rtI_ok rfl)
def I_X9_stores_80 : List AI := [(.aload_n 0, 1, [], 0), (.iconst 1, 1, [], 1), (.putfield 392, 3, [8, 32, 0, 1377], 0), (.aload_n 0, 1, [], 0), (.iconst 0, 1, [], 0), (.iload 6, 2, [], 0), (.invokevirtual 347, 3, [1, 265, 3, 8, 1819], 0), (.istore 8, 2, [], 0), (.aload_n 0, 1, [], 0), (.iconst 1, 1, [], 1), (.iload 6, 2, [], 0), (.invokevirtual 347, 3, [1, 265, 3, 8, 1819], 0), (.istore 9, 2, [], 0), (.iload 8, 2, [], 0), (.iconst (-1), 1, [], (-1)), (.if_icmp .eq 20, 3, [126], 0), (.aload_n 0, 1, [], 0), (.getfield 21, 3, [8, 16, 2, 1361], 0), (.sipush 179, 3, [], 179), (.bipush 8, 2, [], 8), (.iload 8, 2, [], 0), (.imul, 1, [], 0), (.iadd, 1, [], 0), (.iload_n 2, 1, [], 0), (.iadd, 1, [], 0), (.iconst (-1), 1, [], (-1)), (.iastore, 1, [], 0)]
theorem ok_X9_stores_80 : vBL MT qLen qCh false q_X9_stores.2.2.2.2.1 q_X9_stores.2.2.2.2.2.1 q_X9_stores.2.2.1 q_X9_stores.1.cls q_X9_stores.1.name q_X9_stores.2.1 126 80 I_X9_stores_80 = true := by decide +kernel
def p_X9_stores_80 (a0 : Nat) (x2 : Int32) (x5 : Int32) (x6 : Int32) (h : AH) : Option (Int32 × AH) :=
  if (tg h a0).1 = 8 then (let h104 := wI h a0 32 ((1 : Int32))
  if (tg h104 a0).1 = 8 then ((p_X9_tableOf a0 ((0 : Int32)) x6 h104).bind fun q105 =>
  if (tg q105.2 a0).1 = 8 then ((p_X9_tableOf a0 ((1 : Int32)) x6 q105.2).bind fun q106 =>
  if q105.1 = ((-1 : Int32)) then (p_X9_stores_126 a0 x5 x6 q106.1 q106.2)
  else
  if (tg q106.2 a0).1 = 8 then (if inB q106.2 (rR q106.2 a0 16) 100 ((((179 : Int32)) + (((8 : Int32)) * q105.1)) + x2) then (let h107 := wI q106.2 (rR q106.2 a0 16) ((((179 : Int32)) + (((8 : Int32)) * q105.1)) + x2).toNatClampNeg ((-1 : Int32))
  p_X9_stores_126 a0 x5 x6 q106.1 h107) else none) else none) else none) else none) else none
set_option maxRecDepth 100000 in
theorem e_X9_stores_80 {l : Launch} {D : va_G} {dA : Nat → ClassId} {z : Nat} {sa : Nat → Nat} {Hz : Heap} (E : StrOK qLen qCh l D dA z sa Hz) {h0 fin : AH} {x : Int32}  : ∀ (a0 : Nat) (x2 : Int32) (x5 : Int32) (x6 : Int32) (h : AH), p_X9_stores_80 a0 x2 x5 x6 h = some (x, fin) → GM l D dA z sa Hz q_X9_stores h0 (some (.int x)) fin 80 [(0, .ref a0), (2, .int x2), (5, .int x5), (6, .int x6)] [] h := by
  intro a0 x2 x5 x6 h hd
  exact step E (is := I_X9_stores_80) (pc := 80) (K := (kx 126 (fun la st h => gR la 0 fun a0 => gI la 5 fun x5 => gI la 6 fun x6 => gI la 9 fun x9 => sE st (p_X9_stores_126 a0 x5 x6 x9 h)) k0)) (FI := FI_X9_stores) (FV := fV0) (FL := fL0) (rt := rtI) (ft := 126) (by exact hd) ok_X9_stores_80 (kx_ok (fun la st h e => by obtain ⟨a0, m_a0, e1⟩ := gR_inv e; obtain ⟨x5, m_x5, e2⟩ := gI_inv e1; obtain ⟨x6, m_x6, e3⟩ := gI_inv e2; obtain ⟨x9, m_x9, e4⟩ := gI_inv e3; obtain ⟨rfl, ez⟩ := sE_inv e4; exact gm_fewer (e_X9_stores_126 E  a0 x5 x6 x9 h ez) (mem_cons m_a0 (mem_cons m_x5 (mem_cons m_x6 (mem_cons m_x9 mem_nil))))) k0_ok) (FI_X9_stores_ok E) (fV0_ok E) (fL0_ok E) (rtI_ok rfl)
def I_X9_stores_57 : List AI := [(.istore 7, 2, [], 0), (.aload_n 0, 1, [], 0), (.getfield 21, 3, [8, 16, 2, 1361], 0), (.bipush 8, 2, [], 8), (.iload 6, 2, [], 0), (.imul, 1, [], 0), (.iload_n 2, 1, [], 0), (.iadd, 1, [], 0), (.iload_n 3, 1, [], 0), (.iastore, 1, [], 0), (.iload 7, 2, [], 0), (.ifCond .ne 6, 3, [80], 0), (.iload 5, 2, [], 0), (.ireturn, 1, [], 0)]
theorem ok_X9_stores_57 : vBL MT qLen qCh false q_X9_stores.2.2.2.2.1 q_X9_stores.2.2.2.2.2.1 q_X9_stores.2.2.1 q_X9_stores.1.cls q_X9_stores.1.name q_X9_stores.2.1 0 57 I_X9_stores_57 = true := by decide +kernel
def p_X9_stores_57 (a0 : Nat) (x2 : Int32) (x3 : Int32) (x5 : Int32) (x6 : Int32) (y0 : Int32) (h : AH) : Option (Int32 × AH) :=
  if (tg h a0).1 = 8 then (if inB h (rR h a0 16) 100 ((((8 : Int32)) * x6) + x2) then (let h108 := wI h (rR h a0 16) ((((8 : Int32)) * x6) + x2).toNatClampNeg x3
  if y0 = 0 then (some (x5, h108))
  else
  if (tg h108 a0).1 = 8 then (let h109 := wI h108 a0 32 ((1 : Int32))
  if (tg h109 a0).1 = 8 then ((p_X9_tableOf a0 ((0 : Int32)) x6 h109).bind fun q110 =>
  if (tg q110.2 a0).1 = 8 then ((p_X9_tableOf a0 ((1 : Int32)) x6 q110.2).bind fun q111 =>
  if q110.1 = ((-1 : Int32)) then (p_X9_stores_126 a0 x5 x6 q111.1 q111.2)
  else
  if (tg q111.2 a0).1 = 8 then (if inB q111.2 (rR q111.2 a0 16) 100 ((((179 : Int32)) + (((8 : Int32)) * q110.1)) + x2) then (let h112 := wI q111.2 (rR q111.2 a0 16) ((((179 : Int32)) + (((8 : Int32)) * q110.1)) + x2).toNatClampNeg ((-1 : Int32))
  p_X9_stores_126 a0 x5 x6 q111.1 h112) else none) else none) else none) else none) else none) else none) else none
set_option maxRecDepth 100000 in
theorem e_X9_stores_57 {l : Launch} {D : va_G} {dA : Nat → ClassId} {z : Nat} {sa : Nat → Nat} {Hz : Heap} (E : StrOK qLen qCh l D dA z sa Hz) {h0 fin : AH} {x : Int32}  : ∀ (a0 : Nat) (x2 : Int32) (x3 : Int32) (x5 : Int32) (x6 : Int32) (y0 : Int32) (h : AH), p_X9_stores_57 a0 x2 x3 x5 x6 y0 h = some (x, fin) → GM l D dA z sa Hz q_X9_stores h0 (some (.int x)) fin 57 [(0, .ref a0), (2, .int x2), (3, .int x3), (5, .int x5), (6, .int x6)] [.int y0] h := by
  intro a0 x2 x3 x5 x6 y0 h hd
  exact step E (is := I_X9_stores_57) (pc := 57) (K := (kx 80 (fun la st h => gR la 0 fun a0 => gI la 2 fun x2 => gI la 5 fun x5 => gI la 6 fun x6 => sE st (p_X9_stores_80 a0 x2 x5 x6 h)) k0)) (FI := FI_X9_stores) (FV := fV0) (FL := fL0) (rt := rtI) (ft := 0) (by exact hd) ok_X9_stores_57 (kx_ok (fun la st h e => by obtain ⟨a0, m_a0, e1⟩ := gR_inv e; obtain ⟨x2, m_x2, e2⟩ := gI_inv e1; obtain ⟨x5, m_x5, e3⟩ := gI_inv e2; obtain ⟨x6, m_x6, e4⟩ := gI_inv e3; obtain ⟨rfl, ez⟩ := sE_inv e4; exact gm_fewer (e_X9_stores_80 E  a0 x2 x5 x6 h ez) (mem_cons m_a0 (mem_cons m_x2 (mem_cons m_x5 (mem_cons m_x6 mem_nil))))) k0_ok) (FI_X9_stores_ok E) (fV0_ok E) (fL0_ok E) (rtI_ok rfl)
def I_X9_stores_56 : List AI := [(.iconst 0, 1, [], 0)]
theorem ok_X9_stores_56 : vBL MT qLen qCh false q_X9_stores.2.2.2.2.1 q_X9_stores.2.2.2.2.2.1 q_X9_stores.2.2.1 q_X9_stores.1.cls q_X9_stores.1.name q_X9_stores.2.1 57 56 I_X9_stores_56 = true := by decide +kernel
def p_X9_stores_56 (a0 : Nat) (x2 : Int32) (x3 : Int32) (x5 : Int32) (x6 : Int32) (h : AH) : Option (Int32 × AH) :=
  p_X9_stores_57 a0 x2 x3 x5 x6 ((0 : Int32)) h
set_option maxRecDepth 100000 in
theorem e_X9_stores_56 {l : Launch} {D : va_G} {dA : Nat → ClassId} {z : Nat} {sa : Nat → Nat} {Hz : Heap} (E : StrOK qLen qCh l D dA z sa Hz) {h0 fin : AH} {x : Int32}  : ∀ (a0 : Nat) (x2 : Int32) (x3 : Int32) (x5 : Int32) (x6 : Int32) (h : AH), p_X9_stores_56 a0 x2 x3 x5 x6 h = some (x, fin) → GM l D dA z sa Hz q_X9_stores h0 (some (.int x)) fin 56 [(0, .ref a0), (2, .int x2), (3, .int x3), (5, .int x5), (6, .int x6)] [] h := by
  intro a0 x2 x3 x5 x6 h hd
  exact step E (is := I_X9_stores_56) (pc := 56) (K := (kx 57 (fun la st h => gR la 0 fun a0 => gI la 2 fun x2 => gI la 3 fun x3 => gI la 5 fun x5 => gI la 6 fun x6 => sI st fun y0 st => sE st (p_X9_stores_57 a0 x2 x3 x5 x6 y0 h)) k0)) (FI := FI_X9_stores) (FV := fV0) (FL := fL0) (rt := rtI) (ft := 57) (by exact hd) ok_X9_stores_56 (kx_ok (fun la st h e => by obtain ⟨a0, m_a0, e1⟩ := gR_inv e; obtain ⟨x2, m_x2, e2⟩ := gI_inv e1; obtain ⟨x3, m_x3, e3⟩ := gI_inv e2; obtain ⟨x5, m_x5, e4⟩ := gI_inv e3; obtain ⟨x6, m_x6, e5⟩ := gI_inv e4; obtain ⟨y0, _, rfl, e6⟩ := sI_inv e5; obtain ⟨rfl, ez⟩ := sE_inv e6; exact gm_fewer (e_X9_stores_57 E  a0 x2 x3 x5 x6 y0 h ez) (mem_cons m_a0 (mem_cons m_x2 (mem_cons m_x3 (mem_cons m_x5 (mem_cons m_x6 mem_nil)))))) k0_ok) (FI_X9_stores_ok E) (fV0_ok E) (fL0_ok E) (rtI_ok rfl)
def I_X9_stores_23 : List AI := [(.aload_n 0, 1, [], 0), (.getfield 21, 3, [8, 16, 2, 1361], 0), (.aload_n 0, 1, [], 0), (.getfield 369, 3, [8, 30, 0, 1375], 0), (.iaload, 1, [], 0), (.iconst 4, 1, [], 4), (.idiv, 1, [], 0), (.istore 6, 2, [], 0), (.aload_n 0, 1, [], 0), (.getfield 372, 3, [8, 31, 3, 1376], 0), (.ifCond .ne 16, 3, [56], 0), (.aload_n 0, 1, [], 0), (.iload 6, 2, [], 0), (.invokevirtual 386, 3, [1, 283, 2, 8, 1887], 0), (.ifCond .eq 7, 3, [56], 0), (.iconst 1, 1, [], 1), (.goto 4, 3, [57], 0)]
theorem ok_X9_stores_23 : vBL MT qLen qCh false q_X9_stores.2.2.2.2.1 q_X9_stores.2.2.2.2.2.1 q_X9_stores.2.2.1 q_X9_stores.1.cls q_X9_stores.1.name q_X9_stores.2.1 0 23 I_X9_stores_23 = true := by decide +kernel
def p_X9_stores_23 (a0 : Nat) (x2 : Int32) (x3 : Int32) (x5 : Int32) (h : AH) : Option (Int32 × AH) :=
  if (tg h a0).1 = 8 then (if (tg h a0).1 = 8 then (if inB h (rR h a0 16) 100 (rI h a0 30) then (if ((4 : Int32)) = 0 then none else
  let x113 := (rI h (rR h a0 16) (rI h a0 30).toNatClampNeg) / ((4 : Int32))
  if (tg h a0).1 = 8 then (if (rI h a0 31) = 0 then (if (tg h a0).1 = 8 then ((p_X9_isWatched a0 x113 h).bind fun q114 =>
  if q114.1 = 0 then (p_X9_stores_56 a0 x2 x3 x5 x113 q114.2)
  else
  p_X9_stores_57 a0 x2 x3 x5 x113 ((1 : Int32)) q114.2) else none)
  else
  p_X9_stores_56 a0 x2 x3 x5 x113 h) else none) else none) else none) else none
set_option maxRecDepth 100000 in
theorem e_X9_stores_23 {l : Launch} {D : va_G} {dA : Nat → ClassId} {z : Nat} {sa : Nat → Nat} {Hz : Heap} (E : StrOK qLen qCh l D dA z sa Hz) {h0 fin : AH} {x : Int32}  : ∀ (a0 : Nat) (x2 : Int32) (x3 : Int32) (x5 : Int32) (h : AH), p_X9_stores_23 a0 x2 x3 x5 h = some (x, fin) → GM l D dA z sa Hz q_X9_stores h0 (some (.int x)) fin 23 [(0, .ref a0), (2, .int x2), (3, .int x3), (5, .int x5)] [] h := by
  intro a0 x2 x3 x5 h hd
  exact step E (is := I_X9_stores_23) (pc := 23) (K := (kx 56 (fun la st h => gR la 0 fun a0 => gI la 2 fun x2 => gI la 3 fun x3 => gI la 5 fun x5 => gI la 6 fun x6 => sE st (p_X9_stores_56 a0 x2 x3 x5 x6 h)) (kx 57 (fun la st h => gR la 0 fun a0 => gI la 2 fun x2 => gI la 3 fun x3 => gI la 5 fun x5 => gI la 6 fun x6 => sI st fun y0 st => sE st (p_X9_stores_57 a0 x2 x3 x5 x6 y0 h)) k0))) (FI := FI_X9_stores) (FV := fV0) (FL := fL0) (rt := rtI) (ft := 0) (by exact hd) ok_X9_stores_23 (kx_ok (fun la st h e => by obtain ⟨a0, m_a0, e1⟩ := gR_inv e; obtain ⟨x2, m_x2, e2⟩ := gI_inv e1; obtain ⟨x3, m_x3, e3⟩ := gI_inv e2; obtain ⟨x5, m_x5, e4⟩ := gI_inv e3; obtain ⟨x6, m_x6, e5⟩ := gI_inv e4; obtain ⟨rfl, ez⟩ := sE_inv e5; exact gm_fewer (e_X9_stores_56 E  a0 x2 x3 x5 x6 h ez) (mem_cons m_a0 (mem_cons m_x2 (mem_cons m_x3 (mem_cons m_x5 (mem_cons m_x6 mem_nil)))))) (kx_ok (fun la st h e => by obtain ⟨a0, m_a0, e1⟩ := gR_inv e; obtain ⟨x2, m_x2, e2⟩ := gI_inv e1; obtain ⟨x3, m_x3, e3⟩ := gI_inv e2; obtain ⟨x5, m_x5, e4⟩ := gI_inv e3; obtain ⟨x6, m_x6, e5⟩ := gI_inv e4; obtain ⟨y0, _, rfl, e6⟩ := sI_inv e5; obtain ⟨rfl, ez⟩ := sE_inv e6; exact gm_fewer (e_X9_stores_57 E  a0 x2 x3 x5 x6 y0 h ez) (mem_cons m_a0 (mem_cons m_x2 (mem_cons m_x3 (mem_cons m_x5 (mem_cons m_x6 mem_nil)))))) k0_ok)) (FI_X9_stores_ok E) (fV0_ok E) (fL0_ok E) (rtI_ok rfl)
def I_X9_stores_0 : List AI := [(.aload_n 0, 1, [], 0), (.iload_n 1, 1, [], 0), (.iconst 1, 1, [], 1), (.iload 4, 2, [], 0), (.invokevirtual 389, 3, [1, 294, 4, 8, 1919], 0), (.istore 5, 2, [], 0), (.aload_n 0, 1, [], 0), (.iconst 0, 1, [], 0), (.putfield 392, 3, [8, 32, 0, 1377], 0), (.iload 5, 2, [], 0), (.ifCond .ge 6, 3, [23], 0), (.iload 5, 2, [], 0), (.ireturn, 1, [], 0)]
theorem ok_X9_stores_0 : vBL MT qLen qCh false q_X9_stores.2.2.2.2.1 q_X9_stores.2.2.2.2.2.1 q_X9_stores.2.2.1 q_X9_stores.1.cls q_X9_stores.1.name q_X9_stores.2.1 0 0 I_X9_stores_0 = true := by decide +kernel
def p_X9_stores (a0 : Nat) (x1 : Int32) (x2 : Int32) (x3 : Int32) (x4 : Int32) (h : AH) : Option (Int32 × AH) :=
  if (tg h a0).1 = 8 then ((p_X9_reaches a0 x1 ((1 : Int32)) x4 h).bind fun q115 =>
  if (tg q115.2 a0).1 = 8 then (let h116 := wI q115.2 a0 32 ((0 : Int32))
  if q115.1 < 0 then (some (q115.1, h116))
  else
  if (tg h116 a0).1 = 8 then (if (tg h116 a0).1 = 8 then (if inB h116 (rR h116 a0 16) 100 (rI h116 a0 30) then (if ((4 : Int32)) = 0 then none else
  let x117 := (rI h116 (rR h116 a0 16) (rI h116 a0 30).toNatClampNeg) / ((4 : Int32))
  if (tg h116 a0).1 = 8 then (if (rI h116 a0 31) = 0 then (if (tg h116 a0).1 = 8 then ((p_X9_isWatched a0 x117 h116).bind fun q118 =>
  if q118.1 = 0 then (p_X9_stores_56 a0 x2 x3 q115.1 x117 q118.2)
  else
  p_X9_stores_57 a0 x2 x3 q115.1 x117 ((1 : Int32)) q118.2) else none)
  else
  p_X9_stores_56 a0 x2 x3 q115.1 x117 h116) else none) else none) else none) else none) else none) else none
set_option maxRecDepth 100000 in
theorem e_X9_stores_0 {l : Launch} {D : va_G} {dA : Nat → ClassId} {z : Nat} {sa : Nat → Nat} {Hz : Heap} (E : StrOK qLen qCh l D dA z sa Hz) {h0 fin : AH} {x : Int32}  : ∀ (a0 : Nat) (x1 : Int32) (x2 : Int32) (x3 : Int32) (x4 : Int32) (h : AH), p_X9_stores a0 x1 x2 x3 x4 h = some (x, fin) → GM l D dA z sa Hz q_X9_stores h0 (some (.int x)) fin 0 [(0, .ref a0), (1, .int x1), (2, .int x2), (3, .int x3), (4, .int x4)] [] h := by
  intro a0 x1 x2 x3 x4 h hd
  exact step E (is := I_X9_stores_0) (pc := 0) (K := (kx 23 (fun la st h => gR la 0 fun a0 => gI la 2 fun x2 => gI la 3 fun x3 => gI la 5 fun x5 => sE st (p_X9_stores_23 a0 x2 x3 x5 h)) k0)) (FI := FI_X9_stores) (FV := fV0) (FL := fL0) (rt := rtI) (ft := 0) (by exact hd) ok_X9_stores_0 (kx_ok (fun la st h e => by obtain ⟨a0, m_a0, e1⟩ := gR_inv e; obtain ⟨x2, m_x2, e2⟩ := gI_inv e1; obtain ⟨x3, m_x3, e3⟩ := gI_inv e2; obtain ⟨x5, m_x5, e4⟩ := gI_inv e3; obtain ⟨rfl, ez⟩ := sE_inv e4; exact gm_fewer (e_X9_stores_23 E  a0 x2 x3 x5 h ez) (mem_cons m_a0 (mem_cons m_x2 (mem_cons m_x3 (mem_cons m_x5 mem_nil))))) k0_ok) (FI_X9_stores_ok E) (fV0_ok E) (fL0_ok E) (rtI_ok rfl)
theorem c_X9_stores {l : Launch} {D : va_G} {dA : Nat → ClassId} {z : Nat} {sa : Nat → Nat} {Hz : Heap} (E : StrOK qLen qCh l D dA z sa Hz) {a0 : Nat} {x1 : Int32} {x2 : Int32} {x3 : Int32} {x4 : Int32} {h fin : AH} {x : Int32} (hd : p_X9_stores a0 x1 x2 x3 x4 h = some (x, fin)) : CalOK l D dA z sa Hz q_X9_stores [.ref a0, .int x1, .int x2, .int x3, .int x4] h (some (.int x)) fin := calOf (by decide +kernel) (Nat.le_of_ble_eq_true rfl) (e_X9_stores_0 E a0 x1 x2 x3 x4 h hd)
def FI_X9_store : Nat → List Value → AH → Option (Int32 × AH) := (cx 250 (fun As h => sR As fun a0 As => sI As fun x1 As => sE As (p_X9_isAsked a0 x1 h)) (cx 211 (fun As h => sI As fun x0 As => sI As fun x1 As => sI As fun x2 As => sE As (p_X9_in x0 x1 x2 h)) (cx 201 (fun As h => sR As fun a0 As => sI As fun x1 As => sE As (p_X9_refused a0 x1 h)) (cx 321 (fun As h => sR As fun a0 As => sI As fun x1 As => sI As fun x2 As => sI As fun x3 As => sI As fun x4 As => sE As (p_X9_stores a0 x1 x2 x3 x4 h)) (cx 319 (fun As h => sR As fun a0 As => sI As fun x1 As => sE As (p_X9_counted a0 x1 h)) fI0)))))
theorem FI_X9_store_ok {l : Launch} {D : va_G} {dA : Nat → ClassId} {z : Nat} {sa : Nat → Nat} {Hz : Heap} (E : StrOK qLen qCh l D dA z sa Hz) : ∀ mi As h x h', FI_X9_store mi As h = some (x, h') → CalOK l D dA z sa Hz (MT mi) As h (some (.int x)) h' := (cxI_ok (fun As h x h2 e => by obtain ⟨_, _, rfl, e0⟩ := sR_inv e; obtain ⟨_, _, rfl, e1⟩ := sI_inv e0; obtain ⟨rfl, ez⟩ := sE_inv e1; exact c_X9_isAsked E ez) ((cxI_ok (fun As h x h2 e => by obtain ⟨_, _, rfl, e0⟩ := sI_inv e; obtain ⟨_, _, rfl, e1⟩ := sI_inv e0; obtain ⟨_, _, rfl, e2⟩ := sI_inv e1; obtain ⟨rfl, ez⟩ := sE_inv e2; exact c_X9_in E ez) ((cxI_ok (fun As h x h2 e => by obtain ⟨_, _, rfl, e0⟩ := sR_inv e; obtain ⟨_, _, rfl, e1⟩ := sI_inv e0; obtain ⟨rfl, ez⟩ := sE_inv e1; exact c_X9_refused E ez) ((cxI_ok (fun As h x h2 e => by obtain ⟨_, _, rfl, e0⟩ := sR_inv e; obtain ⟨_, _, rfl, e1⟩ := sI_inv e0; obtain ⟨_, _, rfl, e2⟩ := sI_inv e1; obtain ⟨_, _, rfl, e3⟩ := sI_inv e2; obtain ⟨_, _, rfl, e4⟩ := sI_inv e3; obtain ⟨rfl, ez⟩ := sE_inv e4; exact c_X9_stores E ez) ((cxI_ok (fun As h x h2 e => by obtain ⟨_, _, rfl, e0⟩ := sR_inv e; obtain ⟨_, _, rfl, e1⟩ := sI_inv e0; obtain ⟨rfl, ez⟩ := sE_inv e1; exact c_X9_counted E ez) (fI0_ok E))))))))))
def FV_X9_store : Nat → List Value → AH → Option (AH) := (cx 318 (fun As h => sR As fun a0 As => sE As (p_X9_remembers a0 h)) fV0)
theorem FV_X9_store_ok {l : Launch} {D : va_G} {dA : Nat → ClassId} {z : Nat} {sa : Nat → Nat} {Hz : Heap} (E : StrOK qLen qCh l D dA z sa Hz) : ∀ mi As h h', FV_X9_store mi As h = some h' → CalOK l D dA z sa Hz (MT mi) As h none h' := (cxV_ok (fun As h h2 e => by obtain ⟨_, _, rfl, e0⟩ := sR_inv e; obtain ⟨rfl, ez⟩ := sE_inv e0; exact c_X9_remembers E ez) (fV0_ok E))
def I_X9_store_23 : List AI := [(.aload_n 0, 1, [], 0), (.iconst 1, 1, [], 1), (.invokevirtual 39, 3, [1, 201, 2, 8, 1481], 0), (.ireturn, 1, [], 0)]
theorem ok_X9_store_23 : vBL MT qLen qCh false q_X9_store.2.2.2.2.1 q_X9_store.2.2.2.2.2.1 q_X9_store.2.2.1 q_X9_store.1.cls q_X9_store.1.name q_X9_store.2.1 0 23 I_X9_store_23 = true := by decide +kernel
def p_X9_store_23 (a0 : Nat) (h : AH) : Option (Int32 × AH) :=
  if (tg h a0).1 = 8 then ((p_X9_refused a0 ((1 : Int32)) h).bind fun q101 =>
  some (q101.1, q101.2)) else none
set_option maxRecDepth 100000 in
theorem e_X9_store_23 {l : Launch} {D : va_G} {dA : Nat → ClassId} {z : Nat} {sa : Nat → Nat} {Hz : Heap} (E : StrOK qLen qCh l D dA z sa Hz) {h0 fin : AH} {x : Int32}  : ∀ (a0 : Nat) (h : AH), p_X9_store_23 a0 h = some (x, fin) → GM l D dA z sa Hz q_X9_store h0 (some (.int x)) fin 23 [(0, .ref a0)] [] h := by
  intro a0 h hd
  exact step E (is := I_X9_store_23) (pc := 23) (K := k0) (FI := FI_X9_store) (FV := FV_X9_store) (FL := fL0) (rt := rtI) (ft := 0) (by exact hd) ok_X9_store_23 k0_ok (FI_X9_store_ok E) (FV_X9_store_ok E) (fL0_ok E) (rtI_ok rfl)
def I_X9_store_46 : List AI := [(.aload_n 0, 1, [], 0), (.invokevirtual 480, 3, [2, 318, 1, 8, 2030], 0), (.aload_n 0, 1, [], 0), (.iload_n 1, 1, [], 0), (.iload_n 2, 1, [], 0), (.iload_n 3, 1, [], 0), (.iload 4, 2, [], 0), (.invokevirtual 486, 3, [1, 321, 5, 8, 2042], 0), (.istore 5, 2, [], 0), (.aload_n 0, 1, [], 0), (.dup, 1, [], 0), (.getfield 282, 3, [8, 22, 0, 1367], 0), (.aload_n 0, 1, [], 0), (.getfield 392, 3, [8, 32, 0, 1377], 0), (.iadd, 1, [], 0), (.putfield 282, 3, [8, 22, 0, 1367], 0), (.aload_n 0, 1, [], 0), (.iload 5, 2, [], 0), (.invokevirtual 483, 3, [1, 319, 2, 8, 2034], 0), (.ireturn, 1, [], 0)]
theorem ok_X9_store_46 : vBL MT qLen qCh false q_X9_store.2.2.2.2.1 q_X9_store.2.2.2.2.2.1 q_X9_store.2.2.1 q_X9_store.1.cls q_X9_store.1.name q_X9_store.2.1 0 46 I_X9_store_46 = true := by decide +kernel
def p_X9_store_46 (a0 : Nat) (x1 : Int32) (x2 : Int32) (x3 : Int32) (x4 : Int32) (h : AH) : Option (Int32 × AH) :=
  if (tg h a0).1 = 8 then ((p_X9_remembers a0 h).bind fun h102 =>
  if (tg h102 a0).1 = 8 then ((p_X9_stores a0 x1 x2 x3 x4 h102).bind fun q103 =>
  if (tg q103.2 a0).1 = 8 then (if (tg q103.2 a0).1 = 8 then (if (tg q103.2 a0).1 = 8 then (let h104 := wI q103.2 a0 22 ((rI q103.2 a0 22) + (rI q103.2 a0 32))
  if (tg h104 a0).1 = 8 then ((p_X9_counted a0 q103.1 h104).bind fun q105 =>
  some (q105.1, q105.2)) else none) else none) else none) else none) else none) else none
set_option maxRecDepth 100000 in
theorem e_X9_store_46 {l : Launch} {D : va_G} {dA : Nat → ClassId} {z : Nat} {sa : Nat → Nat} {Hz : Heap} (E : StrOK qLen qCh l D dA z sa Hz) {h0 fin : AH} {x : Int32}  : ∀ (a0 : Nat) (x1 : Int32) (x2 : Int32) (x3 : Int32) (x4 : Int32) (h : AH), p_X9_store_46 a0 x1 x2 x3 x4 h = some (x, fin) → GM l D dA z sa Hz q_X9_store h0 (some (.int x)) fin 46 [(0, .ref a0), (1, .int x1), (2, .int x2), (3, .int x3), (4, .int x4)] [] h := by
  intro a0 x1 x2 x3 x4 h hd
  exact step E (is := I_X9_store_46) (pc := 46) (K := k0) (FI := FI_X9_store) (FV := FV_X9_store) (FL := fL0) (rt := rtI) (ft := 0) (by exact hd) ok_X9_store_46 k0_ok (FI_X9_store_ok E) (FV_X9_store_ok E) (fL0_ok E) (rtI_ok rfl)
def I_X9_store_29 : List AI := [(.iload_n 3, 1, [], 0), (.iconst 0, 1, [], 0), (.sipush 4095, 3, [], 4095), (.invokestatic 112, 3, [1, 211, 3, 1612], 0), (.ifCond .ne 9, 3, [46], 0), (.aload_n 0, 1, [], 0), (.iconst 2, 1, [], 2), (.invokevirtual 39, 3, [1, 201, 2, 8, 1481], 0), (.ireturn, 1, [], 0)]
theorem ok_X9_store_29 : vBL MT qLen qCh false q_X9_store.2.2.2.2.1 q_X9_store.2.2.2.2.2.1 q_X9_store.2.2.1 q_X9_store.1.cls q_X9_store.1.name q_X9_store.2.1 0 29 I_X9_store_29 = true := by decide +kernel
def p_X9_store_29 (a0 : Nat) (x1 : Int32) (x2 : Int32) (x3 : Int32) (x4 : Int32) (h : AH) : Option (Int32 × AH) :=
  (p_X9_in x3 ((0 : Int32)) ((4095 : Int32)) h).bind fun q106 =>
  if q106.1 = 0 then (if (tg q106.2 a0).1 = 8 then ((p_X9_refused a0 ((2 : Int32)) q106.2).bind fun q111 =>
  some (q111.1, q111.2)) else none)
  else
  if (tg q106.2 a0).1 = 8 then ((p_X9_remembers a0 q106.2).bind fun h107 =>
  if (tg h107 a0).1 = 8 then ((p_X9_stores a0 x1 x2 x3 x4 h107).bind fun q108 =>
  if (tg q108.2 a0).1 = 8 then (if (tg q108.2 a0).1 = 8 then (if (tg q108.2 a0).1 = 8 then (let h109 := wI q108.2 a0 22 ((rI q108.2 a0 22) + (rI q108.2 a0 32))
  if (tg h109 a0).1 = 8 then ((p_X9_counted a0 q108.1 h109).bind fun q110 =>
  some (q110.1, q110.2)) else none) else none) else none) else none) else none) else none
set_option maxRecDepth 100000 in
theorem e_X9_store_29 {l : Launch} {D : va_G} {dA : Nat → ClassId} {z : Nat} {sa : Nat → Nat} {Hz : Heap} (E : StrOK qLen qCh l D dA z sa Hz) {h0 fin : AH} {x : Int32}  : ∀ (a0 : Nat) (x1 : Int32) (x2 : Int32) (x3 : Int32) (x4 : Int32) (h : AH), p_X9_store_29 a0 x1 x2 x3 x4 h = some (x, fin) → GM l D dA z sa Hz q_X9_store h0 (some (.int x)) fin 29 [(0, .ref a0), (1, .int x1), (2, .int x2), (3, .int x3), (4, .int x4)] [] h := by
  intro a0 x1 x2 x3 x4 h hd
  exact step E (is := I_X9_store_29) (pc := 29) (K := (kx 46 (fun la st h => gR la 0 fun a0 => gI la 1 fun x1 => gI la 2 fun x2 => gI la 3 fun x3 => gI la 4 fun x4 => sE st (p_X9_store_46 a0 x1 x2 x3 x4 h)) k0)) (FI := FI_X9_store) (FV := FV_X9_store) (FL := fL0) (rt := rtI) (ft := 0) (by exact hd) ok_X9_store_29 (kx_ok (fun la st h e => by obtain ⟨a0, m_a0, e1⟩ := gR_inv e; obtain ⟨x1, m_x1, e2⟩ := gI_inv e1; obtain ⟨x2, m_x2, e3⟩ := gI_inv e2; obtain ⟨x3, m_x3, e4⟩ := gI_inv e3; obtain ⟨x4, m_x4, e5⟩ := gI_inv e4; obtain ⟨rfl, ez⟩ := sE_inv e5; exact gm_fewer (e_X9_store_46 E  a0 x1 x2 x3 x4 h ez) (mem_cons m_a0 (mem_cons m_x1 (mem_cons m_x2 (mem_cons m_x3 (mem_cons m_x4 mem_nil)))))) k0_ok) (FI_X9_store_ok E) (FV_X9_store_ok E) (fL0_ok E) (rtI_ok rfl)
def I_X9_store_0 : List AI := [(.aload_n 0, 1, [], 0), (.iconst 0, 1, [], 0), (.putfield 33, 3, [8, 0, 0, 1345], 0), (.aload_n 0, 1, [], 0), (.iload_n 1, 1, [], 0), (.invokevirtual 404, 3, [1, 250, 2, 8, 1756], 0), (.ifCond .eq 13, 3, [23], 0), (.iload_n 2, 1, [], 0), (.iconst 0, 1, [], 0), (.bipush 7, 2, [], 7), (.invokestatic 112, 3, [1, 211, 3, 1612], 0), (.ifCond .ne 9, 3, [29], 0)]
theorem ok_X9_store_0 : vBL MT qLen qCh false q_X9_store.2.2.2.2.1 q_X9_store.2.2.2.2.2.1 q_X9_store.2.2.1 q_X9_store.1.cls q_X9_store.1.name q_X9_store.2.1 23 0 I_X9_store_0 = true := by decide +kernel
def p_X9_store (a0 : Nat) (x1 : Int32) (x2 : Int32) (x3 : Int32) (x4 : Int32) (h : AH) : Option (Int32 × AH) :=
  if (tg h a0).1 = 8 then (let h112 := wI h a0 0 ((0 : Int32))
  if (tg h112 a0).1 = 8 then ((p_X9_isAsked a0 x1 h112).bind fun q113 =>
  if q113.1 = 0 then (p_X9_store_23 a0 q113.2)
  else
  (p_X9_in x2 ((0 : Int32)) ((7 : Int32)) q113.2).bind fun q114 =>
  if q114.1 = 0 then (p_X9_store_23 a0 q114.2)
  else
  (p_X9_in x3 ((0 : Int32)) ((4095 : Int32)) q114.2).bind fun q115 =>
  if q115.1 = 0 then (if (tg q115.2 a0).1 = 8 then ((p_X9_refused a0 ((2 : Int32)) q115.2).bind fun q120 =>
  some (q120.1, q120.2)) else none)
  else
  if (tg q115.2 a0).1 = 8 then ((p_X9_remembers a0 q115.2).bind fun h116 =>
  if (tg h116 a0).1 = 8 then ((p_X9_stores a0 x1 x2 x3 x4 h116).bind fun q117 =>
  if (tg q117.2 a0).1 = 8 then (if (tg q117.2 a0).1 = 8 then (if (tg q117.2 a0).1 = 8 then (let h118 := wI q117.2 a0 22 ((rI q117.2 a0 22) + (rI q117.2 a0 32))
  if (tg h118 a0).1 = 8 then ((p_X9_counted a0 q117.1 h118).bind fun q119 =>
  some (q119.1, q119.2)) else none) else none) else none) else none) else none) else none) else none) else none
set_option maxRecDepth 100000 in
theorem e_X9_store_0 {l : Launch} {D : va_G} {dA : Nat → ClassId} {z : Nat} {sa : Nat → Nat} {Hz : Heap} (E : StrOK qLen qCh l D dA z sa Hz) {h0 fin : AH} {x : Int32}  : ∀ (a0 : Nat) (x1 : Int32) (x2 : Int32) (x3 : Int32) (x4 : Int32) (h : AH), p_X9_store a0 x1 x2 x3 x4 h = some (x, fin) → GM l D dA z sa Hz q_X9_store h0 (some (.int x)) fin 0 [(0, .ref a0), (1, .int x1), (2, .int x2), (3, .int x3), (4, .int x4)] [] h := by
  intro a0 x1 x2 x3 x4 h hd
  exact step E (is := I_X9_store_0) (pc := 0) (K := (kx 23 (fun la st h => gR la 0 fun a0 => sE st (p_X9_store_23 a0 h)) (kx 29 (fun la st h => gR la 0 fun a0 => gI la 1 fun x1 => gI la 2 fun x2 => gI la 3 fun x3 => gI la 4 fun x4 => sE st (p_X9_store_29 a0 x1 x2 x3 x4 h)) k0))) (FI := FI_X9_store) (FV := FV_X9_store) (FL := fL0) (rt := rtI) (ft := 23) (by exact hd) ok_X9_store_0 (kx_ok (fun la st h e => by obtain ⟨a0, m_a0, e1⟩ := gR_inv e; obtain ⟨rfl, ez⟩ := sE_inv e1; exact gm_fewer (e_X9_store_23 E  a0 h ez) (mem_cons m_a0 mem_nil)) (kx_ok (fun la st h e => by obtain ⟨a0, m_a0, e1⟩ := gR_inv e; obtain ⟨x1, m_x1, e2⟩ := gI_inv e1; obtain ⟨x2, m_x2, e3⟩ := gI_inv e2; obtain ⟨x3, m_x3, e4⟩ := gI_inv e3; obtain ⟨x4, m_x4, e5⟩ := gI_inv e4; obtain ⟨rfl, ez⟩ := sE_inv e5; exact gm_fewer (e_X9_store_29 E  a0 x1 x2 x3 x4 h ez) (mem_cons m_a0 (mem_cons m_x1 (mem_cons m_x2 (mem_cons m_x3 (mem_cons m_x4 mem_nil)))))) k0_ok)) (FI_X9_store_ok E) (FV_X9_store_ok E) (fL0_ok E) (rtI_ok rfl)
theorem c_X9_store {l : Launch} {D : va_G} {dA : Nat → ClassId} {z : Nat} {sa : Nat → Nat} {Hz : Heap} (E : StrOK qLen qCh l D dA z sa Hz) {a0 : Nat} {x1 : Int32} {x2 : Int32} {x3 : Int32} {x4 : Int32} {h fin : AH} {x : Int32} (hd : p_X9_store a0 x1 x2 x3 x4 h = some (x, fin)) : CalOK l D dA z sa Hz q_X9_store [.ref a0, .int x1, .int x2, .int x3, .int x4] h (some (.int x)) fin := calOf (by decide +kernel) (Nat.le_of_ble_eq_true rfl) (e_X9_store_0 E a0 x1 x2 x3 x4 h hd)
def FI_X9_steps : Nat → List Value → AH → Option (Int32 × AH) := (cx 247 (fun As h => sI As fun x0 As => sI As fun x1 As => sE As (p_X9_has x0 x1 h)) (cx 254 (fun As h => sI As fun x0 As => sE As (p_X9_tells x0 h)) fI0))
theorem FI_X9_steps_ok {l : Launch} {D : va_G} {dA : Nat → ClassId} {z : Nat} {sa : Nat → Nat} {Hz : Heap} (E : StrOK qLen qCh l D dA z sa Hz) : ∀ mi As h x h', FI_X9_steps mi As h = some (x, h') → CalOK l D dA z sa Hz (MT mi) As h (some (.int x)) h' := (cxI_ok (fun As h x h2 e => by obtain ⟨_, _, rfl, e0⟩ := sI_inv e; obtain ⟨_, _, rfl, e1⟩ := sI_inv e0; obtain ⟨rfl, ez⟩ := sE_inv e1; exact c_X9_has E ez) ((cxI_ok (fun As h x h2 e => by obtain ⟨_, _, rfl, e0⟩ := sI_inv e; obtain ⟨rfl, ez⟩ := sE_inv e0; exact c_X9_tells E ez) (fI0_ok E))))
def I_X9_steps_147 : List AI := [(.return_, 1, [], 0)]
theorem ok_X9_steps_147 : vBL MT qLen qCh false q_X9_steps.2.2.2.2.1 q_X9_steps.2.2.2.2.2.1 q_X9_steps.2.2.1 q_X9_steps.1.cls q_X9_steps.1.name q_X9_steps.2.1 0 147 I_X9_steps_147 = true := by decide +kernel
def p_X9_steps_147 (h : AH) : Option (AH) :=
  some h
set_option maxRecDepth 100000 in
theorem e_X9_steps_147 {l : Launch} {D : va_G} {dA : Nat → ClassId} {z : Nat} {sa : Nat → Nat} {Hz : Heap} (E : StrOK qLen qCh l D dA z sa Hz) {h0 fin : AH}  : ∀  (h : AH), p_X9_steps_147 h = some fin → GM l D dA z sa Hz q_X9_steps h0 none fin 147 [] [] h := by
  intro h hd
  exact step E (is := I_X9_steps_147) (pc := 147) (K := k0) (FI := FI_X9_steps) (FV := fV0) (FL := fL0) (rt := rtV) (ft := 0) (by exact hd) ok_X9_steps_147 k0_ok (FI_X9_steps_ok E) (fV0_ok E) (fL0_ok E) (rtV_ok rfl)
def I_X9_steps_141 : List AI := [(.iinc 2 1, 3, [], 1), (.goto (-131), 3, [13], 0)]
theorem ok_X9_steps_141 : vBL MT qLen qCh false q_X9_steps.2.2.2.2.1 q_X9_steps.2.2.2.2.2.1 q_X9_steps.2.2.1 q_X9_steps.1.cls q_X9_steps.1.name q_X9_steps.2.1 0 141 I_X9_steps_141 = true := by decide +kernel
def p_X9_steps_141 (k13 : Nat → Int32 → Int32 → AH → Option (AH)) (a0 : Nat) (x1 : Int32) (x2 : Int32) (h : AH) : Option (AH) :=
  k13 a0 x1 (x2 + (1 : Int32)) h
set_option maxRecDepth 100000 in
theorem e_X9_steps_141 {l : Launch} {D : va_G} {dA : Nat → ClassId} {z : Nat} {sa : Nat → Nat} {Hz : Heap} (E : StrOK qLen qCh l D dA z sa Hz) {h0 fin : AH}  {k13 : Nat → Int32 → Int32 → AH → Option (AH)} (hk13 : ∀ (a0 : Nat) (x1 : Int32) (x2 : Int32) (h : AH), k13 a0 x1 x2 h = some fin → GM l D dA z sa Hz q_X9_steps h0 none fin 13 [(0, .ref a0), (1, .int x1), (2, .int x2)] [] h) : ∀ (a0 : Nat) (x1 : Int32) (x2 : Int32) (h : AH), p_X9_steps_141 k13 a0 x1 x2 h = some fin → GM l D dA z sa Hz q_X9_steps h0 none fin 141 [(0, .ref a0), (1, .int x1), (2, .int x2)] [] h := by
  intro a0 x1 x2 h hd
  exact step E (is := I_X9_steps_141) (pc := 141) (K := (kx 13 (fun la st h => gR la 0 fun a0 => gI la 1 fun x1 => gI la 2 fun x2 => sE st (k13 a0 x1 x2 h)) k0)) (FI := FI_X9_steps) (FV := fV0) (FL := fL0) (rt := rtV) (ft := 0) (by exact hd) ok_X9_steps_141 (kx_ok (fun la st h e => by obtain ⟨a0, m_a0, e1⟩ := gR_inv e; obtain ⟨x1, m_x1, e2⟩ := gI_inv e1; obtain ⟨x2, m_x2, e3⟩ := gI_inv e2; obtain ⟨rfl, ez⟩ := sE_inv e3; exact gm_fewer (hk13 a0 x1 x2 h ez) (mem_cons m_a0 (mem_cons m_x1 (mem_cons m_x2 mem_nil)))) k0_ok) (FI_X9_steps_ok E) (fV0_ok E) (fL0_ok E) (rtV_ok rfl)
def I_X9_steps_90 : List AI := [(.aload_n 0, 1, [], 0), (.getfield 21, 3, [8, 16, 2, 1361], 0), (.iload_n 3, 1, [], 0), (.iconst (-1), 1, [], (-1)), (.iastore, 1, [], 0), (.goto 44, 3, [141], 0)]
theorem ok_X9_steps_90 : vBL MT qLen qCh false q_X9_steps.2.2.2.2.1 q_X9_steps.2.2.2.2.2.1 q_X9_steps.2.2.1 q_X9_steps.1.cls q_X9_steps.1.name q_X9_steps.2.1 0 90 I_X9_steps_90 = true := by decide +kernel
def p_X9_steps_90 (k13 : Nat → Int32 → Int32 → AH → Option (AH)) (a0 : Nat) (x1 : Int32) (x2 : Int32) (x3 : Int32) (h : AH) : Option (AH) :=
  if (tg h a0).1 = 8 then (if inB h (rR h a0 16) 100 x3 then (let h101 := wI h (rR h a0 16) x3.toNatClampNeg ((-1 : Int32))
  p_X9_steps_141 k13 a0 x1 x2 h101) else none) else none
set_option maxRecDepth 100000 in
theorem e_X9_steps_90 {l : Launch} {D : va_G} {dA : Nat → ClassId} {z : Nat} {sa : Nat → Nat} {Hz : Heap} (E : StrOK qLen qCh l D dA z sa Hz) {h0 fin : AH}  {k13 : Nat → Int32 → Int32 → AH → Option (AH)} (hk13 : ∀ (a0 : Nat) (x1 : Int32) (x2 : Int32) (h : AH), k13 a0 x1 x2 h = some fin → GM l D dA z sa Hz q_X9_steps h0 none fin 13 [(0, .ref a0), (1, .int x1), (2, .int x2)] [] h) : ∀ (a0 : Nat) (x1 : Int32) (x2 : Int32) (x3 : Int32) (h : AH), p_X9_steps_90 k13 a0 x1 x2 x3 h = some fin → GM l D dA z sa Hz q_X9_steps h0 none fin 90 [(0, .ref a0), (1, .int x1), (2, .int x2), (3, .int x3)] [] h := by
  intro a0 x1 x2 x3 h hd
  exact step E (is := I_X9_steps_90) (pc := 90) (K := (kx 141 (fun la st h => gR la 0 fun a0 => gI la 1 fun x1 => gI la 2 fun x2 => sE st (p_X9_steps_141 k13 a0 x1 x2 h)) k0)) (FI := FI_X9_steps) (FV := fV0) (FL := fL0) (rt := rtV) (ft := 0) (by exact hd) ok_X9_steps_90 (kx_ok (fun la st h e => by obtain ⟨a0, m_a0, e1⟩ := gR_inv e; obtain ⟨x1, m_x1, e2⟩ := gI_inv e1; obtain ⟨x2, m_x2, e3⟩ := gI_inv e2; obtain ⟨rfl, ez⟩ := sE_inv e3; exact gm_fewer (e_X9_steps_141 E hk13 a0 x1 x2 h ez) (mem_cons m_a0 (mem_cons m_x1 (mem_cons m_x2 mem_nil)))) k0_ok) (FI_X9_steps_ok E) (fV0_ok E) (fL0_ok E) (rtV_ok rfl)
def I_X9_steps_120 : List AI := [(.iload 4, 2, [], 0), (.bipush 18, 2, [], 18), (.invokestatic 316, 3, [1, 247, 2, 1749], 0), (.ifCond .ne 14, 3, [141], 0), (.aload_n 0, 1, [], 0), (.getfield 21, 3, [8, 16, 2, 1361], 0), (.iload_n 3, 1, [], 0), (.dup2, 1, [], 0), (.iaload, 1, [], 0), (.bipush (-3), 2, [], (-3)), (.iand, 1, [], 0), (.iastore, 1, [], 0)]
theorem ok_X9_steps_120 : vBL MT qLen qCh false q_X9_steps.2.2.2.2.1 q_X9_steps.2.2.2.2.2.1 q_X9_steps.2.2.1 q_X9_steps.1.cls q_X9_steps.1.name q_X9_steps.2.1 141 120 I_X9_steps_120 = true := by decide +kernel
def p_X9_steps_120 (k13 : Nat → Int32 → Int32 → AH → Option (AH)) (a0 : Nat) (x1 : Int32) (x2 : Int32) (x3 : Int32) (x4 : Int32) (h : AH) : Option (AH) :=
  (p_X9_has x4 ((18 : Int32)) h).bind fun q102 =>
  if q102.1 = 0 then (if (tg q102.2 a0).1 = 8 then (if inB q102.2 (rR q102.2 a0 16) 100 x3 then (if inB q102.2 (rR q102.2 a0 16) 100 x3 then (let h103 := wI q102.2 (rR q102.2 a0 16) x3.toNatClampNeg ((rI q102.2 (rR q102.2 a0 16) x3.toNatClampNeg) &&& ((-3 : Int32)))
  p_X9_steps_141 k13 a0 x1 x2 h103) else none) else none) else none)
  else
  p_X9_steps_141 k13 a0 x1 x2 q102.2
set_option maxRecDepth 100000 in
theorem e_X9_steps_120 {l : Launch} {D : va_G} {dA : Nat → ClassId} {z : Nat} {sa : Nat → Nat} {Hz : Heap} (E : StrOK qLen qCh l D dA z sa Hz) {h0 fin : AH}  {k13 : Nat → Int32 → Int32 → AH → Option (AH)} (hk13 : ∀ (a0 : Nat) (x1 : Int32) (x2 : Int32) (h : AH), k13 a0 x1 x2 h = some fin → GM l D dA z sa Hz q_X9_steps h0 none fin 13 [(0, .ref a0), (1, .int x1), (2, .int x2)] [] h) : ∀ (a0 : Nat) (x1 : Int32) (x2 : Int32) (x3 : Int32) (x4 : Int32) (h : AH), p_X9_steps_120 k13 a0 x1 x2 x3 x4 h = some fin → GM l D dA z sa Hz q_X9_steps h0 none fin 120 [(0, .ref a0), (1, .int x1), (2, .int x2), (3, .int x3), (4, .int x4)] [] h := by
  intro a0 x1 x2 x3 x4 h hd
  exact step E (is := I_X9_steps_120) (pc := 120) (K := (kx 141 (fun la st h => gR la 0 fun a0 => gI la 1 fun x1 => gI la 2 fun x2 => sE st (p_X9_steps_141 k13 a0 x1 x2 h)) k0)) (FI := FI_X9_steps) (FV := fV0) (FL := fL0) (rt := rtV) (ft := 141) (by exact hd) ok_X9_steps_120 (kx_ok (fun la st h e => by obtain ⟨a0, m_a0, e1⟩ := gR_inv e; obtain ⟨x1, m_x1, e2⟩ := gI_inv e1; obtain ⟨x2, m_x2, e3⟩ := gI_inv e2; obtain ⟨rfl, ez⟩ := sE_inv e3; exact gm_fewer (e_X9_steps_141 E hk13 a0 x1 x2 h ez) (mem_cons m_a0 (mem_cons m_x1 (mem_cons m_x2 mem_nil)))) k0_ok) (FI_X9_steps_ok E) (fV0_ok E) (fL0_ok E) (rtV_ok rfl)
def I_X9_steps_100 : List AI := [(.iload 4, 2, [], 0), (.iconst 4, 1, [], 4), (.invokestatic 316, 3, [1, 247, 2, 1749], 0), (.ifCond .ne 14, 3, [120], 0), (.aload_n 0, 1, [], 0), (.getfield 21, 3, [8, 16, 2, 1361], 0), (.iload_n 3, 1, [], 0), (.dup2, 1, [], 0), (.iaload, 1, [], 0), (.bipush (-2), 2, [], (-2)), (.iand, 1, [], 0), (.iastore, 1, [], 0)]
theorem ok_X9_steps_100 : vBL MT qLen qCh false q_X9_steps.2.2.2.2.1 q_X9_steps.2.2.2.2.2.1 q_X9_steps.2.2.1 q_X9_steps.1.cls q_X9_steps.1.name q_X9_steps.2.1 120 100 I_X9_steps_100 = true := by decide +kernel
def p_X9_steps_100 (k13 : Nat → Int32 → Int32 → AH → Option (AH)) (a0 : Nat) (x1 : Int32) (x2 : Int32) (x3 : Int32) (x4 : Int32) (h : AH) : Option (AH) :=
  (p_X9_has x4 ((4 : Int32)) h).bind fun q104 =>
  if q104.1 = 0 then (if (tg q104.2 a0).1 = 8 then (if inB q104.2 (rR q104.2 a0 16) 100 x3 then (if inB q104.2 (rR q104.2 a0 16) 100 x3 then (let h105 := wI q104.2 (rR q104.2 a0 16) x3.toNatClampNeg ((rI q104.2 (rR q104.2 a0 16) x3.toNatClampNeg) &&& ((-2 : Int32)))
  p_X9_steps_120 k13 a0 x1 x2 x3 x4 h105) else none) else none) else none)
  else
  p_X9_steps_120 k13 a0 x1 x2 x3 x4 q104.2
set_option maxRecDepth 100000 in
theorem e_X9_steps_100 {l : Launch} {D : va_G} {dA : Nat → ClassId} {z : Nat} {sa : Nat → Nat} {Hz : Heap} (E : StrOK qLen qCh l D dA z sa Hz) {h0 fin : AH}  {k13 : Nat → Int32 → Int32 → AH → Option (AH)} (hk13 : ∀ (a0 : Nat) (x1 : Int32) (x2 : Int32) (h : AH), k13 a0 x1 x2 h = some fin → GM l D dA z sa Hz q_X9_steps h0 none fin 13 [(0, .ref a0), (1, .int x1), (2, .int x2)] [] h) : ∀ (a0 : Nat) (x1 : Int32) (x2 : Int32) (x3 : Int32) (x4 : Int32) (h : AH), p_X9_steps_100 k13 a0 x1 x2 x3 x4 h = some fin → GM l D dA z sa Hz q_X9_steps h0 none fin 100 [(0, .ref a0), (1, .int x1), (2, .int x2), (3, .int x3), (4, .int x4)] [] h := by
  intro a0 x1 x2 x3 x4 h hd
  exact step E (is := I_X9_steps_100) (pc := 100) (K := (kx 120 (fun la st h => gR la 0 fun a0 => gI la 1 fun x1 => gI la 2 fun x2 => gI la 3 fun x3 => gI la 4 fun x4 => sE st (p_X9_steps_120 k13 a0 x1 x2 x3 x4 h)) k0)) (FI := FI_X9_steps) (FV := fV0) (FL := fL0) (rt := rtV) (ft := 120) (by exact hd) ok_X9_steps_100 (kx_ok (fun la st h e => by obtain ⟨a0, m_a0, e1⟩ := gR_inv e; obtain ⟨x1, m_x1, e2⟩ := gI_inv e1; obtain ⟨x2, m_x2, e3⟩ := gI_inv e2; obtain ⟨x3, m_x3, e4⟩ := gI_inv e3; obtain ⟨x4, m_x4, e5⟩ := gI_inv e4; obtain ⟨rfl, ez⟩ := sE_inv e5; exact gm_fewer (e_X9_steps_120 E hk13 a0 x1 x2 x3 x4 h ez) (mem_cons m_a0 (mem_cons m_x1 (mem_cons m_x2 (mem_cons m_x3 (mem_cons m_x4 mem_nil)))))) k0_ok) (FI_X9_steps_ok E) (fV0_ok E) (fL0_ok E) (rtV_ok rfl)
def I_X9_steps_65 : List AI := [(.iload 4, 2, [], 0), (.iconst 1, 1, [], 1), (.invokestatic 316, 3, [1, 247, 2, 1749], 0), (.ifCond .eq 19, 3, [90], 0), (.iload 4, 2, [], 0), (.invokestatic 319, 3, [1, 254, 1, 1781], 0), (.aload_n 0, 1, [], 0), (.getfield 21, 3, [8, 16, 2, 1361], 0), (.iload_n 3, 1, [], 0), (.iaload, 1, [], 0), (.iconst 4, 1, [], 4), (.idiv, 1, [], 0), (.if_icmp .eq 13, 3, [100], 0)]
theorem ok_X9_steps_65 : vBL MT qLen qCh false q_X9_steps.2.2.2.2.1 q_X9_steps.2.2.2.2.2.1 q_X9_steps.2.2.1 q_X9_steps.1.cls q_X9_steps.1.name q_X9_steps.2.1 90 65 I_X9_steps_65 = true := by decide +kernel
def p_X9_steps_65 (k13 : Nat → Int32 → Int32 → AH → Option (AH)) (a0 : Nat) (x1 : Int32) (x2 : Int32) (x3 : Int32) (x4 : Int32) (h : AH) : Option (AH) :=
  (p_X9_has x4 ((1 : Int32)) h).bind fun q106 =>
  if q106.1 = 0 then (p_X9_steps_90 k13 a0 x1 x2 x3 q106.2)
  else
  (p_X9_tells x4 q106.2).bind fun q107 =>
  if (tg q107.2 a0).1 = 8 then (if inB q107.2 (rR q107.2 a0 16) 100 x3 then (if ((4 : Int32)) = 0 then none else
  if q107.1 = ((rI q107.2 (rR q107.2 a0 16) x3.toNatClampNeg) / ((4 : Int32))) then ((p_X9_has x4 ((4 : Int32)) q107.2).bind fun q108 =>
  if q108.1 = 0 then (if (tg q108.2 a0).1 = 8 then (if inB q108.2 (rR q108.2 a0 16) 100 x3 then (if inB q108.2 (rR q108.2 a0 16) 100 x3 then (let h109 := wI q108.2 (rR q108.2 a0 16) x3.toNatClampNeg ((rI q108.2 (rR q108.2 a0 16) x3.toNatClampNeg) &&& ((-2 : Int32)))
  p_X9_steps_120 k13 a0 x1 x2 x3 x4 h109) else none) else none) else none)
  else
  p_X9_steps_120 k13 a0 x1 x2 x3 x4 q108.2)
  else
  p_X9_steps_90 k13 a0 x1 x2 x3 q107.2) else none) else none
set_option maxRecDepth 100000 in
theorem e_X9_steps_65 {l : Launch} {D : va_G} {dA : Nat → ClassId} {z : Nat} {sa : Nat → Nat} {Hz : Heap} (E : StrOK qLen qCh l D dA z sa Hz) {h0 fin : AH}  {k13 : Nat → Int32 → Int32 → AH → Option (AH)} (hk13 : ∀ (a0 : Nat) (x1 : Int32) (x2 : Int32) (h : AH), k13 a0 x1 x2 h = some fin → GM l D dA z sa Hz q_X9_steps h0 none fin 13 [(0, .ref a0), (1, .int x1), (2, .int x2)] [] h) : ∀ (a0 : Nat) (x1 : Int32) (x2 : Int32) (x3 : Int32) (x4 : Int32) (h : AH), p_X9_steps_65 k13 a0 x1 x2 x3 x4 h = some fin → GM l D dA z sa Hz q_X9_steps h0 none fin 65 [(0, .ref a0), (1, .int x1), (2, .int x2), (3, .int x3), (4, .int x4)] [] h := by
  intro a0 x1 x2 x3 x4 h hd
  exact step E (is := I_X9_steps_65) (pc := 65) (K := (kx 90 (fun la st h => gR la 0 fun a0 => gI la 1 fun x1 => gI la 2 fun x2 => gI la 3 fun x3 => sE st (p_X9_steps_90 k13 a0 x1 x2 x3 h)) (kx 100 (fun la st h => gR la 0 fun a0 => gI la 1 fun x1 => gI la 2 fun x2 => gI la 3 fun x3 => gI la 4 fun x4 => sE st (p_X9_steps_100 k13 a0 x1 x2 x3 x4 h)) k0))) (FI := FI_X9_steps) (FV := fV0) (FL := fL0) (rt := rtV) (ft := 90) (by exact hd) ok_X9_steps_65 (kx_ok (fun la st h e => by obtain ⟨a0, m_a0, e1⟩ := gR_inv e; obtain ⟨x1, m_x1, e2⟩ := gI_inv e1; obtain ⟨x2, m_x2, e3⟩ := gI_inv e2; obtain ⟨x3, m_x3, e4⟩ := gI_inv e3; obtain ⟨rfl, ez⟩ := sE_inv e4; exact gm_fewer (e_X9_steps_90 E hk13 a0 x1 x2 x3 h ez) (mem_cons m_a0 (mem_cons m_x1 (mem_cons m_x2 (mem_cons m_x3 mem_nil))))) (kx_ok (fun la st h e => by obtain ⟨a0, m_a0, e1⟩ := gR_inv e; obtain ⟨x1, m_x1, e2⟩ := gI_inv e1; obtain ⟨x2, m_x2, e3⟩ := gI_inv e2; obtain ⟨x3, m_x3, e4⟩ := gI_inv e3; obtain ⟨x4, m_x4, e5⟩ := gI_inv e4; obtain ⟨rfl, ez⟩ := sE_inv e5; exact gm_fewer (e_X9_steps_100 E hk13 a0 x1 x2 x3 x4 h ez) (mem_cons m_a0 (mem_cons m_x1 (mem_cons m_x2 (mem_cons m_x3 (mem_cons m_x4 mem_nil)))))) k0_ok)) (FI_X9_steps_ok E) (fV0_ok E) (fL0_ok E) (rtV_ok rfl)
def I_X9_steps_13 : List AI := [(.iload_n 2, 1, [], 0), (.bipush 8, 2, [], 8), (.if_icmp .ge 131, 3, [147], 0), (.sipush 179, 3, [], 179), (.bipush 8, 2, [], 8), (.iload_n 1, 1, [], 0), (.imul, 1, [], 0), (.iadd, 1, [], 0), (.iload_n 2, 1, [], 0), (.iadd, 1, [], 0), (.istore_n 3, 1, [], 0), (.aload_n 0, 1, [], 0), (.getfield 21, 3, [8, 16, 2, 1361], 0), (.bipush 8, 2, [], 8), (.aload_n 0, 1, [], 0), (.getfield 21, 3, [8, 16, 2, 1361], 0), (.sipush 155, 3, [], 155), (.iload_n 1, 1, [], 0), (.iadd, 1, [], 0), (.iaload, 1, [], 0), (.imul, 1, [], 0), (.iload_n 2, 1, [], 0), (.iadd, 1, [], 0), (.iaload, 1, [], 0), (.istore 4, 2, [], 0), (.aload_n 0, 1, [], 0), (.getfield 21, 3, [8, 16, 2, 1361], 0), (.iload_n 3, 1, [], 0), (.iaload, 1, [], 0), (.iconst (-1), 1, [], (-1)), (.if_icmp .ne 6, 3, [65], 0), (.goto 79, 3, [141], 0)]
theorem ok_X9_steps_13 : vBL MT qLen qCh false q_X9_steps.2.2.2.2.1 q_X9_steps.2.2.2.2.2.1 q_X9_steps.2.2.1 q_X9_steps.1.cls q_X9_steps.1.name q_X9_steps.2.1 0 13 I_X9_steps_13 = true := by decide +kernel
def p_X9_steps_13 : Nat → Nat → Int32 → Int32 → AH → Option (AH)
  | 0, _, _, _, _ => none
  | n + 1, a0, x1, x2, h => if x2 < ((8 : Int32)) then (let x110 := (((179 : Int32)) + (((8 : Int32)) * x1)) + x2
    if (tg h a0).1 = 8 then (if (tg h a0).1 = 8 then (if inB h (rR h a0 16) 100 (((155 : Int32)) + x1) then (if inB h (rR h a0 16) 100 ((((8 : Int32)) * (rI h (rR h a0 16) (((155 : Int32)) + x1).toNatClampNeg)) + x2) then (let x111 := rI h (rR h a0 16) ((((8 : Int32)) * (rI h (rR h a0 16) (((155 : Int32)) + x1).toNatClampNeg)) + x2).toNatClampNeg
    if (tg h a0).1 = 8 then (if inB h (rR h a0 16) 100 x110 then (if (rI h (rR h a0 16) x110.toNatClampNeg) = ((-1 : Int32)) then (p_X9_steps_141 (p_X9_steps_13 n) a0 x1 x2 h)
    else
    (p_X9_has x111 ((1 : Int32)) h).bind fun q112 =>
    if q112.1 = 0 then (p_X9_steps_90 (p_X9_steps_13 n) a0 x1 x2 x110 q112.2)
    else
    (p_X9_tells x111 q112.2).bind fun q113 =>
    if (tg q113.2 a0).1 = 8 then (if inB q113.2 (rR q113.2 a0 16) 100 x110 then (if ((4 : Int32)) = 0 then none else
    if q113.1 = ((rI q113.2 (rR q113.2 a0 16) x110.toNatClampNeg) / ((4 : Int32))) then ((p_X9_has x111 ((4 : Int32)) q113.2).bind fun q114 =>
    if q114.1 = 0 then (if (tg q114.2 a0).1 = 8 then (if inB q114.2 (rR q114.2 a0 16) 100 x110 then (if inB q114.2 (rR q114.2 a0 16) 100 x110 then (let h115 := wI q114.2 (rR q114.2 a0 16) x110.toNatClampNeg ((rI q114.2 (rR q114.2 a0 16) x110.toNatClampNeg) &&& ((-2 : Int32)))
    p_X9_steps_120 (p_X9_steps_13 n) a0 x1 x2 x110 x111 h115) else none) else none) else none)
    else
    p_X9_steps_120 (p_X9_steps_13 n) a0 x1 x2 x110 x111 q114.2)
    else
    p_X9_steps_90 (p_X9_steps_13 n) a0 x1 x2 x110 q113.2) else none) else none) else none) else none) else none) else none) else none) else none)
    else
    some h
set_option maxRecDepth 100000 in
theorem e_X9_steps_13 {l : Launch} {D : va_G} {dA : Nat → ClassId} {z : Nat} {sa : Nat → Nat} {Hz : Heap} (E : StrOK qLen qCh l D dA z sa Hz) {h0 fin : AH}  : ∀ (n : Nat) (a0 : Nat) (x1 : Int32) (x2 : Int32) (h : AH), p_X9_steps_13 n a0 x1 x2 h = some fin → GM l D dA z sa Hz q_X9_steps h0 none fin 13 [(0, .ref a0), (1, .int x1), (2, .int x2)] [] h := by
  intro n
  induction n with
  | zero => intro a0 x1 x2 h hd; exact nomatch hd
  | succ n ih =>
    intro a0 x1 x2 h hd
    exact step E (is := I_X9_steps_13) (pc := 13) (K := (kx 147 (fun la st h => sE st (p_X9_steps_147 h)) (kx 65 (fun la st h => gR la 0 fun a0 => gI la 1 fun x1 => gI la 2 fun x2 => gI la 3 fun x3 => gI la 4 fun x4 => sE st (p_X9_steps_65 (p_X9_steps_13 n) a0 x1 x2 x3 x4 h)) (kx 141 (fun la st h => gR la 0 fun a0 => gI la 1 fun x1 => gI la 2 fun x2 => sE st (p_X9_steps_141 (p_X9_steps_13 n) a0 x1 x2 h)) k0)))) (FI := FI_X9_steps) (FV := fV0) (FL := fL0) (rt := rtV) (ft := 0) (by exact hd) ok_X9_steps_13 (kx_ok (fun la st h e => by obtain ⟨rfl, ez⟩ := sE_inv e; exact gm_fewer (e_X9_steps_147 E   h ez) mem_nil) (kx_ok (fun la st h e => by obtain ⟨a0, m_a0, e1⟩ := gR_inv e; obtain ⟨x1, m_x1, e2⟩ := gI_inv e1; obtain ⟨x2, m_x2, e3⟩ := gI_inv e2; obtain ⟨x3, m_x3, e4⟩ := gI_inv e3; obtain ⟨x4, m_x4, e5⟩ := gI_inv e4; obtain ⟨rfl, ez⟩ := sE_inv e5; exact gm_fewer (e_X9_steps_65 E ih a0 x1 x2 x3 x4 h ez) (mem_cons m_a0 (mem_cons m_x1 (mem_cons m_x2 (mem_cons m_x3 (mem_cons m_x4 mem_nil)))))) (kx_ok (fun la st h e => by obtain ⟨a0, m_a0, e1⟩ := gR_inv e; obtain ⟨x1, m_x1, e2⟩ := gI_inv e1; obtain ⟨x2, m_x2, e3⟩ := gI_inv e2; obtain ⟨rfl, ez⟩ := sE_inv e3; exact gm_fewer (e_X9_steps_141 E ih a0 x1 x2 h ez) (mem_cons m_a0 (mem_cons m_x1 (mem_cons m_x2 mem_nil)))) k0_ok))) (FI_X9_steps_ok E) (fV0_ok E) (fL0_ok E) (rtV_ok rfl)
def I_X9_steps_0 : List AI := [(.aload_n 0, 1, [], 0), (.getfield 21, 3, [8, 16, 2, 1361], 0), (.sipush 171, 3, [], 171), (.iload_n 1, 1, [], 0), (.iadd, 1, [], 0), (.iconst 0, 1, [], 0), (.iastore, 1, [], 0), (.iconst 0, 1, [], 0), (.istore_n 2, 1, [], 0)]
theorem ok_X9_steps_0 : vBL MT qLen qCh false q_X9_steps.2.2.2.2.1 q_X9_steps.2.2.2.2.2.1 q_X9_steps.2.2.1 q_X9_steps.1.cls q_X9_steps.1.name q_X9_steps.2.1 13 0 I_X9_steps_0 = true := by decide +kernel
def p_X9_steps (a0 : Nat) (x1 : Int32) (h : AH) : Option (AH) :=
  if (tg h a0).1 = 8 then (if inB h (rR h a0 16) 100 (((171 : Int32)) + x1) then (let h116 := wI h (rR h a0 16) (((171 : Int32)) + x1).toNatClampNeg ((0 : Int32))
  p_X9_steps_13 FU a0 x1 ((0 : Int32)) h116) else none) else none
set_option maxRecDepth 100000 in
theorem e_X9_steps_0 {l : Launch} {D : va_G} {dA : Nat → ClassId} {z : Nat} {sa : Nat → Nat} {Hz : Heap} (E : StrOK qLen qCh l D dA z sa Hz) {h0 fin : AH}  : ∀ (a0 : Nat) (x1 : Int32) (h : AH), p_X9_steps a0 x1 h = some fin → GM l D dA z sa Hz q_X9_steps h0 none fin 0 [(0, .ref a0), (1, .int x1)] [] h := by
  intro a0 x1 h hd
  exact step E (is := I_X9_steps_0) (pc := 0) (K := (kx 13 (fun la st h => gR la 0 fun a0 => gI la 1 fun x1 => gI la 2 fun x2 => sE st (p_X9_steps_13 FU a0 x1 x2 h)) k0)) (FI := FI_X9_steps) (FV := fV0) (FL := fL0) (rt := rtV) (ft := 13) (by exact hd) ok_X9_steps_0 (kx_ok (fun la st h e => by obtain ⟨a0, m_a0, e1⟩ := gR_inv e; obtain ⟨x1, m_x1, e2⟩ := gI_inv e1; obtain ⟨x2, m_x2, e3⟩ := gI_inv e2; obtain ⟨rfl, ez⟩ := sE_inv e3; exact gm_fewer (e_X9_steps_13 E  FU a0 x1 x2 h ez) (mem_cons m_a0 (mem_cons m_x1 (mem_cons m_x2 mem_nil)))) k0_ok) (FI_X9_steps_ok E) (fV0_ok E) (fL0_ok E) (rtV_ok rfl)
theorem c_X9_steps {l : Launch} {D : va_G} {dA : Nat → ClassId} {z : Nat} {sa : Nat → Nat} {Hz : Heap} (E : StrOK qLen qCh l D dA z sa Hz) {a0 : Nat} {x1 : Int32} {h fin : AH} (hd : p_X9_steps a0 x1 h = some fin) : CalOK l D dA z sa Hz q_X9_steps [.ref a0, .int x1] h none fin := calOf (by decide +kernel) (Nat.le_of_ble_eq_true rfl) (e_X9_steps_0 E a0 x1 h hd)
def FI_X9_load : Nat → List Value → AH → Option (Int32 × AH) := (cx 237 (fun As h => sI As fun x0 As => sE As (p_X9_isFrame x0 h)) (cx 201 (fun As h => sR As fun a0 As => sI As fun x1 As => sE As (p_X9_refused a0 x1 h)) (cx 283 (fun As h => sR As fun a0 As => sI As fun x1 As => sE As (p_X9_isWatched a0 x1 h)) (cx 291 (fun As h => sR As fun a0 As => sI As fun x1 As => sE As (p_X9_losesW a0 x1 h)) (cx 233 (fun As h => sR As fun a0 As => sI As fun x1 As => sE As (p_X9_good a0 x1 h)) fI0)))))
theorem FI_X9_load_ok {l : Launch} {D : va_G} {dA : Nat → ClassId} {z : Nat} {sa : Nat → Nat} {Hz : Heap} (E : StrOK qLen qCh l D dA z sa Hz) : ∀ mi As h x h', FI_X9_load mi As h = some (x, h') → CalOK l D dA z sa Hz (MT mi) As h (some (.int x)) h' := (cxI_ok (fun As h x h2 e => by obtain ⟨_, _, rfl, e0⟩ := sI_inv e; obtain ⟨rfl, ez⟩ := sE_inv e0; exact c_X9_isFrame E ez) ((cxI_ok (fun As h x h2 e => by obtain ⟨_, _, rfl, e0⟩ := sR_inv e; obtain ⟨_, _, rfl, e1⟩ := sI_inv e0; obtain ⟨rfl, ez⟩ := sE_inv e1; exact c_X9_refused E ez) ((cxI_ok (fun As h x h2 e => by obtain ⟨_, _, rfl, e0⟩ := sR_inv e; obtain ⟨_, _, rfl, e1⟩ := sI_inv e0; obtain ⟨rfl, ez⟩ := sE_inv e1; exact c_X9_isWatched E ez) ((cxI_ok (fun As h x h2 e => by obtain ⟨_, _, rfl, e0⟩ := sR_inv e; obtain ⟨_, _, rfl, e1⟩ := sI_inv e0; obtain ⟨rfl, ez⟩ := sE_inv e1; exact c_X9_losesW E ez) ((cxI_ok (fun As h x h2 e => by obtain ⟨_, _, rfl, e0⟩ := sR_inv e; obtain ⟨_, _, rfl, e1⟩ := sI_inv e0; obtain ⟨rfl, ez⟩ := sE_inv e1; exact c_X9_good E ez) (fI0_ok E))))))))))
def FV_X9_load : Nat → List Value → AH → Option (AH) := (cx 318 (fun As h => sR As fun a0 As => sE As (p_X9_remembers a0 h)) (cx 323 (fun As h => sR As fun a0 As => sI As fun x1 As => sE As (p_X9_steps a0 x1 h)) (cx 232 (fun As h => sR As fun a0 As => sE As (p_X9_remains a0 h)) fV0)))
theorem FV_X9_load_ok {l : Launch} {D : va_G} {dA : Nat → ClassId} {z : Nat} {sa : Nat → Nat} {Hz : Heap} (E : StrOK qLen qCh l D dA z sa Hz) : ∀ mi As h h', FV_X9_load mi As h = some h' → CalOK l D dA z sa Hz (MT mi) As h none h' := (cxV_ok (fun As h h2 e => by obtain ⟨_, _, rfl, e0⟩ := sR_inv e; obtain ⟨rfl, ez⟩ := sE_inv e0; exact c_X9_remembers E ez) ((cxV_ok (fun As h h2 e => by obtain ⟨_, _, rfl, e0⟩ := sR_inv e; obtain ⟨_, _, rfl, e1⟩ := sI_inv e0; obtain ⟨rfl, ez⟩ := sE_inv e1; exact c_X9_steps E ez) ((cxV_ok (fun As h h2 e => by obtain ⟨_, _, rfl, e0⟩ := sR_inv e; obtain ⟨rfl, ez⟩ := sE_inv e0; exact c_X9_remains E ez) (fV0_ok E))))))
def I_X9_load_19 : List AI := [(.aload_n 0, 1, [], 0), (.iconst 1, 1, [], 1), (.invokevirtual 39, 3, [1, 201, 2, 8, 1481], 0), (.ireturn, 1, [], 0)]
theorem ok_X9_load_19 : vBL MT qLen qCh false q_X9_load.2.2.2.2.1 q_X9_load.2.2.2.2.2.1 q_X9_load.2.2.1 q_X9_load.1.cls q_X9_load.1.name q_X9_load.2.1 0 19 I_X9_load_19 = true := by decide +kernel
def p_X9_load_19 (a0 : Nat) (h : AH) : Option (Int32 × AH) :=
  if (tg h a0).1 = 8 then ((p_X9_refused a0 ((1 : Int32)) h).bind fun q101 =>
  some (q101.1, q101.2)) else none
set_option maxRecDepth 100000 in
theorem e_X9_load_19 {l : Launch} {D : va_G} {dA : Nat → ClassId} {z : Nat} {sa : Nat → Nat} {Hz : Heap} (E : StrOK qLen qCh l D dA z sa Hz) {h0 fin : AH} {x : Int32}  : ∀ (a0 : Nat) (h : AH), p_X9_load_19 a0 h = some (x, fin) → GM l D dA z sa Hz q_X9_load h0 (some (.int x)) fin 19 [(0, .ref a0)] [] h := by
  intro a0 h hd
  exact step E (is := I_X9_load_19) (pc := 19) (K := k0) (FI := FI_X9_load) (FV := FV_X9_load) (FL := fL0) (rt := rtI) (ft := 0) (by exact hd) ok_X9_load_19 k0_ok (FI_X9_load_ok E) (FV_X9_load_ok E) (fL0_ok E) (rtI_ok rfl)
def I_X9_load_108 : List AI := [(.aload_n 0, 1, [], 0), (.invokevirtual 270, 3, [2, 232, 1, 8, 1690], 0), (.aload_n 0, 1, [], 0), (.iload_n 2, 1, [], 0), (.invokevirtual 43, 3, [1, 233, 2, 8, 1694], 0), (.ireturn, 1, [], 0)]
theorem ok_X9_load_108 : vBL MT qLen qCh false q_X9_load.2.2.2.2.1 q_X9_load.2.2.2.2.2.1 q_X9_load.2.2.1 q_X9_load.1.cls q_X9_load.1.name q_X9_load.2.1 0 108 I_X9_load_108 = true := by decide +kernel
def p_X9_load_108 (a0 : Nat) (x2 : Int32) (h : AH) : Option (Int32 × AH) :=
  if (tg h a0).1 = 8 then ((p_X9_remains a0 h).bind fun h102 =>
  if (tg h102 a0).1 = 8 then ((p_X9_good a0 x2 h102).bind fun q103 =>
  some (q103.1, q103.2)) else none) else none
set_option maxRecDepth 100000 in
theorem e_X9_load_108 {l : Launch} {D : va_G} {dA : Nat → ClassId} {z : Nat} {sa : Nat → Nat} {Hz : Heap} (E : StrOK qLen qCh l D dA z sa Hz) {h0 fin : AH} {x : Int32}  : ∀ (a0 : Nat) (x2 : Int32) (h : AH), p_X9_load_108 a0 x2 h = some (x, fin) → GM l D dA z sa Hz q_X9_load h0 (some (.int x)) fin 108 [(0, .ref a0), (2, .int x2)] [] h := by
  intro a0 x2 h hd
  exact step E (is := I_X9_load_108) (pc := 108) (K := k0) (FI := FI_X9_load) (FV := FV_X9_load) (FL := fL0) (rt := rtI) (ft := 0) (by exact hd) ok_X9_load_108 k0_ok (FI_X9_load_ok E) (FV_X9_load_ok E) (fL0_ok E) (rtI_ok rfl)
def I_X9_load_102 : List AI := [(.iinc 3 1, 3, [], 1), (.goto (-23), 3, [82], 0)]
theorem ok_X9_load_102 : vBL MT qLen qCh false q_X9_load.2.2.2.2.1 q_X9_load.2.2.2.2.2.1 q_X9_load.2.2.1 q_X9_load.1.cls q_X9_load.1.name q_X9_load.2.1 0 102 I_X9_load_102 = true := by decide +kernel
def p_X9_load_102 (k82 : Nat → Int32 → Int32 → AH → Option (Int32 × AH)) (a0 : Nat) (x2 : Int32) (x3 : Int32) (h : AH) : Option (Int32 × AH) :=
  k82 a0 x2 (x3 + (1 : Int32)) h
set_option maxRecDepth 100000 in
theorem e_X9_load_102 {l : Launch} {D : va_G} {dA : Nat → ClassId} {z : Nat} {sa : Nat → Nat} {Hz : Heap} (E : StrOK qLen qCh l D dA z sa Hz) {h0 fin : AH} {x : Int32}  {k82 : Nat → Int32 → Int32 → AH → Option (Int32 × AH)} (hk82 : ∀ (a0 : Nat) (x2 : Int32) (x3 : Int32) (h : AH), k82 a0 x2 x3 h = some (x, fin) → GM l D dA z sa Hz q_X9_load h0 (some (.int x)) fin 82 [(0, .ref a0), (2, .int x2), (3, .int x3)] [] h) : ∀ (a0 : Nat) (x2 : Int32) (x3 : Int32) (h : AH), p_X9_load_102 k82 a0 x2 x3 h = some (x, fin) → GM l D dA z sa Hz q_X9_load h0 (some (.int x)) fin 102 [(0, .ref a0), (2, .int x2), (3, .int x3)] [] h := by
  intro a0 x2 x3 h hd
  exact step E (is := I_X9_load_102) (pc := 102) (K := (kx 82 (fun la st h => gR la 0 fun a0 => gI la 2 fun x2 => gI la 3 fun x3 => sE st (k82 a0 x2 x3 h)) k0)) (FI := FI_X9_load) (FV := FV_X9_load) (FL := fL0) (rt := rtI) (ft := 0) (by exact hd) ok_X9_load_102 (kx_ok (fun la st h e => by obtain ⟨a0, m_a0, e1⟩ := gR_inv e; obtain ⟨x2, m_x2, e2⟩ := gI_inv e1; obtain ⟨x3, m_x3, e3⟩ := gI_inv e2; obtain ⟨rfl, ez⟩ := sE_inv e3; exact gm_fewer (hk82 a0 x2 x3 h ez) (mem_cons m_a0 (mem_cons m_x2 (mem_cons m_x3 mem_nil)))) k0_ok) (FI_X9_load_ok E) (FV_X9_load_ok E) (fL0_ok E) (rtI_ok rfl)
def I_X9_load_82 : List AI := [(.iload_n 3, 1, [], 0), (.bipush 16, 2, [], 16), (.if_icmp .ge 23, 3, [108], 0), (.aload_n 0, 1, [], 0), (.iload_n 3, 1, [], 0), (.invokevirtual 386, 3, [1, 283, 2, 8, 1887], 0), (.ifCond .eq 9, 3, [102], 0), (.aload_n 0, 1, [], 0), (.iload_n 3, 1, [], 0), (.invokevirtual 362, 3, [1, 291, 2, 8, 1935], 0), (.pop, 1, [], 0)]
theorem ok_X9_load_82 : vBL MT qLen qCh false q_X9_load.2.2.2.2.1 q_X9_load.2.2.2.2.2.1 q_X9_load.2.2.1 q_X9_load.1.cls q_X9_load.1.name q_X9_load.2.1 102 82 I_X9_load_82 = true := by decide +kernel
def p_X9_load_82 : Nat → Nat → Int32 → Int32 → AH → Option (Int32 × AH)
  | 0, _, _, _, _ => none
  | n + 1, a0, x2, x3, h => if x3 < ((16 : Int32)) then (if (tg h a0).1 = 8 then ((p_X9_isWatched a0 x3 h).bind fun q106 =>
    if q106.1 = 0 then (p_X9_load_102 (p_X9_load_82 n) a0 x2 x3 q106.2)
    else
    if (tg q106.2 a0).1 = 8 then ((p_X9_losesW a0 x3 q106.2).bind fun q107 =>
    p_X9_load_102 (p_X9_load_82 n) a0 x2 x3 q107.2) else none) else none)
    else
    if (tg h a0).1 = 8 then ((p_X9_remains a0 h).bind fun h104 =>
    if (tg h104 a0).1 = 8 then ((p_X9_good a0 x2 h104).bind fun q105 =>
    some (q105.1, q105.2)) else none) else none
set_option maxRecDepth 100000 in
theorem e_X9_load_82 {l : Launch} {D : va_G} {dA : Nat → ClassId} {z : Nat} {sa : Nat → Nat} {Hz : Heap} (E : StrOK qLen qCh l D dA z sa Hz) {h0 fin : AH} {x : Int32}  : ∀ (n : Nat) (a0 : Nat) (x2 : Int32) (x3 : Int32) (h : AH), p_X9_load_82 n a0 x2 x3 h = some (x, fin) → GM l D dA z sa Hz q_X9_load h0 (some (.int x)) fin 82 [(0, .ref a0), (2, .int x2), (3, .int x3)] [] h := by
  intro n
  induction n with
  | zero => intro a0 x2 x3 h hd; exact nomatch hd
  | succ n ih =>
    intro a0 x2 x3 h hd
    exact step E (is := I_X9_load_82) (pc := 82) (K := (kx 108 (fun la st h => gR la 0 fun a0 => gI la 2 fun x2 => sE st (p_X9_load_108 a0 x2 h)) (kx 102 (fun la st h => gR la 0 fun a0 => gI la 2 fun x2 => gI la 3 fun x3 => sE st (p_X9_load_102 (p_X9_load_82 n) a0 x2 x3 h)) k0))) (FI := FI_X9_load) (FV := FV_X9_load) (FL := fL0) (rt := rtI) (ft := 102) (by exact hd) ok_X9_load_82 (kx_ok (fun la st h e => by obtain ⟨a0, m_a0, e1⟩ := gR_inv e; obtain ⟨x2, m_x2, e2⟩ := gI_inv e1; obtain ⟨rfl, ez⟩ := sE_inv e2; exact gm_fewer (e_X9_load_108 E  a0 x2 h ez) (mem_cons m_a0 (mem_cons m_x2 mem_nil))) (kx_ok (fun la st h e => by obtain ⟨a0, m_a0, e1⟩ := gR_inv e; obtain ⟨x2, m_x2, e2⟩ := gI_inv e1; obtain ⟨x3, m_x3, e3⟩ := gI_inv e2; obtain ⟨rfl, ez⟩ := sE_inv e3; exact gm_fewer (e_X9_load_102 E ih a0 x2 x3 h ez) (mem_cons m_a0 (mem_cons m_x2 (mem_cons m_x3 mem_nil)))) k0_ok)) (FI_X9_load_ok E) (FV_X9_load_ok E) (fL0_ok E) (rtI_ok rfl)
def I_X9_load_80 : List AI := [(.iconst 0, 1, [], 0), (.istore_n 3, 1, [], 0)]
theorem ok_X9_load_80 : vBL MT qLen qCh false q_X9_load.2.2.2.2.1 q_X9_load.2.2.2.2.2.1 q_X9_load.2.2.1 q_X9_load.1.cls q_X9_load.1.name q_X9_load.2.1 82 80 I_X9_load_80 = true := by decide +kernel
def p_X9_load_80 (a0 : Nat) (x2 : Int32) (h : AH) : Option (Int32 × AH) :=
  p_X9_load_82 FU a0 x2 ((0 : Int32)) h
set_option maxRecDepth 100000 in
theorem e_X9_load_80 {l : Launch} {D : va_G} {dA : Nat → ClassId} {z : Nat} {sa : Nat → Nat} {Hz : Heap} (E : StrOK qLen qCh l D dA z sa Hz) {h0 fin : AH} {x : Int32}  : ∀ (a0 : Nat) (x2 : Int32) (h : AH), p_X9_load_80 a0 x2 h = some (x, fin) → GM l D dA z sa Hz q_X9_load h0 (some (.int x)) fin 80 [(0, .ref a0), (2, .int x2)] [] h := by
  intro a0 x2 h hd
  exact step E (is := I_X9_load_80) (pc := 80) (K := (kx 82 (fun la st h => gR la 0 fun a0 => gI la 2 fun x2 => gI la 3 fun x3 => sE st (p_X9_load_82 FU a0 x2 x3 h)) k0)) (FI := FI_X9_load) (FV := FV_X9_load) (FL := fL0) (rt := rtI) (ft := 82) (by exact hd) ok_X9_load_80 (kx_ok (fun la st h e => by obtain ⟨a0, m_a0, e1⟩ := gR_inv e; obtain ⟨x2, m_x2, e2⟩ := gI_inv e1; obtain ⟨x3, m_x3, e3⟩ := gI_inv e2; obtain ⟨rfl, ez⟩ := sE_inv e3; exact gm_fewer (e_X9_load_82 E  FU a0 x2 x3 h ez) (mem_cons m_a0 (mem_cons m_x2 (mem_cons m_x3 mem_nil)))) k0_ok) (FI_X9_load_ok E) (FV_X9_load_ok E) (fL0_ok E) (rtI_ok rfl)
def I_X9_load_74 : List AI := [(.iinc 3 1, 3, [], 1), (.goto (-35), 3, [42], 0)]
theorem ok_X9_load_74 : vBL MT qLen qCh false q_X9_load.2.2.2.2.1 q_X9_load.2.2.2.2.2.1 q_X9_load.2.2.1 q_X9_load.1.cls q_X9_load.1.name q_X9_load.2.1 0 74 I_X9_load_74 = true := by decide +kernel
def p_X9_load_74 (k42 : Nat → Int32 → Int32 → AH → Option (Int32 × AH)) (a0 : Nat) (x2 : Int32) (x3 : Int32) (h : AH) : Option (Int32 × AH) :=
  k42 a0 x2 (x3 + (1 : Int32)) h
set_option maxRecDepth 100000 in
theorem e_X9_load_74 {l : Launch} {D : va_G} {dA : Nat → ClassId} {z : Nat} {sa : Nat → Nat} {Hz : Heap} (E : StrOK qLen qCh l D dA z sa Hz) {h0 fin : AH} {x : Int32}  {k42 : Nat → Int32 → Int32 → AH → Option (Int32 × AH)} (hk42 : ∀ (a0 : Nat) (x2 : Int32) (x3 : Int32) (h : AH), k42 a0 x2 x3 h = some (x, fin) → GM l D dA z sa Hz q_X9_load h0 (some (.int x)) fin 42 [(0, .ref a0), (2, .int x2), (3, .int x3)] [] h) : ∀ (a0 : Nat) (x2 : Int32) (x3 : Int32) (h : AH), p_X9_load_74 k42 a0 x2 x3 h = some (x, fin) → GM l D dA z sa Hz q_X9_load h0 (some (.int x)) fin 74 [(0, .ref a0), (2, .int x2), (3, .int x3)] [] h := by
  intro a0 x2 x3 h hd
  exact step E (is := I_X9_load_74) (pc := 74) (K := (kx 42 (fun la st h => gR la 0 fun a0 => gI la 2 fun x2 => gI la 3 fun x3 => sE st (k42 a0 x2 x3 h)) k0)) (FI := FI_X9_load) (FV := FV_X9_load) (FL := fL0) (rt := rtI) (ft := 0) (by exact hd) ok_X9_load_74 (kx_ok (fun la st h e => by obtain ⟨a0, m_a0, e1⟩ := gR_inv e; obtain ⟨x2, m_x2, e2⟩ := gI_inv e1; obtain ⟨x3, m_x3, e3⟩ := gI_inv e2; obtain ⟨rfl, ez⟩ := sE_inv e3; exact gm_fewer (hk42 a0 x2 x3 h ez) (mem_cons m_a0 (mem_cons m_x2 (mem_cons m_x3 mem_nil)))) k0_ok) (FI_X9_load_ok E) (FV_X9_load_ok E) (fL0_ok E) (rtI_ok rfl)
def I_X9_load_66 : List AI := [(.aload_n 0, 1, [], 0), (.iload_n 3, 1, [], 0), (.invokevirtual 490, 3, [2, 323, 2, 8, 2050], 0), (.iinc 2 1, 3, [], 1)]
theorem ok_X9_load_66 : vBL MT qLen qCh false q_X9_load.2.2.2.2.1 q_X9_load.2.2.2.2.2.1 q_X9_load.2.2.1 q_X9_load.1.cls q_X9_load.1.name q_X9_load.2.1 74 66 I_X9_load_66 = true := by decide +kernel
def p_X9_load_66 (k42 : Nat → Int32 → Int32 → AH → Option (Int32 × AH)) (a0 : Nat) (x2 : Int32) (x3 : Int32) (h : AH) : Option (Int32 × AH) :=
  if (tg h a0).1 = 8 then ((p_X9_steps a0 x3 h).bind fun h108 =>
  p_X9_load_74 k42 a0 (x2 + (1 : Int32)) x3 h108) else none
set_option maxRecDepth 100000 in
theorem e_X9_load_66 {l : Launch} {D : va_G} {dA : Nat → ClassId} {z : Nat} {sa : Nat → Nat} {Hz : Heap} (E : StrOK qLen qCh l D dA z sa Hz) {h0 fin : AH} {x : Int32}  {k42 : Nat → Int32 → Int32 → AH → Option (Int32 × AH)} (hk42 : ∀ (a0 : Nat) (x2 : Int32) (x3 : Int32) (h : AH), k42 a0 x2 x3 h = some (x, fin) → GM l D dA z sa Hz q_X9_load h0 (some (.int x)) fin 42 [(0, .ref a0), (2, .int x2), (3, .int x3)] [] h) : ∀ (a0 : Nat) (x2 : Int32) (x3 : Int32) (h : AH), p_X9_load_66 k42 a0 x2 x3 h = some (x, fin) → GM l D dA z sa Hz q_X9_load h0 (some (.int x)) fin 66 [(0, .ref a0), (2, .int x2), (3, .int x3)] [] h := by
  intro a0 x2 x3 h hd
  exact step E (is := I_X9_load_66) (pc := 66) (K := (kx 74 (fun la st h => gR la 0 fun a0 => gI la 2 fun x2 => gI la 3 fun x3 => sE st (p_X9_load_74 k42 a0 x2 x3 h)) k0)) (FI := FI_X9_load) (FV := FV_X9_load) (FL := fL0) (rt := rtI) (ft := 74) (by exact hd) ok_X9_load_66 (kx_ok (fun la st h e => by obtain ⟨a0, m_a0, e1⟩ := gR_inv e; obtain ⟨x2, m_x2, e2⟩ := gI_inv e1; obtain ⟨x3, m_x3, e3⟩ := gI_inv e2; obtain ⟨rfl, ez⟩ := sE_inv e3; exact gm_fewer (e_X9_load_74 E hk42 a0 x2 x3 h ez) (mem_cons m_a0 (mem_cons m_x2 (mem_cons m_x3 mem_nil)))) k0_ok) (FI_X9_load_ok E) (FV_X9_load_ok E) (fL0_ok E) (rtI_ok rfl)
def I_X9_load_42 : List AI := [(.iload_n 3, 1, [], 0), (.aload_n 0, 1, [], 0), (.getfield 297, 3, [8, 26, 0, 1371], 0), (.if_icmp .ge 33, 3, [80], 0), (.aload_n 0, 1, [], 0), (.getfield 21, 3, [8, 16, 2, 1361], 0), (.sipush 171, 3, [], 171), (.iload_n 3, 1, [], 0), (.iadd, 1, [], 0), (.iaload, 1, [], 0), (.ifCond .ne 6, 3, [66], 0), (.goto 11, 3, [74], 0)]
theorem ok_X9_load_42 : vBL MT qLen qCh false q_X9_load.2.2.2.2.1 q_X9_load.2.2.2.2.2.1 q_X9_load.2.2.1 q_X9_load.1.cls q_X9_load.1.name q_X9_load.2.1 0 42 I_X9_load_42 = true := by decide +kernel
def p_X9_load_42 : Nat → Nat → Int32 → Int32 → AH → Option (Int32 × AH)
  | 0, _, _, _, _ => none
  | n + 1, a0, x2, x3, h => if (tg h a0).1 = 8 then (if x3 < (rI h a0 26) then (if (tg h a0).1 = 8 then (if inB h (rR h a0 16) 100 (((171 : Int32)) + x3) then (if (rI h (rR h a0 16) (((171 : Int32)) + x3).toNatClampNeg) = 0 then (p_X9_load_74 (p_X9_load_42 n) a0 x2 x3 h)
    else
    if (tg h a0).1 = 8 then ((p_X9_steps a0 x3 h).bind fun h109 =>
    p_X9_load_74 (p_X9_load_42 n) a0 (x2 + (1 : Int32)) x3 h109) else none) else none) else none)
    else
    p_X9_load_82 FU a0 x2 ((0 : Int32)) h) else none
set_option maxRecDepth 100000 in
theorem e_X9_load_42 {l : Launch} {D : va_G} {dA : Nat → ClassId} {z : Nat} {sa : Nat → Nat} {Hz : Heap} (E : StrOK qLen qCh l D dA z sa Hz) {h0 fin : AH} {x : Int32}  : ∀ (n : Nat) (a0 : Nat) (x2 : Int32) (x3 : Int32) (h : AH), p_X9_load_42 n a0 x2 x3 h = some (x, fin) → GM l D dA z sa Hz q_X9_load h0 (some (.int x)) fin 42 [(0, .ref a0), (2, .int x2), (3, .int x3)] [] h := by
  intro n
  induction n with
  | zero => intro a0 x2 x3 h hd; exact nomatch hd
  | succ n ih =>
    intro a0 x2 x3 h hd
    exact step E (is := I_X9_load_42) (pc := 42) (K := (kx 80 (fun la st h => gR la 0 fun a0 => gI la 2 fun x2 => sE st (p_X9_load_80 a0 x2 h)) (kx 66 (fun la st h => gR la 0 fun a0 => gI la 2 fun x2 => gI la 3 fun x3 => sE st (p_X9_load_66 (p_X9_load_42 n) a0 x2 x3 h)) (kx 74 (fun la st h => gR la 0 fun a0 => gI la 2 fun x2 => gI la 3 fun x3 => sE st (p_X9_load_74 (p_X9_load_42 n) a0 x2 x3 h)) k0)))) (FI := FI_X9_load) (FV := FV_X9_load) (FL := fL0) (rt := rtI) (ft := 0) (by exact hd) ok_X9_load_42 (kx_ok (fun la st h e => by obtain ⟨a0, m_a0, e1⟩ := gR_inv e; obtain ⟨x2, m_x2, e2⟩ := gI_inv e1; obtain ⟨rfl, ez⟩ := sE_inv e2; exact gm_fewer (e_X9_load_80 E  a0 x2 h ez) (mem_cons m_a0 (mem_cons m_x2 mem_nil))) (kx_ok (fun la st h e => by obtain ⟨a0, m_a0, e1⟩ := gR_inv e; obtain ⟨x2, m_x2, e2⟩ := gI_inv e1; obtain ⟨x3, m_x3, e3⟩ := gI_inv e2; obtain ⟨rfl, ez⟩ := sE_inv e3; exact gm_fewer (e_X9_load_66 E ih a0 x2 x3 h ez) (mem_cons m_a0 (mem_cons m_x2 (mem_cons m_x3 mem_nil)))) (kx_ok (fun la st h e => by obtain ⟨a0, m_a0, e1⟩ := gR_inv e; obtain ⟨x2, m_x2, e2⟩ := gI_inv e1; obtain ⟨x3, m_x3, e3⟩ := gI_inv e2; obtain ⟨rfl, ez⟩ := sE_inv e3; exact gm_fewer (e_X9_load_74 E ih a0 x2 x3 h ez) (mem_cons m_a0 (mem_cons m_x2 (mem_cons m_x3 mem_nil)))) k0_ok))) (FI_X9_load_ok E) (FV_X9_load_ok E) (fL0_ok E) (rtI_ok rfl)
def I_X9_load_25 : List AI := [(.aload_n 0, 1, [], 0), (.invokevirtual 480, 3, [2, 318, 1, 8, 2030], 0), (.aload_n 0, 1, [], 0), (.getfield 21, 3, [8, 16, 2, 1361], 0), (.sipush 146, 3, [], 146), (.iload_n 1, 1, [], 0), (.iastore, 1, [], 0), (.iconst 0, 1, [], 0), (.istore_n 2, 1, [], 0), (.iconst 0, 1, [], 0), (.istore_n 3, 1, [], 0)]
theorem ok_X9_load_25 : vBL MT qLen qCh false q_X9_load.2.2.2.2.1 q_X9_load.2.2.2.2.2.1 q_X9_load.2.2.1 q_X9_load.1.cls q_X9_load.1.name q_X9_load.2.1 42 25 I_X9_load_25 = true := by decide +kernel
def p_X9_load_25 (a0 : Nat) (x1 : Int32) (h : AH) : Option (Int32 × AH) :=
  if (tg h a0).1 = 8 then ((p_X9_remembers a0 h).bind fun h110 =>
  if (tg h110 a0).1 = 8 then (if inB h110 (rR h110 a0 16) 100 ((146 : Int32)) then (let h111 := wI h110 (rR h110 a0 16) ((146 : Int32)).toNatClampNeg x1
  p_X9_load_42 FU a0 ((0 : Int32)) ((0 : Int32)) h111) else none) else none) else none
set_option maxRecDepth 100000 in
theorem e_X9_load_25 {l : Launch} {D : va_G} {dA : Nat → ClassId} {z : Nat} {sa : Nat → Nat} {Hz : Heap} (E : StrOK qLen qCh l D dA z sa Hz) {h0 fin : AH} {x : Int32}  : ∀ (a0 : Nat) (x1 : Int32) (h : AH), p_X9_load_25 a0 x1 h = some (x, fin) → GM l D dA z sa Hz q_X9_load h0 (some (.int x)) fin 25 [(0, .ref a0), (1, .int x1)] [] h := by
  intro a0 x1 h hd
  exact step E (is := I_X9_load_25) (pc := 25) (K := (kx 42 (fun la st h => gR la 0 fun a0 => gI la 2 fun x2 => gI la 3 fun x3 => sE st (p_X9_load_42 FU a0 x2 x3 h)) k0)) (FI := FI_X9_load) (FV := FV_X9_load) (FL := fL0) (rt := rtI) (ft := 42) (by exact hd) ok_X9_load_25 (kx_ok (fun la st h e => by obtain ⟨a0, m_a0, e1⟩ := gR_inv e; obtain ⟨x2, m_x2, e2⟩ := gI_inv e1; obtain ⟨x3, m_x3, e3⟩ := gI_inv e2; obtain ⟨rfl, ez⟩ := sE_inv e3; exact gm_fewer (e_X9_load_42 E  FU a0 x2 x3 h ez) (mem_cons m_a0 (mem_cons m_x2 (mem_cons m_x3 mem_nil)))) k0_ok) (FI_X9_load_ok E) (FV_X9_load_ok E) (fL0_ok E) (rtI_ok rfl)
def I_X9_load_0 : List AI := [(.aload_n 0, 1, [], 0), (.iconst 0, 1, [], 0), (.putfield 33, 3, [8, 0, 0, 1345], 0), (.aload_n 0, 1, [], 0), (.getfield 265, 3, [8, 3, 2, 1348], 0), (.ifnull 10, 3, [19], 0), (.iload_n 1, 1, [], 0), (.invokestatic 395, 3, [1, 237, 1, 1710], 0), (.ifCond .ne 9, 3, [25], 0)]
theorem ok_X9_load_0 : vBL MT qLen qCh false q_X9_load.2.2.2.2.1 q_X9_load.2.2.2.2.2.1 q_X9_load.2.2.1 q_X9_load.1.cls q_X9_load.1.name q_X9_load.2.1 19 0 I_X9_load_0 = true := by decide +kernel
def p_X9_load (a0 : Nat) (x1 : Int32) (h : AH) : Option (Int32 × AH) :=
  if (tg h a0).1 = 8 then (let h112 := wI h a0 0 ((0 : Int32))
  if (tg h112 a0).1 = 8 then (if (rR h112 a0 3) = 0 then (p_X9_load_19 a0 h112)
  else
  (p_X9_isFrame x1 h112).bind fun q113 =>
  if q113.1 = 0 then (p_X9_load_19 a0 q113.2)
  else
  if (tg q113.2 a0).1 = 8 then ((p_X9_remembers a0 q113.2).bind fun h114 =>
  if (tg h114 a0).1 = 8 then (if inB h114 (rR h114 a0 16) 100 ((146 : Int32)) then (let h115 := wI h114 (rR h114 a0 16) ((146 : Int32)).toNatClampNeg x1
  p_X9_load_42 FU a0 ((0 : Int32)) ((0 : Int32)) h115) else none) else none) else none) else none) else none
set_option maxRecDepth 100000 in
theorem e_X9_load_0 {l : Launch} {D : va_G} {dA : Nat → ClassId} {z : Nat} {sa : Nat → Nat} {Hz : Heap} (E : StrOK qLen qCh l D dA z sa Hz) {h0 fin : AH} {x : Int32}  : ∀ (a0 : Nat) (x1 : Int32) (h : AH), p_X9_load a0 x1 h = some (x, fin) → GM l D dA z sa Hz q_X9_load h0 (some (.int x)) fin 0 [(0, .ref a0), (1, .int x1)] [] h := by
  intro a0 x1 h hd
  exact step E (is := I_X9_load_0) (pc := 0) (K := (kx 19 (fun la st h => gR la 0 fun a0 => sE st (p_X9_load_19 a0 h)) (kx 25 (fun la st h => gR la 0 fun a0 => gI la 1 fun x1 => sE st (p_X9_load_25 a0 x1 h)) k0))) (FI := FI_X9_load) (FV := FV_X9_load) (FL := fL0) (rt := rtI) (ft := 19) (by exact hd) ok_X9_load_0 (kx_ok (fun la st h e => by obtain ⟨a0, m_a0, e1⟩ := gR_inv e; obtain ⟨rfl, ez⟩ := sE_inv e1; exact gm_fewer (e_X9_load_19 E  a0 h ez) (mem_cons m_a0 mem_nil)) (kx_ok (fun la st h e => by obtain ⟨a0, m_a0, e1⟩ := gR_inv e; obtain ⟨x1, m_x1, e2⟩ := gI_inv e1; obtain ⟨rfl, ez⟩ := sE_inv e2; exact gm_fewer (e_X9_load_25 E  a0 x1 h ez) (mem_cons m_a0 (mem_cons m_x1 mem_nil))) k0_ok)) (FI_X9_load_ok E) (FV_X9_load_ok E) (fL0_ok E) (rtI_ok rfl)
theorem c_X9_load {l : Launch} {D : va_G} {dA : Nat → ClassId} {z : Nat} {sa : Nat → Nat} {Hz : Heap} (E : StrOK qLen qCh l D dA z sa Hz) {a0 : Nat} {x1 : Int32} {h fin : AH} {x : Int32} (hd : p_X9_load a0 x1 h = some (x, fin)) : CalOK l D dA z sa Hz q_X9_load [.ref a0, .int x1] h (some (.int x)) fin := calOf (by decide +kernel) (Nat.le_of_ble_eq_true rfl) (e_X9_load_0 E a0 x1 h hd)
