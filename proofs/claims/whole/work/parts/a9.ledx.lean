/-! ===== led: it finds none, and throws; the law's own led, that catches ===== -/
theorem alX_tg (h : AH) (b : Nat) : tg (alX h) b = if b = nx h then (9, 0) else tg h b := rfl
theorem alX_wf {h : AH} (w : Wf h) : Wf (alX h) := by
  refine ⟨Nat.succ_pos _, fun a ha => ?_, fun a ha => ?_⟩
  · have e1 : nx (alX h) = nx h + 1 := rfl
    have w1 := w.1
    rw [alX_tg, if_neg (by omega)]
    exact w.2.1 a (by omega)
  · rw [alX_tg] at ha ⊢
    by_cases d : a = nx h
    · rw [if_pos d]
      exact ⟨(RNS, TNS, 0), rfl, rfl⟩
    · rw [if_neg d] at ha ⊢
      exact w.2.2 a ha
theorem alX_ws (dA : Nat → ClassId) (z : Nat) {h : AH} (w : 0 < nx h) : wsOf dA z h ++ [(z + nx h, .inr (9, []))] = wsOf dA z (alX h) := by
  have e := ws_push (dA := dA) (z := z) (h := h) (h' := alX h) w rfl (fun b hb => cell_same (by rw [alX_tg, if_neg hb]) (fun j => rfl) (fun j => rfl) (fun j => rfl))
  rw [← e]
  have t9 : tg (alX h) (nx h) = (9, 0) := by rw [alX_tg, if_pos rfl]
  rw [cell_ob (t := 9) (by omega) (by rw [t9]), t9]
  rfl
theorem alX_rel {D : va_G} {dA : Nat → ClassId} {z : Nat} {h : AH} {H H1 : Heap} {q : Nat} (hR : Rel D dA z h H) (hP1 : va_P D cls (wsOf dA z h ++ [(q, .inr (9, []))]) H1) (hD1 : va_D (Az z) (wsOf dA z h ++ [(q, .inr (9, []))])) (hsz : H1.size ≤ z + nx h + 1) : Rel D dA z (alX h) H1 := by
  have w1 := hR.1.1
  have hlen := ws_len dA z h
  have hq : (wsOf dA z h ++ [(q, (.inr (9, []) : va_E))])[nx h - 1]? = some (q, .inr (9, [])) := by
    rw [← hlen, List.getElem?_append_right (Nat.le_refl _), Nat.sub_self]
    rfl
  have q1 : q < H1.size := vx_lt hP1 hq
  have q2 : z < q := hD1.2 _ _ hq
  have q3 : q = z + nx h := by
    rcases Nat.lt_or_ge q (z + nx h) with d | d
    · exfalso
      have e1 := ws_get (dA := dA) (z := z) (h := h) (a := q - z) (by omega) (by omega)
      have e2 : (wsOf dA z h ++ [(q, (.inr (9, []) : va_E))])[q - z - 1]? = some (z + (q - z), cellOf dA z h (q - z)) := by
        rw [List.getElem?_append_left (by rw [hlen]; omega)]
        exact e1
      have := hD1.1 _ _ _ _ e2 hq (by show z + (q - z) = q; omega)
      omega
    · omega
  subst q3
  refine ⟨alX_wf hR.1, ?_, ?_⟩
  · show H1.size = z + (nx h + 1)
    omega
  · rw [← alX_ws dA z w1]
    exact hP1
section SND0
variable {p : Program} {l : Launch} {e : Env} {R : Room} {s : State} {m : MethodId} {args : Array Value} {below : List Frame} {meth : Method} {c : Code} {Q : State → Prop}
variable {cc : ByteArray} {own : String} {nL : Nat} {D : va_G} {dA : Nat → ClassId} {z : Nat} {sa : Nat → Nat} {Hz : Heap} {h0 fin : AH}
/-- a stretch with no end in it -/
theorem snd0 {M9 : Nat → MI} (C : Cx p R s m args c cc own nL D dA z sa Hz h0 fin) (hM9 : ∀ mi, MOk (M9 mi)) {FI : Nat → List Value → AH → Option (Int32 × AH)} (hFI : ∀ mi As h x h', FI mi As h = some (x, h') → CalOK l D dA z sa Hz (M9 mi) As h (some (.int x)) h') {is : List AI} {ft pc : Nat} {la : LA} {st : List Value} {h : AH}
    (hev : evL (KX (Gw p l e R s m args below meth c Q nL D dA z sa Hz h0 fin) ()) FI fV0 fL0 strLen strCh (0, fun _ => 0) (fun _ _ => none) ft is la st h = some ()) (hok : vBL M9 qLen qCh false R.frames R.locals nL own meth.name cc ft pc is = true) : Gw p l e R s m args below meth c Q nL D dA z sa Hz h0 fin pc la st h := by
  refine snd (ρ := Unit) (K := KX (Gw p l e R s m args below meth c Q nL D dA z sa Hz h0 fin) ()) (FI := FI) (FV := fV0) (FL := fL0) (SL := strLen) (SC := strCh) (XS := (0, fun _ => 0)) (rt := fun _ _ => none) (r := ()) (sc := false) (MT := M9) (qL := qLen) (qC := qCh) C glob hM9 (fun t la st h e9 => KX_inv e9) hFI (fun _ _ _ _ e9 => nomatch e9) (fun _ _ _ _ _ e9 => nomatch e9) (fun k x h e9 => ?_) (fun k i x h e9 => ?_) (fun _ => rfl) (fun h => by cases h) (fun v h' ins pc' la' e9 hd hi => nomatch e9) is pc la st h hev hok
  · refine ⟨?_, str_ok.1 k x h e9⟩
    unfold strLen at e9
    exact (ite_some e9).1
  · refine ⟨?_, str_ok.2 k i x h e9⟩
    unfold strCh at e9
    exact (ite_some e9).1.1
theorem gw_fewer {pc : Nat} {la la' : LA} {st : List Value} {h : AH} (g : Gw p l e R s m args below meth c Q nL D dA z sa Hz h0 fin pc la' st h) (hl : ∀ q ∈ la', q ∈ la) : Gw p l e R s m args below meth c Q nL D dA z sa Hz h0 fin pc la st h :=
  ⟨g.1, g.2.1, fun H locs cells slots ls hR hS hl2 hc hs => g.2.2 H locs cells slots ls hR hS (lv_fewer hl2 (cvl_sub hl)) hc hs⟩
/-- a method's entry -/
theorem entW (hR : Rel D dA z h0 s.heap) (hS : va_S (Az z) Hz s.heap []) {As : List Value} (hlen : (lg_sl As).length ≤ nL) (g : Gw p l e R s m args below meth c Q nL D dA z sa Hz h0 fin 0 (lv_args 0 As) [] h0) : W p l e R s m args below meth c s.heap [] 0 0 Q (entryFrame m (As.map (cv z sa)).toArray nL) := by
  have K := g.2.2 s.heap [] 0 0 ((lg_sl (As.map (cv z sa)) ++ List.replicate (nL - (lg_sl (As.map (cv z sa))).length) Slot.unset).toArray) hR hS (by rw [← args_cv]; exact lv_entry (As.map (cv z sa)) (by rw [lg_len_cv]; exact hlen)) (by omega) (by omega)
  rw [lg_entry_eq]
  exact K
/-- its end, where it may have thrown -/
theorem ret9 {XC : String → State → State → Prop} (C : Cx p R s m args c cc own nL D dA z sa Hz h0 fin) (hrt : meth.sig.returnType = some .int) (hlk : meth.locks = false) (hS0 : va_S (Az z) Hz s.heap []) {pc mc ms : Nat} {la : LA} (hd : decode cc pc = .ok (.ireturn, 1)) {x9 : Int32} (hmc : nx fin = mc + nx h0) (hms : us fin = ms + us h0) :
    Gw p l e R s m args below meth c (vx_MQ below (Qcc D dA z (some (.int x9)) fin) XC args s mc ms (Az z)) nL D dA z sa Hz h0 fin pc la [.int x9] fin := by
  obtain ⟨hx, hb, hml, hown, hts, hG, hs0, hz0, hrc, hrs⟩ := id C
  refine ⟨Nat.le_refl _, Nat.le_refl _, fun H locs cells slots ls hR hS hl hc hs => ?_⟩
  obtain rfl : mc = cells := by omega
  obtain rfl : ms = slots := by omega
  have hF : ∀ t : State, t.heap = H → va_F (Az z) s t := by
    intro t ht
    refine ⟨by rw [ht, hR.2.1, hs0]; omega, fun q hq hA => ?_⟩
    have hq1 : q < Hz.size := by rw [hz0]; exact Nat.lt_succ_of_le (Nat.not_lt.mp hA)
    rw [ht, hS.2.1 q hq1 hA, hS0.2.1 q hq1 hA]
  exact vx_ret (W.iret hx hb hrt (fun t ht _ => ⟨rfl, by rw [ht]; exact hR, hF t ht⟩) hS.2.2 hd hlk)
end SND0
def XNE (D : va_G) (dA : Nat → ClassId) (z : Nat) (h : AH) : String → State → State → Prop := fun E st t => E = RNS ∧ Rel D dA z (alX h) t.heap ∧ va_F (Az z) st t
abbrev rmX : Room := { frames := 6, cells := 1, slots := 6, locals := 82 }
section LEDN
variable {l : Launch} {D : va_G} {dA : Nat → ClassId} {z : Nat} {sa : Nat → Nat} {Hz : Heap} {h : AH} {W : WD} {c : Nat} {v : Int32}
set_option maxRecDepth 100000 in
theorem led_no (hl : l.stackTraces = false) (hI : IN h W c) (hv : ledW W v = none) : vx_Met l yX7_led (wsM q_X7_led) rmX (Pcc D dA z sa Hz [.ref 1, .int v] h) (fun _ _ _ _ => False) (XNE D dA z h) 1 6 (Az z) := by
  obtain ⟨t1, r3, r4, t24, r24, t29, hf⟩ := led_at hI
  refine vx_ofW (cc := cX7_led) (maxL := 3) (ret := some .int) (ws' := gW) (by decide +kernel) rfl ?_
  intro p e s m args below meth cd s₁ B hml hex hv9
  obtain ⟨rfl, hR, hG, hS0, hz0⟩ := hv9
  generalize hAr : (([.ref 1, .int v] : List Value).map (cv z sa)).toArray = args at *
  have hts : ∀ w ∈ gW, w.before args s = true := fun w hw => atoms_spec (ws := wsM q_X7_led) B.pre w (List.mem_cons_of_mem _ hw)
  have hown : s.vm.findClass RX7 = some m.cls := findClass_of_methodNamed B.named
  have hnm : meth.name = "led" := (name_of_methodNamed B.named B.method).1
  have C : Cx p rmX s m args cd cX7_led RX7 3 D dA z sa Hz h (alX h) := ⟨B.exec, B.bytes, hml, hown, hts, hG, hR.2.1, hz0, by show nx h + 1 ≤ 1 + nx h; omega, by show us h + 6 ≤ 6 + us h; omega⟩
  have g27 : ∀ la, Gw p l e rmX s m args below meth cd (vx_MQ below (fun _ _ _ _ => False) (XNE D dA z h) args s 1 6 (Az z)) 3 D dA z sa Hz h (alX h) 27 la [] h := by
    intro la
    refine ⟨by show nx h ≤ nx h + 1; omega, by show us h ≤ us h + 6; omega, fun H locs cells slots ls hR1 hS1 hl1 hc1 hs1 => ?_⟩
    have w1 := hR1.1.1
    obtain rfl : cells = 0 := by omega
    obtain rfl : slots = 0 := by omega
    have hx6 := hG.2.2.2.2.2
    have kept : ∀ a : Nat, a < Hz.size → ¬ Az z a → s.heap[a]? = Hz[a]? := hS0.2.1
    have hSs : va_S (Az z) s.heap H locs := ⟨by rw [hR.2.1, hR1.2.1]; exact Nat.le_refl _, fun q hq hA => by
      have hq1 : q < Hz.size := by rw [hz0]; exact Nat.lt_succ_of_le (Nat.not_lt.mp hA)
      rw [hS1.2.1 q hq1 hA, hS0.2.1 q hq1 hA], hS1.2.2⟩
    refine nse_make (own := "ShadowPager") (cls := RNS) (text := "no such free shadow table") (Y9 := "java/lang/RuntimeException") (r9 := ["java/lang/Exception"]) (ik := 332) (is := 334) (ic := 336) (sa := sa 19) (ci := 9) (A := Az z) (T0 := TNS) (rest := []) (D := D) (cl := cls) (tys := tysOf dA) (ws := wsOf dA z h) B.exec B.bytes hl hown (by decide +kernel) (fun n hn => List.all_eq_true.mp (by decide +kernel : (["java/lang/RuntimeException", "java/lang/Exception"] : List String).all Bundle.fit = true) n hn) (hts _ nse_k) (hts _ nse_i) (hG.2.2.1 ("ShadowPager", 334, "no such free shadow table", 19) (List.mem_of_getElem? (i := 18) (by decide +kernel))) (fun w hw => ?_) nse_ot (hx6.2.2.2.1.kept kept) (hx6.2.2.2.2.kept kept) hSs (hl1.1.trans hml.symm) d_led_27 d_led_30 d_led_31 d_led_34 hG.1 hR1.2.2 ws_D (fun q hq => by have := hR.2.1; show z < q; omega) rfl (by decide) (by decide) (Nat.le_refl _) (Nat.le_refl _) (fun q H1 hP1 hD1 hS2 => ?_)
    · rcases nse_in w hw with q | ⟨q1, q2⟩
      · exact hts _ q
      · refine va_Nw.use ?_ (hx6.1 w q1 q2)
        cases w <;> first | rfl | (simp [isCD] at q2; done)
    · refine W_size fun hsz => ?_
      have hs0 := hR.2.1
      have hR2 : Rel D dA z (alX h) H1 := alX_rel hR1 hP1 hD1 (by omega)
      have hlen := ws_len dA z h
      have hq : (wsOf dA z h ++ [(q, (.inr (9, []) : va_E))])[nx h - 1]? = some (q, .inr (9, [])) := by
        rw [← hlen, List.getElem?_append_right (Nat.le_refl _), Nat.sub_self]
        rfl
      obtain ⟨r9, k1, ce, k2, k3, k4, -⟩ := hP1 _ _ hq
      have hcl : s.vm.findClass RNS = some ce.cls := by
        rw [k3]
        exact (hG.1.1 9 (RNS, TNS, 0) rfl).2.1
      refine vx_athrow B.exec B.bytes d_led_37 (vx_out (E := RNS) (fun y hy => (hex y hy).elim) B.notSynchronized k2 k4 hcl (fun t ht _ => ⟨rfl, by rw [ht]; exact hR2, by rw [ht]; exact hS2.1, fun q hq hA => by rw [ht]; exact hS2.2.1 q hq hA⟩) hS1.2.2 (Nat.le_refl _) (Nat.le_refl _))
  have hok : ∀ ft pc is, vLed ft pc is → vBL MT qLen qCh false rmX.frames rmX.locals 3 RX7 meth.name cX7_led ft pc is = true := fun ft pc is hk => by rw [hnm]; exact hk
  have g22 : ∀ x : Int32, x < 0 → Gw p l e rmX s m args below meth cd (vx_MQ below (fun _ _ _ _ => False) (XNE D dA z h) args s 1 6 (Az z)) 3 D dA z sa Hz h (alX h) 22 [(0, .ref 1), (1, .int v)] [.int x] h := by
    intro x hx0
    refine snd0 (M9 := MT) C hMT (FI := fI0) fi_0 (is := I_led_22) (ft := 27) (pc := 22) ?_ (hok _ _ _ ok_led_22)
    show (if x < 0 then KX (Gw p l e rmX s m args below meth cd (vx_MQ below (fun _ _ _ _ => False) (XNE D dA z h) args s 1 6 (Az z)) 3 D dA z sa Hz h (alX h)) () 27 [(2, .int x), (0, .ref 1), (1, .int v)] [] h else KX (Gw p l e rmX s m args below meth cd (vx_MQ below (fun _ _ _ _ => False) (XNE D dA z h) args s 1 6 (Az z)) 3 D dA z sa Hz h (alX h)) () 38 [(2, .int x), (0, .ref 1), (1, .int v)] [] h) = some ()
    rw [if_pos hx0]
    exact KX_of (g27 _)
  have g0 : Gw p l e rmX s m args below meth cd (vx_MQ below (fun _ _ _ _ => False) (XNE D dA z h) args s 1 6 (Az z)) 3 D dA z sa Hz h (alX h) 0 [(0, .ref 1), (1, .int v)] [] h := by
    cases hr : vR W
    · have g21 : Gw p l e rmX s m args below meth cd (vx_MQ below (fun _ _ _ _ => False) (XNE D dA z h) args s 1 6 (Az z)) 3 D dA z sa Hz h (alX h) 21 [(0, .ref 1), (1, .int v)] [] h := by
        refine snd0 (M9 := MT) C hMT (FI := fI0) fi_0 (is := I_led_21) (ft := 22) (pc := 21) ?_ (hok _ _ _ ok_led_21)
        show KX (Gw p l e rmX s m args below meth cd (vx_MQ below (fun _ _ _ _ => False) (XNE D dA z h) args s 1 6 (Az z)) 3 D dA z sa Hz h (alX h)) () 22 [(0, .ref 1), (1, .int v)] [.int (-1)] h = some ()
        exact KX_of (g22 (-1) (by decide))
      refine snd0 (M9 := MT) C hMT (FI := fI0) fi_0 (is := I_led_0) (ft := 0) (pc := 0) ?_ (hok _ _ _ ok_led_0)
      show (if (tg h 1).1 = 6 then (if rI h 1 3 = 0 then KX (Gw p l e rmX s m args below meth cd (vx_MQ below (fun _ _ _ _ => False) (XNE D dA z h) args s 1 6 (Az z)) 3 D dA z sa Hz h (alX h)) () 21 [(0, .ref 1), (1, .int v)] [] h else _) else none) = some ()
      rw [if_pos t1, r3, hr, if_pos (show bi false = 0 from rfl)]
      exact KX_of g21
    · have hfa : fa (vS W) (tP (vT W)) v = none := by unfold ledW at hv; rw [if_pos hr] at hv; exact hv
      have e9 := hf hr v
      rw [hfa] at e9
      obtain ⟨FI, hF, f1⟩ := one_FI (M9 := MT) (n1 := 118) (c_X3_freeAt (l := l) (D := D) (dA := dA) (z := z) (sa := sa) (Hz := Hz) str_ok e9)
      refine snd0 (M9 := MT) C hMT (FI := FI) hF (is := I_led_0) (ft := 0) (pc := 0) ?_ (hok _ _ _ ok_led_0)
      show (if (tg h 1).1 = 6 then (if rI h 1 3 = 0 then KX (Gw p l e rmX s m args below meth cd (vx_MQ below (fun _ _ _ _ => False) (XNE D dA z h) args s 1 6 (Az z)) 3 D dA z sa Hz h (alX h)) () 21 [(0, .ref 1), (1, .int v)] [] h else (if (tg h 1).1 = 6 then (if (tg h (rR h 1 4)).1 = 1 then (if (tg h (rR h (rR h 1 4) 2)).1 = 2 then (FI 118 [.ref (rR h (rR h 1 4) 2), .int v] h).bind (fun q => KX (Gw p l e rmX s m args below meth cd (vx_MQ below (fun _ _ _ _ => False) (XNE D dA z h) args s 1 6 (Az z)) 3 D dA z sa Hz h (alX h)) () 22 [(0, .ref 1), (1, .int v)] [.int q.1] q.2) else none) else none) else none)) else none) = some ()
      rw [if_pos t1, r3, hr, if_neg (by decide), if_pos t1, r4, if_pos t24, r24, if_pos t29, f1]
      exact KX_of (g22 m2 (by decide))
  rw [← hAr]
  have hg : Gw p l e rmX s m (([.ref 1, .int v] : List Value).map (cv z sa)).toArray below meth cd (vx_MQ below (fun _ _ _ _ => False) (XNE D dA z h) (([.ref 1, .int v] : List Value).map (cv z sa)).toArray s 1 6 (Az z)) 3 D dA z sa Hz h (alX h) 0 (lv_args 0 [.ref 1, .int v]) [] h := by rw [hAr]; exact g0
  exact entW (As := [.ref 1, .int v]) hR hS0 (Nat.le_of_ble_eq_true rfl) hg
end LEDN
