/-! ===== led: the class's method, that throws ===== -/
def alX (h : AH) : AH := ((nx h + 1, us h + 6), (fun b => if b = nx h then (9, 0) else tg h b), h.2.2)
noncomputable def KX {ρ : Type} (G : Nat → LA → List Value → AH → Prop) (r : ρ) : Nat → LA → List Value → AH → Option ρ := fun t la st h => @ite _ (G t la st h) (Classical.propDecidable _) (some r) none
theorem KX_of {ρ : Type} {G : Nat → LA → List Value → AH → Prop} {r : ρ} {t : Nat} {la : LA} {st : List Value} {h : AH} (g : G t la st h) : KX G r t la st h = some r := if_pos g
theorem KX_inv {ρ : Type} {G : Nat → LA → List Value → AH → Prop} {r : ρ} {t : Nat} {la : LA} {st : List Value} {h : AH} (e : KX G r t la st h = some r) : G t la st h := by
  unfold KX at e
  by_cases g : G t la st h
  · exact g
  · rw [if_neg g] at e; cases e
def q_X7_led : MI := (yX7_led, cX7_led, 3, (some .int), 6, 82, 1, 1)
set_option maxRecDepth 100000 in
theorem mk_X7_led : MOk q_X7_led := mokB_ok (p2 := 110) (p3 := 1271) (p4 := 1272) (gW_at (pos := 1273) rfl rfl) (by decide +kernel)
def I_led_0 : List AI := [(.aload_n 0, 1, [], 0), (.getfield 107, 3, [6, 3, 3, 357], 0), (.ifCond .eq 17, 3, [21], 0), (.aload_n 0, 1, [], 0), (.getfield 29, 3, [6, 4, 2, 358], 0), (.getfield 165, 3, [1, 2, 2, 323], 0), (.iload_n 1, 1, [], 0), (.invokevirtual 185, 3, [1, 118, 2, 2, 914], 0), (.goto 4, 3, [22], 0)]
def I_led_21 : List AI := [(.iconst (-1), 1, [], (-1))]
def I_led_22 : List AI := [(.istore_n 2, 1, [], 0), (.iload_n 2, 1, [], 0), (.ifCond .ge 14, 3, [38], 0)]
def I_led_38 : List AI := [(.iload_n 2, 1, [], 0), (.ireturn, 1, [], 0)]
abbrev vLed (ft pc : Nat) (is : List AI) : Prop := vBL MT qLen qCh false q_X7_led.2.2.2.2.1 q_X7_led.2.2.2.2.2.1 q_X7_led.2.2.1 q_X7_led.1.cls q_X7_led.1.name q_X7_led.2.1 ft pc is = true
theorem ok_led_0 : vLed 0 0 I_led_0 := by unfold vLed; decide +kernel
theorem ok_led_21 : vLed 22 21 I_led_21 := by unfold vLed; decide +kernel
theorem ok_led_22 : vLed 27 22 I_led_22 := by unfold vLed; decide +kernel
theorem ok_led_38 : vLed 0 38 I_led_38 := by unfold vLed; decide +kernel
theorem d_led_27 : decode cX7_led 27 = .ok (.new 332, 3) := by decide +kernel
theorem d_led_30 : decode cX7_led 30 = .ok (.dup, 1) := by decide +kernel
theorem d_led_31 : decode cX7_led 31 = .ok (.ldc_w 334, 3) := by decide +kernel
theorem d_led_34 : decode cX7_led 34 = .ok (.invokespecial 336, 3) := by decide +kernel
theorem d_led_37 : decode cX7_led 37 = .ok (.athrow, 1) := by decide +kernel
section LEDX
variable {l : Launch} {D : va_G} {dA : Nat → ClassId} {z : Nat} {sa : Nat → Nat} {Hz : Heap} {h : AH} {W : WD} {c : Nat} {v : Int32}
theorem led_at (hI : IN h W c) : (tg h 1).1 = 6 ∧ rI h 1 3 = bi (vR W) ∧ rR h 1 4 = 24 ∧ (tg h 24).1 = 1 ∧ rR h 24 2 = 29 ∧ (tg h 29).1 = 2 ∧ (vR W = true → ∀ v, p_X3_freeAt 29 v h = some (oc (fa (vS W) (tP (vT W)) v), h)) := by
  have t1 := hI.t1
  obtain ⟨S, I, L, ta, tb, a, rfl, H, ha, hM, hX, n1, n2, u1⟩ := hI
  obtain ⟨hA, hY, hC, hV⟩ := H
  have hP : PL S 24 := hY.2.2.2.2.2.2.2.2.2.2.2.1
  refine ⟨t1, hC.1, hY.2.2.2.2.1, by show (tT S 24).1 = 1; rw [hP.1], hP.2.2.2.1, by show (tT S 29).1 = 2; rw [hP.Q.1], fun hr v => ?_⟩
  have hr2 := (hC.2.2.2.2.2.2.2.2.2.2.2.2.1 hr).2.2
  obtain ⟨V1, V2, V3, -⟩ := hV.2.2.2.2.2.2.1 hr
  exact k_free hP.Q hr2 V3.1 v
theorem one_FI {n1 : Nat} {A1 : List Value} {h h1 : AH} {r1 : Int32} {M9 : Nat → MI} (c1 : CalOK l D dA z sa Hz (M9 n1) A1 h (some (.int r1)) h1) :
    ∃ FI : Nat → List Value → AH → Option (Int32 × AH), (∀ mi As h x h', FI mi As h = some (x, h') → CalOK l D dA z sa Hz (M9 mi) As h (some (.int x)) h') ∧ FI n1 A1 h = some (r1, h1) := by
  refine ⟨fun mi As g => @ite _ (mi = n1 ∧ As = A1 ∧ g = h) (Classical.propDecidable _) (some (r1, h1)) none, ?_, if_pos ⟨rfl, rfl, rfl⟩⟩
  intro mi As g x h' e
  simp only at e
  split at e
  · rename_i q; obtain ⟨rfl, rfl, rfl⟩ := q; cases e; exact c1
  · cases e
set_option maxRecDepth 100000 in
/-- it finds one: a call as any other -/
theorem led_ok {n : Nat} (hI : IN h W c) (hv : ledW W v = some n) (hn : n < 2147483648) : CalOK l D dA z sa Hz q_X7_led [.ref 1, .int v] h (some (.int (ic n))) h := by
  obtain ⟨t1, r3, r4, t24, r24, t29, hf⟩ := led_at hI
  refine calOf (by decide +kernel) (Nat.le_of_ble_eq_true rfl) ?_
  have hr : vR W = true := by
    cases q : vR W
    · unfold ledW at hv; rw [q, if_neg (by decide)] at hv; cases hv
    · rfl
  have hfa : fa (vS W) (tP (vT W)) v = some n := by unfold ledW at hv; rw [if_pos hr] at hv; exact hv
  have e9 := hf hr v
  rw [hfa] at e9
  obtain ⟨FI, hF, f1⟩ := one_FI (M9 := MT) (n1 := 118) (c_X3_freeAt (l := l) (D := D) (dA := dA) (z := z) (sa := sa) (Hz := Hz) str_ok e9)
  have g38 : GM l D dA z sa Hz q_X7_led h (some (.int (ic n))) h 38 [(2, .int (ic n))] [] h := step str_ok (is := I_led_38) (pc := 38) (K := KX (GM l D dA z sa Hz q_X7_led h (some (.int (ic n))) h) (ic n, h)) (FI := fI0) (FV := fV0) (FL := fL0) (rt := rtI) (ft := 0) (r := (ic n, h)) (show some (ic n, h) = some (ic n, h) from rfl) ok_led_38 (fun t la st h e => KX_inv e) fi_0 fv_0 fl_0 (rtI_ok rfl)
  have g22 : GM l D dA z sa Hz q_X7_led h (some (.int (ic n))) h 22 [(0, .ref 1), (1, .int v)] [.int (ic n)] h := by
    refine step str_ok (is := I_led_22) (pc := 22) (K := KX (GM l D dA z sa Hz q_X7_led h (some (.int (ic n))) h) (ic n, h)) (FI := fI0) (FV := fV0) (FL := fL0) (rt := rtI) (ft := 27) (r := (ic n, h)) ?_ ok_led_22 (fun t la st h e => KX_inv e) fi_0 fv_0 fl_0 (rtI_ok rfl)
    show (if ic n < 0 then KX (GM l D dA z sa Hz q_X7_led h (some (.int (ic n))) h) (ic n, h) 27 [(2, .int (ic n)), (0, .ref 1), (1, .int v)] [] h else KX (GM l D dA z sa Hz q_X7_led h (some (.int (ic n))) h) (ic n, h) 38 [(2, .int (ic n)), (0, .ref 1), (1, .int v)] [] h) = some (ic n, h)
    rw [if_neg (by rw [ic_lt0 hn]; exact id)]
    exact KX_of (gm_fewer g38 (mem_cons List.mem_cons_self mem_nil))
  refine step str_ok (is := I_led_0) (pc := 0) (K := KX (GM l D dA z sa Hz q_X7_led h (some (.int (ic n))) h) (ic n, h)) (FI := FI) (FV := fV0) (FL := fL0) (rt := rtI) (ft := 0) (r := (ic n, h)) ?_ ok_led_0 (fun t la st h e => KX_inv e) hF fv_0 fl_0 (rtI_ok rfl)
  show (if (tg h 1).1 = 6 then (if rI h 1 3 = 0 then KX (GM l D dA z sa Hz q_X7_led h (some (.int (ic n))) h) (ic n, h) 21 [(0, .ref 1), (1, .int v)] [] h else (if (tg h 1).1 = 6 then (if (tg h (rR h 1 4)).1 = 1 then (if (tg h (rR h (rR h 1 4) 2)).1 = 2 then (FI 118 [.ref (rR h (rR h 1 4) 2), .int v] h).bind (fun q => KX (GM l D dA z sa Hz q_X7_led h (some (.int (ic n))) h) (ic n, h) 22 [(0, .ref 1), (1, .int v)] [.int q.1] q.2) else none) else none) else none)) else none) = some (ic n, h)
  rw [if_pos t1, r3, hr, if_neg (by decide), if_pos t1, r4, if_pos t24, r24, if_pos t29, f1]
  exact KX_of g22
end LEDX
