/-! ===== the law's own led, that catches ===== -/
abbrev hhL : List (Nat × Nat × Nat × Nat) := [(0, 9, 12, 13)]
abbrev wsL : List Cond := Cond.codeWith yL_led cL_led 4 (some .int) hhL :: gW
abbrev rmL (mc ms : Nat) : Room := { frames := 7, cells := mc, slots := ms, locals := 104 }
def I_ll_0 : List AI := [(.aload_n 2, 1, [], 0), (.iconst 0, 1, [], 0), (.aload_n 0, 1, [], 0), (.iload_n 1, 1, [], 0), (.invokevirtual 7, 3, [1, 0, 2, 6, 1270], 0), (.i2l, 1, [], 0), (.lastore, 1, [], 0), (.goto 6, 3, [15], 0)]
def I_ll_x : List AI := [(.aload_n 2, 1, [], 0), (.iconst 0, 1, [], 0), (.aload_n 0, 1, [], 0), (.iload_n 1, 1, [], 0)]
def I_ll_15 : List AI := [(.iconst 0, 1, [], 0)]
def M_ll : Nat → MI := fun _ => q_X7_led
abbrev vLl (ft pc : Nat) (is : List AI) : Prop := vBL M_ll qLen qCh false 7 104 4 RL "led" cL_led ft pc is = true
theorem ok_ll_0 : vLl 0 0 I_ll_0 := by unfold vLl; decide +kernel
theorem ok_ll_x : vLl 4 0 I_ll_x := by unfold vLl; decide +kernel
theorem ok_ll_15 : vLl 16 15 I_ll_15 := by unfold vLl; decide +kernel
theorem d_ll_4 : decode cL_led 4 = .ok (.invokevirtual 7, 3) := by decide +kernel
theorem d_ll_12 : decode cL_led 12 = .ok (.astore_n 3, 1) := by decide +kernel
theorem d_ll_13 : decode cL_led 13 = .ok (.iconst 1, 1) := by decide +kernel
theorem d_ll_14 : decode cL_led 14 = .ok (.ireturn, 1) := by decide +kernel
theorem d_ll_16 : decode cL_led 16 = .ok (.ireturn, 1) := by decide +kernel
set_option maxRecDepth 100000 in
theorem w_ll_cw : Cond.codeWith yL_led cL_led 4 (some .int) hhL ∈ gW := gW_at (pos := 1268) rfl rfl
theorem w_ll_cl : Cond.classLink RL 13 RNS ∈ gW := okW_mem (pos := 1269) (by decide +kernel)
theorem w_ll_ml : Cond.methodLink RL 7 yX7_led ∈ gW := okW_mem (pos := 1270) (by decide +kernel)
theorem w_ll_ca : Cond.castable RNS RNS ∈ lw_tbl ∧ isCD (Cond.castable RNS RNS) = true := okC_mem (pos := 1276) (by decide +kernel)
theorem w_ll_st : Cond.static yL_led ∈ gW := okW_mem (pos := 1267) (by decide +kernel)
theorem w_ll_li : Cond.methodLink "ShadowPagerLaw" 245 yL_led ∈ gW := okW_mem (pos := 1266) (by decide +kernel)
theorem w_ll_in : Cond.initialized RL ∈ gW := okW_mem (pos := 109) (by decide +kernel)
section LLED
variable {l : Launch} {D : va_G} {dA : Nat → ClassId} {z : Nat} {sa : Nat → Nat} {Hz : Heap} {h : AH} {V9 : WD} {c : Nat} {v : Int32}
set_option maxRecDepth 100000 in
theorem lled_ok {n : Nat} (hI : IN h V9 c) (hv : ledW V9 v = some n) (hn : n < 2147483648) : vx_Met l yL_led wsL (rmL 0 0) (Pcc D dA z sa Hz [.ref 1, .int v, .ref 224] h) (Qcc D dA z (some (.int 0)) (wL h 224 0 (ic n).toInt64)) (fun _ _ _ => False) 0 0 (Az z) := by
  have t1 := hI.t1
  have t3 := hI.t3
  refine vx_ofWH (cc := cL_led) (maxL := 4) (ret := some .int) (hh := hhL) (ws' := gW) (by decide +kernel) rfl ?_
  intro p e s m args below meth cd s₁ B hml hv9
  obtain ⟨rfl, hR, hG, hS0, hz0⟩ := hv9
  generalize hAr : (([.ref 1, .int v, .ref 224] : List Value).map (cv z sa)).toArray = args at *
  have hts : ∀ w ∈ gW, w.before args s = true := fun w hw => atoms_spec (ws := wsL) B.pre w (List.mem_cons_of_mem _ hw)
  have hown : s.vm.findClass RL = some m.cls := findClass_of_methodNamed B.named
  have hnm : meth.name = "led" := (name_of_methodNamed B.named B.method).1
  have C : Cx p (rmL 0 0) s m args cd cL_led RL 4 D dA z sa Hz h (wL h 224 0 (ic n).toInt64) := ⟨B.exec, B.bytes, hml, hown, hts, hG, hR.2.1, hz0, by show nx h ≤ 0 + nx h; omega, by show us h ≤ 0 + us h; omega⟩
  have hok : ∀ ft pc is, vLl ft pc is → vBL M_ll qLen qCh false (rmL 0 0).frames (rmL 0 0).locals 4 RL meth.name cL_led ft pc is = true := fun ft pc is hk => by rw [hnm]; exact hk
  have g16 : ∀ la, Gw p l e (rmL 0 0) s m args below meth cd (vx_MQ below (Qcc D dA z (some (.int 0)) (wL h 224 0 (ic n).toInt64)) (fun _ _ _ => False) args s 0 0 (Az z)) 4 D dA z sa Hz h (wL h 224 0 (ic n).toInt64) 16 la [.int 0] (wL h 224 0 (ic n).toInt64) := fun la => ret9 C B.returns B.notSynchronized hS0 d_ll_16 (by show nx h = 0 + nx h; omega) (by show us h = 0 + us h; omega)
  have g15 : ∀ la, Gw p l e (rmL 0 0) s m args below meth cd (vx_MQ below (Qcc D dA z (some (.int 0)) (wL h 224 0 (ic n).toInt64)) (fun _ _ _ => False) args s 0 0 (Az z)) 4 D dA z sa Hz h (wL h 224 0 (ic n).toInt64) 15 la [] (wL h 224 0 (ic n).toInt64) := fun la => snd0 (M9 := M_ll) C (fun _ => mk_X7_led) (FI := fI0) (fun _ _ _ _ _ e9 => nomatch e9) (is := I_ll_15) (ft := 16) (pc := 15) (show KX (Gw p l e (rmL 0 0) s m args below meth cd (vx_MQ below (Qcc D dA z (some (.int 0)) (wL h 224 0 (ic n).toInt64)) (fun _ _ _ => False) args s 0 0 (Az z)) 4 D dA z sa Hz h (wL h 224 0 (ic n).toInt64)) () 16 la [.int 0] (wL h 224 0 (ic n).toInt64) = some () from KX_of (g16 la)) (hok _ _ _ ok_ll_15)
  have g0 : Gw p l e (rmL 0 0) s m args below meth cd (vx_MQ below (Qcc D dA z (some (.int 0)) (wL h 224 0 (ic n).toInt64)) (fun _ _ _ => False) args s 0 0 (Az z)) 4 D dA z sa Hz h (wL h 224 0 (ic n).toInt64) 0 [(0, .ref 1), (1, .int v), (2, .ref 224)] [] h := by
    obtain ⟨FI, hF, f1⟩ := one_FI (M9 := M_ll) (n1 := 0) (show CalOK l D dA z sa Hz (M_ll 0) [.ref 1, .int v] h (some (.int (ic n))) h from led_ok hI hv hn)
    refine snd0 (M9 := M_ll) C (fun _ => mk_X7_led) (FI := FI) hF (is := I_ll_0) (ft := 0) (pc := 0) ?_ (hok _ _ _ ok_ll_0)
    show (if (tg h 1).1 = 6 then (FI 0 [.ref 1, .int v] h).bind (fun q => if inB q.2 224 103 0 then KX (Gw p l e (rmL 0 0) s m args below meth cd (vx_MQ below (Qcc D dA z (some (.int 0)) (wL h 224 0 (ic n).toInt64)) (fun _ _ _ => False) args s 0 0 (Az z)) 4 D dA z sa Hz h (wL h 224 0 (ic n).toInt64)) () 15 [(0, .ref 1), (1, .int v), (2, .ref 224)] [] (wL q.2 224 0 q.1.toInt64) else none) else none) = some ()
    rw [if_pos t1, f1]
    show (if inB h 224 103 0 then KX (Gw p l e (rmL 0 0) s m args below meth cd (vx_MQ below (Qcc D dA z (some (.int 0)) (wL h 224 0 (ic n).toInt64)) (fun _ _ _ => False) args s 0 0 (Az z)) 4 D dA z sa Hz h (wL h 224 0 (ic n).toInt64)) () 15 [(0, .ref 1), (1, .int v), (2, .ref 224)] [] (wL h 224 0 (ic n).toInt64) else none) = some ()
    rw [if_pos (by unfold inB; rw [t3]; decide)]
    exact KX_of (g15 _)
  have hg : Gw p l e (rmL 0 0) s m (([.ref 1, .int v, .ref 224] : List Value).map (cv z sa)).toArray below meth cd (vx_MQ below (Qcc D dA z (some (.int 0)) (wL h 224 0 (ic n).toInt64)) (fun _ _ _ => False) (([.ref 1, .int v, .ref 224] : List Value).map (cv z sa)).toArray s 0 0 (Az z)) 4 D dA z sa Hz h (wL h 224 0 (ic n).toInt64) 0 (lv_args 0 [.ref 1, .int v, .ref 224]) [] h := by rw [hAr]; exact g0
  rw [← hAr]
  exact entW (As := [.ref 1, .int v, .ref 224]) hR hS0 (Nat.le_of_ble_eq_true rfl) hg
set_option maxRecDepth 100000 in
theorem lled_no (hl9 : l.stackTraces = false) (hI : IN h V9 c) (hv : ledW V9 v = none) : vx_Met l yL_led wsL (rmL 1 6) (Pcc D dA z sa Hz [.ref 1, .int v, .ref 224] h) (Qcc D dA z (some (.int 1)) (alX h)) (fun _ _ _ => False) 1 6 (Az z) := by
  have t1 := hI.t1
  have t3 : (tg h 224).1 = 103 := by rw [hI.t3]
  refine vx_ofWH (cc := cL_led) (maxL := 4) (ret := some .int) (hh := hhL) (ws' := gW) (by decide +kernel) rfl ?_
  intro p e s m args below meth cd s₁ B hml hv9
  obtain ⟨rfl, hR, hG, hS0, hz0⟩ := hv9
  generalize hAr : (([.ref 1, .int v, .ref 224] : List Value).map (cv z sa)).toArray = args at *
  have hts : ∀ w ∈ gW, w.before args s = true := fun w hw => atoms_spec (ws := wsL) B.pre w (List.mem_cons_of_mem _ hw)
  have hown : s.vm.findClass RL = some m.cls := findClass_of_methodNamed B.named
  have hnm : meth.name = "led" := (name_of_methodNamed B.named B.method).1
  have htab : cd.exceptionTable.toList = tableOf hhL := vx_table (x := yL_led) B (hts _ w_ll_cw)
  have C : Cx p (rmL 1 6) s m args cd cL_led RL 4 D dA z sa Hz h (alX h) := ⟨B.exec, B.bytes, hml, hown, hts, hG, hR.2.1, hz0, by show nx h + 1 ≤ 1 + nx h; omega, by show us h + 6 ≤ 6 + us h; omega⟩
  have hok : ∀ ft pc is, vLl ft pc is → vBL M_ll qLen qCh false (rmL 1 6).frames (rmL 1 6).locals 4 RL meth.name cL_led ft pc is = true := fun ft pc is hk => by rw [hnm]; exact hk
  have g14 : Gw p l e (rmL 1 6) s m args below meth cd (vx_MQ below (Qcc D dA z (some (.int 1)) (alX h)) (fun _ _ _ => False) args s 1 6 (Az z)) 4 D dA z sa Hz h (alX h) 14 [] [.int 1] (alX h) := ret9 C B.returns B.notSynchronized hS0 d_ll_14 (by show nx h + 1 = 1 + nx h; omega) (by show us h + 6 = 6 + us h; omega)
  have g4 : Gw p l e (rmL 1 6) s m args below meth cd (vx_MQ below (Qcc D dA z (some (.int 1)) (alX h)) (fun _ _ _ => False) args s 1 6 (Az z)) 4 D dA z sa Hz h (alX h) 4 [(0, .ref 1), (1, .int v), (2, .ref 224)] [.int v, .ref 1, .int 0, .ref 224] h := by
    refine ⟨by show nx h ≤ nx h + 1; omega, by show us h ≤ us h + 6; omega, fun H locs cells slots ls hR1 hS1 hl1 hc1 hs1 => ?_⟩
    obtain rfl : cells = 0 := by omega
    obtain rfl : slots = 0 := by omega
    have he := hR1.at (by omega : (6 : Nat) ≠ 999) t1
    rw [cell_ob (by omega) t1] at he
    have hrecv := va_recv (ci := 6) hG.1 hR1.2.2 rfl he
    obtain ⟨m1, m2, m3, m4, m5, m6, m7⟩ := mk_X7_led
    obtain ⟨m61, m62⟩ := m6 rfl
    have hpre : PreV s H RX7 (z + 1) (Pcc D dA z sa Hz [.ref 1, .int v] h) [.int v] := by
      refine ⟨Pcc_blind, hrecv, fun U hU hW => ?_⟩
      have := Pcc_at hG hz0 (As := [.ref 1, .int v]) hR1 hS1 U hU hW
      exact this
    have hrun := vx_runV (rest := [.int 0, .ref (z + 224)]) (p := p) (e := e) (below := below) (meth := meth) (locs := locs) (Ts := gW) (cc := cL_led) (nL := 4) (own := RL) (C := RX7) (R := rmL 1 6) (g := F0 m 4 ls [.int v, .ref (z + 1), .int 0, .ref (z + 224)]) ⟨B.exec, B.bytes, hml, hown, hts⟩ (led_no (l := l) (D := D) (dA := dA) (z := z) (sa := sa) (Hz := Hz) hl9 hI hv) ⟨callB_of 1 hts (good_ws ⟨m1, m2, m3, m4, m5, m6, m7⟩) rfl rfl rfl (hts _ m2) (hts _ w_ll_ml) ⟨m3.1, m3.2, m4⟩ ⟨Nat.le_of_ble_eq_true rfl, Nat.le_of_ble_eq_true rfl⟩, hts _ m61, hts _ m62⟩ hpre rfl rfl hl1.1 rfl (lv_room (Nat.le_of_ble_eq_true rfl)) d_ll_4 ⟨Nat.le_refl _, Nat.le_refl _⟩
    intro T hT X
    rcases hrun T hT X with ⟨v', st₀, t, T', L, e0, X', hL, e1, e2, hq, st⟩ | ⟨q, st₀, t, T', L, E, ce, e0, X', hL, e1, e2, ⟨rfl, hRel, hF⟩, hce, hcv, hcl, st⟩
    · exact hq.elim
    · obtain ⟨k1, k2, k3⟩ := vx_keep (A0 := Az z) (A1 := Az z) (H0 := Hz) (free := Az z) e0 e1 hS1 (fun q _ h => h) (fun q h => h) hL hF
      have hR2 : Rel D dA z (alX h) T'.heap := by rw [e1]; exact hRel
      have kk : W p l e (rmL 1 6) s m args below meth cd T'.heap (locs ++ L) (0 + 1) (0 + 6) (vx_MQ below (Qcc D dA z (some (.int 1)) (alX h)) (fun _ _ _ => False) args s 1 6 (Az z)) (F0 m 12 ls [.ref q]) := by
        refine lv_astore_n B.exec B.bytes d_ll_12 rfl hl1 (by decide) rfl (fun ls2 hl2 => ?_)
        refine lv_iconst (v := 1) B.exec B.bytes d_ll_13 (by decide) ?_
        exact g14.2.2 T'.heap (locs ++ L) (0 + 1) (0 + 6) ls2 hR2 k3 (lv_fewer hl2 (fun _ hq => nomatch hq)) (by show 0 + 1 + nx h = nx h + 1; omega) (by show 0 + 6 + us h = us h + 6; omega)
      obtain ⟨t2, a1, b1⟩ := vx_catch (own := RL) (name := RNS) (E := RNS) (pc := 4) (rest := [.int 0, .ref (z + 224)]) hown [] _ [] htab (fun y hy => nomatch hy) rfl (by decide) (hts _ w_ll_cl) (va_Nw.use rfl (hG.2.2.2.2.2.1 _ w_ll_ca.1 w_ll_ca.2)) (by rw [e1]; exact hce) hcv hcl kk T' rfl X'
      exact ⟨t2, st.trans a1, b1⟩
  have g0 : Gw p l e (rmL 1 6) s m args below meth cd (vx_MQ below (Qcc D dA z (some (.int 1)) (alX h)) (fun _ _ _ => False) args s 1 6 (Az z)) 4 D dA z sa Hz h (alX h) 0 [(0, .ref 1), (1, .int v), (2, .ref 224)] [] h := by
    refine snd0 (M9 := M_ll) C (fun _ => mk_X7_led) (FI := fI0) (fun _ _ _ _ _ e9 => nomatch e9) (is := I_ll_x) (ft := 4) (pc := 0) ?_ (hok _ _ _ ok_ll_x)
    show KX (Gw p l e (rmL 1 6) s m args below meth cd (vx_MQ below (Qcc D dA z (some (.int 1)) (alX h)) (fun _ _ _ => False) args s 1 6 (Az z)) 4 D dA z sa Hz h (alX h)) () 4 [(0, .ref 1), (1, .int v), (2, .ref 224)] [.int v, .ref 1, .int 0, .ref 224] h = some ()
    exact KX_of g4
  have hg : Gw p l e (rmL 1 6) s m (([.ref 1, .int v, .ref 224] : List Value).map (cv z sa)).toArray below meth cd (vx_MQ below (Qcc D dA z (some (.int 1)) (alX h)) (fun _ _ _ => False) (([.ref 1, .int v, .ref 224] : List Value).map (cv z sa)).toArray s 1 6 (Az z)) 4 D dA z sa Hz h (alX h) 0 (lv_args 0 [.ref 1, .int v, .ref 224]) [] h := by rw [hAr]; exact g0
  rw [← hAr]
  exact entW (As := [.ref 1, .int v, .ref 224]) hR hS0 (Nat.le_of_ble_eq_true rfl) hg
end LLED
theorem good_wsL : GoodIn gW wsL := by
  intro w hw
  rcases List.mem_cons.mp hw with e | hw
  · rw [e]
    exact ⟨w_ll_cw, gW_good _ w_ll_cw⟩
  · exact ⟨hw, gW_good _ hw⟩
theorem d_l1859 : decode code 1859 = .ok (.invokestatic 245, 3) := by decide +kernel
section LCALL
variable {p : Program} {l : Launch} {e : Env} {s : State} {m : MethodId} {args : Array Value} {below : List Frame} {meth : Method} {cd : Code} {Q : State → Prop}
variable {D : va_G} {dA : Nat → ClassId} {z : Nat} {sa : Nat → Nat} {Hz : Heap}
/-- the law calls it -/
theorem led_call (C : Cx p room_1 s m args cd code R_law 7 D dA z sa Hz h00 FIN) {h h' : AH} {la : LA} {v x9 : Int32} {mc ms : Nat} (hM : vx_Met l yL_led wsL (rmL mc ms) (Pcc D dA z sa Hz [.ref 1, .int v, .ref 224] h) (Qcc D dA z (some (.int x9)) h') (fun _ _ _ => False) mc ms (Az z)) (hmc : nx h' = nx h + mc) (hms : us h' = us h + ms)
    (k : Gw p l e room_1 s m args below meth cd Q 7 D dA z sa Hz h00 FIN 1862 la [.int x9] h') : Gw p l e room_1 s m args below meth cd Q 7 D dA z sa Hz h00 FIN 1859 la [.ref 224, .int v, .ref 1] h := by
  obtain ⟨hx, hb, hml, hown, hts, hG, hs0, hz0, hrc, hrs⟩ := id C
  have k1 := k.1
  have k2 := k.2.1
  have f1 : nx FIN = 601025 := rfl
  have f2 : us FIN = 7293034 := rfl
  have f3 : nx h00 = 1 := rfl
  have f4 : us h00 = 0 := rfl
  refine ⟨by omega, by omega, fun H locs cells slots ls hR hS hl hc hs => ?_⟩
  have hrun := vx_runSX (p := p) (e := e) (below := below) (meth := meth) (locs := locs) (cells := cells) (slots := slots) (H := H) (rest := []) (As := ([.ref 1, .int v, .ref 224] : List Value).map (cv z sa)) (Ts := gW) (cc := code) (nL := 7) (own := R_law) (R := room_1) (index := 245) (n := 3) (hh := hhL) (bytes := cL_led) (maxL := 4) (ret := some .int) (g := F0 m 1859 ls (([.ref 224, .int v, .ref 1] : List Value).map (cv z sa))) ⟨hx, hb, hml, hown, hts⟩ hM
    ⟨⟨rfl, rfl, Nat.le_of_ble_eq_true rfl, Nat.le_of_ble_eq_true rfl, pay_in hts good_wsL, List.mem_cons_self⟩, hts _ w_ll_cw, hts _ w_ll_in, ⟨by decide +kernel, by decide +kernel⟩, fun sig hsig => ?_, hts _ w_ll_li, hts _ w_ll_st⟩ ⟨Pcc_blind, fun U hU hW => Pcc_at hG hz0 hR hS U hU hW⟩ rfl rfl hl.1 rfl (lv_room (Nat.le_of_ble_eq_true rfl)) d_l1859 ⟨by show cells + mc ≤ 601024; omega, by show slots + ms ≤ 7293034; omega⟩
  · have hrun2 : va_Run p l e room_1 s m args below meth cd H locs cells slots mc ms (F0 m 1859 ls (([.ref 224, .int v, .ref 1] : List Value).map (cv z sa))) [] (Qcc D dA z (some (.int x9)) h' (([.ref 1, .int v, .ref 224] : List Value).map (cv z sa)).toArray) (Az z) := by
      intro T hT X
      rcases hrun T hT X with q | ⟨q, st₀, t, T', L, E, ce, e0, X', hL, e1, e2, hXC, -⟩
      · exact q
      · exact hXC.elim
    refine callG hrun2 hS (fun H1 locs1 hR1 hS1 => ?_)
    exact k.2.2 H1 locs1 (cells + mc) (slots + ms) ls hR1 hS1 hl (by omega) (by omega)
  · have h2 : (parseMethodDescriptor yL_led.desc).map (fun d => d.parameters.length) = some 3 := by decide +kernel
    rw [hsig] at h2
    exact (Option.some.inj h2).symm
end LCALL
theorem led_lt {h : AH} {W : WD} {c : Nat} {v : Int32} {n : Nat} (hI : IN h W c) (hv : ledW W v = some n) : n < 2147483648 := by
  obtain ⟨S, I, L, ta, tb, a, rfl, H, -⟩ := hI
  unfold ledW at hv
  cases hr : vR W
  · rw [hr, if_neg (by decide)] at hv; cases hv
  · rw [hr, if_pos rfl] at hv
    obtain ⟨V1, -⟩ := H.2.2.2.2.2.2.2.2.2.1 hr
    have := (fs_some hv).2.1
    have := V1.1
    omega
