/-! ===== the constant texts' own methods: length and charAt ===== -/
section STR
variable {l : Launch} {D : va_G} {dA : Nat → ClassId} {z : Nat} {sa : Nat → Nat} {Hz : Heap}
def Ps (D : va_G) (dA : Nat → ClassId) (z : Nat) (sa : Nat → Nat) (Hz : Heap) (X : State → Prop) (av : List Value) : Array Value → State → Prop := fun v U => v = av.toArray ∧ Gs D dA z sa Hz U ∧ va_S (Az z) Hz U.heap [] ∧ X U
def Qs (v : Option Value) : Array Value → State → Outcome → State → Prop := fun _ st oc t => oc = .returned v ∧ t.heap = st.heap
/-- a method that reads old cells alone -/
def SM (l : Launch) (D : va_G) (dA : Nat → ClassId) (z : Nat) (sa : Nat → Nat) (Hz : Heap) (X : State → Prop) (q : MI) (av : List Value) (v : Option Value) : Prop := Met l q.1 (wsM q) { frames := q.2.2.2.2.1, cells := 0, slots := 0, locals := q.2.2.2.2.2.1 } (Ps D dA z sa Hz X av) (Qs v) 0 0 (fun _ => False)
theorem smOf {X : State → Prop} {q : MI} {av : List Value} {v : Option Value} (hp : plainName q.1.cls = true) (hlen : (lg_sl av).length ≤ q.2.2.1)
    (body : ∀ (p : Program) (e : Env) (s : State) (m : MethodId) (below : List Frame) (meth : Method) (c : Code) (ls : Array Slot), p.tables.exec = Jvm.exec → c.code = q.2.1 → c.maxLocals = q.2.2.1 → s.vm.findClass q.1.cls = some m.cls → (∀ w ∈ gW, w.before av.toArray s = true) → Gs D dA z sa Hz s → va_S (Az z) Hz s.heap [] → X s → meth.sig.returnType = q.2.2.2.1 → meth.locks = false → lv_has ls q.2.2.1 (lv_args 0 av) →
      W p l e { frames := q.2.2.2.2.1, cells := 0, slots := 0, locals := q.2.2.2.2.2.1 } s m av.toArray below meth c s.heap [] 0 0 (MQ below (Qs v) av.toArray s 0 0 (fun _ => False)) (F0 m 0 ls [])) : SM l D dA z sa Hz X q av v := by
  refine Met.ofW (cc := q.2.1) (maxL := q.2.2.1) (ret := q.2.2.2.1) hp rfl ?_
  intro p e s m args below meth c s₁ B hml hv
  obtain ⟨rfl, hG, hS, hX⟩ := hv
  have hts : ∀ w ∈ gW, w.before av.toArray s = true := fun w hw => atoms_spec (ws := wsM q) B.pre w (List.mem_cons_of_mem _ hw)
  rw [lg_entry_eq]
  exact body p e s m below meth c _ B.exec B.bytes hml (findClass_of_methodNamed B.named) hts hG hS hX B.returns B.notSynchronized (lv_entry av hlen)
theorem Ps_blind {X : State → Prop} (hX : ∀ s U : State, s.WarmedH U.vm → X s → X U) {av : List Value} : FrameBlind (Ps D dA z sa Hz X av) := fun a U g mk q => ⟨q.1, Gs.same (s := U) (show (U.calling g mk a).vm = U.vm from rfl) q.2.1, q.2.2.1, hX U _ (show U.WarmedH (U.calling g mk a).vm from State.WarmedH.refl U) q.2.2.2⟩
def Tr : State → Prop := fun _ => True
theorem Tr_w : ∀ s U : State, s.WarmedH U.vm → Tr s → Tr U := fun _ _ _ _ => trivial
theorem met_conv {y : MethodName} {ws : List Cond} {rm : Room} {Pc Pc' : Array Value → State → Prop} {Qc Qc' : Array Value → State → Outcome → State → Prop} {mc ms : Nat} {free free' : Addr → Prop} (h : Met l y ws rm Pc Qc mc ms free) (h1 : ∀ a s, Pc' a s → Pc a s) (h2 : ∀ a s o t, Pc' a s → Qc a s o t → Qc' a s o t) (h3 : ∀ q, free q → free' q) : Met l y ws rm Pc' Qc' mc ms free' := by
  intro p e ha hc hk s m args below hf happ hP hK
  obtain ⟨n, o, a1, a2, a3, hq, L, hF, hL⟩ := h p e ha hc hk s m args below hf happ (h1 _ _ hP) hK
  exact ⟨n, o, a1, a2, a3, h2 _ _ _ _ hP hq, L, hF, fun q hq => h3 _ (hL q hq)⟩
variable {p : Program} {e : Env} {R : Room} {s : State} {m : MethodId} {args : Array Value} {below : List Frame} {meth : Method} {c : Code} {Q : State → Prop}
/-- behind such a call the heap is as it was -/
theorem callH {H : Heap} {locs : List Loc} {cells slots pc : Nat} {ls : Array Slot} {st0 rest : List Value} {v : Option Value} {a : Array Value} {f : Addr → Prop} (hr : va_Run p l e R s m args below meth c H locs cells slots 0 0 (F0 m pc ls st0) rest (Qs v a) (fun _ => False))
    (kk : W p l e R s m args below meth c H locs cells slots Q (F0 m (pc + 3) ls (v.toList ++ rest))) : W p l e R s m args below meth c H locs cells slots Q (F0 m pc ls st0) := by
  intro T hT X
  obtain ⟨v', st₀, t, T', L, e0, X', hL, e1, e2, ⟨hv, hp⟩, st⟩ := hr T hT X
  cases hv
  have hL0 : L = [] := by
    cases L with
    | nil => rfl
    | cons x r => exact absurd (hL x List.mem_cons_self) (fun h => h)
  subst hL0
  rw [List.append_nil] at X'
  obtain ⟨t2, a1, b1⟩ := kk T' (by rw [e1, hp, e0]) X'
  exact ⟨t2, st t2 a1, b1⟩
theorem sm_callS {X : State → Prop} (hXw : ∀ s U : State, s.WarmedH U.vm → X s → X U) (hX : X s) {q : MI} {av : List Value} {v : Option Value} {cc : ByteArray} {own : String} {nL pc idx : Nat} {locs : List Loc} {cells slots : Nat} {ls : Array Slot} {rest : List Value} (hx : p.tables.exec = Jvm.exec) (hb : c.code = cc) (hml : c.maxLocals = nL) (hown : s.vm.findClass own = some m.cls) (hts : ∀ w ∈ gW, w.before args s = true) (hG : Gs D dA z sa Hz s) {H : Heap} (hS : va_S (Az z) Hz H locs) (hl : ls.size = nL)
    (hM : MOk q) (hkind : q.2.2.2.2.2.2.1 = 0) (hlen : av.length = q.2.2.2.2.2.2.2) (hlink : Cond.methodLink own idx q.1 ∈ gW) (hd : decode cc pc = .ok (.invokestatic idx, 3)) (hroom : q.2.2.2.2.1 + 1 ≤ R.frames ∧ 8 + (q.2.2.1 + 11) + q.2.2.2.2.2.1 ≤ R.locals) (hrest : (rest.map fun v => v.category).sum ≤ 8) (hcs : cells ≤ R.cells ∧ slots ≤ R.slots)
    (hsm : SM l D dA z sa Hz X q av v) (kk : W p l e R s m args below meth c H locs cells slots Q (F0 m (pc + 3) ls (v.toList ++ rest))) : W p l e R s m args below meth c H locs cells slots Q (F0 m pc ls (av.reverse ++ rest)) := by
  obtain ⟨m1, m2, m3, m4, m5, m6, m7⟩ := hM
  exact callH (f := fun _ => False) (va_runS (Ts := gW) (cc := cc) (nL := nL) (own := own) ⟨hx, hb, hml, hown, hts⟩ hsm ⟨callB_of q.2.2.2.2.2.2.2 hts (good_ws ⟨m1, m2, m3, m4, m5, m6, m7⟩) rfl rfl rfl (hts _ m2) (hts _ hlink) ⟨m3.1, m3.2, m4⟩ hroom, hts _ (m5 hkind)⟩ ⟨Ps_blind hXw, fun U hU hW => ⟨rfl, hG.warm hW, by rw [hU]; exact hS.none, hXw s U hW hX⟩⟩ rfl hlen hl rfl (lv_room hrest) hd hcs) kk
theorem sm_callV {X : State → Prop} (hXw : ∀ s U : State, s.WarmedH U.vm → X s → X U) (hX : X s) {q : MI} {av : List Value} {v : Option Value} {cc : ByteArray} {own : String} {nL pc idx b : Nat} {locs : List Loc} {cells slots : Nat} {ls : Array Slot} {rest : List Value} (hx : p.tables.exec = Jvm.exec) (hb : c.code = cc) (hml : c.maxLocals = nL) (hown : s.vm.findClass own = some m.cls) (hts : ∀ w ∈ gW, w.before args s = true) (hG : Gs D dA z sa Hz s) {H : Heap} (hS : va_S (Az z) Hz H locs) (hl : ls.size = nL)
    (hM : MOk q) (hkind : q.2.2.2.2.2.2.1 = 1) (hlen : av.length = q.2.2.2.2.2.2.2) (hrecv : va_O q.1.cls b (Az z) s Hz) (hlink : Cond.methodLink own idx q.1 ∈ gW) (hd : decode cc pc = .ok (.invokevirtual idx, 3)) (hroom : q.2.2.2.2.1 + 1 ≤ R.frames ∧ 8 + (q.2.2.1 + 11) + q.2.2.2.2.2.1 ≤ R.locals) (hrest : (rest.map fun v => v.category).sum ≤ 8) (hcs : cells ≤ R.cells ∧ slots ≤ R.slots)
    (hsm : SM l D dA z sa Hz X q (.ref b :: av) v) (kk : W p l e R s m args below meth c H locs cells slots Q (F0 m (pc + 3) ls (v.toList ++ rest))) : W p l e R s m args below meth c H locs cells slots Q (F0 m pc ls (av.reverse ++ .ref b :: rest)) := by
  obtain ⟨m1, m2, m3, m4, m5, m6, m7⟩ := hM
  obtain ⟨cell, r1, r2, r3, -⟩ := hrecv.kept hS.2.1
  exact callH (f := fun _ => False) (va_runV (Ts := gW) (cc := cc) (nL := nL) (own := own) (C := q.1.cls) ⟨hx, hb, hml, hown, hts⟩ hsm ⟨callB_of q.2.2.2.2.2.2.2 hts (good_ws ⟨m1, m2, m3, m4, m5, m6, m7⟩) rfl rfl rfl (hts _ m2) (hts _ hlink) ⟨m3.1, m3.2, m4⟩ hroom, hts _ (m6 hkind).1, hts _ (m6 hkind).2⟩ ⟨Ps_blind hXw, ⟨cell, r1, r2, r3⟩, fun U hU hW => ⟨rfl, hG.warm hW, by rw [hU]; exact hS.none, hXw s U hW hX⟩⟩ rfl hlen hl rfl (lv_room hrest) hd hcs) kk
end STR
theorem d_cod_0 : decode cJ0_coder_7d493 0 = .ok (.getstatic 38, 3) := by decide +kernel
theorem d_cod_3 : decode cJ0_coder_7d493 3 = .ok (.ifCond .eq 10, 3) := by decide +kernel
theorem d_cod_6 : decode cJ0_coder_7d493 6 = .ok (.aload_n 0, 1) := by decide +kernel
theorem d_cod_7 : decode cJ0_coder_7d493 7 = .ok (.getfield 15, 3) := by decide +kernel
theorem d_cod_10 : decode cJ0_coder_7d493 10 = .ok (.goto 4, 3) := by decide +kernel
theorem d_cod_13 : decode cJ0_coder_7d493 13 = .ok (.iconst 1, 1) := by decide +kernel
theorem d_cod_14 : decode cJ0_coder_7d493 14 = .ok (.ireturn, 1) := by decide +kernel
theorem d_len_0 : decode cJ0_length_8abf5 0 = .ok (.aload_n 0, 1) := by decide +kernel
theorem d_len_1 : decode cJ0_length_8abf5 1 = .ok (.getfield 9, 3) := by decide +kernel
theorem d_len_4 : decode cJ0_length_8abf5 4 = .ok (.arraylength, 1) := by decide +kernel
theorem d_len_5 : decode cJ0_length_8abf5 5 = .ok (.aload_n 0, 1) := by decide +kernel
theorem d_len_6 : decode cJ0_length_8abf5 6 = .ok (.invokevirtual 335, 3) := by decide +kernel
theorem d_len_9 : decode cJ0_length_8abf5 9 = .ok (.ishr, 1) := by decide +kernel
theorem d_len_10 : decode cJ0_length_8abf5 10 = .ok (.ireturn, 1) := by decide +kernel
theorem d_lat_0 : decode cJ0_isLatin1_aae02 0 = .ok (.getstatic 38, 3) := by decide +kernel
theorem d_lat_3 : decode cJ0_isLatin1_aae02 3 = .ok (.ifCond .eq 14, 3) := by decide +kernel
theorem d_lat_6 : decode cJ0_isLatin1_aae02 6 = .ok (.aload_n 0, 1) := by decide +kernel
theorem d_lat_7 : decode cJ0_isLatin1_aae02 7 = .ok (.getfield 15, 3) := by decide +kernel
theorem d_lat_10 : decode cJ0_isLatin1_aae02 10 = .ok (.ifCond .ne 7, 3) := by decide +kernel
theorem d_lat_13 : decode cJ0_isLatin1_aae02 13 = .ok (.iconst 1, 1) := by decide +kernel
theorem d_lat_14 : decode cJ0_isLatin1_aae02 14 = .ok (.goto 4, 3) := by decide +kernel
theorem d_lat_17 : decode cJ0_isLatin1_aae02 17 = .ok (.iconst 0, 1) := by decide +kernel
theorem d_lat_18 : decode cJ0_isLatin1_aae02 18 = .ok (.ireturn, 1) := by decide +kernel
theorem d_pre_0 : decode cJ3_checkIndex_8e157 0 = .ok (.iload_n 0, 1) := by decide +kernel
theorem d_pre_1 : decode cJ3_checkIndex_8e157 1 = .ok (.ifCond .lt 8, 3) := by decide +kernel
theorem d_pre_4 : decode cJ3_checkIndex_8e157 4 = .ok (.iload_n 0, 1) := by decide +kernel
theorem d_pre_5 : decode cJ3_checkIndex_8e157 5 = .ok (.iload_n 1, 1) := by decide +kernel
theorem d_pre_6 : decode cJ3_checkIndex_8e157 6 = .ok (.if_icmp .lt 10, 3) := by decide +kernel
theorem d_pre_9 : decode cJ3_checkIndex_8e157 9 = .ok (.aload_n 2, 1) := by decide +kernel
theorem d_pre_10 : decode cJ3_checkIndex_8e157 10 = .ok (.iload_n 0, 1) := by decide +kernel
theorem d_pre_11 : decode cJ3_checkIndex_8e157 11 = .ok (.iload_n 1, 1) := by decide +kernel
theorem d_pre_12 : decode cJ3_checkIndex_8e157 12 = .ok (.invokestatic 95, 3) := by decide +kernel
theorem d_pre_15 : decode cJ3_checkIndex_8e157 15 = .ok (.athrow, 1) := by decide +kernel
theorem d_pre_16 : decode cJ3_checkIndex_8e157 16 = .ok (.iload_n 0, 1) := by decide +kernel
theorem d_pre_17 : decode cJ3_checkIndex_8e157 17 = .ok (.ireturn, 1) := by decide +kernel
theorem d_chk_0 : decode cJ0_checkIndex_df160 0 = .ok (.iload_n 0, 1) := by decide +kernel
theorem d_chk_1 : decode cJ0_checkIndex_df160 1 = .ok (.iload_n 1, 1) := by decide +kernel
theorem d_chk_2 : decode cJ0_checkIndex_df160 2 = .ok (.getstatic 1053, 3) := by decide +kernel
theorem d_chk_5 : decode cJ0_checkIndex_df160 5 = .ok (.invokestatic 1059, 3) := by decide +kernel
theorem d_chk_8 : decode cJ0_checkIndex_df160 8 = .ok (.pop, 1) := by decide +kernel
theorem d_chk_9 : decode cJ0_checkIndex_df160 9 = .ok (.return_, 1) := by decide +kernel
theorem d_l1c_0 : decode cJ1_charAt_3b067 0 = .ok (.iload_n 1, 1) := by decide +kernel
theorem d_l1c_1 : decode cJ1_charAt_3b067 1 = .ok (.aload_n 0, 1) := by decide +kernel
theorem d_l1c_2 : decode cJ1_charAt_3b067 2 = .ok (.arraylength, 1) := by decide +kernel
theorem d_l1c_3 : decode cJ1_charAt_3b067 3 = .ok (.invokestatic 9, 3) := by decide +kernel
theorem d_l1c_6 : decode cJ1_charAt_3b067 6 = .ok (.aload_n 0, 1) := by decide +kernel
theorem d_l1c_7 : decode cJ1_charAt_3b067 7 = .ok (.iload_n 1, 1) := by decide +kernel
theorem d_l1c_8 : decode cJ1_charAt_3b067 8 = .ok (.baload, 1) := by decide +kernel
theorem d_l1c_9 : decode cJ1_charAt_3b067 9 = .ok (.sipush 255, 3) := by decide +kernel
theorem d_l1c_12 : decode cJ1_charAt_3b067 12 = .ok (.iand, 1) := by decide +kernel
theorem d_l1c_13 : decode cJ1_charAt_3b067 13 = .ok (.i2c, 1) := by decide +kernel
theorem d_l1c_14 : decode cJ1_charAt_3b067 14 = .ok (.ireturn, 1) := by decide +kernel
theorem d_cha_0 : decode cJ0_charAt_5068e 0 = .ok (.aload_n 0, 1) := by decide +kernel
theorem d_cha_1 : decode cJ0_charAt_5068e 1 = .ok (.invokevirtual 492, 3) := by decide +kernel
theorem d_cha_4 : decode cJ0_charAt_5068e 4 = .ok (.ifCond .eq 12, 3) := by decide +kernel
theorem d_cha_7 : decode cJ0_charAt_5068e 7 = .ok (.aload_n 0, 1) := by decide +kernel
theorem d_cha_8 : decode cJ0_charAt_5068e 8 = .ok (.getfield 9, 3) := by decide +kernel
theorem d_cha_11 : decode cJ0_charAt_5068e 11 = .ok (.iload_n 1, 1) := by decide +kernel
theorem d_cha_12 : decode cJ0_charAt_5068e 12 = .ok (.invokestatic 495, 3) := by decide +kernel
theorem d_cha_15 : decode cJ0_charAt_5068e 15 = .ok (.ireturn, 1) := by decide +kernel
theorem d_cha_16 : decode cJ0_charAt_5068e 16 = .ok (.aload_n 0, 1) := by decide +kernel
theorem d_cha_17 : decode cJ0_charAt_5068e 17 = .ok (.getfield 9, 3) := by decide +kernel
theorem d_cha_20 : decode cJ0_charAt_5068e 20 = .ok (.iload_n 1, 1) := by decide +kernel
theorem d_cha_21 : decode cJ0_charAt_5068e 21 = .ok (.invokestatic 498, 3) := by decide +kernel
theorem d_cha_24 : decode cJ0_charAt_5068e 24 = .ok (.ireturn, 1) := by decide +kernel
def qCod : MI := (yJ0_coder_7d493, cJ0_coder_7d493, 1, (some .byte), 1, 20, 1, 0)
set_option maxRecDepth 100000 in
theorem m_qCod : MOk qCod := mokB_ok (p2 := 118) (p3 := 447) (p4 := 448) (gW_at (pos := 449) rfl rfl) (by decide +kernel)
def qLat : MI := (yJ0_isLatin1_aae02, cJ0_isLatin1_aae02, 1, (some .boolean), 1, 20, 1, 0)
set_option maxRecDepth 100000 in
theorem m_qLat : MOk qLat := mokB_ok (p2 := 118) (p3 := 457) (p4 := 458) (gW_at (pos := 459) rfl rfl) (by decide +kernel)
def qPre : MI := (yJ3_checkIndex_8e157, cJ3_checkIndex_8e157, 3, (some .int), 1, 20, 0, 3)
set_option maxRecDepth 100000 in
theorem m_qPre : MOk qPre := mokB_ok (p2 := 120) (p3 := 469) (p4 := 0) (gW_at (pos := 470) rfl rfl) (by decide +kernel)
def qChk : MI := (yJ0_checkIndex_df160, cJ0_checkIndex_df160, 2, none, 2, 42, 0, 2)
set_option maxRecDepth 100000 in
theorem m_qChk : MOk qChk := mokB_ok (p2 := 118) (p3 := 464) (p4 := 0) (gW_at (pos := 465) rfl rfl) (by decide +kernel)
def qL1c : MI := (yJ1_charAt_3b067, cJ1_charAt_3b067, 2, (some .char), 3, 63, 0, 2)
set_option maxRecDepth 100000 in
theorem m_qL1c : MOk qL1c := mokB_ok (p2 := 119) (p3 := 461) (p4 := 0) (gW_at (pos := 462) rfl rfl) (by decide +kernel)
theorem w_cs : Cond.fieldLink "java/lang/String" 38 "java/lang/String" "COMPACT_STRINGS" "Z" ∈ gW := okW_mem (pos := 450) (by decide +kernel)
theorem w_co : Cond.fieldLink "java/lang/String" 15 "java/lang/String" "coder" "B" ∈ gW := okW_mem (pos := 2133) (by decide +kernel)
theorem w_va : Cond.fieldLink "java/lang/String" 9 "java/lang/String" "value" "[B" ∈ gW := okW_mem (pos := 2132) (by decide +kernel)
theorem w_si : Cond.fieldLink "java/lang/String" 1053 "jdk/internal/util/Preconditions" "SIOOBE_FORMATTER" "Ljava/util/function/BiFunction;" ∈ gW := okW_mem (pos := 466) (by decide +kernel)
theorem w_len_cod : Cond.methodLink "java/lang/String" 335 qCod.1 ∈ gW := okW_mem (pos := 446) (by decide +kernel)
theorem w_cha_lat : Cond.methodLink "java/lang/String" 492 qLat.1 ∈ gW := okW_mem (pos := 456) (by decide +kernel)
theorem w_cha_l1c : Cond.methodLink "java/lang/String" 495 qL1c.1 ∈ gW := okW_mem (pos := 460) (by decide +kernel)
theorem w_l1c_chk : Cond.methodLink "java/lang/StringLatin1" 9 qChk.1 ∈ gW := okW_mem (pos := 463) (by decide +kernel)
theorem w_chk_pre : Cond.methodLink "java/lang/String" 1059 qPre.1 ∈ gW := okW_mem (pos := 468) (by decide +kernel)
section STR2
variable {l : Launch} {D : va_G} {dA : Nat → ClassId} {z : Nat} {sa : Nat → Nat} {Hz : Heap}
theorem sm_cod {k : Nat} (hk0 : 0 < k) (hk1 : k ≤ nStr) : SM l D dA z sa Hz Tr qCod [.ref (sa k)] (some (.int 0)) := by
  refine smOf (by decide +kernel) (Nat.le_of_ble_eq_true rfl) ?_
  intro p e s m below meth c ls hx hb hml hown hts hG hS hXs hr hlk hl
  obtain ⟨adV, o1, o2, o3, o4⟩ := hG.2.2.2.2.1 k hk0 hk1
  have hS1 : va_S (Az z) s.heap s.heap [] := va_S.rf
  refine va_gets (ref := "java/lang/String") hx hb (hG.2.2.2.2.2.2.1.kept hS.2.1) hS1 hown (hts _ w_cs) (fun x h => h) d_cod_0 ?_
  refine lv_if_eq (tgt := 13) hx hb d_cod_3 (by decide) (fun h => absurd h (by decide)) (fun _ => ?_)
  refine lv_aload_n hx hb d_cod_6 rfl (lv_at hl 0 rfl) ?_
  refine vk_getf (ref := "java/lang/String") hx hb (o2.kept hS.2.1) hS1 hown (hts _ w_co) (fun x h => h) d_cod_7 ?_
  refine lv_goto (tgt := 14) hx hb d_cod_10 (by decide) ?_
  exact W.zret hx hb hr rfl (fun t ht _ => ⟨rfl, ht⟩) (fun q hq => by cases hq) d_cod_14 hlk
theorem sm_lat {k : Nat} (hk0 : 0 < k) (hk1 : k ≤ nStr) : SM l D dA z sa Hz Tr qLat [.ref (sa k)] (some (.int 1)) := by
  refine smOf (by decide +kernel) (Nat.le_of_ble_eq_true rfl) ?_
  intro p e s m below meth c ls hx hb hml hown hts hG hS hXs hr hlk hl
  obtain ⟨adV, o1, o2, o3, o4⟩ := hG.2.2.2.2.1 k hk0 hk1
  have hS1 : va_S (Az z) s.heap s.heap [] := va_S.rf
  refine va_gets (ref := "java/lang/String") hx hb (hG.2.2.2.2.2.2.1.kept hS.2.1) hS1 hown (hts _ w_cs) (fun x h => h) d_lat_0 ?_
  refine lv_if_eq (tgt := 17) hx hb d_lat_3 (by decide) (fun h => absurd h (by decide)) (fun _ => ?_)
  refine lv_aload_n hx hb d_lat_6 rfl (lv_at hl 0 rfl) ?_
  refine vk_getf (ref := "java/lang/String") hx hb (o2.kept hS.2.1) hS1 hown (hts _ w_co) (fun x h => h) d_lat_7 ?_
  refine lv_if_ne (tgt := 17) hx hb d_lat_10 (by decide) (fun h => absurd rfl h) (fun _ => ?_)
  refine lv_iconst (v := 1) hx hb d_lat_13 (by decide) ?_
  refine lv_goto (tgt := 18) hx hb d_lat_14 (by decide) ?_
  exact W.zret hx hb hr rfl (fun t ht _ => ⟨rfl, ht⟩) (fun q hq => by cases hq) d_lat_18 hlk
theorem sm_pre {i n : Int32} {v : Value} (hi : ¬ i < 0) (hn : i < n) (hv : (lg_sl [.int i, .int n, v]).length ≤ 3) : SM l D dA z sa Hz Tr qPre [.int i, .int n, v] (some (.int i)) := by
  refine smOf (by decide +kernel) hv ?_
  intro p e s m below meth c ls hx hb hml hown hts hG hS hXs hr hlk hl
  refine lv_iload_n hx hb d_pre_0 rfl (lv_at hl 0 rfl) ?_
  refine lv_if_lt (tgt := 9) hx hb d_pre_1 (by decide) (fun h => absurd h hi) (fun _ => ?_)
  refine lv_iload_n hx hb d_pre_4 rfl (lv_at hl 0 rfl) ?_
  refine lv_iload_n hx hb d_pre_5 rfl (lv_at hl 1 rfl) ?_
  refine lv_icmp_lt (tgt := 16) hx hb d_pre_6 (by decide) (fun _ => ?_) (fun h => absurd hn h)
  refine lv_iload_n hx hb d_pre_16 rfl (lv_at hl 0 rfl) ?_
  exact W.iret hx hb hr (fun t ht _ => ⟨rfl, ht⟩) (fun q hq => by cases hq) d_pre_17 hlk
theorem sm_chk {i n : Int32} (hi : ¬ i < 0) (hn : i < n) : SM l D dA z sa Hz Tr qChk [.int i, .int n] none := by
  refine smOf (by decide +kernel) (Nat.le_of_ble_eq_true rfl) ?_
  intro p e s m below meth c ls hx hb hml hown hts hG hS hXs hr hlk hl
  have hS1 : va_S (Az z) s.heap s.heap [] := va_S.rf
  have fine : ∀ v : Value, (lg_sl [.int i, .int n, v]).length ≤ 3 → W p l e { frames := qChk.2.2.2.2.1, cells := 0, slots := 0, locals := qChk.2.2.2.2.2.1 } s m [Value.int i, .int n].toArray below meth c s.heap [] 0 0 (MQ below (Qs none) [Value.int i, .int n].toArray s 0 0 (fun _ => False)) (F0 m 5 ls [v, .int n, .int i]) := by
    intro v hv
    refine sm_callS Tr_w trivial (av := [.int i, .int n, v]) (rest := []) hx hb hml hown hts hG hS hl.1 m_qPre rfl rfl w_chk_pre d_chk_5 ⟨Nat.le_of_ble_eq_true rfl, Nat.le_of_ble_eq_true rfl⟩ (Nat.le_of_ble_eq_true rfl) ⟨Nat.le_refl _, Nat.le_refl _⟩ (sm_pre hi hn hv) ?_
    refine lv_pop hx hb d_chk_8 rfl ?_
    exact W.vret hx hb hr (fun t ht _ => ⟨rfl, ht⟩) (fun q hq => by cases hq) d_chk_9 hlk
  refine lv_iload_n hx hb d_chk_0 rfl (lv_at hl 0 rfl) ?_
  refine lv_iload_n hx hb d_chk_1 rfl (lv_at hl 1 rfl) ?_
  rcases hG.2.2.2.2.2.2.2.1 with hZ | ⟨t, hZ⟩
  · exact va_gets (ref := "jdk/internal/util/Preconditions") hx hb (hZ.kept hS.2.1) hS1 hown (hts _ w_si) (fun x h => h) d_chk_2 (fine .null (Nat.le_of_ble_eq_true rfl))
  · exact va_gets (ref := "jdk/internal/util/Preconditions") hx hb (hZ.kept hS.2.1) hS1 hown (hts _ w_si) (fun x h => h) d_chk_2 (fine (.ref t) (Nat.le_of_ble_eq_true rfl))
theorem i32_lt {i : Int32} {n : Nat} (hn : n < 2 ^ 31) (h : ¬ (i < 0 ∨ n ≤ i.toNatClampNeg)) : i < Int32.ofNat n := by
  have h1 : ¬ i < 0 := fun q => h (Or.inl q)
  have h2 : i.toNatClampNeg < n := Nat.not_le.mp fun q => h (Or.inr q)
  rw [Int32.lt_iff_toInt_lt]
  have h3 : (Int32.ofNat n).toInt = (n : Int) := nI_toInt hn
  have h4 : (0 : Int) ≤ i.toInt := by
    have := Int32.not_lt.mp h1
    simpa using Int32.le_iff_toInt_le.mp this
  have h5 : i.toInt.toNat < n := h2
  rw [h3]
  omega
theorem sm_l1c {i : Int32} {adV n : Nat} {f : Nat → Int32} (hn : n < 2 ^ 31) (hi : ¬ (i < 0 ∨ n ≤ i.toNatClampNeg)) (hf1 : (((f i.toNatClampNeg &&& 255).toUInt32 % 65536).toInt32 = f i.toNatClampNeg)) (hf2 : narrow .char (.int (f i.toNatClampNeg)) = .int (f i.toNatClampNeg)) : SM l D dA z sa Hz (fun U => va_T .byte adV n (fun j => .int (f j)) (Az z) U Hz) qL1c [.ref adV, .int i] (some (.int (f i.toNatClampNeg))) := by
  refine smOf (by decide +kernel) (Nat.le_of_ble_eq_true rfl) ?_
  intro p e s m below meth c ls hx hb hml hown hts hG hS hXs hr hlk hl
  have hS1 : va_S (Az z) s.heap s.heap [] := va_S.rf
  have hT1 := va_T.kept hXs hS.2.1
  refine lv_iload_n hx hb d_l1c_0 rfl (lv_at hl 1 rfl) ?_
  refine lv_aload_n hx hb d_l1c_1 rfl (lv_at hl 0 rfl) ?_
  refine va_tlen hx hb hT1 hS1 rfl d_l1c_2 ?_
  refine sm_callS Tr_w trivial (av := [.int i, .int (Int32.ofNat n)]) (rest := []) hx hb hml hown hts hG hS hl.1 m_qChk rfl rfl w_l1c_chk d_l1c_3 ⟨Nat.le_of_ble_eq_true rfl, Nat.le_of_ble_eq_true rfl⟩ (Nat.le_of_ble_eq_true rfl) ⟨Nat.le_refl _, Nat.le_refl _⟩ (sm_chk (fun q => hi (Or.inl q)) (i32_lt hn hi)) ?_
  refine lv_aload_n hx hb d_l1c_6 rfl (lv_at hl 0 rfl) ?_
  refine lv_iload_n hx hb d_l1c_7 rfl (lv_at hl 1 rfl) ?_
  refine va_tb hx hb hT1 hS1 hi rfl d_l1c_8 ?_
  refine lv_sipush (v := 255) hx hb d_l1c_9 (by decide) ?_
  refine lv_iand hx hb d_l1c_12 ?_
  refine lv_i2c hx hb d_l1c_13 hf1 ?_
  exact W.zret hx hb hr hf2 (fun t ht _ => ⟨rfl, ht⟩) (fun q hq => by cases hq) d_l1c_14 hlk
theorem str_bytes : ∀ k, k ≤ nStr → (strBytes.getD k []).length < 2 ^ 31 ∧ ∀ x ∈ strBytes.getD k [], ((x &&& 255).toUInt32 % 65536).toInt32 = x ∧ narrow .char (.int x) = .int x := by decide +kernel
theorem str_shr : ∀ k, k ≤ nStr → Int32.ofNat (strBytes.getD k []).length >>> ((0 : Int32) &&& 31) = Int32.ofNat (strBytes.getD k []).length := by decide +kernel
theorem getD_mem {n : Nat} {l : List Int32} (h : n < l.length) : l.getD n 0 ∈ l := by
  rw [List.getD_eq_getElem?_getD, List.getElem?_eq_getElem h]
  exact List.getElem_mem h
theorem sm_len {k : Nat} (hk0 : 0 < k) (hk1 : k ≤ nStr) : SM l D dA z sa Hz Tr qLen [.ref (sa k)] (some (.int (Int32.ofNat (strBytes.getD k []).length))) := by
  refine smOf (by decide +kernel) (Nat.le_of_ble_eq_true rfl) ?_
  intro p e s m below meth c ls hx hb hml hown hts hG hS hXs hr hlk hl
  obtain ⟨adV, o1, o2, o3, o4⟩ := hG.2.2.2.2.1 k hk0 hk1
  have hS1 : va_S (Az z) s.heap s.heap [] := va_S.rf
  refine lv_aload_n hx hb d_len_0 rfl (lv_at hl 0 rfl) ?_
  refine vk_getf (ref := "java/lang/String") hx hb (o3.kept hS.2.1) hS1 hown (hts _ w_va) (fun x h => h) d_len_1 ?_
  refine va_tlen hx hb (o4.kept hS.2.1) hS1 rfl d_len_4 ?_
  refine lv_aload_n hx hb d_len_5 rfl (lv_at hl 0 rfl) ?_
  refine sm_callV Tr_w trivial (av := []) (rest := [.int (Int32.ofNat (strBytes.getD k []).length)]) hx hb hml hown hts hG hS hl.1 m_qCod rfl rfl o1 w_len_cod d_len_6 ⟨Nat.le_of_ble_eq_true rfl, Nat.le_of_ble_eq_true rfl⟩ (Nat.le_of_ble_eq_true rfl) ⟨Nat.le_refl _, Nat.le_refl _⟩ (sm_cod hk0 hk1) ?_
  refine lv_ishr hx hb d_len_9 ?_
  rw [str_shr k hk1]
  exact W.iret hx hb hr (fun t ht _ => ⟨rfl, ht⟩) (fun q hq => by cases hq) d_len_10 hlk
theorem sm_cha {k : Nat} {i : Int32} (hk0 : 0 < k) (hk1 : k ≤ nStr) (hi : ¬ (i < 0 ∨ (strBytes.getD k []).length ≤ i.toNatClampNeg)) : SM l D dA z sa Hz Tr qCh [.ref (sa k), .int i] (some (.int ((strBytes.getD k []).getD i.toNatClampNeg 0))) := by
  refine smOf (by decide +kernel) (Nat.le_of_ble_eq_true rfl) ?_
  intro p e s m below meth c ls hx hb hml hown hts hG hS hXs hr hlk hl
  obtain ⟨adV, o1, o2, o3, o4⟩ := hG.2.2.2.2.1 k hk0 hk1
  obtain ⟨b1, b2⟩ := str_bytes k hk1
  obtain ⟨b3, b4⟩ := b2 _ (getD_mem (Nat.not_le.mp fun q => hi (Or.inr q)))
  have hS1 : va_S (Az z) s.heap s.heap [] := va_S.rf
  refine lv_aload_n hx hb d_cha_0 rfl (lv_at hl 0 rfl) ?_
  refine sm_callV Tr_w trivial (av := []) (rest := []) hx hb hml hown hts hG hS hl.1 m_qLat rfl rfl o1 w_cha_lat d_cha_1 ⟨Nat.le_of_ble_eq_true rfl, Nat.le_of_ble_eq_true rfl⟩ (Nat.le_of_ble_eq_true rfl) ⟨Nat.le_refl _, Nat.le_refl _⟩ (sm_lat hk0 hk1) ?_
  refine lv_if_eq (tgt := 16) hx hb d_cha_4 (by decide) (fun h => absurd h (by decide)) (fun _ => ?_)
  refine lv_aload_n hx hb d_cha_7 rfl (lv_at hl 0 rfl) ?_
  refine vk_getf (ref := "java/lang/String") hx hb (o3.kept hS.2.1) hS1 hown (hts _ w_va) (fun x h => h) d_cha_8 ?_
  refine lv_iload_n hx hb d_cha_11 rfl (lv_at hl 1 rfl) ?_
  refine sm_callS (X := fun U => va_T .byte adV (strBytes.getD k []).length (fun j => .int ((strBytes.getD k []).getD j 0)) (Az z) U Hz) (fun s U hW h => h.moved hW.alike) o4 (av := [.ref adV, .int i]) (rest := []) hx hb hml hown hts hG hS hl.1 m_qL1c rfl rfl w_cha_l1c d_cha_12 ⟨Nat.le_of_ble_eq_true rfl, Nat.le_of_ble_eq_true rfl⟩ (Nat.le_of_ble_eq_true rfl) ⟨Nat.le_refl _, Nat.le_refl _⟩ (sm_l1c b1 hi b3 b4) ?_
  exact W.zret hx hb hr b4 (fun t ht _ => ⟨rfl, ht⟩) (fun q hq => by cases hq) d_cha_15 hlk
/-- a reading method as a call of the pure side -/
theorem sm_cal {q : MI} {As av : List Value} {v : Option Value} (h : AH) (he : As.map (cv z sa) = av) (hsm : SM l D dA z sa Hz Tr q av v) : CalOK l D dA z sa Hz q As h v h := by
  refine ⟨Nat.le_refl _, Nat.le_refl _, ?_⟩
  rw [Nat.sub_self, Nat.sub_self]
  refine met_conv hsm (fun a s hp => ⟨by rw [← he]; exact hp.1, hp.2.2.1, hp.2.2.2.1, trivial⟩) (fun a s o t hp hq => ⟨hq.1, by rw [hq.2]; exact hp.2.1, by rw [hq.2]; exact Nat.le_refl _, fun q _ _ => by rw [hq.2]⟩) (fun q hf => hf.elim)
theorem str_ok : StrOK qLen qCh l D dA z sa Hz := by
  refine ⟨fun k x h e => ?_, fun k i x h e => ?_⟩
  · unfold strLen at e
    obtain ⟨⟨k0, k1⟩, e⟩ := ite_some e
    cases e
    exact sm_cal h rfl (sm_len k0 k1)
  · unfold strCh at e
    obtain ⟨⟨⟨k0, k1⟩, hi⟩, e⟩ := ite_some e
    cases e
    exact sm_cal h rfl (sm_cha k0 k1 hi)
end STR2
