/-! ===== what is made, copied and called ===== -/
def atOf (t : Nat) : ArrayType := match t with
  | 100 => .int
  | 101 => .byte
  | 102 => .boolean
  | _ => .long
theorem catsum {st : List Value} {n : Nat} (h : st.length ≤ n) : (st.map fun v => v.category).sum ≤ 2 * n := by
  induction st generalizing n with
  | nil => simp
  | cons v r ih =>
    rw [List.map_cons, List.sum_cons]
    rw [List.length_cons] at h
    have h1 := ih (n := n - 1) (by omega)
    rcases lv_cat v with e | e <;> omega
theorem csum_cv (z : Nat) (sa : Nat → Nat) (st : List Value) : ((st.map (cv z sa)).map fun v => v.category).sum = csum st := by
  unfold csum
  rw [List.map_map]
  congr 2
  funext v
  exact cv_cat z sa v
theorem rI_al (h : AH) (t n b j : Nat) : rI (al h t n) b j = if b = nx h then 0 else rI h b j := rfl
theorem rL_al (h : AH) (t n b j : Nat) : rL (al h t n) b j = if b = nx h then 0 else rL h b j := rfl
theorem rR_al (h : AH) (t n b j : Nat) : rR (al h t n) b j = if b = nx h then 0 else rR h b j := rfl
theorem tg_al (h : AH) (t n b : Nat) : tg (al h t n) b = if b = nx h then (t, n) else tg h b := rfl
theorem nx_al (h : AH) (t n : Nat) : nx (al h t n) = nx h + 1 := rfl
theorem us_al (h : AH) (t n : Nat) : us (al h t n) = us h + n := rfl
theorem al_same {dA : Nat → ClassId} {z : Nat} {h : AH} {t n b : Nat} (hb : b ≠ nx h) : cellOf dA z (al h t n) b = cellOf dA z h b :=
  cell_same (by rw [tg_al, if_neg hb]) (fun j => by rw [rI_al, if_neg hb]) (fun j => by rw [rL_al, if_neg hb]) (fun j => by rw [rR_al, if_neg hb])
theorem Wf.al {h : AH} (w : Wf h) {t n : Nat} (ht : t < 100 → ∃ q, cls[t]? = some q ∧ n = q.2.2) : Wf (al h t n) := by
  refine ⟨by rw [nx_al]; omega, fun a ha => ?_, fun a ha => ?_⟩
  · rw [nx_al] at ha
    have h0 := w.1
    rw [tg_al, if_neg (by omega)]
    exact w.2.1 a (by omega)
  · rw [tg_al] at ha ⊢
    by_cases e : a = nx h
    · rw [if_pos e] at ha ⊢
      exact ht ha
    · rw [if_neg e] at ha ⊢
      exact w.2.2 a ha
section ROWS2
variable {p : Program} {l : Launch} {e : Env} {R : Room} {s : State} {m : MethodId} {args : Array Value} {below : List Frame} {meth : Method} {c : Code} {Q : State → Prop}
variable {cc : ByteArray} {own : String} {nL : Nat} {D : va_G} {dA : Nat → ClassId} {z : Nat} {sa : Nat → Nat} {Hz : Heap} {h0 fin : AH}
theorem Gw.grew (C : Cx p R s m args c cc own nL D dA z sa Hz h0 fin) {pc n q : Nat} {la : LA} {st : List Value} {h h' : AH} (k : Gw p l e R s m args below meth c Q nL D dA z sa Hz h0 fin pc la (.ref (nx h) :: st) h') (hn : nx h' = nx h + 1) (hu : us h' = us h + n) (h1 : 0 < nx h) (hw : Wf h')
    (hcell : ∀ b, b ≠ nx h → cellOf dA z h' b = cellOf dA z h b) {H1 : Heap} {locs1 : List Loc} {cells slots : Nat} {ls : Array Slot} (hP : va_P D cls (wsOf dA z h ++ [(q, cellOf dA z h' (nx h))]) H1) (hD : va_D (Az z) (wsOf dA z h ++ [(q, cellOf dA z h' (nx h))])) (hS : va_S (Az z) Hz H1 locs1)
    (hl : lv_has ls nL (cvl z sa la)) (hc : cells + nx h0 = nx h) (hs : slots + us h0 = us h) : W p l e R s m args below meth c H1 locs1 (cells + 1) (slots + n) Q (F0 m pc ls (.ref q :: st.map (cv z sa))) := by
  refine W_size fun hsz => ?_
  have h4 := C.2.2.2.2.2.2.1
  have hg : (wsOf dA z h ++ [(q, cellOf dA z h' (nx h))])[nx h - 1]? = some (q, cellOf dA z h' (nx h)) := by
    rw [List.getElem?_append_right (by rw [ws_len]; omega), ws_len]
    simp
  have a1 : q < H1.size := (hP _ _ hg).lt
  have a2 : z < q := hD.2 _ _ hg
  have a3 : ¬ q < z + nx h := by
    intro hlt
    have e1 := ws_get (dA := dA) (z := z) (h := h) (a := q - z) (by omega) (by omega)
    have e2 : (wsOf dA z h ++ [(q, cellOf dA z h' (nx h))])[q - z - 1]? = some (z + (q - z), cellOf dA z h (q - z)) := by
      rw [List.getElem?_append_left (by rw [ws_len]; omega)]
      exact e1
    have e3 := hD.1 _ _ _ _ e2 hg (by show z + (q - z) = q; omega)
    omega
  have hq : q = z + nx h := by omega
  subst hq
  rw [ws_push (dA := dA) (z := z) h1 hn hcell] at hP
  have K := k.2.2 H1 locs1 (cells + 1) (slots + n) ls ⟨hw, by omega, hP⟩ hS hl (by omega) (by omega)
  rw [List.map_cons, show cv z sa (.ref (nx h)) = .ref (z + nx h) from cvr_pos h1] at K
  exact K
theorem s_new (C : Cx p R s m args c cc own nL D dA z sa Hz h0 fin) {pc ci idx : Nat} {la : LA} {st : List Value} {h : AH} {q : vw_C} (hci : cls[ci]? = some q) (hq : ClsOk ci q) (hlink : Cond.classLink own idx q.1 ∈ gW) (hd : decode cc pc = .ok (.new idx, 3))
    (kk : Gw p l e R s m args below meth c Q nL D dA z sa Hz h0 fin (pc + 3) la (.ref (nx h) :: st) (al h ci q.2.2)) : Gw p l e R s m args below meth c Q nL D dA z sa Hz h0 fin pc la st h := by
  obtain ⟨hx, hb, hml, hown, hts, hG, hs0, hz0, hrc, hrs⟩ := id C
  have k1 := kk.1
  have k2 := kk.2.1
  rw [nx_al] at k1
  rw [us_al] at k2
  refine ⟨by omega, by omega, fun H locs cells slots ls hR hS hl hc hs => ?_⟩
  have h9 : ci < 10 := (List.getElem?_eq_some_iff.mp hci).1
  obtain ⟨Cn, T, N⟩ := q
  obtain ⟨q1, q2, q3, q4, q5, q6⟩ := hq
  have e1 : cellOf dA z (al h ci N) (nx h) = .inr (ci, (List.range N).map (fv z (al h ci N) (nx h) ci)) := by
    rw [cell_ob (t := ci) (by omega) (by rw [tg_al, if_pos rfl]), tg_al, if_pos rfl]
  refine va_new (fs := (List.range N).map (fv z (al h ci N) (nx h) ci)) hx hb hts q1 (cty ci) q2 hown (hts _ hlink) (hts _ q4) (hts _ q5) hG.1 hR.2.2 ws_D hS (fun q hq => by show z < q; omega) hci (fun j hj => ?_) (by omega) (by omega) hd (fun q H1 hP hD hS1 => ?_)
  · rw [q6 j hj]
    unfold vp_V
    rw [List.getD_eq_getElem?_getD, List.getElem?_map, List.getElem?_range hj]
    show _ = fv z (al h ci N) (nx h) ci j
    unfold fv
    rw [rI_al, rL_al, rR_al, if_pos rfl, if_pos rfl, if_pos rfl]
    rfl
  · rw [← e1] at hP hD
    exact kk.grew C rfl rfl hR.1.1 (hR.1.al (fun _ => ⟨_, hci, rfl⟩)) (fun b hb => al_same hb) hP hD hS1 hl hc hs
theorem s_newa (C : Cx p R s m args c cc own nL D dA z sa Hz h0 fin) {pc t : Nat} {la : LA} {st : List Value} {h : AH} {n : Int32} (htt : t = 100 ∨ t = 101 ∨ t = 102 ∨ t = 103) (hw : Cond.arrayClass (newarray.typeOf (atOf t)) ∈ gW) (hn : ¬ n < 0) (hN : n.toNatClampNeg ≤ 100000) (hd : decode cc pc = .ok (.newarray (atOf t), 2))
    (kk : Gw p l e R s m args below meth c Q nL D dA z sa Hz h0 fin (pc + 2) la (.ref (nx h) :: st) (al h t n.toNatClampNeg)) : Gw p l e R s m args below meth c Q nL D dA z sa Hz h0 fin pc la (.int n :: st) h := by
  obtain ⟨hx, hb, hml, hown, hts, hG, hs0, hz0, hrc, hrs⟩ := id C
  have k1 := kk.1
  have k2 := kk.2.1
  rw [nx_al] at k1
  rw [us_al] at k2
  refine ⟨by omega, by omega, fun H locs cells slots ls hR hS hl hc hs => ?_⟩
  have e0 : tg (al h t n.toNatClampNeg) (nx h) = (t, n.toNatClampNeg) := by rw [tg_al, if_pos rfl]
  have e1 : cellOf dA z (al h t n.toNatClampNeg) (nx h) = .inl (dA t, n.toNatClampNeg, arrOf z (al h t n.toNatClampNeg) (nx h) t) := by
    rw [cell_ar (t := t) (by omega) (by rw [e0]), e0]
  have hz1 : rI (al h t n.toNatClampNeg) (nx h) = fun _ => 0 := funext fun j => by rw [rI_al, if_pos rfl]
  have hz2 : rL (al h t n.toNatClampNeg) (nx h) = fun _ => 0 := funext fun j => by rw [rL_al, if_pos rfl]
  have fine : ∀ (ty : FieldType) (i : Nat), (tysOf dA)[i]? = some (dA t, ty) → (∀ cA, va_RA s cA ty = (s.vm.findClass ("[" ++ ty.toString) = some cA)) → ∀ (q : Nat) (cA : ClassId) (H1 : Heap), va_K D cls (tysOf dA ++ [(cA, ty)]) s → va_P D cls (wsOf dA z h ++ [(q, .inl (cA, n.toNatClampNeg, arrOf z (al h t n.toNatClampNeg) (nx h) t))]) H1 → va_D (Az z) (wsOf dA z h ++ [(q, .inl (cA, n.toNatClampNeg, arrOf z (al h t n.toNatClampNeg) (nx h) t))]) → va_S (Az z) Hz H1 locs → W p l e R s m args below meth c H1 locs (cells + 1) (slots + n.toNatClampNeg) Q (F0 m (pc + 2) ls (.ref q :: st.map (cv z sa))) := by
    intro ty i hi hra q cA H1 hK1 hP hD hS1
    have a1 := (hK1.2 5 (cA, ty) rfl).2
    have a2 := (hG.1.2 i _ hi).2
    rw [hra] at a1 a2
    cases Option.some.inj (a1.symm.trans a2)
    rw [← e1] at hP hD
    exact kk.grew C rfl rfl hR.1.1 (hR.1.al (fun h => by omega)) (fun b hb => al_same hb) hP hD hS1 hl hc hs
  rcases htt with rfl | rfl | rfl | rfl
  · refine va_newa (atype := .int) (ty := .int) (N' := n.toNatClampNeg) (a0 := (n.toNatClampNeg, arrOf z (al h 100 n.toNatClampNeg) (nx h) 100)) hx hb (hts _ hw) rfl hG.1 hR.2.2 ws_D hS (fun q hq => by show z < q; omega) (fun cA => ?_) hn rfl (by show _ * 4 ≤ _; omega) (by omega) (by omega) hd (fine .int 0 rfl (fun _ => rfl))
    show arrV cA n.toNatClampNeg (fun j => .int (rI (al h 100 n.toNatClampNeg) (nx h) j)) = _
    rw [hz1]
    rfl
  · refine va_newa (atype := .byte) (ty := .byte) (N' := n.toNatClampNeg) (a0 := (n.toNatClampNeg, arrOf z (al h 101 n.toNatClampNeg) (nx h) 101)) hx hb (hts _ hw) rfl hG.1 hR.2.2 ws_D hS (fun q hq => by show z < q; omega) (fun cA => ?_) hn rfl (by show _ * 1 ≤ _; omega) (by omega) (by omega) hd (fine .byte 1 rfl (fun _ => rfl))
    show arrV cA n.toNatClampNeg (fun j => .int (rI (al h 101 n.toNatClampNeg) (nx h) j)) = _
    rw [hz1]
    rfl
  · refine va_newa (atype := .boolean) (ty := .boolean) (N' := n.toNatClampNeg) (a0 := (n.toNatClampNeg, arrOf z (al h 102 n.toNatClampNeg) (nx h) 102)) hx hb (hts _ hw) rfl hG.1 hR.2.2 ws_D hS (fun q hq => by show z < q; omega) (fun cA => ?_) hn rfl (by show _ * 1 ≤ _; omega) (by omega) (by omega) hd (fine .boolean 2 rfl (fun _ => rfl))
    show arrV cA n.toNatClampNeg (fun j => .int (rI (al h 102 n.toNatClampNeg) (nx h) j)) = _
    rw [hz1]
    rfl
  · refine va_newa (atype := .long) (ty := .long) (N' := n.toNatClampNeg) (a0 := (n.toNatClampNeg, arrOf z (al h 103 n.toNatClampNeg) (nx h) 103)) hx hb (hts _ hw) rfl hG.1 hR.2.2 ws_D hS (fun q hq => by show z < q; omega) (fun cA => ?_) hn rfl (by show _ * 8 ≤ _; omega) (by omega) (by omega) hd (fine .long 3 rfl (fun _ => rfl))
    show arrV cA n.toNatClampNeg (fun j => .long (rL (al h 103 n.toNatClampNeg) (nx h) j)) = _
    rw [hz2]
    rfl
theorem s_newq (C : Cx p R s m args c cc own nL D dA z sa Hz h0 fin) {pc idx : Nat} {la : LA} {st : List Value} {h : AH} {n : Int32} (hlink : Cond.classLink own idx RX4 ∈ gW) (hn : ¬ n < 0) (hN : n.toNatClampNeg ≤ 100000) (hd : decode cc pc = .ok (.anewarray idx, 3))
    (kk : Gw p l e R s m args below meth c Q nL D dA z sa Hz h0 fin (pc + 3) la (.ref (nx h) :: st) (al h 104 n.toNatClampNeg)) : Gw p l e R s m args below meth c Q nL D dA z sa Hz h0 fin pc la (.int n :: st) h := by
  obtain ⟨hx, hb, hml, hown, hts, hG, hs0, hz0, hrc, hrs⟩ := id C
  have k1 := kk.1
  have k2 := kk.2.1
  rw [nx_al] at k1
  rw [us_al] at k2
  refine ⟨by omega, by omega, fun H locs cells slots ls hR hS hl hc hs => ?_⟩
  have e0 : tg (al h 104 n.toNatClampNeg) (nx h) = (104, n.toNatClampNeg) := by rw [tg_al, if_pos rfl]
  have e1 : cellOf dA z (al h 104 n.toNatClampNeg) (nx h) = .inl (dA 104, n.toNatClampNeg, .inr (.inr (.inr (.inr (fun _ => none))))) := by
    rw [cell_ar (t := 104) (by omega) (by rw [e0]), e0]
    unfold arrOf
    rw [if_neg (by decide), if_pos rfl]
    have : (fun k => if rR (al h 104 n.toNatClampNeg) (nx h) k = 0 then none else some (z + rR (al h 104 n.toNatClampNeg) (nx h) k)) = (fun _ => none : Nat → Option Nat) := funext fun k => by rw [rR_al, if_pos rfl, if_pos rfl]
    rw [this]
  refine va_newq (N' := n.toNatClampNeg) hx hb hown (hts _ hlink) hG.2.2.2.1 hG.1 hR.2.2 ws_D hS (fun q hq => by show z < q; omega) hn rfl (by omega) (by omega) (by omega) hd (fun q cA H1 hK1 hP hD hS1 => ?_)
  obtain ⟨kA, comp, -, -, -, a1⟩ := (hK1.2 5 (cA, .object RX4) rfl).2
  obtain ⟨kA2, comp2, -, -, -, a2⟩ := (hG.1.2 4 (dA 104, .object RX4) rfl).2
  cases Option.some.inj (a1.symm.trans a2)
  rw [← e1] at hP hD
  exact kk.grew C rfl rfl hR.1.1 (hR.1.al (fun h => by omega)) (fun b hb => al_same hb) hP hD hS1 hl hc hs
theorem s_copy (C : Cx p R s m args c cc own nL D dA z sa Hz h0 fin) {pc idx sA dA2 : Nat} {la : LA} {st : List Value} {h : AH} {sp dp n : Int32} (hlink : Cond.methodLink own idx arraycopyName ∈ gW) (hnat : Cond.native arraycopyName ∈ gW) (hstat : Cond.static arraycopyName ∈ gW) (hini : Cond.initialized "java/lang/System" ∈ gW)
    (ht1 : (tg h sA).1 = 100) (ht2 : (tg h dA2).1 = 100) (h1 : ¬ sp < 0) (h2 : ¬ dp < 0) (h3 : ¬ n < 0) (h4 : sp.toNatClampNeg + n.toNatClampNeg ≤ (tg h sA).2) (h5 : dp.toNatClampNeg + n.toNatClampNeg ≤ (tg h dA2).2) (hfr : 1 ≤ R.frames) (hlo : 8 + (nativeFrameWords "java/lang/System" "arraycopy" 5 + 11) ≤ R.locals) (hst : csum st ≤ 8) (hd : decode cc pc = .ok (.invokestatic idx, 3))
    (kk : Gw p l e R s m args below meth c Q nL D dA z sa Hz h0 fin (pc + 3) la st (cpI h sA sp.toNatClampNeg dA2 dp.toNatClampNeg n.toNatClampNeg)) : Gw p l e R s m args below meth c Q nL D dA z sa Hz h0 fin pc la (.int n :: .int dp :: .ref dA2 :: .int sp :: .ref sA :: st) h := by
  obtain ⟨hx, hb, hml, hown, hts, hG, hs0, hz0, hrc, hrs⟩ := id C
  refine ⟨kk.1, kk.2.1, fun H locs cells slots ls hR hS hl hc hs => ?_⟩
  have hlt1 := hR.1.lt (by decide : (100 : Nat) ≠ 999) ht1
  have he1 := hR.at (by decide : (100 : Nat) ≠ 999) ht1
  rw [cell_ar (by decide) ht1] at he1
  have hlt2 := hR.1.lt (by decide : (100 : Nat) ≠ 999) ht2
  have he2 := hR.at (by decide : (100 : Nat) ≠ 999) ht2
  rw [cell_ar (by decide) ht2] at he2
  rw [List.map_cons, List.map_cons, List.map_cons, List.map_cons, List.map_cons, show cv z sa (.ref dA2) = .ref (z + dA2) from cvr_pos hlt2.1, show cv z sa (.ref sA) = .ref (z + sA) from cvr_pos hlt1.1]
  have hcs : ((st.map (cv z sa)).map fun v => v.category).sum ≤ 8 := by rw [csum_cv]; exact hst
  refine va_copyi hx hb (by rw [hml, hl.1]) hown (hts _ hlink) (hts _ hnat) (hts _ hstat) (hts _ hini) hG.1 hR.2.2 ws_D hS (sA - 1) (dA2 - 1) 0 0 he1 he2 rfl rfl rfl h1 h2 h3 h4 h5 (fun _ _ => rfl) hfr (by omega) hd (fun H1 locs1 hP1 hD1 hS1 => ?_)
  have e9 : (Sum.inl (dA 100, (tg h dA2).2, .inl (va_cpy (rI h sA) (rI h dA2) sp.toNatClampNeg dp.toNatClampNeg n.toNatClampNeg)) : va_E) = cellOf dA z (cpI h sA sp.toNatClampNeg dA2 dp.toNatClampNeg n.toNatClampNeg) dA2 := by
    rw [cell_ar (t := 100) (by decide) (by rw [tg_cpI]; exact ht2)]
    have : va_cpy (rI h sA) (rI h dA2) sp.toNatClampNeg dp.toNatClampNeg n.toNatClampNeg = rI (cpI h sA sp.toNatClampNeg dA2 dp.toNatClampNeg n.toNatClampNeg) dA2 := by
      funext j
      rw [rI_cpI, if_pos rfl]
    rw [this]
    rfl
  rw [e9, ws_set hlt2.1 hlt2.2 (nx_cpI h sA _ dA2 _ _) (fun b hb => cell_same rfl (fun j => by rw [rI_cpI, if_neg hb]) (fun j => rfl) (fun j => rfl))] at hP1
  exact kk.wrote (h := h) C rfl rfl (by omega) (hR.1.same rfl (fun _ => rfl)) hP1 hS1 hl hc hs
end ROWS2
