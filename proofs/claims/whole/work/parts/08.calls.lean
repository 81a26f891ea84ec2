/-! ===== calls ===== -/
section CALLS
variable {p : Program} {l : Launch} {e : Env} {R : Room} {s : State} {m : MethodId} {args : Array Value} {below : List Frame} {meth : Method} {c : Code} {Q : State → Prop}
variable {cc : ByteArray} {own : String} {nL : Nat} {D : va_G} {dA : Nat → ClassId} {z : Nat} {sa : Nat → Nat} {Hz : Heap} {h0 fin : AH}
theorem callG {H : Heap} {locs : List Loc} {cells slots mc ms pc : Nat} {ls : Array Slot} {st0 rest : List Value} {v : Option Value} {h' : AH} {a : Array Value} (hr : va_Run p l e R s m args below meth c H locs cells slots mc ms (F0 m pc ls st0) rest (Qcc D dA z v h' a) (Az z)) (hS : va_S (Az z) Hz H locs)
    (kk : ∀ (H1 : Heap) (locs1 : List Loc), Rel D dA z h' H1 → va_S (Az z) Hz H1 locs1 → W p l e R s m args below meth c H1 locs1 (cells + mc) (slots + ms) Q (F0 m (pc + 3) ls (v.toList ++ rest))) : W p l e R s m args below meth c H locs cells slots Q (F0 m pc ls st0) := by
  intro T hT X
  obtain ⟨v', st₀, t, T', L, e0, X', hL, e1, e2, ⟨hv, hp, hz, hk⟩, st⟩ := hr T hT X
  cases hv
  rw [e0] at hz hk
  obtain ⟨t2, a1, b1⟩ := kk T'.heap (locs ++ L) (by rw [e1]; exact hp)
    ⟨Nat.le_trans hS.1 (by rw [e1]; exact hz), fun q h1 h2 => by rw [e1, hk q (Nat.lt_of_lt_of_le h1 hS.1) h2]; exact hS.2.1 q h1 h2, fun q hq => by
      rcases List.mem_append.mp hq with h | h
      · exact hS.2.2 q h
      · exact hL q h⟩ T' rfl X'
  exact ⟨t2, st t2 a1, b1⟩
theorem Pcc_blind {As : List Value} {h : AH} : FrameBlind (Pcc D dA z sa Hz As h) := fun a U g mk q => ⟨q.1, q.2.1, Gs.same (s := U) (show (U.calling g mk a).vm = U.vm from rfl) q.2.2.1, q.2.2.2⟩
theorem va_S.none {A : Nat → Prop} {H0 H : Heap} {locs : List Loc} (h : va_S A H0 H locs) : va_S A H0 H [] := ⟨h.1, h.2.1, fun q hq => by cases hq⟩
theorem Pcc_at (hG : Gs D dA z sa Hz s) (hz0 : Hz.size = z + 1) {As : List Value} {h : AH} {H : Heap} {locs : List Loc} (hR : Rel D dA z h H) (hS : va_S (Az z) Hz H locs) (U : State) (hU : U.heap = H) (hW : s.WarmedH U.vm) : Pcc D dA z sa Hz As h (As.map (cv z sa)).toArray U :=
  ⟨rfl, by rw [hU]; exact hR, hG.warm hW, by rw [hU]; exact hS.none, hz0⟩
theorem good_ws {q : MI} (hM : MOk q) : GoodIn gW (wsM q) := by
  intro w hw
  rcases List.mem_cons.mp hw with e | hw
  · rw [e]
    exact ⟨hM.1, gW_good _ hM.1⟩
  · exact ⟨hw, gW_good _ hw⟩
theorem s_callV (C : Cx p R s m args c cc own nL D dA z sa Hz h0 fin) {pc ci idx a : Nat} {la : LA} {As st' : List Value} {h h' : AH} {v : Option Value} {q : MI} {qc : vw_C} (hci : cls[ci]? = some qc) (hqc : qc.1 = q.1.cls) (ht : (tg h a).1 = ci) (hM : MOk q) (hkind : q.2.2.2.2.2.2.1 = 1) (hlen : As.length = q.2.2.2.2.2.2.2)
    (hlink : Cond.methodLink own idx q.1 ∈ gW ∨ ∃ host, Cond.methodLinkNest own idx q.1 host ∈ lw_tbl) (hd : decode cc pc = .ok (.invokevirtual idx, 3)) (hroom : q.2.2.2.2.1 + 1 ≤ R.frames ∧ 8 + (q.2.2.1 + 11) + q.2.2.2.2.2.1 ≤ R.locals) (hst : csum st' ≤ 8)
    (hcal : CalOK l D dA z sa Hz q (.ref a :: As) h v h') (hv : v.map (cv z sa) = v) (kk : Gw p l e R s m args below meth c Q nL D dA z sa Hz h0 fin (pc + 3) la (v.toList ++ st') h') : Gw p l e R s m args below meth c Q nL D dA z sa Hz h0 fin pc la (As.reverse ++ .ref a :: st') h := by
  obtain ⟨hx, hb, hml, hown, hts, hG, hs0, hz0, hrc, hrs⟩ := id C
  obtain ⟨c1, c2, hMet⟩ := hcal
  have k1 := kk.1
  have k2 := kk.2.1
  refine ⟨by omega, by omega, fun H locs cells slots ls hR hS hl hc hs => ?_⟩
  have h9 : ci < 10 := (List.getElem?_eq_some_iff.mp hci).1
  have hlt := hR.1.lt (by omega : ci ≠ 999) ht
  have he := hR.at (by omega : ci ≠ 999) ht
  rw [cell_ob (by omega) ht] at he
  have hcs : ((st'.map (cv z sa)).map fun v => v.category).sum ≤ 8 := by rw [csum_cv]; exact hst
  have hrecv := va_recv hG.1 hR.2.2 hci he
  rw [hqc] at hrecv
  obtain ⟨m1, m2, m3, m4, m5, m6, m7⟩ := hM
  obtain ⟨m61, m62⟩ := m6 hkind
  have hpre : PreV s H q.1.cls (z + a) (Pcc D dA z sa Hz (.ref a :: As) h) (As.map (cv z sa)) := by
    refine ⟨Pcc_blind, hrecv, fun U hU hW => ?_⟩
    have := Pcc_at hG hz0 (As := .ref a :: As) hR hS U hU hW
    rw [List.map_cons, show cv z sa (.ref a) = .ref (z + a) from cvr_pos hlt.1] at this
    exact this
  have hstk : (As.reverse ++ .ref a :: st').map (cv z sa) = (As.map (cv z sa)).reverse ++ .ref (z + a) :: st'.map (cv z sa) := by
    rw [List.map_append, List.map_reverse, List.map_cons, show cv z sa (.ref a) = .ref (z + a) from cvr_pos hlt.1]
  have hrun : va_Run p l e R s m args below meth c H locs cells slots (nx h' - nx h) (us h' - us h) (F0 m pc ls ((As.reverse ++ .ref a :: st').map (cv z sa))) (st'.map (cv z sa)) (Qcc D dA z v h' (Value.ref (z + a) :: As.map (cv z sa)).toArray) (Az z) := by
    rcases hlink with hlink | ⟨host, hlink⟩
    · refine va_runV (Ts := gW) (cc := cc) (nL := nL) (own := own) (C := q.1.cls) ⟨hx, hb, hml, hown, hts⟩ hMet ⟨callB_of q.2.2.2.2.2.2.2 hts (good_ws ⟨m1, m2, m3, m4, m5, m6, m7⟩) rfl rfl rfl (hts _ m2) (hts _ hlink) ⟨m3.1, m3.2, m4⟩ hroom, hts _ m61, hts _ m62⟩ hpre rfl (by rw [List.length_map]; exact hlen) hl.1 hstk (lv_room hcs) hd ⟨by show cells + _ ≤ R.cells; omega, by show slots + _ ≤ R.slots; omega⟩
    · refine va_runVN (Ts := gW) (cc := cc) (nL := nL) (own := own) (C := q.1.cls) (host := host) ⟨hx, hb, hml, hown, hts⟩ hMet ⟨va_cnB q.2.2.2.2.2.2.2 hts (good_ws ⟨m1, m2, m3, m4, m5, m6, m7⟩) rfl rfl rfl (hG.2.1 _ hlink rfl) (hts _ m2) ⟨m3.1, m3.2, m4⟩ hroom, hts _ m61, hts _ m62⟩ hpre rfl (by rw [List.length_map]; exact hlen) hl.1 hstk (lv_room hcs) hd ⟨by show cells + _ ≤ R.cells; omega, by show slots + _ ≤ R.slots; omega⟩
  refine callG hrun hS (fun H1 locs1 hR1 hS1 => ?_)
  have K := kk.2.2 H1 locs1 (cells + (nx h' - nx h)) (slots + (us h' - us h)) ls hR1 hS1 hl (by omega) (by omega)
  rw [List.map_append] at K
  have e9 : v.toList.map (cv z sa) = v.toList := by
    cases v with
    | none => rfl
    | some x => show [cv z sa x] = [x]; rw [Option.some.inj hv]
  rw [e9] at K
  exact K
theorem s_callS (C : Cx p R s m args c cc own nL D dA z sa Hz h0 fin) {pc idx : Nat} {la : LA} {As st' : List Value} {h h' : AH} {v : Option Value} {q : MI} (hM : MOk q) (hkind : q.2.2.2.2.2.2.1 = 0) (hlen : As.length = q.2.2.2.2.2.2.2)
    (hlink : Cond.methodLink own idx q.1 ∈ gW ∨ ∃ host, Cond.methodLinkNest own idx q.1 host ∈ lw_tbl) (hd : decode cc pc = .ok (.invokestatic idx, 3)) (hroom : q.2.2.2.2.1 + 1 ≤ R.frames ∧ 8 + (q.2.2.1 + 11) + q.2.2.2.2.2.1 ≤ R.locals) (hst : csum st' ≤ 8)
    (hcal : CalOK l D dA z sa Hz q As h v h') (hv : v.map (cv z sa) = v) (kk : Gw p l e R s m args below meth c Q nL D dA z sa Hz h0 fin (pc + 3) la (v.toList ++ st') h') : Gw p l e R s m args below meth c Q nL D dA z sa Hz h0 fin pc la (As.reverse ++ st') h := by
  obtain ⟨hx, hb, hml, hown, hts, hG, hs0, hz0, hrc, hrs⟩ := id C
  obtain ⟨c1, c2, hMet⟩ := hcal
  have k1 := kk.1
  have k2 := kk.2.1
  refine ⟨by omega, by omega, fun H locs cells slots ls hR hS hl hc hs => ?_⟩
  have hcs : ((st'.map (cv z sa)).map fun v => v.category).sum ≤ 8 := by rw [csum_cv]; exact hst
  obtain ⟨m1, m2, m3, m4, m5, m6, m7⟩ := hM
  have m51 := m5 hkind
  have hpre : PreS s H (Pcc D dA z sa Hz As h) (As.map (cv z sa)) := ⟨Pcc_blind, fun U hU hW => Pcc_at hG hz0 (As := As) hR hS U hU hW⟩
  have hstk : (As.reverse ++ st').map (cv z sa) = (As.map (cv z sa)).reverse ++ st'.map (cv z sa) := by
    rw [List.map_append, List.map_reverse]
  have hrun : va_Run p l e R s m args below meth c H locs cells slots (nx h' - nx h) (us h' - us h) (F0 m pc ls ((As.reverse ++ st').map (cv z sa))) (st'.map (cv z sa)) (Qcc D dA z v h' (As.map (cv z sa)).toArray) (Az z) := by
    rcases hlink with hlink | ⟨host, hlink⟩
    · refine va_runS (Ts := gW) (cc := cc) (nL := nL) (own := own) ⟨hx, hb, hml, hown, hts⟩ hMet ⟨callB_of q.2.2.2.2.2.2.2 hts (good_ws ⟨m1, m2, m3, m4, m5, m6, m7⟩) rfl rfl rfl (hts _ m2) (hts _ hlink) ⟨m3.1, m3.2, m4⟩ hroom, hts _ m51⟩ hpre rfl (by rw [List.length_map]; exact hlen) hl.1 hstk (lv_room hcs) hd ⟨by show cells + _ ≤ R.cells; omega, by show slots + _ ≤ R.slots; omega⟩
    · refine va_runSN (Ts := gW) (cc := cc) (nL := nL) (own := own) (host := host) ⟨hx, hb, hml, hown, hts⟩ hMet ⟨va_cnB q.2.2.2.2.2.2.2 hts (good_ws ⟨m1, m2, m3, m4, m5, m6, m7⟩) rfl rfl rfl (hG.2.1 _ hlink rfl) (hts _ m2) ⟨m3.1, m3.2, m4⟩ hroom, hts _ m51, trivial⟩ hpre rfl (by rw [List.length_map]; exact hlen) hl.1 hstk (lv_room hcs) hd ⟨by show cells + _ ≤ R.cells; omega, by show slots + _ ≤ R.slots; omega⟩
  refine callG hrun hS (fun H1 locs1 hR1 hS1 => ?_)
  have K := kk.2.2 H1 locs1 (cells + (nx h' - nx h)) (slots + (us h' - us h)) ls hR1 hS1 hl (by omega) (by omega)
  rw [List.map_append] at K
  have e9 : v.toList.map (cv z sa) = v.toList := by
    cases v with
    | none => rfl
    | some x => show [cv z sa x] = [x]; rw [Option.some.inj hv]
  rw [e9] at K
  exact K
theorem s_callI (C : Cx p R s m args c cc own nL D dA z sa Hz h0 fin) {pc idx a : Nat} {la : LA} {As st' : List Value} {h h' : AH} {q : MI} (ha : 0 < a) (hM : MOk q) (hkind : q.2.2.2.2.2.2.1 = 2) (hlen : As.length = q.2.2.2.2.2.2.2)
    (hlink : Cond.methodLink own idx q.1 ∈ gW ∨ ∃ host, Cond.methodLinkNest own idx q.1 host ∈ lw_tbl) (hd : decode cc pc = .ok (.invokespecial idx, 3)) (hroom : q.2.2.2.2.1 + 1 ≤ R.frames ∧ 8 + (q.2.2.1 + 11) + q.2.2.2.2.2.1 ≤ R.locals) (hst : csum st' ≤ 8)
    (hcal : CalOK l D dA z sa Hz q (.ref a :: As) h none h') (kk : Gw p l e R s m args below meth c Q nL D dA z sa Hz h0 fin (pc + 3) la st' h') : Gw p l e R s m args below meth c Q nL D dA z sa Hz h0 fin pc la (As.reverse ++ .ref a :: st') h := by
  obtain ⟨hx, hb, hml, hown, hts, hG, hs0, hz0, hrc, hrs⟩ := id C
  obtain ⟨c1, c2, hMet⟩ := hcal
  have k1 := kk.1
  have k2 := kk.2.1
  refine ⟨by omega, by omega, fun H locs cells slots ls hR hS hl hc hs => ?_⟩
  have hcs : ((st'.map (cv z sa)).map fun v => v.category).sum ≤ 8 := by rw [csum_cv]; exact hst
  obtain ⟨yq, cq, lq, rq, fq, oq, kq, nq⟩ := q
  obtain ⟨m1, m2, m3, m4, m5, m6, m7⟩ := hM
  obtain ⟨m71, m72, m73⟩ := m7 hkind
  have m73 : rq = none := m73
  subst m73
  have hpre : PreS s H (Pcc D dA z sa Hz (.ref a :: As) h) (.ref (z + a) :: As.map (cv z sa)) := by
    refine ⟨Pcc_blind, fun U hU hW => ?_⟩
    have := Pcc_at hG hz0 (As := .ref a :: As) hR hS U hU hW
    rw [List.map_cons, show cv z sa (.ref a) = .ref (z + a) from cvr_pos ha] at this
    exact this
  have hstk : (As.reverse ++ .ref a :: st').map (cv z sa) = (As.map (cv z sa)).reverse ++ .ref (z + a) :: st'.map (cv z sa) := by
    rw [List.map_append, List.map_reverse, List.map_cons, show cv z sa (.ref a) = .ref (z + a) from cvr_pos ha]
  have hrun : va_Run p l e R s m args below meth c H locs cells slots (nx h' - nx h) (us h' - us h) (F0 m pc ls ((As.reverse ++ .ref a :: st').map (cv z sa))) (st'.map (cv z sa)) (Qcc D dA z none h' (Value.ref (z + a) :: As.map (cv z sa)).toArray) (Az z) := by
    rcases hlink with hlink | ⟨host, hlink⟩
    · refine va_runI (Ts := gW) (cc := cc) (nL := nL) (own := own) ⟨hx, hb, hml, hown, hts⟩ hMet ⟨callB_of nq hts (good_ws (q := (yq, cq, lq, none, fq, oq, kq, nq)) ⟨m1, m2, m3, m4, m5, m6, m7⟩) rfl rfl rfl (hts _ m2) (hts _ hlink) ⟨m3.1, m3.2, m4⟩ hroom, m71, hts _ m72⟩ hpre rfl (by rw [List.length_map]; exact hlen) hl.1 hstk (lv_room hcs) hd ⟨by show cells + _ ≤ R.cells; omega, by show slots + _ ≤ R.slots; omega⟩
    · refine va_runIN (Ts := gW) (cc := cc) (nL := nL) (own := own) (host := host) ⟨hx, hb, hml, hown, hts⟩ hMet ⟨va_cnB nq hts (good_ws (q := (yq, cq, lq, none, fq, oq, kq, nq)) ⟨m1, m2, m3, m4, m5, m6, m7⟩) rfl rfl rfl (hG.2.1 _ hlink rfl) (hts _ m2) ⟨m3.1, m3.2, m4⟩ hroom, m71, hts _ m72⟩ hpre rfl (by rw [List.length_map]; exact hlen) hl.1 hstk (lv_room hcs) hd ⟨by show cells + _ ≤ R.cells; omega, by show slots + _ ≤ R.slots; omega⟩
  refine callG hrun hS (fun H1 locs1 hR1 hS1 => ?_)
  exact kk.2.2 H1 locs1 (cells + (nx h' - nx h)) (slots + (us h' - us h)) ls hR1 hS1 hl (by omega) (by omega)
theorem s_obj (C : Cx p R s m args c cc own nL D dA z sa Hz h0 fin) {pc idx a : Nat} {la : LA} {st : List Value} {h : AH} (ha : 0 < a) (hlink : Cond.methodLink own idx objectInit ∈ gW) (hi : Cond.instanceMethod objectInit ∈ gW) (hcd : Cond.code objectInit ⟨#[0xb1]⟩ 1 none ∈ gW) (hd : decode cc pc = .ok (.invokespecial idx, 3)) (hfr : 1 ≤ R.frames) (hlo : 20 ≤ R.locals) (hst : csum st ≤ 8)
    (kk : Gw p l e R s m args below meth c Q nL D dA z sa Hz h0 fin (pc + 3) la st h) : Gw p l e R s m args below meth c Q nL D dA z sa Hz h0 fin pc la (.ref a :: st) h := by
  obtain ⟨hx, hb, hml, hown, hts, hG, hs0, hz0, hrc, hrs⟩ := id C
  refine ⟨kk.1, kk.2.1, fun H locs cells slots ls hR hS hl hc hs => ?_⟩
  rw [List.map_cons, show cv z sa (.ref a) = .ref (z + a) from cvr_pos ha]
  have hcs : ((st.map (cv z sa)).map fun v => v.category).sum ≤ 8 := by rw [csum_cv]; exact hst
  exact W.objInit hx hb hown (hts _ hlink) (hts _ hi) (hts _ hcd) rfl (by rw [hml]; exact hl.1) rfl hd hfr (by show 2 * 0 + _ + 12 ≤ R.locals; omega) (kk.2.2 H locs cells slots ls hR hS hl hc hs)
end CALLS
