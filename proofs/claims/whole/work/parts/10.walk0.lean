/-! ===== the walk of a stretch of code ===== -/
section WALK
variable {p : Program} {l : Launch} {e : Env} {R : Room} {s : State} {m : MethodId} {args : Array Value} {below : List Frame} {meth : Method} {c : Code} {Q : State → Prop}
variable {cc : ByteArray} {own : String} {nL : Nat} {D : va_G} {dA : Nat → ClassId} {z : Nat} {sa : Nat → Nat} {Hz : Heap} {h0 fin : AH}
theorem s_callT (C : Cx p R s m args c cc own nL D dA z sa Hz h0 fin) {pc idx k : Nat} {la : LA} {As st' : List Value} {h h' : AH} {x : Int32} {q : MI} (hk0 : 0 < k) (hk1 : k ≤ nStr) (hM : MOk q) (hkind : q.2.2.2.2.2.2.1 = 1) (hlen : As.length = q.2.2.2.2.2.2.2) (hcl : q.1.cls = "java/lang/String")
    (hlink : Cond.methodLink own idx q.1 ∈ gW) (hd : decode cc pc = .ok (.invokevirtual idx, 3)) (hroom : q.2.2.2.2.1 + 1 ≤ R.frames ∧ 8 + (q.2.2.1 + 11) + q.2.2.2.2.2.1 ≤ R.locals) (hst : csum st' ≤ 8)
    (hcal : CalOK l D dA z sa Hz q (.retAddr k :: As) h (some (.int x)) h') (kk : Gw p l e R s m args below meth c Q nL D dA z sa Hz h0 fin (pc + 3) la (.int x :: st') h') : Gw p l e R s m args below meth c Q nL D dA z sa Hz h0 fin pc la (As.reverse ++ .retAddr k :: st') h := by
  obtain ⟨hx, hb, hml, hown, hts, hG, hs0, hz0, hrc, hrs⟩ := id C
  obtain ⟨c1, c2, hMet⟩ := hcal
  have k1 := kk.1
  have k2 := kk.2.1
  refine ⟨by omega, by omega, fun H locs cells slots ls hR hS hl hc hs => ?_⟩
  have hcs : ((st'.map (cv z sa)).map fun v => v.category).sum ≤ 8 := by rw [csum_cv]; exact hst
  obtain ⟨adV, o1, -⟩ := hG.2.2.2.2.1 k hk0 hk1
  obtain ⟨cell, r1, r2, r3, -⟩ := o1.kept hS.2.1
  obtain ⟨m1, m2, m3, m4, m5, m6, m7⟩ := hM
  obtain ⟨m61, m62⟩ := m6 hkind
  have hpre : PreV s H q.1.cls (sa k) (Pcc D dA z sa Hz (.retAddr k :: As) h) (As.map (cv z sa)) :=
    ⟨Pcc_blind, ⟨cell, r1, r2, by rw [hcl]; exact r3⟩, fun U hU hW => Pcc_at hG hz0 (As := .retAddr k :: As) hR hS U hU hW⟩
  have hstk : (As.reverse ++ .retAddr k :: st').map (cv z sa) = (As.map (cv z sa)).reverse ++ .ref (sa k) :: st'.map (cv z sa) := by
    rw [List.map_append, List.map_reverse, List.map_cons]
    rfl
  have hrun : va_Run p l e R s m args below meth c H locs cells slots (nx h' - nx h) (us h' - us h) (F0 m pc ls ((As.reverse ++ .retAddr k :: st').map (cv z sa))) (st'.map (cv z sa)) (Qcc D dA z (some (.int x)) h' (Value.ref (sa k) :: As.map (cv z sa)).toArray) (Az z) :=
    va_runV (Ts := gW) (cc := cc) (nL := nL) (own := own) (C := q.1.cls) ⟨hx, hb, hml, hown, hts⟩ hMet ⟨callB_of q.2.2.2.2.2.2.2 hts (good_ws ⟨m1, m2, m3, m4, m5, m6, m7⟩) rfl rfl rfl (hts _ m2) (hts _ hlink) ⟨m3.1, m3.2, m4⟩ hroom, hts _ m61, hts _ m62⟩ hpre rfl (by rw [List.length_map]; exact hlen) hl.1 hstk (lv_room hcs) hd ⟨by show cells + _ ≤ R.cells; omega, by show slots + _ ≤ R.slots; omega⟩
  exact callG hrun hS (fun H1 locs1 hR1 hS1 => kk.2.2 H1 locs1 (cells + (nx h' - nx h)) (slots + (us h' - us h)) ls hR1 hS1 hl (by omega) (by omega))
theorem s_max (C : Cx p R s m args c cc own nL D dA z sa Hz h0 fin) {pc idx : Nat} {la : LA} {st : List Value} {h : AH} {x y : Int32} (hlink : Cond.methodLink own idx Lib.Math.max.name ∈ gW) (hstat : Cond.static Lib.Math.max.name ∈ gW) (hini : Cond.initialized "java/lang/Math" ∈ gW) (hcode : Cond.code Lib.Math.max.name Lib.Math.max.code 2 (some .int) ∈ gW) (hd : decode cc pc = .ok (.invokestatic idx, 3)) (hfr : 1 ≤ R.frames) (hlo : 30 ≤ R.locals) (hst : csum st ≤ 8)
    (kk : Gw p l e R s m args below meth c Q nL D dA z sa Hz h0 fin (pc + 3) la (.int (if x < y then y else x) :: st) h) : Gw p l e R s m args below meth c Q nL D dA z sa Hz h0 fin pc la (.int y :: .int x :: st) h := by
  obtain ⟨hx, hb, hml, hown, hts, hG, hs0, hz0, hrc, hrs⟩ := id C
  have k1 := kk.1
  have k2 := kk.2.1
  refine ⟨kk.1, kk.2.1, fun H locs cells slots ls hR hS hl hc hs => ?_⟩
  have hcs : ((st.map (cv z sa)).map fun v => v.category).sum ≤ 8 := by rw [csum_cv]; exact hst
  exact va_mmax hx hb (by rw [hml, hl.1]) hown (hts _ hlink) (hts _ hstat) (hts _ hini) (hts _ hcode) hfr (by omega) (by omega) (by omega) hd (kk.2.2 H locs cells slots ls hR hS hl hc hs)
theorem s_same (C : Cx p R s m args c cc own nL D dA z sa Hz h0 fin) {pc pc' : Nat} {la : LA} {st st' : List Value} {h : AH}
    (row : ∀ {H : Heap} {locs : List Loc} {cells slots : Nat} {ls : Array Slot}, lv_has ls nL (cvl z sa la) → W p l e R s m args below meth c H locs cells slots Q (F0 m pc' ls (st'.map (cv z sa))) → W p l e R s m args below meth c H locs cells slots Q (F0 m pc ls (st.map (cv z sa))))
    (k : Gw p l e R s m args below meth c Q nL D dA z sa Hz h0 fin pc' la st' h) : Gw p l e R s m args below meth c Q nL D dA z sa Hz h0 fin pc la st h :=
  ⟨k.1, k.2.1, fun H locs cells slots ls hR hS hl hc hs => row hl (k.2.2 H locs cells slots ls hR hS hl hc hs)⟩
theorem s_store (C : Cx p R s m args c cc own nL D dA z sa Hz h0 fin) {pc pc' : Nat} {la la' : LA} {st st' : List Value} {h : AH}
    (row : ∀ {H : Heap} {locs : List Loc} {cells slots : Nat} {ls : Array Slot}, lv_has ls nL (cvl z sa la) → (∀ ls', lv_has ls' nL (cvl z sa la') → W p l e R s m args below meth c H locs cells slots Q (F0 m pc' ls' (st'.map (cv z sa)))) → W p l e R s m args below meth c H locs cells slots Q (F0 m pc ls (st.map (cv z sa))))
    (k : Gw p l e R s m args below meth c Q nL D dA z sa Hz h0 fin pc' la' st' h) : Gw p l e R s m args below meth c Q nL D dA z sa Hz h0 fin pc la st h :=
  ⟨k.1, k.2.1, fun H locs cells slots ls hR hS hl hc hs => row hl (fun ls' hl' => k.2.2 H locs cells slots ls' hR hS hl' hc hs)⟩
theorem s_if (C : Cx p R s m args c cc own nL D dA z sa Hz h0 fin) {pc t f : Nat} {la : LA} {st st' : List Value} {h : AH} {P : Prop}
    (row : ∀ {H : Heap} {locs : List Loc} {cells slots : Nat} {ls : Array Slot}, (P → W p l e R s m args below meth c H locs cells slots Q (F0 m t ls (st'.map (cv z sa)))) → (¬ P → W p l e R s m args below meth c H locs cells slots Q (F0 m f ls (st'.map (cv z sa)))) → W p l e R s m args below meth c H locs cells slots Q (F0 m pc ls (st.map (cv z sa))))
    (hb : nx h ≤ nx fin ∧ us h ≤ us fin) (k1 : P → Gw p l e R s m args below meth c Q nL D dA z sa Hz h0 fin t la st' h) (k2 : ¬ P → Gw p l e R s m args below meth c Q nL D dA z sa Hz h0 fin f la st' h) : Gw p l e R s m args below meth c Q nL D dA z sa Hz h0 fin pc la st h :=
  ⟨hb.1, hb.2, fun H locs cells slots ls hR hS hl hc hs => row (fun q => (k1 q).2.2 H locs cells slots ls hR hS hl hc hs) (fun q => (k2 q).2.2 H locs cells slots ls hR hS hl hc hs)⟩
theorem s_ifB (C : Cx p R s m args c cc own nL D dA z sa Hz h0 fin) {pc t f : Nat} {la : LA} {st st' : List Value} {h : AH} {P : Prop}
    (row : ∀ {H : Heap} {locs : List Loc} {cells slots : Nat} {ls : Array Slot}, (P → W p l e R s m args below meth c H locs cells slots Q (F0 m t ls (st'.map (cv z sa)))) → (¬ P → W p l e R s m args below meth c H locs cells slots Q (F0 m f ls (st'.map (cv z sa)))) → W p l e R s m args below meth c H locs cells slots Q (F0 m pc ls (st.map (cv z sa))))
    (k1 : P → Gw p l e R s m args below meth c Q nL D dA z sa Hz h0 fin t la st' h) (k2 : ¬ P → Gw p l e R s m args below meth c Q nL D dA z sa Hz h0 fin f la st' h) : Gw p l e R s m args below meth c Q nL D dA z sa Hz h0 fin pc la st h := by
  by_cases q : P
  · exact s_if C row ⟨(k1 q).1, (k1 q).2.1⟩ k1 k2
  · exact s_if C row ⟨(k2 q).1, (k2 q).2.1⟩ k1 k2
theorem i_ge {x y : Int32} : y ≤ x ↔ ¬ x < y := Int32.not_lt.symm
theorem ite_some {α : Type} {P : Prop} {hP : Decidable P} {x : Option α} {r : α} (h : (if P then x else none) = some r) : P ∧ x = some r := by
  by_cases q : P
  · rw [if_pos q] at h; exact ⟨q, h⟩
  · rw [if_neg q] at h; cases h
theorem ite_none {α : Type} {P : Prop} {hP : Decidable P} {x : Option α} {r : α} (h : (if P then none else x) = some r) : ¬ P ∧ x = some r := by
  by_cases q : P
  · rw [if_pos q] at h; cases h
  · rw [if_neg q] at h; exact ⟨q, h⟩
theorem cond_some {α : Type} {b : Bool} {x : Option α} {r : α} (h : cond b x none = some r) : b = true ∧ x = some r := by
  cases b
  · cases h
  · exact ⟨rfl, h⟩
theorem bind_some {α β : Type} {x : Option α} {f : α → Option β} {r : β} (h : x.bind f = some r) : ∃ y, x = some y ∧ f y = some r := by
  cases x with
  | none => cases h
  | some y => exact ⟨y, rfl, h⟩
theorem lk_some {α : Type} {x : Option Value} {f : Int32 → Option α} {r : α} (h : (match x with | some (.int y) => f y | _ => none) = some r) : ∃ y, x = some (.int y) ∧ f y = some r := by
  split at h
  · exact ⟨_, rfl, h⟩
  · cases h
theorem lk_someL {α : Type} {x : Option Value} {f : Int64 → Option α} {r : α} (h : (match x with | some (.long y) => f y | _ => none) = some r) : ∃ y, x = some (.long y) ∧ f y = some r := by
  split at h
  · exact ⟨_, rfl, h⟩
  · cases h
theorem take_drop {st st' : List Value} {n : Nat} {v : Value} (h : st.drop n = v :: st') : st = (st.take n).reverse.reverse ++ v :: st' ∧ (st.take n).reverse.length = n := by
  rw [List.reverse_reverse, ← h, List.take_append_drop]
  refine ⟨rfl, ?_⟩
  rw [List.length_reverse, List.length_take]
  have h1 := congrArg List.length h
  rw [List.length_drop, List.length_cons] at h1
  omega
end WALK
