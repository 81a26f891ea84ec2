/-! ===== the heap's rows over the pure memory ===== -/
def ClsOk (ci : Nat) (q : vw_C) : Prop := (∀ w ∈ u_ws q.1 q.2.1 q.2.2, w ∈ gW) ∧ (∀ k, k < q.2.2 → parseFieldDescriptor (q.2.1 k).2.2.1 = some (cty ci k)) ∧ (∀ a, a < q.2.2 → ∀ b, b < q.2.2 → a ≠ b → (q.2.1 a).2.1 ≠ (q.2.1 b).2.1) ∧ Cond.instantiable q.1 q.2.2 ∈ gW ∧ Cond.initialized q.1 ∈ gW ∧ ∀ k, k < q.2.2 → defaultValue (cty ci k) = (match fty ci k with | 1 => .long 0 | 2 => .null | _ => .int 0)
def PutOk (own : String) (mn : String) (q : vw_C) (k idx : Nat) : Prop :=
  (Cond.fieldLink own idx (q.2.1 k).1 (q.2.1 k).2.1 (q.2.1 k).2.2.1 ∈ gW ∧ (q.2.1 k).2.2.2 = false) ∨ (∃ host, Cond.fieldLinkNest own idx (q.2.1 k).1 (q.2.1 k).2.1 (q.2.1 k).2.2.1 host ∈ lw_tbl ∧ (q.2.1 k).2.2.2 = false) ∨
  (Cond.fieldLink own idx (q.2.1 k).1 (q.2.1 k).2.1 (q.2.1 k).2.2.1 ∈ gW ∧ (q.2.1 k).2.2.2 = true ∧ mn = "<init>" ∧ (q.2.1 k).1 = own)
section ROWS
variable {p : Program} {l : Launch} {e : Env} {R : Room} {s : State} {m : MethodId} {args : Array Value} {below : List Frame} {meth : Method} {c : Code} {Q : State → Prop}
variable {cc : ByteArray} {own : String} {nL : Nat} {D : va_G} {dA : Nat → ClassId} {z : Nat} {sa : Nat → Nat} {Hz : Heap} {h0 fin : AH}
theorem s_put (C : Cx p R s m args c cc own nL D dA z sa Hz h0 fin) {pc a ci k idx : Nat} {la : LA} {st : List Value} {h h' : AH} {v : Value} {q : vw_C} (hci : cls[ci]? = some q) (hq : ClsOk ci q) (hk : k < q.2.2) (ht : (tg h a).1 = ci)
    (hlink : PutOk own meth.name q k idx) (hd : decode cc pc = .ok (.putfield idx, 3)) (hn : narrow (cty ci k) (cv z sa v) = cv z sa v) (hfit : fits (cty ci k) (cv z sa v) = true)
    (hnx : nx h' = nx h) (hus : us h' = us h) (htg : ∀ b, tg h' b = tg h b) (hca : ∀ j, j ≠ k → fv z h' a ci j = fv z h a ci j) (hck : fv z h' a ci k = cv z sa v) (hco : ∀ b, b ≠ a → cellOf dA z h' b = cellOf dA z h b)
    (kk : Gw p l e R s m args below meth c Q nL D dA z sa Hz h0 fin (pc + 3) la st h') : Gw p l e R s m args below meth c Q nL D dA z sa Hz h0 fin pc la (v :: .ref a :: st) h := by
  obtain ⟨hx, hb, hml, hown, hts, hG, -⟩ := id C
  refine ⟨by rw [← hnx]; exact kk.1, by rw [← hus]; exact kk.2.1, fun H locs cells slots ls hR hS hl hc hs => ?_⟩
  have h9 : ci < 10 := (List.getElem?_eq_some_iff.mp hci).1
  have hlt := hR.1.lt (by omega : ci ≠ 999) ht
  have he := hR.at (by omega : ci ≠ 999) ht
  rw [cell_ob (by omega) ht] at he
  obtain ⟨q', e1, e2⟩ := hR.1.2.2 a (by omega)
  rw [ht] at e1
  cases Option.some.inj (e1.symm.trans hci)
  have hset : (wsOf dA z h).set (a - 1) (z + a, .inr (ci, ((List.range (tg h a).2).map (fv z h a ci)).set k (cv z sa v))) = wsOf dA z h' := by
    rw [← ws_set (dA := dA) (z := z) hlt.1 hlt.2 hnx hco, cell_ob (t := ci) (by omega) (by rw [htg]; exact ht), htg, set_range hck hca]
  rw [List.map_cons, List.map_cons, show cv z sa (.ref a) = .ref (z + a) from cvr_pos hlt.1]
  have fine : ∀ (H1 : Heap) (locs1 : List Loc), va_P D cls ((wsOf dA z h).set (a - 1) (z + a, .inr (ci, ((List.range (tg h a).2).map (fv z h a ci)).set k (cv z sa v)))) H1 → va_D (Az z) ((wsOf dA z h).set (a - 1) (z + a, .inr (ci, ((List.range (tg h a).2).map (fv z h a ci)).set k (cv z sa v)))) → va_S (Az z) Hz H1 locs1 → W p l e R s m args below meth c H1 locs1 cells slots Q (F0 m (pc + 3) ls (st.map (cv z sa))) := by
    intro H1 locs1 hP1 hD1 hS1
    rw [hset] at hP1
    exact kk.wrote C hnx hus (by omega) (hR.1.same hnx htg) hP1 hS1 hl hc hs
  obtain ⟨Cn, T, N⟩ := q
  obtain ⟨q1, q2, q3, q4, q5, q6⟩ := hq
  have hlen : k < ((List.range (tg h a).2).map (fv z h a ci)).length := by simp; omega
  rcases hlink with ⟨hlink, hf⟩ | ⟨host, hlink, hf⟩ | ⟨hlink, hf, hmn, hdc⟩
  · exact va_put hx hb hts q1 (cty ci) q2 q3 hown hG.1 hR.2.2 ws_D hS (a - 1) he hci k hk (hts _ hlink) (fun x hx => hx) hf (q2 k hk) hn hfit hlen hd fine
  · exact va_putN hx hb hts q1 (cty ci) q2 q3 hown hG.1 hR.2.2 ws_D hS (a - 1) he hci k hk (va_Nw.use rfl (hG.2.1 _ hlink rfl)) (fun x hx => hx) hf (q2 k hk) hn hfit hlen hd fine
  · exact va_putF hx hb hts q1 (cty ci) q2 q3 hown hG.1 hR.2.2 ws_D hS (a - 1) he hci k hk (hts _ hlink) (fun x hx => hx) hf hmn hdc (q2 k hk) hn hfit hlen hd fine
theorem fv_wI {z : Nat} {h : AH} {a ci k : Nat} {x : Int32} : (∀ j, j ≠ k → fv z (wI h a k x) a ci j = fv z h a ci j) ∧ ((fty ci k = 0 ∨ fty ci k = 3) → fv z (wI h a k x) a ci k = .int x) ∧ ∀ (dA : Nat → ClassId) (b : Nat), b ≠ a → cellOf dA z (wI h a k x) b = cellOf dA z h b := by
  refine ⟨fun j hj => ?_, fun hf => ?_, fun dA b hb => cell_same rfl (fun j => by rw [rI_wI, if_neg (fun q => hb q.1)]) (fun j => rfl) (fun j => rfl)⟩
  · unfold fv
    rw [rI_wI, if_neg (fun q => hj q.2), rL_wI, rR_wI]
  · unfold fv
    rw [rI_wI, if_pos ⟨rfl, rfl⟩]
    rcases hf with hf | hf <;> rw [hf] <;> rfl
theorem fv_wL {z : Nat} {h : AH} {a ci k : Nat} {x : Int64} : (∀ j, j ≠ k → fv z (wL h a k x) a ci j = fv z h a ci j) ∧ (fty ci k = 1 → fv z (wL h a k x) a ci k = .long x) ∧ ∀ (dA : Nat → ClassId) (b : Nat), b ≠ a → cellOf dA z (wL h a k x) b = cellOf dA z h b := by
  refine ⟨fun j hj => ?_, fun hf => ?_, fun dA b hb => cell_same rfl (fun j => rfl) (fun j => by rw [rL_wL, if_neg (fun q => hb q.1)]) (fun j => rfl)⟩
  · unfold fv
    rw [rL_wL, if_neg (fun q => hj q.2), rI_wL, rR_wL]
  · unfold fv
    rw [rL_wL, if_pos ⟨rfl, rfl⟩, hf]
    rfl
theorem fv_wR {z : Nat} {h : AH} {a ci k x : Nat} : (∀ j, j ≠ k → fv z (wR h a k x) a ci j = fv z h a ci j) ∧ (fty ci k = 2 → fv z (wR h a k x) a ci k = cvr z x) ∧ ∀ (dA : Nat → ClassId) (b : Nat), b ≠ a → cellOf dA z (wR h a k x) b = cellOf dA z h b := by
  refine ⟨fun j hj => ?_, fun hf => ?_, fun dA b hb => cell_same rfl (fun j => rfl) (fun j => rfl) (fun j => by rw [rR_wR, if_neg (fun q => hb q.1)])⟩
  · unfold fv
    rw [rR_wR, if_neg (fun q => hj q.2), rI_wR, rL_wR]
  · unfold fv
    rw [rR_wR, if_pos ⟨rfl, rfl⟩, hf]
    rfl
theorem cty_0 {ci k : Nat} (h : fty ci k = 0) (v : Int32) : cty ci k = .int → (narrow (cty ci k) (.int v) = .int v ∧ fits (cty ci k) (.int v) = true) := fun e => by rw [e]; exact ⟨rfl, rfl⟩
theorem cty_1 {ci k : Nat} (h : fty ci k = 1) (v : Int64) : narrow (cty ci k) (.long v) = .long v ∧ fits (cty ci k) (.long v) = true := by
  unfold fty at h
  generalize cty ci k = t at h ⊢
  cases t <;> first | exact ⟨rfl, rfl⟩ | (simp at h; done)
theorem cty_2 {ci k : Nat} (h : fty ci k = 2) (z v : Nat) : narrow (cty ci k) (cvr z v) = cvr z v ∧ fits (cty ci k) (cvr z v) = true := by
  unfold fty at h
  generalize cty ci k = t at h ⊢
  unfold cvr
  by_cases e : v = 0
  · rw [if_pos e]
    cases t <;> first | exact ⟨rfl, rfl⟩ | (simp at h; done)
  · rw [if_neg e]
    cases t <;> first | exact ⟨rfl, rfl⟩ | (simp at h; done)
theorem and1_cases {x : Int32} (h : x &&& 1 = x) : x = 0 ∨ x = 1 := by
  have h1 : x.toBitVec &&& 1#32 = x.toBitVec := congrArg Int32.toBitVec h
  have h2 : x.toBitVec = 0#32 ∨ x.toBitVec = 1#32 := by
    generalize x.toBitVec = b at h1 ⊢
    have : b.toNat &&& 1 = b.toNat := by
      have := congrArg BitVec.toNat h1
      simpa using this
    rw [Nat.and_one_is_mod] at this
    have h3 : b.toNat = 0 ∨ b.toNat = 1 := by omega
    rcases h3 with h3 | h3
    · exact Or.inl (BitVec.eq_of_toNat_eq (by simpa using h3))
    · exact Or.inr (BitVec.eq_of_toNat_eq (by simpa using h3))
  rcases h2 with h2 | h2
  · exact Or.inl (Int32.toBitVec_inj.mp h2)
  · exact Or.inr (Int32.toBitVec_inj.mp h2)
theorem cty_3 {ci k : Nat} (h : fty ci k = 3) {v : Int32} (hv : v &&& 1 = v) : narrow (cty ci k) (.int v) = .int v ∧ fits (cty ci k) (.int v) = true := by
  unfold fty at h
  generalize cty ci k = t at h ⊢
  cases t <;> first | (simp at h; done) | skip
  refine ⟨?_, ?_⟩
  · show Value.int (v &&& 1) = .int v
    rw [hv]
  · rcases and1_cases hv with e | e <;> rw [e] <;> rfl
-- arrays
theorem s_iald (C : Cx p R s m args c cc own nL D dA z sa Hz h0 fin) {pc a : Nat} {la : LA} {st : List Value} {h : AH} {i : Int32} (hi : inB h a 100 i = true) (hd : decode cc pc = .ok (.iaload, 1))
    (kk : Gw p l e R s m args below meth c Q nL D dA z sa Hz h0 fin (pc + 1) la (.int (rI h a i.toNatClampNeg) :: st) h) : Gw p l e R s m args below meth c Q nL D dA z sa Hz h0 fin pc la (.int i :: .ref a :: st) h := by
  obtain ⟨hx, hb, hml, hown, hts, hG, -⟩ := id C
  refine ⟨kk.1, kk.2.1, fun H locs cells slots ls hR hS hl hc hs => ?_⟩
  obtain ⟨ht, hin⟩ := of_decide_eq_true hi
  have hlt := hR.1.lt (by decide : (100 : Nat) ≠ 999) ht
  have he := hR.at (by decide : (100 : Nat) ≠ 999) ht
  rw [cell_ar (by decide) ht] at he
  rw [List.map_cons, List.map_cons, show cv z sa (.ref a) = .ref (z + a) from cvr_pos hlt.1]
  exact va_iald hx hb hG.1 hR.2.2 (a - 1) 0 he rfl hin hd (kk.2.2 H locs cells slots ls hR hS hl hc hs)
theorem s_bald (C : Cx p R s m args c cc own nL D dA z sa Hz h0 fin) {pc a t : Nat} {la : LA} {st : List Value} {h : AH} {i : Int32} (htt : t = 101 ∨ t = 102) (hi : inB h a t i = true) (hd : decode cc pc = .ok (.baload, 1))
    (kk : Gw p l e R s m args below meth c Q nL D dA z sa Hz h0 fin (pc + 1) la (.int (rI h a i.toNatClampNeg) :: st) h) : Gw p l e R s m args below meth c Q nL D dA z sa Hz h0 fin pc la (.int i :: .ref a :: st) h := by
  obtain ⟨hx, hb, hml, hown, hts, hG, -⟩ := id C
  refine ⟨kk.1, kk.2.1, fun H locs cells slots ls hR hS hl hc hs => ?_⟩
  obtain ⟨ht, hin⟩ := of_decide_eq_true hi
  have hlt := hR.1.lt (by omega : t ≠ 999) ht
  have he := hR.at (by omega : t ≠ 999) ht
  rw [cell_ar (by omega) ht] at he
  rw [List.map_cons, List.map_cons, show cv z sa (.ref a) = .ref (z + a) from cvr_pos hlt.1]
  rcases htt with rfl | rfl
  · exact va_bald hx hb hG.1 hR.2.2 (a - 1) 1 he rfl hin hd (kk.2.2 H locs cells slots ls hR hS hl hc hs)
  · exact va_zald hx hb hG.1 hR.2.2 (a - 1) 2 he rfl hin hd (kk.2.2 H locs cells slots ls hR hS hl hc hs)
theorem s_lald (C : Cx p R s m args c cc own nL D dA z sa Hz h0 fin) {pc a : Nat} {la : LA} {st : List Value} {h : AH} {i : Int32} (hi : inB h a 103 i = true) (hd : decode cc pc = .ok (.laload, 1))
    (kk : Gw p l e R s m args below meth c Q nL D dA z sa Hz h0 fin (pc + 1) la (.long (rL h a i.toNatClampNeg) :: st) h) : Gw p l e R s m args below meth c Q nL D dA z sa Hz h0 fin pc la (.int i :: .ref a :: st) h := by
  obtain ⟨hx, hb, hml, hown, hts, hG, -⟩ := id C
  refine ⟨kk.1, kk.2.1, fun H locs cells slots ls hR hS hl hc hs => ?_⟩
  obtain ⟨ht, hin⟩ := of_decide_eq_true hi
  have hlt := hR.1.lt (by decide : (103 : Nat) ≠ 999) ht
  have he := hR.at (by decide : (103 : Nat) ≠ 999) ht
  rw [cell_ar (by decide) ht] at he
  rw [List.map_cons, List.map_cons, show cv z sa (.ref a) = .ref (z + a) from cvr_pos hlt.1]
  exact va_lald hx hb hG.1 hR.2.2 (a - 1) 3 he rfl hin hd (kk.2.2 H locs cells slots ls hR hS hl hc hs)
theorem s_aald (C : Cx p R s m args c cc own nL D dA z sa Hz h0 fin) {pc a : Nat} {la : LA} {st : List Value} {h : AH} {i : Int32} (hi : inB h a 104 i = true) (hd : decode cc pc = .ok (.aaload, 1))
    (kk : Gw p l e R s m args below meth c Q nL D dA z sa Hz h0 fin (pc + 1) la (.ref (rR h a i.toNatClampNeg) :: st) h) : Gw p l e R s m args below meth c Q nL D dA z sa Hz h0 fin pc la (.int i :: .ref a :: st) h := by
  obtain ⟨hx, hb, hml, hown, hts, hG, -⟩ := id C
  refine ⟨kk.1, kk.2.1, fun H locs cells slots ls hR hS hl hc hs => ?_⟩
  obtain ⟨ht, hin⟩ := of_decide_eq_true hi
  have hlt := hR.1.lt (by decide : (104 : Nat) ≠ 999) ht
  have he := hR.at (by decide : (104 : Nat) ≠ 999) ht
  rw [cell_ar (by decide) ht] at he
  rw [List.map_cons, List.map_cons, show cv z sa (.ref a) = .ref (z + a) from cvr_pos hlt.1]
  refine va_aldq hx hb hG.1 hR.2.2 (a - 1) 4 he rfl hin hd ?_
  have K := kk.2.2 H locs cells slots ls hR hS hl hc hs
  rw [List.map_cons] at K
  have e9 : va_rf (if rR h a i.toNatClampNeg = 0 then none else some (z + rR h a i.toNatClampNeg)) = cv z sa (.ref (rR h a i.toNatClampNeg)) := by
    show _ = cvr z _
    unfold cvr
    by_cases e : rR h a i.toNatClampNeg = 0
    · rw [if_pos e, if_pos e]; rfl
    · rw [if_neg e, if_neg e]; rfl
  rw [← e9] at K
  exact K
/-- a store in an array of ints, bytes or booleans -/
theorem ar_wI {dA : Nat → ClassId} {z : Nat} {h : AH} {a t k : Nat} {x : Int32} (ht : (tg h a).1 = t) (h1 : 100 ≤ t) (h2 : t ≠ 103) (h3 : t ≠ 104) : (Sum.inl (dA t, (tg h a).2, .inl (upd (rI h a) k x)) : va_E) = cellOf dA z (wI h a k x) a := by
  rw [cell_ar h1 (by rw [tg_wI]; exact ht)]
  unfold arrOf
  rw [if_neg h2, if_neg h3]
  have : upd (rI h a) k x = rI (wI h a k x) a := by
    funext j
    rw [rI_wI]
    unfold upd
    simp
  rw [this]
  rfl
theorem s_iast (C : Cx p R s m args c cc own nL D dA z sa Hz h0 fin) {pc a : Nat} {la : LA} {st : List Value} {h : AH} {i x : Int32} (hi : inB h a 100 i = true) (hd : decode cc pc = .ok (.iastore, 1))
    (kk : Gw p l e R s m args below meth c Q nL D dA z sa Hz h0 fin (pc + 1) la st (wI h a i.toNatClampNeg x)) : Gw p l e R s m args below meth c Q nL D dA z sa Hz h0 fin pc la (.int x :: .int i :: .ref a :: st) h := by
  obtain ⟨hx, hb, hml, hown, hts, hG, -⟩ := id C
  refine ⟨kk.1, kk.2.1, fun H locs cells slots ls hR hS hl hc hs => ?_⟩
  obtain ⟨ht, hin⟩ := of_decide_eq_true hi
  have hlt := hR.1.lt (by decide : (100 : Nat) ≠ 999) ht
  have he := hR.at (by decide : (100 : Nat) ≠ 999) ht
  rw [cell_ar (by decide) ht] at he
  rw [List.map_cons, List.map_cons, List.map_cons, show cv z sa (.ref a) = .ref (z + a) from cvr_pos hlt.1]
  refine va_iast hx hb hG.1 hR.2.2 ws_D hS (a - 1) 0 he rfl hin hd fun H1 locs1 hP1 hD1 hS1 => ?_
  rw [ar_wI (z := z) ht (by decide) (by decide) (by decide), ws_set hlt.1 hlt.2 (nx_wI h a i.toNatClampNeg _) ((fv_wI (ci := 0)).2.2 dA)] at hP1
  exact kk.wrote (h := h) C rfl rfl (by omega) (hR.1.same rfl (fun _ => rfl)) hP1 hS1 hl hc hs
theorem s_bast (C : Cx p R s m args c cc own nL D dA z sa Hz h0 fin) {pc a t : Nat} {la : LA} {st : List Value} {h : AH} {i x : Int32} (htt : t = 101 ∨ t = 102) (hi : inB h a t i = true) (hd : decode cc pc = .ok (.bastore, 1))
    (kk : Gw p l e R s m args below meth c Q nL D dA z sa Hz h0 fin (pc + 1) la st (wI h a i.toNatClampNeg (if t = 101 then x.toInt8.toInt32 else x &&& 1))) : Gw p l e R s m args below meth c Q nL D dA z sa Hz h0 fin pc la (.int x :: .int i :: .ref a :: st) h := by
  obtain ⟨hx, hb, hml, hown, hts, hG, -⟩ := id C
  refine ⟨kk.1, kk.2.1, fun H locs cells slots ls hR hS hl hc hs => ?_⟩
  obtain ⟨ht, hin⟩ := of_decide_eq_true hi
  have hlt := hR.1.lt (by omega : t ≠ 999) ht
  have he := hR.at (by omega : t ≠ 999) ht
  rw [cell_ar (by omega) ht] at he
  rw [List.map_cons, List.map_cons, List.map_cons, show cv z sa (.ref a) = .ref (z + a) from cvr_pos hlt.1]
  rcases htt with rfl | rfl
  · rw [if_pos rfl] at kk
    refine va_bast hx hb hG.1 hR.2.2 ws_D hS (a - 1) 1 he rfl hin hd fun H1 locs1 hP1 hD1 hS1 => ?_
    rw [ar_wI (z := z) ht (by decide) (by decide) (by decide), ws_set hlt.1 hlt.2 (nx_wI h a i.toNatClampNeg _) ((fv_wI (ci := 0)).2.2 dA)] at hP1
    exact kk.wrote (h := h) C rfl rfl (by omega) (hR.1.same rfl (fun _ => rfl)) hP1 hS1 hl hc hs
  · rw [if_neg (by decide)] at kk
    refine va_zast hx hb hG.1 hR.2.2 ws_D hS (a - 1) 2 he rfl hin hd fun H1 locs1 hP1 hD1 hS1 => ?_
    rw [ar_wI (z := z) ht (by decide) (by decide) (by decide), ws_set hlt.1 hlt.2 (nx_wI h a i.toNatClampNeg _) ((fv_wI (ci := 0)).2.2 dA)] at hP1
    exact kk.wrote (h := h) C rfl rfl (by omega) (hR.1.same rfl (fun _ => rfl)) hP1 hS1 hl hc hs
theorem s_last (C : Cx p R s m args c cc own nL D dA z sa Hz h0 fin) {pc a : Nat} {la : LA} {st : List Value} {h : AH} {i : Int32} {x : Int64} (hi : inB h a 103 i = true) (hd : decode cc pc = .ok (.lastore, 1))
    (kk : Gw p l e R s m args below meth c Q nL D dA z sa Hz h0 fin (pc + 1) la st (wL h a i.toNatClampNeg x)) : Gw p l e R s m args below meth c Q nL D dA z sa Hz h0 fin pc la (.long x :: .int i :: .ref a :: st) h := by
  obtain ⟨hx, hb, hml, hown, hts, hG, -⟩ := id C
  refine ⟨kk.1, kk.2.1, fun H locs cells slots ls hR hS hl hc hs => ?_⟩
  obtain ⟨ht, hin⟩ := of_decide_eq_true hi
  have hlt := hR.1.lt (by decide : (103 : Nat) ≠ 999) ht
  have he := hR.at (by decide : (103 : Nat) ≠ 999) ht
  rw [cell_ar (by decide) ht] at he
  rw [List.map_cons, List.map_cons, List.map_cons, show cv z sa (.ref a) = .ref (z + a) from cvr_pos hlt.1]
  refine va_last hx hb hG.1 hR.2.2 ws_D hS (a - 1) 3 he rfl hin hd fun H1 locs1 hP1 hD1 hS1 => ?_
  have e9 : (Sum.inl (dA 103, (tg h a).2, .inr (.inl (vp_updL (rL h a) i.toNatClampNeg x))) : va_E) = cellOf dA z (wL h a i.toNatClampNeg x) a := by
    rw [cell_ar (t := 103) (by decide) (by rw [tg_wL]; exact ht)]
    have : vp_updL (rL h a) i.toNatClampNeg x = rL (wL h a i.toNatClampNeg x) a := by
      funext j
      rw [rL_wL]
      unfold vp_updL
      simp
    rw [this]
    rfl
  rw [e9, ws_set hlt.1 hlt.2 (nx_wL h a i.toNatClampNeg x) ((fv_wL (ci := 0)).2.2 dA)] at hP1
  exact kk.wrote (h := h) C rfl rfl (by omega) (hR.1.same rfl (fun _ => rfl)) hP1 hS1 hl hc hs
theorem s_aast (C : Cx p R s m args c cc own nL D dA z sa Hz h0 fin) {pc a b : Nat} {la : LA} {st : List Value} {h : AH} {i : Int32} (hi : inB h a 104 i = true) (hbt : (tg h b).1 = 3) (hd : decode cc pc = .ok (.aastore, 1))
    (kk : Gw p l e R s m args below meth c Q nL D dA z sa Hz h0 fin (pc + 1) la st (wR h a i.toNatClampNeg b)) : Gw p l e R s m args below meth c Q nL D dA z sa Hz h0 fin pc la (.ref b :: .int i :: .ref a :: st) h := by
  obtain ⟨hx, hb, hml, hown, hts, hG, -⟩ := id C
  refine ⟨kk.1, kk.2.1, fun H locs cells slots ls hR hS hl hc hs => ?_⟩
  obtain ⟨ht, hin⟩ := of_decide_eq_true hi
  have hlt := hR.1.lt (by decide : (104 : Nat) ≠ 999) ht
  have he := hR.at (by decide : (104 : Nat) ≠ 999) ht
  rw [cell_ar (by decide) ht] at he
  have hltb := hR.1.lt (by decide : (3 : Nat) ≠ 999) hbt
  have heb := hR.at (by decide : (3 : Nat) ≠ 999) hbt
  rw [cell_ob (by decide) hbt] at heb
  rw [List.map_cons, List.map_cons, List.map_cons, show cv z sa (.ref a) = .ref (z + a) from cvr_pos hlt.1, show cv z sa (.ref b) = .ref (z + b) from cvr_pos hltb.1]
  refine va_astq (r := (RX4, TX4, 2)) hx hb hG.1 hR.2.2 ws_D hS (a - 1) 4 (b - 1) 3 he rfl heb rfl hin hd fun H1 locs1 hP1 hD1 hS1 => ?_
  have e9 : (Sum.inl (dA 104, (tg h a).2, .inr (.inr (.inr (.inr (va_up (fun k => if rR h a k = 0 then none else some (z + rR h a k)) i.toNatClampNeg (some (z + b))))))) : va_E) = cellOf dA z (wR h a i.toNatClampNeg b) a := by
    rw [cell_ar (t := 104) (by decide) (by rw [tg_wR]; exact ht)]
    have : va_up (fun k => if rR h a k = 0 then none else some (z + rR h a k)) i.toNatClampNeg (some (z + b)) = (fun k => if rR (wR h a i.toNatClampNeg b) a k = 0 then none else some (z + rR (wR h a i.toNatClampNeg b) a k)) := by
      funext j
      rw [rR_wR]
      unfold va_up
      have hb0 : b ≠ 0 := by omega
      by_cases e : j = i.toNatClampNeg
      · simp [e, hb0]
      · simp [e]
    rw [this]
    rfl
  rw [e9, ws_set hlt.1 hlt.2 (nx_wR h a i.toNatClampNeg b) ((fv_wR (ci := 0)).2.2 dA)] at hP1
  exact kk.wrote (h := h) C rfl rfl (by omega) (hR.1.same rfl (fun _ => rfl)) hP1 hS1 hl hc hs
end ROWS
