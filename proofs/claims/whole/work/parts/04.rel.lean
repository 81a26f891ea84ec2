/-! ===== the pure memory against the machine's heap ===== -/
/-- the good words of the tables: those that hold wherever the tables are warmer -/
def gW : List Cond := lw_tbl.filter goodWord
theorem gW_good : ∀ w ∈ gW, (w.onTables && w.keeps) = true ∨ ∃ ty, w = .arrayClass ty := fun w h => good_of_word (List.mem_filter.mp h).2
def okW (pos : Nat) (w : Cond) : Bool := decide (lw_tbl[pos]? = some w) && goodWord w
theorem okW_mem {pos : Nat} {w : Cond} (h : okW pos w = true) : w ∈ gW := by
  unfold okW at h
  rw [Bool.and_eq_true, decide_eq_true_eq] at h
  exact List.mem_filter.mpr ⟨List.mem_of_getElem? h.1, h.2⟩
def RNS : String := "java/util/NoSuchElementException"
def TNS : u_T := fun _ => ("", "", "", false)
abbrev cls : List vw_C := [(RX1, TX1, 5), (RX2, TX2, 8), (RX3, TX3, 7), (RX4, TX4, 2), (RX5, TX5, 9), (RX6, TX6, 13), (RX7, TX7, 12), (RX8, TX8, 18), (RX9, TX9, 41), (RNS, TNS, 0)]
def cty (ci : Nat) : Nat → FieldType := match ci with
  | 0 => tyX1
  | 1 => tyX2
  | 2 => tyX3
  | 3 => tyX4
  | 4 => tyX5
  | 5 => tyX6
  | 6 => tyX7
  | 7 => tyX8
  | _ => tyX9
def fty (ci k : Nat) : Nat := match cty ci k with
  | .long => 1
  | .object _ => 2
  | .array _ => 2
  | .boolean => 3
  | _ => 0
def cvr (z n : Nat) : Value := if n = 0 then .null else .ref (z + n)
def cv (z : Nat) (sa : Nat → Nat) (v : Value) : Value := match v with
  | .ref a => cvr z a
  | .retAddr k => .ref (sa k)
  | v => v
def cvl (z : Nat) (sa : Nat → Nat) (la : LA) : List (Nat × Value) := la.map (fun q => (q.1, cv z sa q.2))
def fv (z : Nat) (h : AH) (a ci k : Nat) : Value := match fty ci k with
  | 1 => .long (rL h a k)
  | 2 => cvr z (rR h a k)
  | _ => .int (rI h a k)
def arrOf (z : Nat) (h : AH) (a t : Nat) : (Nat → Int32) ⊕ (Nat → Int64) ⊕ (Nat → UInt32) ⊕ (Nat → UInt64) ⊕ (Nat → Option Nat) :=
  if t = 103 then .inr (.inl (rL h a)) else if t = 104 then .inr (.inr (.inr (.inr (fun k => if rR h a k = 0 then none else some (z + rR h a k))))) else .inl (rI h a)
def cellOf (dA : Nat → ClassId) (z : Nat) (h : AH) (a : Nat) : va_E :=
  if (tg h a).1 < 100 then .inr ((tg h a).1, (List.range (tg h a).2).map (fv z h a (tg h a).1)) else .inl (dA (tg h a).1, (tg h a).2, arrOf z h a (tg h a).1)
def wsOf (dA : Nat → ClassId) (z : Nat) (h : AH) : va_W := (List.range (nx h - 1)).map (fun i => (z + (i + 1), cellOf dA z h (i + 1)))
def Wf (h : AH) : Prop := 0 < nx h ∧ (∀ a, a = 0 ∨ nx h ≤ a → (tg h a).1 = 999) ∧ ∀ a, (tg h a).1 < 100 → ∃ q, cls[(tg h a).1]? = some q ∧ (tg h a).2 = q.2.2
def Rel (D : va_G) (dA : Nat → ClassId) (z : Nat) (h : AH) (H : Heap) : Prop := Wf h ∧ H.size = z + nx h ∧ va_P D cls (wsOf dA z h) H
abbrev Az (z : Nat) : Nat → Prop := fun q => z < q
theorem ws_get {dA : Nat → ClassId} {z : Nat} {h : AH} {a : Nat} (h1 : 0 < a) (h2 : a < nx h) : (wsOf dA z h)[a - 1]? = some (z + a, cellOf dA z h a) := by
  unfold wsOf
  rw [List.getElem?_map, List.getElem?_range (by omega)]
  simp only [Option.map_some]
  rw [show a - 1 + 1 = a by omega]
theorem ws_len (dA : Nat → ClassId) (z : Nat) (h : AH) : (wsOf dA z h).length = nx h - 1 := by simp [wsOf]
theorem ws_at {dA : Nat → ClassId} {z : Nat} {h : AH} {i : Nat} {q : Nat × va_E} (e : (wsOf dA z h)[i]? = some q) : i + 1 < nx h ∧ q = (z + (i + 1), cellOf dA z h (i + 1)) := by
  have hi : i < nx h - 1 := by rw [← ws_len dA z h]; exact (List.getElem?_eq_some_iff.mp e).1
  have h2 := ws_get (dA := dA) (z := z) (h := h) (a := i + 1) (by omega) (by omega)
  rw [show i + 1 - 1 = i by omega] at h2
  exact ⟨by omega, Option.some.inj (e.symm.trans h2)⟩
theorem ws_set {dA : Nat → ClassId} {z : Nat} {h h' : AH} {a : Nat} (h1 : 0 < a) (h2 : a < nx h) (hn : nx h' = nx h) (hc : ∀ b, b ≠ a → cellOf dA z h' b = cellOf dA z h b) : (wsOf dA z h).set (a - 1) (z + a, cellOf dA z h' a) = wsOf dA z h' := by
  apply List.ext_getElem?
  intro i
  rw [List.getElem?_set]
  by_cases hi : a - 1 = i
  · rw [if_pos hi, if_pos (by rw [ws_len]; omega), ← hi, ws_get h1 (by omega)]
  · rw [if_neg hi]
    by_cases hl : i < nx h - 1
    · have e1 := ws_get (dA := dA) (z := z) (h := h) (a := i + 1) (by omega) (by omega)
      have e2 := ws_get (dA := dA) (z := z) (h := h') (a := i + 1) (by omega) (by omega)
      rw [show i + 1 - 1 = i by omega] at e1 e2
      rw [e1, e2, hc (i + 1) (by omega)]
    · rw [List.getElem?_eq_none (by rw [ws_len]; omega), List.getElem?_eq_none (by rw [ws_len]; omega)]
theorem ws_push {dA : Nat → ClassId} {z : Nat} {h h' : AH} (h1 : 0 < nx h) (hn : nx h' = nx h + 1) (hc : ∀ b, b ≠ nx h → cellOf dA z h' b = cellOf dA z h b) : wsOf dA z h ++ [(z + nx h, cellOf dA z h' (nx h))] = wsOf dA z h' := by
  apply List.ext_getElem?
  intro i
  by_cases hl : i < nx h - 1
  · have e1 := ws_get (dA := dA) (z := z) (h := h) (a := i + 1) (by omega) (by omega)
    have e2 := ws_get (dA := dA) (z := z) (h := h') (a := i + 1) (by omega) (by omega)
    rw [show i + 1 - 1 = i by omega] at e1 e2
    rw [List.getElem?_append_left (by rw [ws_len]; exact hl), e1, e2, hc (i + 1) (by omega)]
  · rw [List.getElem?_append_right (by rw [ws_len]; omega), ws_len]
    by_cases he : i = nx h - 1
    · have e2 := ws_get (dA := dA) (z := z) (h := h') (a := nx h) (by omega) (by omega)
      rw [he, e2, show nx h - 1 - (nx h - 1) = 0 by omega]
      rfl
    · rw [List.getElem?_eq_none (by simp; omega), List.getElem?_eq_none (by rw [ws_len]; omega)]
theorem ws_D {dA : Nat → ClassId} {z : Nat} {h : AH} : va_D (Az z) (wsOf dA z h) := by
  refine ⟨fun i j p q h1 h2 e => ?_, fun k q h1 => ?_⟩
  · obtain ⟨a1, a2⟩ := ws_at h1
    obtain ⟨b1, b2⟩ := ws_at h2
    subst a2; subst b2
    simp only at e
    omega
  · obtain ⟨a1, a2⟩ := ws_at h1
    subst a2
    show z < z + (k + 1)
    omega
theorem Wf.lt {h : AH} (w : Wf h) {a t : Nat} (ht : t ≠ 999) (e : (tg h a).1 = t) : 0 < a ∧ a < nx h := by
  constructor
  · rcases Nat.eq_zero_or_pos a with q | q
    · exact absurd (e.symm.trans (w.2.1 a (Or.inl q))) ht
    · exact q
  · rcases Nat.lt_or_ge a (nx h) with q | q
    · exact q
    · exact absurd (e.symm.trans (w.2.1 a (Or.inr q))) ht
/-- a cell by its address -/
theorem Rel.at {D : va_G} {dA : Nat → ClassId} {z : Nat} {h : AH} {H : Heap} (r : Rel D dA z h H) {a t : Nat} (ht : t ≠ 999) (e : (tg h a).1 = t) : (wsOf dA z h)[a - 1]? = some (z + a, cellOf dA z h a) := ws_get (r.1.lt ht e).1 (r.1.lt ht e).2
theorem cell_ob {dA : Nat → ClassId} {z : Nat} {h : AH} {a t : Nat} (ht : t < 100) (e : (tg h a).1 = t) : cellOf dA z h a = .inr (t, (List.range (tg h a).2).map (fv z h a t)) := by
  unfold cellOf
  rw [e, if_pos ht]
theorem cell_ar {dA : Nat → ClassId} {z : Nat} {h : AH} {a t : Nat} (ht : 100 ≤ t) (e : (tg h a).1 = t) : cellOf dA z h a = .inl (dA t, (tg h a).2, arrOf z h a t) := by
  unfold cellOf
  rw [e, if_neg (by omega)]
theorem cvr_pos {z a : Nat} (h : 0 < a) : cvr z a = .ref (z + a) := by
  unfold cvr
  rw [if_neg (by omega)]
theorem cv_cat (z : Nat) (sa : Nat → Nat) (v : Value) : (cv z sa v).category = v.category := by
  cases v with
  | ref a =>
    show (cvr z a).category = 1
    unfold cvr
    by_cases e : a = 0
    · rw [if_pos e]; rfl
    · rw [if_neg e]; rfl
  | _ => rfl
theorem lk_mem {la : LA} {i : Nat} {v : Value} (h : lk la i = some v) : (i, v) ∈ la := by
  induction la with
  | nil => cases h
  | cons q r ih =>
    obtain ⟨j, w⟩ := q
    unfold lk at h
    split at h
    · rename_i e
      cases h
      rw [e]
      exact List.mem_cons_self
    · exact List.mem_cons_of_mem _ (ih h)
theorem cvl_mem {z : Nat} {sa : Nat → Nat} {la : LA} {i : Nat} {v : Value} (h : (i, v) ∈ la) : (i, cv z sa v) ∈ cvl z sa la := List.mem_map.mpr ⟨(i, v), h, rfl⟩
theorem lv_lk {z : Nat} {sa : Nat → Nat} {la : LA} {i nL : Nat} {v : Value} {ls : Array Slot} (hl : lv_has ls nL (cvl z sa la)) (h : lk la i = some v) : ls[i]? = some (.val (cv z sa v)) := hl.2.2 (i, cv z sa v) (cvl_mem (lk_mem h))
theorem cvl_st1 (z : Nat) (sa : Nat → Nat) (la : LA) (i : Nat) (v : Value) : (i, cv z sa v) :: (cvl z sa la).filter (fun q => !(q.1 == i) && !(q.1 + 1 == i && q.2.category == 2)) = cvl z sa (st1 la i v) := by
  unfold cvl st1
  rw [List.map_cons, List.filter_map]
  congr 3
  funext q
  simp [Function.comp, cv_cat]
theorem cvl_st2 (z : Nat) (sa : Nat → Nat) (la : LA) (i : Nat) (v : Value) : (i, cv z sa v) :: (cvl z sa la).filter (fun q => !(q.1 == i) && (!(q.1 == i + 1) && !(q.1 + 1 == i && q.2.category == 2))) = cvl z sa (st2 la i v) := by
  unfold cvl st2
  rw [List.map_cons, List.filter_map]
  congr 3
  funext q
  simp [Function.comp, cv_cat]
theorem lv_fewer {ls : Array Slot} {nL : Nat} {l l' : List (Nat × Value)} (h : lv_has ls nL l) (hl : ∀ q ∈ l', q ∈ l) : lv_has ls nL l' := ⟨h.1, h.2.1, fun q hq => h.2.2 q (hl q hq)⟩
theorem cvl_sub {z : Nat} {sa : Nat → Nat} {la la' : LA} (h : ∀ q ∈ la', q ∈ la) : ∀ q ∈ cvl z sa la', q ∈ cvl z sa la := by
  intro q hq
  obtain ⟨x, hx, e⟩ := List.mem_map.mp hq
  exact List.mem_map.mpr ⟨x, h x hx, e⟩
-- what a write does
theorem nx_wI (h : AH) (a k : Nat) (v : Int32) : nx (wI h a k v) = nx h := rfl
theorem nx_wL (h : AH) (a k : Nat) (v : Int64) : nx (wL h a k v) = nx h := rfl
theorem nx_wR (h : AH) (a k : Nat) (v : Nat) : nx (wR h a k v) = nx h := rfl
theorem nx_cpI (h : AH) (s sp d dp n : Nat) : nx (cpI h s sp d dp n) = nx h := rfl
theorem us_wI (h : AH) (a k : Nat) (v : Int32) : us (wI h a k v) = us h := rfl
theorem us_wL (h : AH) (a k : Nat) (v : Int64) : us (wL h a k v) = us h := rfl
theorem us_wR (h : AH) (a k : Nat) (v : Nat) : us (wR h a k v) = us h := rfl
theorem us_cpI (h : AH) (s sp d dp n : Nat) : us (cpI h s sp d dp n) = us h := rfl
theorem tg_wI (h : AH) (a k : Nat) (v : Int32) (b : Nat) : tg (wI h a k v) b = tg h b := rfl
theorem tg_wL (h : AH) (a k : Nat) (v : Int64) (b : Nat) : tg (wL h a k v) b = tg h b := rfl
theorem tg_wR (h : AH) (a k : Nat) (v : Nat) (b : Nat) : tg (wR h a k v) b = tg h b := rfl
theorem tg_cpI (h : AH) (s sp d dp n b : Nat) : tg (cpI h s sp d dp n) b = tg h b := rfl
theorem rI_wI (h : AH) (a k : Nat) (v : Int32) (b j : Nat) : rI (wI h a k v) b j = if b = a ∧ j = k then v else rI h b j := rfl
theorem rL_wI (h : AH) (a k : Nat) (v : Int32) (b j : Nat) : rL (wI h a k v) b j = rL h b j := rfl
theorem rR_wI (h : AH) (a k : Nat) (v : Int32) (b j : Nat) : rR (wI h a k v) b j = rR h b j := rfl
theorem rI_wL (h : AH) (a k : Nat) (v : Int64) (b j : Nat) : rI (wL h a k v) b j = rI h b j := rfl
theorem rL_wL (h : AH) (a k : Nat) (v : Int64) (b j : Nat) : rL (wL h a k v) b j = if b = a ∧ j = k then v else rL h b j := rfl
theorem rR_wL (h : AH) (a k : Nat) (v : Int64) (b j : Nat) : rR (wL h a k v) b j = rR h b j := rfl
theorem rI_wR (h : AH) (a k : Nat) (v : Nat) (b j : Nat) : rI (wR h a k v) b j = rI h b j := rfl
theorem rL_wR (h : AH) (a k : Nat) (v : Nat) (b j : Nat) : rL (wR h a k v) b j = rL h b j := rfl
theorem rR_wR (h : AH) (a k : Nat) (v : Nat) (b j : Nat) : rR (wR h a k v) b j = if b = a ∧ j = k then v else rR h b j := rfl
theorem rI_cpI (h : AH) (s sp d dp n b j : Nat) : rI (cpI h s sp d dp n) b j = if b = d then va_cpy (rI h s) (rI h d) sp dp n j else rI h b j := rfl
theorem rL_cpI (h : AH) (s sp d dp n b j : Nat) : rL (cpI h s sp d dp n) b j = rL h b j := rfl
theorem rR_cpI (h : AH) (s sp d dp n b j : Nat) : rR (cpI h s sp d dp n) b j = rR h b j := rfl
theorem Wf.same {h h' : AH} (w : Wf h) (hn : nx h' = nx h) (ht : ∀ b, tg h' b = tg h b) : Wf h' := by
  refine ⟨by rw [hn]; exact w.1, fun a ha => ?_, fun a ha => ?_⟩
  · rw [ht]; exact w.2.1 a (by rw [hn] at ha; exact ha)
  · rw [ht] at ha ⊢
    exact w.2.2 a ha
/-- the rest of the cells stay -/
theorem cell_same {dA : Nat → ClassId} {z : Nat} {h h' : AH} {b : Nat} (ht : tg h' b = tg h b) (hI : ∀ j, rI h' b j = rI h b j) (hL : ∀ j, rL h' b j = rL h b j) (hR : ∀ j, rR h' b j = rR h b j) : cellOf dA z h' b = cellOf dA z h b := by
  have e1 : rI h' b = rI h b := funext hI
  have e2 : rL h' b = rL h b := funext hL
  have e3 : fv z h' b (tg h b).1 = fv z h b (tg h b).1 := by
    funext k
    unfold fv
    rw [hI, hL, hR]
  unfold cellOf arrOf
  rw [ht, e1, e2, e3]
  simp only [hR]
theorem size_of_P {D : va_G} {dA : Nat → ClassId} {z : Nat} {h : AH} {H : Heap} (hP : va_P D cls (wsOf dA z h) H) (h2 : 2 ≤ nx h) : z + nx h ≤ H.size := by
  have e := (hP (nx h - 1 - 1) _ (ws_get (dA := dA) (z := z) (h := h) (a := nx h - 1) (by omega) (by omega))).lt
  simp only at e
  omega
theorem set_range {f g : Nat → Value} {n k : Nat} {v : Value} (hv : g k = v) (hg : ∀ j, j ≠ k → g j = f j) : ((List.range n).map f).set k v = (List.range n).map g := by
  apply List.ext_getElem?
  intro i
  rw [List.getElem?_set]
  by_cases hi : k = i
  · subst hi
    rw [if_pos rfl]
    by_cases hk : k < n
    · rw [if_pos (by simp; exact hk), List.getElem?_map, List.getElem?_range hk]
      simp [hv]
    · rw [if_neg (by simp; omega), List.getElem?_eq_none (by simp; omega)]
  · rw [if_neg hi, List.getElem?_map, List.getElem?_map]
    by_cases hk : i < n
    · rw [List.getElem?_range hk]
      simp [hg i (fun e => hi e.symm)]
    · rw [List.getElem?_eq_none (by simp; omega)]
      rfl
