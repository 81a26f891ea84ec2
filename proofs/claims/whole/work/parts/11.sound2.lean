/-! ===== SOUND: a stretch of code goes as the pure side says ===== -/
section SOUND
variable {p : Program} {l : Launch} {e : Env} {R : Room} {s : State} {m : MethodId} {args : Array Value} {below : List Frame} {meth : Method} {c : Code} {Q : State → Prop}
variable {cc : ByteArray} {own : String} {nL : Nat} {D : va_G} {dA : Nat → ClassId} {z : Nat} {sa : Nat → Nat} {Hz : Heap} {h0 fin : AH}
variable {ρ : Type} {K : Nat → LA → List Value → AH → Option ρ} {FI : Nat → List Value → AH → Option (Int32 × AH)} {FV : Nat → List Value → AH → Option AH} {FL : Nat → List Value → AH → Option (Int64 × AH)} {SL : Nat → Option Int32} {SC : Nat → Int32 → Option Int32} {XS : Nat × (Nat → Int32)} {rt : Option Value → AH → Option ρ} {ft : Nat} {r : ρ}
variable {MT : Nat → MI} {qL qC : MI} {sc : Bool}
set_option maxHeartbeats 4000000 in
theorem snd (C : Cx p R s m args c cc own nL D dA z sa Hz h0 fin) (G : GlobOk qL qC) (hMT : ∀ mi, MOk (MT mi))
    (hK : ∀ t la st h, K t la st h = some r → Gw p l e R s m args below meth c Q nL D dA z sa Hz h0 fin t la st h)
    (hFI : ∀ mi As h x h', FI mi As h = some (x, h') → CalOK l D dA z sa Hz (MT mi) As h (some (.int x)) h')
    (hFV : ∀ mi As h h', FV mi As h = some h' → CalOK l D dA z sa Hz (MT mi) As h none h')
    (hFL : ∀ mi As h x h', FL mi As h = some (x, h') → CalOK l D dA z sa Hz (MT mi) As h (some (.long x)) h')
    (hSL : ∀ k x h, SL k = some x → (0 < k ∧ k ≤ nStr) ∧ CalOK l D dA z sa Hz qL [.retAddr k] h (some (.int x)) h)
    (hSC : ∀ k i x h, SC k i = some x → (0 < k ∧ k ≤ nStr) ∧ CalOK l D dA z sa Hz qC [.retAddr k, .int i] h (some (.int x)) h)
    (hX0 : sc = false → XS.1 = 0) (hX : sc = true → va_X (sa 0) XS.1 XS.2 s Hz ∧ sa 0 < Hz.size ∧ ¬ Az z (sa 0))
    (hrt : ∀ v h ins pc la, rt v h = some r → decode cc pc = .ok (ins, 1) → ((ins = .ireturn ∧ ∃ x, v = some (.int x)) ∨ (ins = .lreturn ∧ ∃ x, v = some (.long x)) ∨ (ins = .return_ ∧ v = none)) → Gw p l e R s m args below meth c Q nL D dA z sa Hz h0 fin pc la v.toList h) :
    ∀ is pc la st h, evL K FI FV FL SL SC XS rt ft is la st h = some r → vBL MT qL qC sc R.frames R.locals nL own meth.name cc ft pc is = true → Gw p l e R s m args below meth c Q nL D dA z sa Hz h0 fin pc la st h := by
  obtain ⟨hx, hb, hml, hown, hts, hG, hs0, hz0, hrc, hrs⟩ := id C
  obtain ⟨g1, g2, g3, g4, g5, g6, g7⟩ := id G
  intro is
  induction is with
  | nil =>
    intro pc la st h hev hv
    have e1 : pc = ft := of_decide_eq_true hv
    subst e1
    exact hK _ _ _ _ hev
  | cons i rest ih =>
    intro pc la st h hev hv
    obtain ⟨ins, len, pl, v⟩ := i
    rw [vBL, Bool.and_eq_true] at hv
    obtain ⟨hv, hr⟩ := hv
    unfold vB at hv
    rw [Bool.and_eq_true, decide_eq_true_eq] at hv
    obtain ⟨hd, hv⟩ := hv
    replace hd : decode cc pc = .ok (ins, len) := hd
    cases ins with
    | iconst n =>
      replace hr : vBL MT qL qC sc R.frames R.locals nL own meth.name cc ft (pc + len) rest = true := hr
      replace hv := of_decide_eq_true (show decide (len = 1 ∧ Int32.ofInt n = v) = true from hv)
      obtain ⟨rfl, hv2⟩ := hv
      exact s_const C rfl (fun k => lv_iconst hx hb hd hv2 k) (ih _ _ _ _ hev hr)
    | bipush n =>
      replace hr : vBL MT qL qC sc R.frames R.locals nL own meth.name cc ft (pc + len) rest = true := hr
      replace hv := of_decide_eq_true (show decide (len = 2 ∧ (Int8.ofInt n).toInt32 = v) = true from hv)
      obtain ⟨rfl, hv2⟩ := hv
      exact s_const C rfl (fun k => lv_bipush hx hb hd hv2 k) (ih _ _ _ _ hev hr)
    | sipush n =>
      replace hr : vBL MT qL qC sc R.frames R.locals nL own meth.name cc ft (pc + len) rest = true := hr
      replace hv := of_decide_eq_true (show decide (len = 3 ∧ (Int16.ofInt n).toInt32 = v) = true from hv)
      obtain ⟨rfl, hv2⟩ := hv
      exact s_const C rfl (fun k => lv_sipush hx hb hd hv2 k) (ih _ _ _ _ hev hr)
    | ldc idx =>
      replace hr : vBL MT qL qC sc R.frames R.locals nL own meth.name cc ft (pc + len) rest = true := hr
      rw [Bool.and_eq_true, decide_eq_true_eq] at hv
      obtain ⟨hl2, hv⟩ := hv
      replace hl2 : len = 2 := hl2
      subst hl2
      replace hv : (match (generalizing := false) pl with | [k, pos] => if k = 0 then okW pos (.constant own idx v) else strOk own idx k | _ => false) = true := hv
      split at hv
      · rename_i k pos
        by_cases hk : k = 0
        · subst hk
          rw [if_pos rfl] at hv
          exact s_const C rfl (fun k => lv_ldc hx hb hown (hts _ (okW_mem hv)) hd k) (ih _ _ _ _ hev hr)
        · rw [if_neg hk] at hv
          replace hev : (if k = 0 then evL K FI FV FL SL SC XS rt ft rest la (.int v :: st) h else evL K FI FV FL SL SC XS rt ft rest la (.retAddr k :: st) h) = some r := hev
          rw [if_neg hk] at hev
          obtain ⟨q, hq1, hq2⟩ := List.any_eq_true.mp hv
          obtain ⟨rfl, rfl, rfl⟩ := of_decide_eq_true hq2
          exact s_same C (fun _ k => va_ldcS hx hb hown (hG.2.2.1 q hq1) hd k) (ih _ _ _ _ hev hr)
      · cases hv
    | ldc_w idx =>
      replace hr : vBL MT qL qC sc R.frames R.locals nL own meth.name cc ft (pc + len) rest = true := hr
      rw [Bool.and_eq_true, decide_eq_true_eq] at hv
      obtain ⟨hl2, hv⟩ := hv
      replace hl2 : len = 3 := hl2
      subst hl2
      replace hv : (match (generalizing := false) pl with | [_, pos] => okW pos (.constant own idx v) | _ => false) = true := hv
      split at hv
      · exact s_const C rfl (fun k => lv_ldcw hx hb hown (hts _ (okW_mem hv)) hd k) (ih _ _ _ _ hev hr)
      · cases hv
    | lconst n =>
      replace hr : vBL MT qL qC sc R.frames R.locals nL own meth.name cc ft (pc + len) rest = true := hr
      replace hv := of_decide_eq_true (show decide (len = 1 ∧ Int64.ofNat (n : Nat) = v.toInt64) = true from hv)
      obtain ⟨rfl, hv2⟩ := hv
      exact s_const C rfl (fun k => lv_lconst hx hb hd hv2 k) (ih _ _ _ _ hev hr)
    | ldc2_w idx =>
      replace hr : vBL MT qL qC sc R.frames R.locals nL own meth.name cc ft (pc + len) rest = true := hr
      rw [Bool.and_eq_true, decide_eq_true_eq] at hv
      obtain ⟨hl2, hv⟩ := hv
      replace hl2 : len = 3 := hl2
      subst hl2
      replace hv : (match (generalizing := false) pl with | [_, pos] => okW pos (.constantLong own idx v.toInt64) | _ => false) = true := hv
      split at hv
      · exact s_const C rfl (fun k => lv_ldc2 hx hb hown (hts _ (okW_mem hv)) hd k) (ih _ _ _ _ hev hr)
      · cases hv
    | iload_n k =>
      replace hr : vBL MT qL qC sc R.frames R.locals nL own meth.name cc ft (pc + len) rest = true := hr
      replace hv := of_decide_eq_true (show decide (len = 1) = true from hv)
      subst hv
      obtain ⟨x, e1, hev⟩ := lk_some hev
      exact s_same C (fun hl k => lv_iload_n hx hb hd rfl (lv_lk hl e1) k) (ih _ _ _ _ hev hr)
    | iload k =>
      replace hr : vBL MT qL qC sc R.frames R.locals nL own meth.name cc ft (pc + len) rest = true := hr
      replace hv := of_decide_eq_true (show decide (len = 2) = true from hv)
      subst hv
      obtain ⟨x, e1, hev⟩ := lk_some hev
      exact s_same C (fun hl k => lv_iload hx hb hd (lv_lk hl e1) k) (ih _ _ _ _ hev hr)
    | lload_n k =>
      replace hr : vBL MT qL qC sc R.frames R.locals nL own meth.name cc ft (pc + len) rest = true := hr
      replace hv := of_decide_eq_true (show decide (len = 1) = true from hv)
      subst hv
      obtain ⟨x, e1, hev⟩ := lk_someL hev
      exact s_same C (fun hl k => lv_lload_n hx hb hd rfl (lv_lk hl e1) k) (ih _ _ _ _ hev hr)
    | lload k =>
      replace hr : vBL MT qL qC sc R.frames R.locals nL own meth.name cc ft (pc + len) rest = true := hr
      replace hv := of_decide_eq_true (show decide (len = 2) = true from hv)
      subst hv
      obtain ⟨x, e1, hev⟩ := lk_someL hev
      exact s_same C (fun hl k => lv_lload hx hb hd (lv_lk hl e1) k) (ih _ _ _ _ hev hr)
    | aload_n k =>
      replace hr : vBL MT qL qC sc R.frames R.locals nL own meth.name cc ft (pc + len) rest = true := hr
      replace hv := of_decide_eq_true (show decide (len = 1) = true from hv)
      subst hv
      replace hev : (match (generalizing := false) lk la k with | some (.ref x) => evL K FI FV FL SL SC XS rt ft rest la (.ref x :: st) h | some (.retAddr x) => evL K FI FV FL SL SC XS rt ft rest la (.retAddr x :: st) h | _ => none) = some r := hev
      split at hev
      · rename_i x e1
        refine s_same C (fun hl k => ?_) (ih _ _ _ _ hev hr)
        have e2 := lv_lk hl e1
        by_cases hx0 : x = 0
        · subst hx0
          exact lv_aload_nN hx hb hd rfl e2 k
        · have e3 : cv z sa (.ref x) = .ref (z + x) := cvr_pos (Nat.pos_of_ne_zero (by assumption))
          rw [List.map_cons, e3] at k
          rw [e3] at e2
          exact lv_aload_n hx hb hd rfl e2 k
      · rename_i x e1
        exact s_same C (fun hl k => lv_aload_n hx hb hd rfl (lv_lk hl e1) k) (ih _ _ _ _ hev hr)
      · cases hev
    | aload k =>
      replace hr : vBL MT qL qC sc R.frames R.locals nL own meth.name cc ft (pc + len) rest = true := hr
      replace hv := of_decide_eq_true (show decide (len = 2) = true from hv)
      subst hv
      replace hev : (match (generalizing := false) lk la k with | some (.ref x) => evL K FI FV FL SL SC XS rt ft rest la (.ref x :: st) h | some (.retAddr x) => evL K FI FV FL SL SC XS rt ft rest la (.retAddr x :: st) h | _ => none) = some r := hev
      split at hev
      · rename_i x e1
        refine s_same C (fun hl k => ?_) (ih _ _ _ _ hev hr)
        have e2 := lv_lk hl e1
        by_cases hx0 : x = 0
        · subst hx0
          exact lv_aloadN hx hb hd e2 k
        · have e3 : cv z sa (.ref x) = .ref (z + x) := cvr_pos (Nat.pos_of_ne_zero (by assumption))
          rw [List.map_cons, e3] at k
          rw [e3] at e2
          exact lv_aload hx hb hd e2 k
      · rename_i x e1
        exact s_same C (fun hl k => lv_aload hx hb hd (lv_lk hl e1) k) (ih _ _ _ _ hev hr)
      · cases hev
    | istore_n k =>
      replace hr : vBL MT qL qC sc R.frames R.locals nL own meth.name cc ft (pc + len) rest = true := hr
      replace hv := of_decide_eq_true (show decide (len = 1 ∧ (k : Nat) < nL) = true from hv)
      obtain ⟨rfl, hv2⟩ := hv
      replace hev : (match (generalizing := false) st with | .int x :: st => evL K FI FV FL SL SC XS rt ft rest (st1 la k (.int x)) st h | _ => none) = some r := hev
      split at hev
      · exact s_store C (fun hl k => lv_istore_n hx hb hd rfl hl hv2 (cvl_st1 z sa _ _ (.int _)) k) (ih _ _ _ _ hev hr)
      · cases hev
    | istore k =>
      replace hr : vBL MT qL qC sc R.frames R.locals nL own meth.name cc ft (pc + len) rest = true := hr
      replace hv := of_decide_eq_true (show decide (len = 2 ∧ k < nL) = true from hv)
      obtain ⟨rfl, hv2⟩ := hv
      replace hev : (match (generalizing := false) st with | .int x :: st => evL K FI FV FL SL SC XS rt ft rest (st1 la k (.int x)) st h | _ => none) = some r := hev
      split at hev
      · exact s_store C (fun hl k => lv_istore hx hb hd hl hv2 (cvl_st1 z sa _ _ (.int _)) k) (ih _ _ _ _ hev hr)
      · cases hev
    | lstore_n k =>
      replace hr : vBL MT qL qC sc R.frames R.locals nL own meth.name cc ft (pc + len) rest = true := hr
      replace hv := of_decide_eq_true (show decide (len = 1 ∧ (k : Nat) + 1 < nL) = true from hv)
      obtain ⟨rfl, hv2⟩ := hv
      replace hev : (match (generalizing := false) st with | .long x :: st => evL K FI FV FL SL SC XS rt ft rest (st2 la k (.long x)) st h | _ => none) = some r := hev
      split at hev
      · exact s_store C (fun hl k => lv_lstore_n hx hb hd rfl hl hv2 (cvl_st2 z sa _ _ (.long _)) k) (ih _ _ _ _ hev hr)
      · cases hev
    | lstore k =>
      replace hr : vBL MT qL qC sc R.frames R.locals nL own meth.name cc ft (pc + len) rest = true := hr
      replace hv := of_decide_eq_true (show decide (len = 2 ∧ k + 1 < nL) = true from hv)
      obtain ⟨rfl, hv2⟩ := hv
      replace hev : (match (generalizing := false) st with | .long x :: st => evL K FI FV FL SL SC XS rt ft rest (st2 la k (.long x)) st h | _ => none) = some r := hev
      split at hev
      · exact s_store C (fun hl k => lv_lstore hx hb hd hl hv2 (cvl_st2 z sa _ _ (.long _)) k) (ih _ _ _ _ hev hr)
      · cases hev
    | astore_n k =>
      replace hr : vBL MT qL qC sc R.frames R.locals nL own meth.name cc ft (pc + len) rest = true := hr
      replace hv := of_decide_eq_true (show decide (len = 1 ∧ (k : Nat) < nL) = true from hv)
      obtain ⟨rfl, hv2⟩ := hv
      replace hev : (match (generalizing := false) st with | .ref x :: st => evL K FI FV FL SL SC XS rt ft rest (st1 la k (.ref x)) st h | _ => none) = some r := hev
      split at hev
      · rename_i x st
        refine s_store C (fun hl kk => ?_) (ih _ _ _ _ hev hr)
        by_cases hx0 : x = 0
        · subst hx0
          exact lv_astore_nN hx hb hd rfl hl hv2 (cvl_st1 z sa _ _ (.ref 0)) kk
        · have e3 : cv z sa (.ref x) = .ref (z + x) := cvr_pos (Nat.pos_of_ne_zero (by assumption))
          rw [List.map_cons, e3]
          exact lv_astore_n hx hb hd rfl hl hv2 (by rw [← e3]; exact cvl_st1 z sa _ _ (.ref x)) kk
      · cases hev
    | astore k =>
      replace hr : vBL MT qL qC sc R.frames R.locals nL own meth.name cc ft (pc + len) rest = true := hr
      replace hv := of_decide_eq_true (show decide (len = 2 ∧ k < nL) = true from hv)
      obtain ⟨rfl, hv2⟩ := hv
      replace hev : (match (generalizing := false) st with | .ref x :: st => evL K FI FV FL SL SC XS rt ft rest (st1 la k (.ref x)) st h | _ => none) = some r := hev
      split at hev
      · rename_i x st
        refine s_store C (fun hl kk => ?_) (ih _ _ _ _ hev hr)
        by_cases hx0 : x = 0
        · subst hx0
          exact lv_astoreN hx hb hd hl hv2 (cvl_st1 z sa _ _ (.ref 0)) kk
        · have e3 : cv z sa (.ref x) = .ref (z + x) := cvr_pos (Nat.pos_of_ne_zero (by assumption))
          rw [List.map_cons, e3]
          exact lv_astore hx hb hd hl hv2 (by rw [← e3]; exact cvl_st1 z sa _ _ (.ref x)) kk
      · cases hev
    | iinc k n =>
      replace hr : vBL MT qL qC sc R.frames R.locals nL own meth.name cc ft (pc + len) rest = true := hr
      replace hv := of_decide_eq_true (show decide (len = 3 ∧ k < nL ∧ Int32.ofInt n = v) = true from hv)
      obtain ⟨rfl, hv2, hv3⟩ := hv
      obtain ⟨x, e1, hev⟩ := lk_some hev
      obtain ⟨j, hj⟩ := List.getElem?_of_mem (cvl_mem (z := z) (sa := sa) (lk_mem e1))
      exact s_store C (fun hl k => lv_iinc hx hb hd hl hj (by rw [hv3]) hv2 (cvl_st1 z sa _ _ (.int (x + v))) k) (ih _ _ _ _ hev hr)
    | idiv =>
      replace hr : vBL MT qL qC sc R.frames R.locals nL own meth.name cc ft (pc + len) rest = true := hr
      replace hv := of_decide_eq_true (show decide (len = 1) = true from hv)
      subst hv
      replace hev : (match (generalizing := false) st with | .int y :: .int x :: st => if y = 0 then none else evL K FI FV FL SL SC XS rt ft rest la (.int (x / y) :: st) h | _ => none) = some r := hev
      split at hev
      · obtain ⟨hne, hev⟩ := ite_none hev
        exact s_same C (fun _ k => lv_idiv hx hb hd hne k) (ih _ _ _ _ hev hr)
      · cases hev
    | irem =>
      replace hr : vBL MT qL qC sc R.frames R.locals nL own meth.name cc ft (pc + len) rest = true := hr
      replace hv := of_decide_eq_true (show decide (len = 1) = true from hv)
      subst hv
      replace hev : (match (generalizing := false) st with | .int y :: .int x :: st => if y = 0 then none else evL K FI FV FL SL SC XS rt ft rest la (.int (irm x y) :: st) h | _ => none) = some r := hev
      split at hev
      · obtain ⟨hne, hev⟩ := ite_none hev
        exact s_same C (fun _ k => lv_irem hx hb hd hne k) (ih _ _ _ _ hev hr)
      · cases hev
    | ldiv =>
      replace hr : vBL MT qL qC sc R.frames R.locals nL own meth.name cc ft (pc + len) rest = true := hr
      replace hv := of_decide_eq_true (show decide (len = 1) = true from hv)
      subst hv
      replace hev : (match (generalizing := false) st with | .long y :: .long x :: st => if y = 0 then none else evL K FI FV FL SL SC XS rt ft rest la (.long (x / y) :: st) h | _ => none) = some r := hev
      split at hev
      · obtain ⟨hne, hev⟩ := ite_none hev
        exact s_same C (fun _ k => lv_ldiv hx hb hd hne k) (ih _ _ _ _ hev hr)
      · cases hev
    | lrem =>
      replace hr : vBL MT qL qC sc R.frames R.locals nL own meth.name cc ft (pc + len) rest = true := hr
      replace hv := of_decide_eq_true (show decide (len = 1) = true from hv)
      subst hv
      replace hev : (match (generalizing := false) st with | .long y :: .long x :: st => if y = 0 then none else evL K FI FV FL SL SC XS rt ft rest la (.long (lrm x y) :: st) h | _ => none) = some r := hev
      split at hev
      · obtain ⟨hne, hev⟩ := ite_none hev
        exact s_same C (fun _ k => lv_lrem hx hb hd hne k) (ih _ _ _ _ hev hr)
      · cases hev
    | goto off =>
      replace hv := of_decide_eq_true (show decide (len = 3 ∧ (pc : Int) + off = ((pl.headD 0 : Nat) : Int)) = true from hv)
      obtain ⟨rfl, hv2⟩ := hv
      exact s_same C (fun _ k => lv_goto hx hb hd hv2 k) (hK _ _ _ _ hev)
    | ifCond cd off =>
      replace hr : vBL MT qL qC sc R.frames R.locals nL own meth.name cc ft (pc + len) rest = true := hr
      replace hv := of_decide_eq_true (show decide (len = 3 ∧ (pc : Int) + off = ((pl.headD 0 : Nat) : Int)) = true from hv)
      obtain ⟨rfl, hv2⟩ := hv
      cases cd with
      | eq =>
        replace hev : (match (generalizing := false) st with | .int x :: st => if x = 0 then K (pl.headD 0) la st h else evL K FI FV FL SL SC XS rt ft rest la st h | _ => none) = some r := hev
        split at hev
        · refine s_ifB C (fun k1 k2 => lv_if_eq hx hb hd hv2 k1 k2) (fun q => ?_) (fun q => ?_)
          · rw [if_pos (q)] at hev; exact hK _ _ _ _ hev
          · rw [if_neg (q)] at hev; exact ih _ _ _ _ hev hr
        · cases hev
      | ne =>
        replace hev : (match (generalizing := false) st with | .int x :: st => if x = 0 then evL K FI FV FL SL SC XS rt ft rest la st h else K (pl.headD 0) la st h | _ => none) = some r := hev
        split at hev
        · refine s_ifB C (fun k1 k2 => lv_if_ne hx hb hd hv2 k1 (fun q9 => k2 (fun q8 => q8 q9))) (fun q => ?_) (fun q => ?_)
          · rw [if_neg (q)] at hev; exact hK _ _ _ _ hev
          · rw [if_pos (Classical.not_not.mp q)] at hev; exact ih _ _ _ _ hev hr
        · cases hev
      | lt =>
        replace hev : (match (generalizing := false) st with | .int x :: st => if x < 0 then K (pl.headD 0) la st h else evL K FI FV FL SL SC XS rt ft rest la st h | _ => none) = some r := hev
        split at hev
        · refine s_ifB C (fun k1 k2 => lv_if_lt hx hb hd hv2 k1 k2) (fun q => ?_) (fun q => ?_)
          · rw [if_pos (q)] at hev; exact hK _ _ _ _ hev
          · rw [if_neg (q)] at hev; exact ih _ _ _ _ hev hr
        · cases hev
      | ge =>
        replace hev : (match (generalizing := false) st with | .int x :: st => if x < 0 then evL K FI FV FL SL SC XS rt ft rest la st h else K (pl.headD 0) la st h | _ => none) = some r := hev
        split at hev
        · refine s_ifB C (fun k1 k2 => lv_if_ge hx hb hd hv2 k1 k2) (fun q => ?_) (fun q => ?_)
          · rw [if_neg (Int32.not_lt.mpr q)] at hev; exact hK _ _ _ _ hev
          · rw [if_pos (Int32.not_le.mp q)] at hev; exact ih _ _ _ _ hev hr
        · cases hev
      | gt =>
        replace hev : (match (generalizing := false) st with | .int x :: st => if 0 < x then K (pl.headD 0) la st h else evL K FI FV FL SL SC XS rt ft rest la st h | _ => none) = some r := hev
        split at hev
        · refine s_ifB C (fun k1 k2 => lv_if_gt hx hb hd hv2 k1 k2) (fun q => ?_) (fun q => ?_)
          · rw [if_pos (q)] at hev; exact hK _ _ _ _ hev
          · rw [if_neg (q)] at hev; exact ih _ _ _ _ hev hr
        · cases hev
      | le =>
        replace hev : (match (generalizing := false) st with | .int x :: st => if 0 < x then evL K FI FV FL SL SC XS rt ft rest la st h else K (pl.headD 0) la st h | _ => none) = some r := hev
        split at hev
        · refine s_ifB C (fun k1 k2 => lv_if_le hx hb hd hv2 k1 k2) (fun q => ?_) (fun q => ?_)
          · rw [if_neg (Int32.not_lt.mpr q)] at hev; exact hK _ _ _ _ hev
          · rw [if_pos (Int32.not_le.mp q)] at hev; exact ih _ _ _ _ hev hr
        · cases hev
    | if_icmp cd off =>
      replace hr : vBL MT qL qC sc R.frames R.locals nL own meth.name cc ft (pc + len) rest = true := hr
      replace hv := of_decide_eq_true (show decide (len = 3 ∧ (pc : Int) + off = ((pl.headD 0 : Nat) : Int)) = true from hv)
      obtain ⟨rfl, hv2⟩ := hv
      cases cd with
      | eq =>
        replace hev : (match (generalizing := false) st with | .int y :: .int x :: st => if x = y then K (pl.headD 0) la st h else evL K FI FV FL SL SC XS rt ft rest la st h | _ => none) = some r := hev
        split at hev
        · refine s_ifB C (fun k1 k2 => lv_icmp_eq hx hb hd hv2 k1 k2) (fun q => ?_) (fun q => ?_)
          · rw [if_pos (q)] at hev; exact hK _ _ _ _ hev
          · rw [if_neg (q)] at hev; exact ih _ _ _ _ hev hr
        · cases hev
      | ne =>
        replace hev : (match (generalizing := false) st with | .int y :: .int x :: st => if x = y then evL K FI FV FL SL SC XS rt ft rest la st h else K (pl.headD 0) la st h | _ => none) = some r := hev
        split at hev
        · refine s_ifB C (fun k1 k2 => lv_icmp_ne hx hb hd hv2 k1 (fun q9 => k2 (fun q8 => q8 q9))) (fun q => ?_) (fun q => ?_)
          · rw [if_neg (q)] at hev; exact hK _ _ _ _ hev
          · rw [if_pos (Classical.not_not.mp q)] at hev; exact ih _ _ _ _ hev hr
        · cases hev
      | lt =>
        replace hev : (match (generalizing := false) st with | .int y :: .int x :: st => if x < y then K (pl.headD 0) la st h else evL K FI FV FL SL SC XS rt ft rest la st h | _ => none) = some r := hev
        split at hev
        · refine s_ifB C (fun k1 k2 => lv_icmp_lt hx hb hd hv2 k1 k2) (fun q => ?_) (fun q => ?_)
          · rw [if_pos (q)] at hev; exact hK _ _ _ _ hev
          · rw [if_neg (q)] at hev; exact ih _ _ _ _ hev hr
        · cases hev
      | ge =>
        replace hev : (match (generalizing := false) st with | .int y :: .int x :: st => if x < y then evL K FI FV FL SL SC XS rt ft rest la st h else K (pl.headD 0) la st h | _ => none) = some r := hev
        split at hev
        · refine s_ifB C (fun k1 k2 => lv_icmp_ge hx hb hd hv2 k1 k2) (fun q => ?_) (fun q => ?_)
          · rw [if_neg (Int32.not_lt.mpr q)] at hev; exact hK _ _ _ _ hev
          · rw [if_pos (Int32.not_le.mp q)] at hev; exact ih _ _ _ _ hev hr
        · cases hev
      | gt =>
        replace hev : (match (generalizing := false) st with | .int y :: .int x :: st => if y < x then K (pl.headD 0) la st h else evL K FI FV FL SL SC XS rt ft rest la st h | _ => none) = some r := hev
        split at hev
        · refine s_ifB C (fun k1 k2 => lv_icmp_gt hx hb hd hv2 k1 k2) (fun q => ?_) (fun q => ?_)
          · rw [if_pos (q)] at hev; exact hK _ _ _ _ hev
          · rw [if_neg (q)] at hev; exact ih _ _ _ _ hev hr
        · cases hev
      | le =>
        replace hev : (match (generalizing := false) st with | .int y :: .int x :: st => if y < x then evL K FI FV FL SL SC XS rt ft rest la st h else K (pl.headD 0) la st h | _ => none) = some r := hev
        split at hev
        · refine s_ifB C (fun k1 k2 => lv_icmp_le hx hb hd hv2 k1 k2) (fun q => ?_) (fun q => ?_)
          · rw [if_neg (Int32.not_lt.mpr q)] at hev; exact hK _ _ _ _ hev
          · rw [if_pos (Int32.not_le.mp q)] at hev; exact ih _ _ _ _ hev hr
        · cases hev
    | ifnull off =>
      replace hr : vBL MT qL qC sc R.frames R.locals nL own meth.name cc ft (pc + len) rest = true := hr
      replace hv := of_decide_eq_true (show decide (len = 3 ∧ (pc : Int) + off = ((pl.headD 0 : Nat) : Int)) = true from hv)
      obtain ⟨rfl, hv2⟩ := hv
      replace hev : (match (generalizing := false) st with | .ref a :: st => if a = 0 then K (pl.headD 0) la st h else evL K FI FV FL SL SC XS rt ft rest la st h | _ => none) = some r := hev
      split at hev
      · rename_i a st
        by_cases ha : a = 0
        · subst ha
          rw [if_pos rfl] at hev
          exact s_same C (fun _ k => lv_ifnullN hx hb hd hv2 k) (hK _ _ _ _ hev)
        · rw [if_neg ha] at hev
          refine s_same C (fun _ k => ?_) (ih _ _ _ _ hev hr)
          rw [List.map_cons, show cv z sa (.ref a) = .ref (z + a) from cvr_pos (Nat.pos_of_ne_zero (by assumption))]
          exact lv_ifnull hx hb hd k
      · cases hev
    | ifnonnull off =>
      replace hr : vBL MT qL qC sc R.frames R.locals nL own meth.name cc ft (pc + len) rest = true := hr
      replace hv := of_decide_eq_true (show decide (len = 3 ∧ (pc : Int) + off = ((pl.headD 0 : Nat) : Int)) = true from hv)
      obtain ⟨rfl, hv2⟩ := hv
      replace hev : (match (generalizing := false) st with | .ref a :: st => if a = 0 then evL K FI FV FL SL SC XS rt ft rest la st h else K (pl.headD 0) la st h | _ => none) = some r := hev
      split at hev
      · rename_i a st
        by_cases ha : a = 0
        · subst ha
          rw [if_pos rfl] at hev
          exact s_same C (fun _ k => lv_ifnonnullN hx hb hd k) (ih _ _ _ _ hev hr)
        · rw [if_neg ha] at hev
          refine s_same C (fun _ k => ?_) (hK _ _ _ _ hev)
          rw [List.map_cons, show cv z sa (.ref a) = .ref (z + a) from cvr_pos (Nat.pos_of_ne_zero (by assumption))]
          exact lv_ifnonnull hx hb hd hv2 k
      · cases hev
    | tableswitch d lo hi offs =>
      rw [Bool.and_eq_true, decide_eq_true_eq] at hv
      obtain ⟨⟨v1, v2, v3⟩, v4⟩ := hv
      have v1 : (pc : Int) + d = ((pl.headD 0 : Nat) : Int) := v1
      have v2 : pl.length = offs.size + 1 := v2
      replace hev : (match (generalizing := false) st with | .int x :: st => K (swT lo hi pl x) la st h | _ => none) = some r := hev
      split at hev
      · rename_i x st
        by_cases hq : x.toInt < lo ∨ hi < x.toInt
        · have e1 : swT lo hi pl x = pl.headD 0 := by unfold swT; rw [if_pos hq]
          rw [e1] at hev
          exact s_same C (fun _ k => lv_tableOut hx hb hd hq v1 k) (hK _ _ _ _ hev)
        · have e1 : swT lo hi pl x = pl.getD ((x.toInt - lo).toNat + 1) 0 := by unfold swT; rw [if_neg hq]
          rw [e1] at hev
          have hlo : ¬ x.toInt < lo := fun q => hq (Or.inl q)
          have hhi : ¬ hi < x.toInt := fun q => hq (Or.inr q)
          have hj : (x.toInt - lo).toNat < offs.size := by omega
          have e2 := of_decide_eq_true (List.all_eq_true.mp v4 _ (List.mem_range.mpr hj))
          refine s_same C (fun _ k => lv_tableIn hx hb hd hlo hhi (off := offs.getD (x.toInt - lo).toNat 0) ?_ e2 k) (hK _ _ _ _ hev)
          rw [Array.getD_eq_getD_getElem?, Array.getElem?_eq_getElem hj]
          rfl
      · cases hev
    | getfield idx =>
      replace hr : vBL MT qL qC sc R.frames R.locals nL own meth.name cc ft (pc + len) rest = true := hr
      rw [Bool.and_eq_true, decide_eq_true_eq] at hv
      obtain ⟨hl2, hv⟩ := hv
      replace hl2 : len = 3 := hl2
      subst hl2
      replace hv : (match (generalizing := false) pl with | [ci, k, ty, pos] => (match (generalizing := false) cls[ci]? with | some q => decide (k < q.2.2 ∧ fty ci k = ty) && flB own idx (q.2.1 k) pos | none => false) | _ => false) = true := hv
      split at hv
      · rename_i ci k ty pos
        split at hv
        · rename_i q hci
          rw [Bool.and_eq_true, decide_eq_true_eq] at hv
          obtain ⟨⟨hk, hty⟩, hln⟩ := hv
          replace hev : (match (generalizing := false) st with | .ref a :: st => if (tg h a).1 = ci then (match (generalizing := false) ty with | 1 => evL K FI FV FL SL SC XS rt ft rest la (.long (rL h a k) :: st) h | 2 => evL K FI FV FL SL SC XS rt ft rest la (.ref (rR h a k) :: st) h | _ => evL K FI FV FL SL SC XS rt ft rest la (.int (rI h a k) :: st) h) else none | _ => none) = some r := hev
          split at hev
          · rename_i a st
            obtain ⟨ht, hev⟩ := ite_some hev
            have hq := g1 ci q (Nat.lt_of_le_of_lt (Nat.zero_le _) hk) hci
            split at hev
            · exact s_get C hci hq.1 hk ht (flB_ok hln) hd (by unfold fv; rw [hty]; rfl) (ih _ _ _ _ hev hr)
            · exact s_get C hci hq.1 hk ht (flB_ok hln) hd (by unfold fv; rw [hty]; rfl) (ih _ _ _ _ hev hr)
            · rename_i n1 n2
              exact s_get C hci hq.1 hk ht (flB_ok hln) hd (by unfold fv; rw [hty]; split <;> first | rfl | (exfalso; first | exact n1 rfl | exact n2 rfl)) (ih _ _ _ _ hev hr)
          · cases hev
        · cases hv
      · cases hv
    | putfield idx =>
      replace hr : vBL MT qL qC sc R.frames R.locals nL own meth.name cc ft (pc + len) rest = true := hr
      rw [Bool.and_eq_true, decide_eq_true_eq] at hv
      obtain ⟨hl2, hv⟩ := hv
      replace hl2 : len = 3 := hl2
      subst hl2
      replace hv : (match (generalizing := false) pl with | [ci, k, ty, pos] => (match (generalizing := false) cls[ci]? with | some q => decide (k < q.2.2 ∧ fty ci k = ty ∧ (ty = 0 → cty ci k = .int)) && flB own idx (q.2.1 k) pos && ((!(q.2.1 k).2.2.2) || (okW pos (.fieldLink own idx (q.2.1 k).1 (q.2.1 k).2.1 (q.2.1 k).2.2.1) && decide (meth.name = "<init>" ∧ (q.2.1 k).1 = own))) | none => false) | _ => false) = true := hv
      split at hv
      · rename_i ci k ty pos
        split at hv
        · rename_i q hci
          rw [Bool.and_eq_true, Bool.and_eq_true, decide_eq_true_eq] at hv
          obtain ⟨⟨⟨hk, hty, hint⟩, hln⟩, hfn⟩ := hv
          have hput : PutOk own meth.name q k idx := by
            rcases Bool.or_eq_true_iff.mp hfn with hf | hf
            · have hf : (q.2.1 k).2.2.2 = false := by simpa using hf
              rcases flB_ok hln with q1 | ⟨host, q1⟩
              · exact Or.inl ⟨q1, hf⟩
              · exact Or.inr (Or.inl ⟨host, q1, hf⟩)
            · rw [Bool.and_eq_true, decide_eq_true_eq] at hf
              by_cases hfl : (q.2.1 k).2.2.2 = false
              · exact Or.inl ⟨okW_mem hf.1, hfl⟩
              · exact Or.inr (Or.inr ⟨okW_mem hf.1, by simpa using hfl, hf.2.1, hf.2.2⟩)
          have hq := g1 ci q (Nat.lt_of_le_of_lt (Nat.zero_le _) hk) hci
          replace hev : (match (generalizing := false) ty with | 0 => (match (generalizing := false) st with | .int x :: .ref a :: st => if (tg h a).1 = ci then evL K FI FV FL SL SC XS rt ft rest la st (wI h a k x) else none | _ => none) | 1 => (match (generalizing := false) st with | .long x :: .ref a :: st => if (tg h a).1 = ci then evL K FI FV FL SL SC XS rt ft rest la st (wL h a k x) else none | _ => none) | 2 => (match (generalizing := false) st with | .ref x :: .ref a :: st => if (tg h a).1 = ci then evL K FI FV FL SL SC XS rt ft rest la st (wR h a k x) else none | _ => none) | _ => (match (generalizing := false) st with | .int x :: .ref a :: st => if (tg h a).1 = ci then (if x &&& 1 = x then evL K FI FV FL SL SC XS rt ft rest la st (wI h a k x) else none) else none | _ => none)) = some r := hev
          split at hev
          · split at hev
            · rename_i x a st
              obtain ⟨ht, hev⟩ := ite_some hev
              exact s_put (h := h) (h' := wI h a k x) C hci hq hk ht hput hd (cty_0 hty x (hint rfl)).1 (cty_0 hty x (hint rfl)).2 rfl rfl (fun _ => rfl) fv_wI.1 (fv_wI.2.1 (Or.inl hty)) ((fv_wI (ci := ci)).2.2 dA) (ih _ _ _ _ hev hr)
            · cases hev
          · split at hev
            · rename_i x a st
              obtain ⟨ht, hev⟩ := ite_some hev
              exact s_put (h := h) (h' := wL h a k x) C hci hq hk ht hput hd (cty_1 hty x).1 (cty_1 hty x).2 rfl rfl (fun _ => rfl) fv_wL.1 (fv_wL.2.1 hty) ((fv_wL (ci := ci)).2.2 dA) (ih _ _ _ _ hev hr)
            · cases hev
          · split at hev
            · rename_i x a st
              obtain ⟨ht, hev⟩ := ite_some hev
              exact s_put (h := h) (h' := wR h a k x) C hci hq hk ht hput hd (cty_2 hty z x).1 (cty_2 hty z x).2 rfl rfl (fun _ => rfl) fv_wR.1 (fv_wR.2.1 hty) ((fv_wR (ci := ci)).2.2 dA) (ih _ _ _ _ hev hr)
            · cases hev
          · rename_i n0 n1 n2
            have hty3 : fty ci k = 3 := by
              have h4 : fty ci k = 0 ∨ fty ci k = 1 ∨ fty ci k = 2 ∨ fty ci k = 3 := by unfold fty; split <;> simp
              rcases h4 with h4 | h4 | h4 | h4
              · exact absurd (hty.symm.trans h4) n0
              · exact absurd (hty.symm.trans h4) n1
              · exact absurd (hty.symm.trans h4) n2
              · exact h4
            split at hev
            · rename_i x a st
              obtain ⟨ht, hev⟩ := ite_some hev
              obtain ⟨hx1, hev⟩ := ite_some hev
              exact s_put (h := h) (h' := wI h a k x) C hci hq hk ht hput hd (cty_3 hty3 hx1).1 (cty_3 hty3 hx1).2 rfl rfl (fun _ => rfl) fv_wI.1 (fv_wI.2.1 (Or.inr hty3)) ((fv_wI (ci := ci)).2.2 dA) (ih _ _ _ _ hev hr)
            · cases hev
        · cases hv
      · cases hv
    | new idx =>
      replace hr : vBL MT qL qC sc R.frames R.locals nL own meth.name cc ft (pc + len) rest = true := hr
      rw [Bool.and_eq_true, decide_eq_true_eq] at hv
      obtain ⟨hl2, hv⟩ := hv
      replace hl2 : len = 3 := hl2
      subst hl2
      replace hv : (match (generalizing := false) pl with | [ci, n, pos] => (match (generalizing := false) cls[ci]? with | some q => decide (n = q.2.2 ∧ 0 < n) && okW pos (.classLink own idx q.1) | none => false) | _ => false) = true := hv
      split at hv
      · rename_i ci n pos
        split at hv
        · rename_i q hci
          rw [Bool.and_eq_true, decide_eq_true_eq] at hv
          obtain ⟨⟨rfl, hn0⟩, hln⟩ := hv
          exact s_new C hci (g1 ci q hn0 hci) (okW_mem hln) hd (ih _ _ _ _ hev hr)
        · cases hv
      · cases hv
    | newarray at9 =>
      replace hr : vBL MT qL qC sc R.frames R.locals nL own meth.name cc ft (pc + len) rest = true := hr
      replace hv := of_decide_eq_true (show decide (len = 2 ∧ (pl.headD 0 = 100 ∨ pl.headD 0 = 101 ∨ pl.headD 0 = 102 ∨ pl.headD 0 = 103) ∧ at9 = atOf (pl.headD 0)) = true from hv)
      obtain ⟨rfl, hv2, rfl⟩ := hv
      replace hev : (match (generalizing := false) st with | .int n :: st => if n < 0 ∨ 100000 < n.toNatClampNeg then none else evL K FI FV FL SL SC XS rt ft rest la (.ref (nx h) :: st) (al h (pl.headD 0) n.toNatClampNeg) | _ => none) = some r := hev
      split at hev
      · obtain ⟨hne, hev⟩ := ite_none hev
        exact s_newa C hv2 (g4 _ hv2) (fun q => hne (Or.inl q)) (Nat.not_lt.mp fun q => hne (Or.inr q)) hd (ih _ _ _ _ hev hr)
      · cases hev
    | anewarray idx =>
      replace hr : vBL MT qL qC sc R.frames R.locals nL own meth.name cc ft (pc + len) rest = true := hr
      rw [Bool.and_eq_true, decide_eq_true_eq] at hv
      obtain ⟨hl2, hv⟩ := hv
      replace hl2 : len = 3 := hl2
      subst hl2
      replace hev : (match (generalizing := false) st with | .int n :: st => if n < 0 ∨ 100000 < n.toNatClampNeg then none else evL K FI FV FL SL SC XS rt ft rest la (.ref (nx h) :: st) (al h 104 n.toNatClampNeg) | _ => none) = some r := hev
      split at hev
      · obtain ⟨hne, hev⟩ := ite_none hev
        exact s_newq C (okW_mem hv) (fun q => hne (Or.inl q)) (Nat.not_lt.mp fun q => hne (Or.inr q)) hd (ih _ _ _ _ hev hr)
      · cases hev
    | arraylength =>
      replace hr : vBL MT qL qC sc R.frames R.locals nL own meth.name cc ft (pc + len) rest = true := hr
      rw [Bool.and_eq_true, decide_eq_true_eq] at hv
      obtain ⟨hl2, hv⟩ := hv
      replace hl2 : len = 1 := hl2
      subst hl2
      obtain ⟨x1, x2, x3⟩ := hX hv
      replace hev : (match (generalizing := false) st with | .retAddr k :: st => if k = 0 then evL K FI FV FL SL SC XS rt ft rest la (.int (Int32.ofNat XS.1) :: st) h else none | _ => none) = some r := hev
      split at hev
      · obtain ⟨rfl, hev⟩ := ite_some hev
        have kk := ih _ _ _ _ hev hr
        exact ⟨kk.1, kk.2.1, fun H locs cells slots ls hR hS hl hc hs => va_slen hx hb x1 x2 x3 hS hd (kk.2.2 H locs cells slots ls hR hS hl hc hs)⟩
      · cases hev
    | iaload =>
      replace hr : vBL MT qL qC sc R.frames R.locals nL own meth.name cc ft (pc + len) rest = true := hr
      replace hv := of_decide_eq_true (show decide (len = 1) = true from hv)
      subst hv
      replace hev : (match (generalizing := false) st with | .int i :: .ref a :: st => if inB h a 100 i then evL K FI FV FL SL SC XS rt ft rest la (.int (rI h a i.toNatClampNeg) :: st) h else none | .int i :: .retAddr k :: st => if k = 0 ∧ ¬ (i < 0 ∨ XS.1 ≤ i.toNatClampNeg) then evL K FI FV FL SL SC XS rt ft rest la (.int (XS.2 i.toNatClampNeg) :: st) h else none | _ => none) = some r := hev
      split at hev
      · obtain ⟨hi, hev⟩ := ite_some hev
        exact s_iald C hi hd (ih _ _ _ _ hev hr)
      · obtain ⟨⟨hk0, hi⟩, hev2⟩ := ite_some hev
        subst hk0
        have hsc : sc = true := by
          cases hsc : sc
          · have h1 := hX0 hsc
            exact absurd (Or.inr (by rw [h1]; exact Nat.zero_le _)) hi
          · rfl
        obtain ⟨x1, x2, x3⟩ := hX hsc
        have kk := ih _ _ _ _ hev2 hr
        exact ⟨kk.1, kk.2.1, fun H locs cells slots ls hR hS hl hc hs => va_sld hx hb x1 x2 x3 hS hi hd (kk.2.2 H locs cells slots ls hR hS hl hc hs)⟩
      · cases hev
    | baload =>
      replace hr : vBL MT qL qC sc R.frames R.locals nL own meth.name cc ft (pc + len) rest = true := hr
      replace hv := of_decide_eq_true (show decide (len = 1 ∧ (pl.headD 0 = 101 ∨ pl.headD 0 = 102)) = true from hv)
      obtain ⟨rfl, hv2⟩ := hv
      replace hev : (match (generalizing := false) st with | .int i :: .ref a :: st => if inB h a (pl.headD 0) i then evL K FI FV FL SL SC XS rt ft rest la (.int (rI h a i.toNatClampNeg) :: st) h else none | _ => none) = some r := hev
      split at hev
      · obtain ⟨hi, hev⟩ := ite_some hev
        exact s_bald C hv2 hi hd (ih _ _ _ _ hev hr)
      · cases hev
    | laload =>
      replace hr : vBL MT qL qC sc R.frames R.locals nL own meth.name cc ft (pc + len) rest = true := hr
      replace hv := of_decide_eq_true (show decide (len = 1) = true from hv)
      subst hv
      replace hev : (match (generalizing := false) st with | .int i :: .ref a :: st => if inB h a 103 i then evL K FI FV FL SL SC XS rt ft rest la (.long (rL h a i.toNatClampNeg) :: st) h else none | _ => none) = some r := hev
      split at hev
      · obtain ⟨hi, hev⟩ := ite_some hev
        exact s_lald C hi hd (ih _ _ _ _ hev hr)
      · cases hev
    | aaload =>
      replace hr : vBL MT qL qC sc R.frames R.locals nL own meth.name cc ft (pc + len) rest = true := hr
      replace hv := of_decide_eq_true (show decide (len = 1) = true from hv)
      subst hv
      replace hev : (match (generalizing := false) st with | .int i :: .ref a :: st => if inB h a 104 i then evL K FI FV FL SL SC XS rt ft rest la (.ref (rR h a i.toNatClampNeg) :: st) h else none | _ => none) = some r := hev
      split at hev
      · obtain ⟨hi, hev⟩ := ite_some hev
        exact s_aald C hi hd (ih _ _ _ _ hev hr)
      · cases hev
    | iastore =>
      replace hr : vBL MT qL qC sc R.frames R.locals nL own meth.name cc ft (pc + len) rest = true := hr
      replace hv := of_decide_eq_true (show decide (len = 1) = true from hv)
      subst hv
      replace hev : (match (generalizing := false) st with | .int x :: .int i :: .ref a :: st => if inB h a 100 i then evL K FI FV FL SL SC XS rt ft rest la st (wI h a i.toNatClampNeg x) else none | _ => none) = some r := hev
      split at hev
      · obtain ⟨hi, hev⟩ := ite_some hev
        exact s_iast C hi hd (ih _ _ _ _ hev hr)
      · cases hev
    | bastore =>
      replace hr : vBL MT qL qC sc R.frames R.locals nL own meth.name cc ft (pc + len) rest = true := hr
      replace hv := of_decide_eq_true (show decide (len = 1 ∧ (pl.headD 0 = 101 ∨ pl.headD 0 = 102)) = true from hv)
      obtain ⟨rfl, hv2⟩ := hv
      replace hev : (match (generalizing := false) st with | .int x :: .int i :: .ref a :: st => if inB h a (pl.headD 0) i then evL K FI FV FL SL SC XS rt ft rest la st (wI h a i.toNatClampNeg (if pl.headD 0 = 101 then x.toInt8.toInt32 else x &&& 1)) else none | _ => none) = some r := hev
      split at hev
      · obtain ⟨hi, hev⟩ := ite_some hev
        exact s_bast C hv2 hi hd (ih _ _ _ _ hev hr)
      · cases hev
    | lastore =>
      replace hr : vBL MT qL qC sc R.frames R.locals nL own meth.name cc ft (pc + len) rest = true := hr
      replace hv := of_decide_eq_true (show decide (len = 1) = true from hv)
      subst hv
      replace hev : (match (generalizing := false) st with | .long x :: .int i :: .ref a :: st => if inB h a 103 i then evL K FI FV FL SL SC XS rt ft rest la st (wL h a i.toNatClampNeg x) else none | _ => none) = some r := hev
      split at hev
      · obtain ⟨hi, hev⟩ := ite_some hev
        exact s_last C hi hd (ih _ _ _ _ hev hr)
      · cases hev
    | aastore =>
      replace hr : vBL MT qL qC sc R.frames R.locals nL own meth.name cc ft (pc + len) rest = true := hr
      replace hv := of_decide_eq_true (show decide (len = 1 ∧ pl.headD 0 = 3) = true from hv)
      obtain ⟨rfl, hv2⟩ := hv
      replace hev : (match (generalizing := false) st with | .ref b :: .int i :: .ref a :: st => if inB h a 104 i ∧ (tg h b).1 = pl.headD 0 then evL K FI FV FL SL SC XS rt ft rest la st (wR h a i.toNatClampNeg b) else none | _ => none) = some r := hev
      split at hev
      · obtain ⟨⟨hi, hb3⟩, hev⟩ := ite_some hev
        exact s_aast C hi (hb3.trans hv2) hd (ih _ _ _ _ hev hr)
      · cases hev
    | invokespecial idx =>
      replace hr : vBL MT qL qC sc R.frames R.locals nL own meth.name cc ft (pc + len) rest = true := hr
      rw [Bool.and_eq_true, decide_eq_true_eq] at hv
      obtain ⟨hl2, hv⟩ := hv
      replace hl2 : len = 3 := hl2
      subst hl2
      replace hv : (match (generalizing := false) pl with | [_, pos] => okW pos (.methodLink own idx objectInit) && decide (1 ≤ R.frames ∧ 20 ≤ R.locals) | [_, mi, n, pos] => lnB own idx (MT mi).1 pos && rmB (MT mi) R.frames R.locals && decide ((MT mi).2.2.2.2.2.2.1 = 2 ∧ n = (MT mi).2.2.2.2.2.2.2 + 1) | _ => false) = true := hv
      replace hev : (match (generalizing := false) pl with | [0, _] => (match (generalizing := false) st with | .ref a :: st => if a = 0 then none else cond (Nat.ble (csum st) 8) (evL K FI FV FL SL SC XS rt ft rest la st h) none | _ => none) | [2, mi, n, _] => (match (generalizing := false) st.drop (n - 1) with | .ref a :: st' => if a = 0 then none else cond (Nat.ble (csum st') 8) ((FV mi (.ref a :: (st.take (n - 1)).reverse) h).bind fun h => evL K FI FV FL SL SC XS rt ft rest la st' h) none | _ => none) | _ => none) = some r := hev
      split at hev
      · rw [Bool.and_eq_true, decide_eq_true_eq] at hv
        split at hev
        · obtain ⟨ha, hev⟩ := ite_none hev
          obtain ⟨hle, hev⟩ := cond_some hev
          exact s_obj C (Nat.pos_of_ne_zero ha) (okW_mem hv.1) g2.1 g2.2 hd hv.2.1 hv.2.2 (Nat.le_of_ble_eq_true hle) (ih _ _ _ _ hev hr)
        · cases hev
      · rename_i mi n pos
        rw [Bool.and_eq_true, Bool.and_eq_true, decide_eq_true_eq] at hv
        obtain ⟨⟨hln, hrm⟩, hk2, hn⟩ := hv
        split at hev
        · rename_i a st' hdr
          obtain ⟨ha, hev⟩ := ite_none hev
          obtain ⟨hle, hev⟩ := cond_some hev
          obtain ⟨h', hF, hev⟩ := bind_some hev
          obtain ⟨e1, e2⟩ := take_drop hdr
          have hgo := s_callI C (Nat.pos_of_ne_zero ha) (hMT mi) hk2 (by rw [e2]; omega) (lnB_ok hln) hd (of_decide_eq_true hrm) (Nat.le_of_ble_eq_true hle) (hFV _ _ _ _ hF) (ih _ _ _ _ hev hr)
          rw [← e1] at hgo
          exact hgo
        · cases hev
      · cases hev
    | invokestatic idx =>
      replace hr : vBL MT qL qC sc R.frames R.locals nL own meth.name cc ft (pc + len) rest = true := hr
      rw [Bool.and_eq_true, decide_eq_true_eq] at hv
      obtain ⟨hl2, hv⟩ := hv
      replace hl2 : len = 3 := hl2
      subst hl2
      replace hv : (match (generalizing := false) pl with | [k, pos] => if k = 5 then okW pos (.methodLink own idx Lib.Math.max.name) && decide (1 ≤ R.frames ∧ 30 ≤ R.locals) else okW pos (.methodLink own idx arraycopyName) && decide (1 ≤ R.frames ∧ 8 + (nativeFrameWords "java/lang/System" "arraycopy" 5 + 11) ≤ R.locals) | [_, mi, n, pos] => lnB own idx (MT mi).1 pos && rmB (MT mi) R.frames R.locals && decide ((MT mi).2.2.2.2.2.2.1 = 0 ∧ n = (MT mi).2.2.2.2.2.2.2) | _ => false) = true := hv
      replace hev : (match (generalizing := false) pl with | [1, mi, n, _] => cond (Nat.ble n st.length && Nat.ble (csum (st.drop n)) 8) ((FI mi (st.take n).reverse h).bind fun p => evL K FI FV FL SL SC XS rt ft rest la (.int p.1 :: st.drop n) p.2) none | [2, mi, n, _] => cond (Nat.ble n st.length && Nat.ble (csum (st.drop n)) 8) ((FV mi (st.take n).reverse h).bind fun h => evL K FI FV FL SL SC XS rt ft rest la (st.drop n) h) none | [3, mi, n, _] => cond (Nat.ble n st.length && Nat.ble (csum (st.drop n)) 8) ((FL mi (st.take n).reverse h).bind fun p => evL K FI FV FL SL SC XS rt ft rest la (.long p.1 :: st.drop n) p.2) none | [4, _] => (match (generalizing := false) st with | .int n :: .int dp :: .ref d :: .int sp :: .ref s :: st => if ((tg h s).1 = 100 ∧ (tg h d).1 = 100) ∧ (¬ sp < 0 ∧ ¬ dp < 0 ∧ ¬ n < 0) ∧ sp.toNatClampNeg + n.toNatClampNeg ≤ (tg h s).2 ∧ dp.toNatClampNeg + n.toNatClampNeg ≤ (tg h d).2 then cond (Nat.ble (csum st) 8) (evL K FI FV FL SL SC XS rt ft rest la st (cpI h s sp.toNatClampNeg d dp.toNatClampNeg n.toNatClampNeg)) none else none | _ => none) | [5, _] => (match (generalizing := false) st with | .int y :: .int x :: st => cond (Nat.ble (csum st) 8) (evL K FI FV FL SL SC XS rt ft rest la (.int (if x < y then y else x) :: st) h) none | _ => none) | _ => none) = some r := hev
      split at hev
      · rename_i mi n pos
        rw [Bool.and_eq_true, Bool.and_eq_true, decide_eq_true_eq] at hv
        obtain ⟨⟨hln, hrm⟩, hk2, hn⟩ := hv
        obtain ⟨hle, hev⟩ := cond_some hev
        rw [Bool.and_eq_true] at hle
        obtain ⟨⟨x, h'⟩, hF, hev⟩ := bind_some hev
        have e1 := Nat.le_of_ble_eq_true hle.1
        have hgo := s_callS C (hMT mi) hk2 (by rw [List.length_reverse, List.length_take]; omega) (lnB_ok hln) hd (of_decide_eq_true hrm) (Nat.le_of_ble_eq_true hle.2) (hFI _ _ _ _ _ hF) rfl (ih _ _ _ _ hev hr)
        rw [List.reverse_reverse, List.take_append_drop] at hgo
        exact hgo
      · rename_i mi n pos
        rw [Bool.and_eq_true, Bool.and_eq_true, decide_eq_true_eq] at hv
        obtain ⟨⟨hln, hrm⟩, hk2, hn⟩ := hv
        obtain ⟨hle, hev⟩ := cond_some hev
        rw [Bool.and_eq_true] at hle
        obtain ⟨h', hF, hev⟩ := bind_some hev
        have e1 := Nat.le_of_ble_eq_true hle.1
        have hgo := s_callS C (hMT mi) hk2 (by rw [List.length_reverse, List.length_take]; omega) (lnB_ok hln) hd (of_decide_eq_true hrm) (Nat.le_of_ble_eq_true hle.2) (hFV _ _ _ _ hF) rfl (ih _ _ _ _ hev hr)
        rw [List.reverse_reverse, List.take_append_drop] at hgo
        exact hgo
      · rename_i mi n pos
        rw [Bool.and_eq_true, Bool.and_eq_true, decide_eq_true_eq] at hv
        obtain ⟨⟨hln, hrm⟩, hk2, hn⟩ := hv
        obtain ⟨hle, hev⟩ := cond_some hev
        rw [Bool.and_eq_true] at hle
        obtain ⟨⟨x, h'⟩, hF, hev⟩ := bind_some hev
        have e1 := Nat.le_of_ble_eq_true hle.1
        have hgo := s_callS C (hMT mi) hk2 (by rw [List.length_reverse, List.length_take]; omega) (lnB_ok hln) hd (of_decide_eq_true hrm) (Nat.le_of_ble_eq_true hle.2) (hFL _ _ _ _ _ hF) rfl (ih _ _ _ _ hev hr)
        rw [List.reverse_reverse, List.take_append_drop] at hgo
        exact hgo
      · rename_i pos
        replace hv : (okW pos (.methodLink own idx arraycopyName) && decide (1 ≤ R.frames ∧ 8 + (nativeFrameWords "java/lang/System" "arraycopy" 5 + 11) ≤ R.locals)) = true := hv
        rw [Bool.and_eq_true, decide_eq_true_eq] at hv
        split at hev
        · obtain ⟨⟨⟨t1, t2⟩, ⟨n1, n2, n3⟩, b1, b2⟩, hev⟩ := ite_some hev
          obtain ⟨hle, hev⟩ := cond_some hev
          exact s_copy C (okW_mem hv.1) g3.1 g3.2.1 g3.2.2 t1 t2 n1 n2 n3 b1 b2 hv.2.1 hv.2.2 (Nat.le_of_ble_eq_true hle) hd (ih _ _ _ _ hev hr)
        · cases hev
      · rename_i pos
        replace hv : (okW pos (.methodLink own idx Lib.Math.max.name) && decide (1 ≤ R.frames ∧ 30 ≤ R.locals)) = true := hv
        rw [Bool.and_eq_true, decide_eq_true_eq] at hv
        split at hev
        · obtain ⟨hle, hev⟩ := cond_some hev
          exact s_max C (okW_mem hv.1) g7.1 g7.2.1 g7.2.2 hd hv.2.1 hv.2.2 (Nat.le_of_ble_eq_true hle) (ih _ _ _ _ hev hr)
        · cases hev
      · cases hev
    | invokevirtual idx =>
      replace hr : vBL MT qL qC sc R.frames R.locals nL own meth.name cc ft (pc + len) rest = true := hr
      rw [Bool.and_eq_true, decide_eq_true_eq] at hv
      obtain ⟨hl2, hv⟩ := hv
      replace hl2 : len = 3 := hl2
      subst hl2
      replace hv : (match (generalizing := false) pl with | [k, pos] => if k = 5 then okW pos (.methodLink own idx qL.1) && rmB qL R.frames R.locals else okW pos (.methodLink own idx qC.1) && rmB qC R.frames R.locals | [_, mi, n, ci, pos] => lnB own idx (MT mi).1 pos && rmB (MT mi) R.frames R.locals && (match (generalizing := false) cls[ci]? with | some q => decide ((MT mi).2.2.2.2.2.2.1 = 1 ∧ n = (MT mi).2.2.2.2.2.2.2 + 1 ∧ q.1 = (MT mi).1.cls) | none => false) | _ => false) = true := hv
      replace hev : (match (generalizing := false) pl with | [1, mi, n, ci, _] => (match (generalizing := false) st.drop (n - 1) with | .ref a :: st' => if (tg h a).1 = ci then cond (Nat.ble (csum st') 8) ((FI mi (.ref a :: (st.take (n - 1)).reverse) h).bind fun p => evL K FI FV FL SL SC XS rt ft rest la (.int p.1 :: st') p.2) none else none | _ => none) | [2, mi, n, ci, _] => (match (generalizing := false) st.drop (n - 1) with | .ref a :: st' => if (tg h a).1 = ci then cond (Nat.ble (csum st') 8) ((FV mi (.ref a :: (st.take (n - 1)).reverse) h).bind fun h => evL K FI FV FL SL SC XS rt ft rest la st' h) none else none | _ => none) | [3, mi, n, ci, _] => (match (generalizing := false) st.drop (n - 1) with | .ref a :: st' => if (tg h a).1 = ci then cond (Nat.ble (csum st') 8) ((FL mi (.ref a :: (st.take (n - 1)).reverse) h).bind fun p => evL K FI FV FL SL SC XS rt ft rest la (.long p.1 :: st') p.2) none else none | _ => none) | [5, _] => (match (generalizing := false) st with | .retAddr k :: st => cond (Nat.ble (csum st) 8) ((SL k).bind fun x => evL K FI FV FL SL SC XS rt ft rest la (.int x :: st) h) none | _ => none) | [6, _] => (match (generalizing := false) st with | .int i :: .retAddr k :: st => cond (Nat.ble (csum st) 8) ((SC k i).bind fun x => evL K FI FV FL SL SC XS rt ft rest la (.int x :: st) h) none | _ => none) | _ => none) = some r := hev
      split at hev
      · rename_i mi n ci pos
        rw [Bool.and_eq_true, Bool.and_eq_true] at hv
        obtain ⟨⟨hln, hrm⟩, hv⟩ := hv
        split at hv
        · rename_i q hci
          obtain ⟨hk2, hn, hqc⟩ := of_decide_eq_true hv
          split at hev
          · rename_i a st' hdr
            obtain ⟨ht, hev⟩ := ite_some hev
            obtain ⟨hle, hev⟩ := cond_some hev
            obtain ⟨⟨x, h'⟩, hF, hev⟩ := bind_some hev
            obtain ⟨e1, e2⟩ := take_drop hdr
            have hgo := s_callV C hci hqc ht (hMT mi) hk2 (by rw [e2]; omega) (lnB_ok hln) hd (of_decide_eq_true hrm) (Nat.le_of_ble_eq_true hle) (hFI _ _ _ _ _ hF) rfl (ih _ _ _ _ hev hr)
            rw [← e1] at hgo
            exact hgo
          · cases hev
        · cases hv
      · rename_i mi n ci pos
        rw [Bool.and_eq_true, Bool.and_eq_true] at hv
        obtain ⟨⟨hln, hrm⟩, hv⟩ := hv
        split at hv
        · rename_i q hci
          obtain ⟨hk2, hn, hqc⟩ := of_decide_eq_true hv
          split at hev
          · rename_i a st' hdr
            obtain ⟨ht, hev⟩ := ite_some hev
            obtain ⟨hle, hev⟩ := cond_some hev
            obtain ⟨h', hF, hev⟩ := bind_some hev
            obtain ⟨e1, e2⟩ := take_drop hdr
            have hgo := s_callV C hci hqc ht (hMT mi) hk2 (by rw [e2]; omega) (lnB_ok hln) hd (of_decide_eq_true hrm) (Nat.le_of_ble_eq_true hle) (hFV _ _ _ _ hF) rfl (ih _ _ _ _ hev hr)
            rw [← e1] at hgo
            exact hgo
          · cases hev
        · cases hv
      · rename_i mi n ci pos
        rw [Bool.and_eq_true, Bool.and_eq_true] at hv
        obtain ⟨⟨hln, hrm⟩, hv⟩ := hv
        split at hv
        · rename_i q hci
          obtain ⟨hk2, hn, hqc⟩ := of_decide_eq_true hv
          split at hev
          · rename_i a st' hdr
            obtain ⟨ht, hev⟩ := ite_some hev
            obtain ⟨hle, hev⟩ := cond_some hev
            obtain ⟨⟨x, h'⟩, hF, hev⟩ := bind_some hev
            obtain ⟨e1, e2⟩ := take_drop hdr
            have hgo := s_callV C hci hqc ht (hMT mi) hk2 (by rw [e2]; omega) (lnB_ok hln) hd (of_decide_eq_true hrm) (Nat.le_of_ble_eq_true hle) (hFL _ _ _ _ _ hF) rfl (ih _ _ _ _ hev hr)
            rw [← e1] at hgo
            exact hgo
          · cases hev
        · cases hv
      · rename_i pos
        replace hv : (okW pos (.methodLink own idx qL.1) && rmB qL R.frames R.locals) = true := hv
        rw [Bool.and_eq_true] at hv
        split at hev
        · rename_i k st
          obtain ⟨hle, hev⟩ := cond_some hev
          obtain ⟨x, hF, hev⟩ := bind_some hev
          obtain ⟨⟨k0, k1⟩, hcal⟩ := hSL k x h hF
          exact s_callT (As := []) C k0 k1 g5.1 g5.2.1 g5.2.2.1.symm g5.2.2.2 (okW_mem hv.1) hd (of_decide_eq_true hv.2) (Nat.le_of_ble_eq_true hle) hcal (ih _ _ _ _ hev hr)
        · cases hev
      · rename_i pos
        replace hv : (okW pos (.methodLink own idx qC.1) && rmB qC R.frames R.locals) = true := hv
        rw [Bool.and_eq_true] at hv
        split at hev
        · rename_i i k st
          obtain ⟨hle, hev⟩ := cond_some hev
          obtain ⟨x, hF, hev⟩ := bind_some hev
          obtain ⟨⟨k0, k1⟩, hcal⟩ := hSC k i x h hF
          exact s_callT (As := [.int i]) C k0 k1 g6.1 g6.2.1 g6.2.2.1.symm g6.2.2.2 (okW_mem hv.1) hd (of_decide_eq_true hv.2) (Nat.le_of_ble_eq_true hle) hcal (ih _ _ _ _ hev hr)
        · cases hev
      · cases hev
    | ireturn =>
      replace hv := of_decide_eq_true (show decide (len = 1) = true from hv)
      subst hv
      replace hev : (match (generalizing := false) st with | [.int x] => rt (some (.int x)) h | _ => none) = some r := hev
      split at hev
      · exact hrt _ _ _ _ _ hev hd (Or.inl ⟨rfl, _, rfl⟩)
      · cases hev
    | lreturn =>
      replace hv := of_decide_eq_true (show decide (len = 1) = true from hv)
      subst hv
      replace hev : (match (generalizing := false) st with | [.long x] => rt (some (.long x)) h | _ => none) = some r := hev
      split at hev
      · exact hrt _ _ _ _ _ hev hd (Or.inr (Or.inl ⟨rfl, _, rfl⟩))
      · cases hev
    | return_ =>
      replace hv := of_decide_eq_true (show decide (len = 1) = true from hv)
      subst hv
      replace hev : (match (generalizing := false) st with | [] => rt none h | _ => none) = some r := hev
      split at hev
      · exact hrt _ _ _ _ _ hev hd (Or.inr (Or.inr ⟨rfl, rfl⟩))
      · cases hev
    | iadd =>
      replace hr : vBL MT qL qC sc R.frames R.locals nL own meth.name cc ft (pc + len) rest = true := hr
      replace hv := of_decide_eq_true (show decide (len = 1) = true from hv)
      subst hv
      replace hev : (match (generalizing := false) ar .iadd st with | some st => evL K FI FV FL SL SC XS rt ft rest la st h | none => none) = some r := hev
      split at hev
      · rename_i e1
        exact s_ar C hd e1 (ih _ _ _ _ hev hr)
      · cases hev
    | isub =>
      replace hr : vBL MT qL qC sc R.frames R.locals nL own meth.name cc ft (pc + len) rest = true := hr
      replace hv := of_decide_eq_true (show decide (len = 1) = true from hv)
      subst hv
      replace hev : (match (generalizing := false) ar .isub st with | some st => evL K FI FV FL SL SC XS rt ft rest la st h | none => none) = some r := hev
      split at hev
      · rename_i e1
        exact s_ar C hd e1 (ih _ _ _ _ hev hr)
      · cases hev
    | imul =>
      replace hr : vBL MT qL qC sc R.frames R.locals nL own meth.name cc ft (pc + len) rest = true := hr
      replace hv := of_decide_eq_true (show decide (len = 1) = true from hv)
      subst hv
      replace hev : (match (generalizing := false) ar .imul st with | some st => evL K FI FV FL SL SC XS rt ft rest la st h | none => none) = some r := hev
      split at hev
      · rename_i e1
        exact s_ar C hd e1 (ih _ _ _ _ hev hr)
      · cases hev
    | iand =>
      replace hr : vBL MT qL qC sc R.frames R.locals nL own meth.name cc ft (pc + len) rest = true := hr
      replace hv := of_decide_eq_true (show decide (len = 1) = true from hv)
      subst hv
      replace hev : (match (generalizing := false) ar .iand st with | some st => evL K FI FV FL SL SC XS rt ft rest la st h | none => none) = some r := hev
      split at hev
      · rename_i e1
        exact s_ar C hd e1 (ih _ _ _ _ hev hr)
      · cases hev
    | ior =>
      replace hr : vBL MT qL qC sc R.frames R.locals nL own meth.name cc ft (pc + len) rest = true := hr
      replace hv := of_decide_eq_true (show decide (len = 1) = true from hv)
      subst hv
      replace hev : (match (generalizing := false) ar .ior st with | some st => evL K FI FV FL SL SC XS rt ft rest la st h | none => none) = some r := hev
      split at hev
      · rename_i e1
        exact s_ar C hd e1 (ih _ _ _ _ hev hr)
      · cases hev
    | ixor =>
      replace hr : vBL MT qL qC sc R.frames R.locals nL own meth.name cc ft (pc + len) rest = true := hr
      replace hv := of_decide_eq_true (show decide (len = 1) = true from hv)
      subst hv
      replace hev : (match (generalizing := false) ar .ixor st with | some st => evL K FI FV FL SL SC XS rt ft rest la st h | none => none) = some r := hev
      split at hev
      · rename_i e1
        exact s_ar C hd e1 (ih _ _ _ _ hev hr)
      · cases hev
    | ishl =>
      replace hr : vBL MT qL qC sc R.frames R.locals nL own meth.name cc ft (pc + len) rest = true := hr
      replace hv := of_decide_eq_true (show decide (len = 1) = true from hv)
      subst hv
      replace hev : (match (generalizing := false) ar .ishl st with | some st => evL K FI FV FL SL SC XS rt ft rest la st h | none => none) = some r := hev
      split at hev
      · rename_i e1
        exact s_ar C hd e1 (ih _ _ _ _ hev hr)
      · cases hev
    | ishr =>
      replace hr : vBL MT qL qC sc R.frames R.locals nL own meth.name cc ft (pc + len) rest = true := hr
      replace hv := of_decide_eq_true (show decide (len = 1) = true from hv)
      subst hv
      replace hev : (match (generalizing := false) ar .ishr st with | some st => evL K FI FV FL SL SC XS rt ft rest la st h | none => none) = some r := hev
      split at hev
      · rename_i e1
        exact s_ar C hd e1 (ih _ _ _ _ hev hr)
      · cases hev
    | iushr =>
      replace hr : vBL MT qL qC sc R.frames R.locals nL own meth.name cc ft (pc + len) rest = true := hr
      replace hv := of_decide_eq_true (show decide (len = 1) = true from hv)
      subst hv
      replace hev : (match (generalizing := false) ar .iushr st with | some st => evL K FI FV FL SL SC XS rt ft rest la st h | none => none) = some r := hev
      split at hev
      · rename_i e1
        exact s_ar C hd e1 (ih _ _ _ _ hev hr)
      · cases hev
    | i2b =>
      replace hr : vBL MT qL qC sc R.frames R.locals nL own meth.name cc ft (pc + len) rest = true := hr
      replace hv := of_decide_eq_true (show decide (len = 1) = true from hv)
      subst hv
      replace hev : (match (generalizing := false) ar .i2b st with | some st => evL K FI FV FL SL SC XS rt ft rest la st h | none => none) = some r := hev
      split at hev
      · rename_i e1
        exact s_ar C hd e1 (ih _ _ _ _ hev hr)
      · cases hev
    | ladd =>
      replace hr : vBL MT qL qC sc R.frames R.locals nL own meth.name cc ft (pc + len) rest = true := hr
      replace hv := of_decide_eq_true (show decide (len = 1) = true from hv)
      subst hv
      replace hev : (match (generalizing := false) ar .ladd st with | some st => evL K FI FV FL SL SC XS rt ft rest la st h | none => none) = some r := hev
      split at hev
      · rename_i e1
        exact s_ar C hd e1 (ih _ _ _ _ hev hr)
      · cases hev
    | lmul =>
      replace hr : vBL MT qL qC sc R.frames R.locals nL own meth.name cc ft (pc + len) rest = true := hr
      replace hv := of_decide_eq_true (show decide (len = 1) = true from hv)
      subst hv
      replace hev : (match (generalizing := false) ar .lmul st with | some st => evL K FI FV FL SL SC XS rt ft rest la st h | none => none) = some r := hev
      split at hev
      · rename_i e1
        exact s_ar C hd e1 (ih _ _ _ _ hev hr)
      · cases hev
    | i2l =>
      replace hr : vBL MT qL qC sc R.frames R.locals nL own meth.name cc ft (pc + len) rest = true := hr
      replace hv := of_decide_eq_true (show decide (len = 1) = true from hv)
      subst hv
      replace hev : (match (generalizing := false) ar .i2l st with | some st => evL K FI FV FL SL SC XS rt ft rest la st h | none => none) = some r := hev
      split at hev
      · rename_i e1
        exact s_ar C hd e1 (ih _ _ _ _ hev hr)
      · cases hev
    | l2i =>
      replace hr : vBL MT qL qC sc R.frames R.locals nL own meth.name cc ft (pc + len) rest = true := hr
      replace hv := of_decide_eq_true (show decide (len = 1) = true from hv)
      subst hv
      replace hev : (match (generalizing := false) ar .l2i st with | some st => evL K FI FV FL SL SC XS rt ft rest la st h | none => none) = some r := hev
      split at hev
      · rename_i e1
        exact s_ar C hd e1 (ih _ _ _ _ hev hr)
      · cases hev
    | lcmp =>
      replace hr : vBL MT qL qC sc R.frames R.locals nL own meth.name cc ft (pc + len) rest = true := hr
      replace hv := of_decide_eq_true (show decide (len = 1) = true from hv)
      subst hv
      replace hev : (match (generalizing := false) ar .lcmp st with | some st => evL K FI FV FL SL SC XS rt ft rest la st h | none => none) = some r := hev
      split at hev
      · rename_i e1
        exact s_ar C hd e1 (ih _ _ _ _ hev hr)
      · cases hev
    | dup =>
      replace hr : vBL MT qL qC sc R.frames R.locals nL own meth.name cc ft (pc + len) rest = true := hr
      replace hv := of_decide_eq_true (show decide (len = 1) = true from hv)
      subst hv
      replace hev : (match (generalizing := false) ar .dup st with | some st => evL K FI FV FL SL SC XS rt ft rest la st h | none => none) = some r := hev
      split at hev
      · rename_i e1
        exact s_ar C hd e1 (ih _ _ _ _ hev hr)
      · cases hev
    | dup2 =>
      replace hr : vBL MT qL qC sc R.frames R.locals nL own meth.name cc ft (pc + len) rest = true := hr
      replace hv := of_decide_eq_true (show decide (len = 1) = true from hv)
      subst hv
      replace hev : (match (generalizing := false) ar .dup2 st with | some st => evL K FI FV FL SL SC XS rt ft rest la st h | none => none) = some r := hev
      split at hev
      · rename_i e1
        exact s_ar C hd e1 (ih _ _ _ _ hev hr)
      · cases hev
    | pop =>
      replace hr : vBL MT qL qC sc R.frames R.locals nL own meth.name cc ft (pc + len) rest = true := hr
      replace hv := of_decide_eq_true (show decide (len = 1) = true from hv)
      subst hv
      replace hev : (match (generalizing := false) ar .pop st with | some st => evL K FI FV FL SL SC XS rt ft rest la st h | none => none) = some r := hev
      split at hev
      · rename_i e1
        exact s_ar C hd e1 (ih _ _ _ _ hev hr)
      · cases hev
    | _ => exact nomatch (show (none : Option ρ) = some r from hev)
end SOUND
