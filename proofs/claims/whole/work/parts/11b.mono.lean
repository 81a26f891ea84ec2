/-! ===== memory only grows ===== -/
section MONO
variable {ρ : Type} {K : Nat → LA → List Value → AH → Option ρ} {FI : Nat → List Value → AH → Option (Int32 × AH)} {FV : Nat → List Value → AH → Option AH} {FL : Nat → List Value → AH → Option (Int64 × AH)} {SL : Nat → Option Int32} {SC : Nat → Int32 → Option Int32} {XS : Nat × (Nat → Int32)} {rt : Option Value → AH → Option ρ} {ft : Nat} {r : ρ}
def Mo (fin h : AH) : Prop := nx h ≤ nx fin ∧ us h ≤ us fin
set_option maxHeartbeats 4000000 in
theorem evL_mono {fin : AH} (hK : ∀ t la st h, K t la st h = some r → Mo fin h) (hFI : ∀ mi As h x h', FI mi As h = some (x, h') → nx h ≤ nx h' ∧ us h ≤ us h') (hFV : ∀ mi As h h', FV mi As h = some h' → nx h ≤ nx h' ∧ us h ≤ us h') (hFL : ∀ mi As h x h', FL mi As h = some (x, h') → nx h ≤ nx h' ∧ us h ≤ us h') (hrt : ∀ v h, rt v h = some r → Mo fin h) :
    ∀ is la st h, evL K FI FV FL SL SC XS rt ft is la st h = some r → Mo fin h := by
  have tr : ∀ {h h' : AH}, nx h ≤ nx h' ∧ us h ≤ us h' → Mo fin h' → Mo fin h := fun q w => ⟨Nat.le_trans q.1 w.1, Nat.le_trans q.2 w.2⟩
  have al1 : ∀ {h : AH} {t n : Nat}, Mo fin (al h t n) → Mo fin h := fun {h t n} w => tr ⟨Nat.le_succ _, Nat.le_add_right _ _⟩ w
  intro is
  induction is with
  | nil => intro la st h hev; exact hK _ _ _ _ hev
  | cons i rest ih =>
    intro la st h hev
    obtain ⟨ins, len, pl, v⟩ := i
    cases ins with
    | iconst n =>
      exact ih _ _ _ hev
    | bipush n =>
      exact ih _ _ _ hev
    | sipush n =>
      exact ih _ _ _ hev
    | ldc_w n =>
      exact ih _ _ _ hev
    | lconst n =>
      exact ih _ _ _ hev
    | ldc2_w n =>
      exact ih _ _ _ hev
    | ldc n =>
      replace hev : (if pl.headD 0 = 0 then evL K FI FV FL SL SC XS rt ft rest la (.int v :: st) h else evL K FI FV FL SL SC XS rt ft rest la (.retAddr (pl.headD 0) :: st) h) = some r := hev
      split at hev <;> exact ih _ _ _ hev
    | iload_n k =>
      obtain ⟨x, -, hev⟩ := lk_some hev
      exact ih _ _ _ hev
    | iload k =>
      obtain ⟨x, -, hev⟩ := lk_some hev
      exact ih _ _ _ hev
    | iinc k n =>
      obtain ⟨x, -, hev⟩ := lk_some hev
      exact ih _ _ _ hev
    | lload_n k =>
      obtain ⟨x, -, hev⟩ := lk_someL hev
      exact ih _ _ _ hev
    | lload k =>
      obtain ⟨x, -, hev⟩ := lk_someL hev
      exact ih _ _ _ hev
    | aload_n k =>
      replace hev : (match (generalizing := false) lk la k with | some (.ref x) => evL K FI FV FL SL SC XS rt ft rest la (.ref x :: st) h | some (.retAddr x) => evL K FI FV FL SL SC XS rt ft rest la (.retAddr x :: st) h | _ => none) = some r := hev
      split at hev <;> first | exact ih _ _ _ hev | (cases hev; done)
    | aload k =>
      replace hev : (match (generalizing := false) lk la k with | some (.ref x) => evL K FI FV FL SL SC XS rt ft rest la (.ref x :: st) h | some (.retAddr x) => evL K FI FV FL SL SC XS rt ft rest la (.retAddr x :: st) h | _ => none) = some r := hev
      split at hev <;> first | exact ih _ _ _ hev | (cases hev; done)
    | istore_n k =>
      replace hev : (match (generalizing := false) st with | .int x :: st => evL K FI FV FL SL SC XS rt ft rest (st1 la k (.int x)) st h | _ => none) = some r := hev
      split at hev <;> first | exact ih _ _ _ hev | (cases hev; done)
    | istore k =>
      replace hev : (match (generalizing := false) st with | .int x :: st => evL K FI FV FL SL SC XS rt ft rest (st1 la k (.int x)) st h | _ => none) = some r := hev
      split at hev <;> first | exact ih _ _ _ hev | (cases hev; done)
    | lstore_n k =>
      replace hev : (match (generalizing := false) st with | .long x :: st => evL K FI FV FL SL SC XS rt ft rest (st2 la k (.long x)) st h | _ => none) = some r := hev
      split at hev <;> first | exact ih _ _ _ hev | (cases hev; done)
    | lstore k =>
      replace hev : (match (generalizing := false) st with | .long x :: st => evL K FI FV FL SL SC XS rt ft rest (st2 la k (.long x)) st h | _ => none) = some r := hev
      split at hev <;> first | exact ih _ _ _ hev | (cases hev; done)
    | astore_n k =>
      replace hev : (match (generalizing := false) st with | .ref x :: st => evL K FI FV FL SL SC XS rt ft rest (st1 la k (.ref x)) st h | _ => none) = some r := hev
      split at hev <;> first | exact ih _ _ _ hev | (cases hev; done)
    | astore k =>
      replace hev : (match (generalizing := false) st with | .ref x :: st => evL K FI FV FL SL SC XS rt ft rest (st1 la k (.ref x)) st h | _ => none) = some r := hev
      split at hev <;> first | exact ih _ _ _ hev | (cases hev; done)
    | idiv =>
      replace hev : (match (generalizing := false) st with | .int y :: .int x :: st => if y = 0 then none else evL K FI FV FL SL SC XS rt ft rest la (.int (x / y) :: st) h | _ => none) = some r := hev
      split at hev
      · exact ih _ _ _ (ite_none hev).2
      · cases hev
    | irem =>
      replace hev : (match (generalizing := false) st with | .int y :: .int x :: st => if y = 0 then none else evL K FI FV FL SL SC XS rt ft rest la (.int (irm x y) :: st) h | _ => none) = some r := hev
      split at hev
      · exact ih _ _ _ (ite_none hev).2
      · cases hev
    | ldiv =>
      replace hev : (match (generalizing := false) st with | .long y :: .long x :: st => if y = 0 then none else evL K FI FV FL SL SC XS rt ft rest la (.long (x / y) :: st) h | _ => none) = some r := hev
      split at hev
      · exact ih _ _ _ (ite_none hev).2
      · cases hev
    | lrem =>
      replace hev : (match (generalizing := false) st with | .long y :: .long x :: st => if y = 0 then none else evL K FI FV FL SL SC XS rt ft rest la (.long (lrm x y) :: st) h | _ => none) = some r := hev
      split at hev
      · exact ih _ _ _ (ite_none hev).2
      · cases hev
    | goto n =>
      exact hK _ _ _ _ hev
    | ifCond cd off =>
      cases cd with
      | eq =>
        replace hev : (match (generalizing := false) st with | .int x :: st => if x = 0 then K (pl.headD 0) la st h else evL K FI FV FL SL SC XS rt ft rest la st h | _ => none) = some r := hev
        split at hev
        · split at hev <;> first | exact ih _ _ _ hev | exact hK _ _ _ _ hev
        · cases hev
      | ne =>
        replace hev : (match (generalizing := false) st with | .int x :: st => if x = 0 then evL K FI FV FL SL SC XS rt ft rest la st h else K (pl.headD 0) la st h | _ => none) = some r := hev
        split at hev
        · split at hev <;> first | exact ih _ _ _ hev | exact hK _ _ _ _ hev
        · cases hev
      | lt =>
        replace hev : (match (generalizing := false) st with | .int x :: st => if x < 0 then K (pl.headD 0) la st h else evL K FI FV FL SL SC XS rt ft rest la st h | _ => none) = some r := hev
        split at hev
        · split at hev <;> first | exact ih _ _ _ hev | exact hK _ _ _ _ hev
        · cases hev
      | ge =>
        replace hev : (match (generalizing := false) st with | .int x :: st => if x < 0 then evL K FI FV FL SL SC XS rt ft rest la st h else K (pl.headD 0) la st h | _ => none) = some r := hev
        split at hev
        · split at hev <;> first | exact ih _ _ _ hev | exact hK _ _ _ _ hev
        · cases hev
      | gt =>
        replace hev : (match (generalizing := false) st with | .int x :: st => if 0 < x then K (pl.headD 0) la st h else evL K FI FV FL SL SC XS rt ft rest la st h | _ => none) = some r := hev
        split at hev
        · split at hev <;> first | exact ih _ _ _ hev | exact hK _ _ _ _ hev
        · cases hev
      | le =>
        replace hev : (match (generalizing := false) st with | .int x :: st => if 0 < x then evL K FI FV FL SL SC XS rt ft rest la st h else K (pl.headD 0) la st h | _ => none) = some r := hev
        split at hev
        · split at hev <;> first | exact ih _ _ _ hev | exact hK _ _ _ _ hev
        · cases hev
    | if_icmp cd off =>
      cases cd with
      | eq =>
        replace hev : (match (generalizing := false) st with | .int y :: .int x :: st => if x = y then K (pl.headD 0) la st h else evL K FI FV FL SL SC XS rt ft rest la st h | _ => none) = some r := hev
        split at hev
        · split at hev <;> first | exact ih _ _ _ hev | exact hK _ _ _ _ hev
        · cases hev
      | ne =>
        replace hev : (match (generalizing := false) st with | .int y :: .int x :: st => if x = y then evL K FI FV FL SL SC XS rt ft rest la st h else K (pl.headD 0) la st h | _ => none) = some r := hev
        split at hev
        · split at hev <;> first | exact ih _ _ _ hev | exact hK _ _ _ _ hev
        · cases hev
      | lt =>
        replace hev : (match (generalizing := false) st with | .int y :: .int x :: st => if x < y then K (pl.headD 0) la st h else evL K FI FV FL SL SC XS rt ft rest la st h | _ => none) = some r := hev
        split at hev
        · split at hev <;> first | exact ih _ _ _ hev | exact hK _ _ _ _ hev
        · cases hev
      | ge =>
        replace hev : (match (generalizing := false) st with | .int y :: .int x :: st => if x < y then evL K FI FV FL SL SC XS rt ft rest la st h else K (pl.headD 0) la st h | _ => none) = some r := hev
        split at hev
        · split at hev <;> first | exact ih _ _ _ hev | exact hK _ _ _ _ hev
        · cases hev
      | gt =>
        replace hev : (match (generalizing := false) st with | .int y :: .int x :: st => if y < x then K (pl.headD 0) la st h else evL K FI FV FL SL SC XS rt ft rest la st h | _ => none) = some r := hev
        split at hev
        · split at hev <;> first | exact ih _ _ _ hev | exact hK _ _ _ _ hev
        · cases hev
      | le =>
        replace hev : (match (generalizing := false) st with | .int y :: .int x :: st => if y < x then evL K FI FV FL SL SC XS rt ft rest la st h else K (pl.headD 0) la st h | _ => none) = some r := hev
        split at hev
        · split at hev <;> first | exact ih _ _ _ hev | exact hK _ _ _ _ hev
        · cases hev
    | ifnull off =>
      replace hev : (match (generalizing := false) st with | .ref a :: st => if a = 0 then K (pl.headD 0) la st h else evL K FI FV FL SL SC XS rt ft rest la st h | _ => none) = some r := hev
      split at hev
      · split at hev <;> first | exact ih _ _ _ hev | exact hK _ _ _ _ hev
      · cases hev
    | ifnonnull off =>
      replace hev : (match (generalizing := false) st with | .ref a :: st => if a = 0 then evL K FI FV FL SL SC XS rt ft rest la st h else K (pl.headD 0) la st h | _ => none) = some r := hev
      split at hev
      · split at hev <;> first | exact ih _ _ _ hev | exact hK _ _ _ _ hev
      · cases hev
    | tableswitch d lo hi offs =>
      replace hev : (match (generalizing := false) st with | .int x :: st => K (swT lo hi pl x) la st h | _ => none) = some r := hev
      split at hev
      · exact hK _ _ _ _ hev
      · cases hev
    | getfield idx =>
      replace hev : (match (generalizing := false) pl with | [ci, k, ty, _] => (match (generalizing := false) st with | .ref a :: st => if (tg h a).1 = ci then (match (generalizing := false) ty with | 1 => evL K FI FV FL SL SC XS rt ft rest la (.long (rL h a k) :: st) h | 2 => evL K FI FV FL SL SC XS rt ft rest la (.ref (rR h a k) :: st) h | _ => evL K FI FV FL SL SC XS rt ft rest la (.int (rI h a k) :: st) h) else none | _ => none) | _ => none) = some r := hev
      split at hev
      · split at hev
        · have hev := (ite_some hev).2
          split at hev <;> exact ih _ _ _ hev
        · cases hev
      · cases hev
    | putfield idx =>
      replace hev : (match (generalizing := false) pl with | [ci, k, ty, _] => (match (generalizing := false) ty with | 0 => (match (generalizing := false) st with | .int x :: .ref a :: st => if (tg h a).1 = ci then evL K FI FV FL SL SC XS rt ft rest la st (wI h a k x) else none | _ => none) | 1 => (match (generalizing := false) st with | .long x :: .ref a :: st => if (tg h a).1 = ci then evL K FI FV FL SL SC XS rt ft rest la st (wL h a k x) else none | _ => none) | 2 => (match (generalizing := false) st with | .ref x :: .ref a :: st => if (tg h a).1 = ci then evL K FI FV FL SL SC XS rt ft rest la st (wR h a k x) else none | _ => none) | _ => (match (generalizing := false) st with | .int x :: .ref a :: st => if (tg h a).1 = ci then (if x &&& 1 = x then evL K FI FV FL SL SC XS rt ft rest la st (wI h a k x) else none) else none | _ => none)) | _ => none) = some r := hev
      split at hev
      · split at hev
        · split at hev
          · exact ih _ _ (wI h _ _ _) (ite_some hev).2
          · cases hev
        · split at hev
          · exact ih _ _ (wL h _ _ _) (ite_some hev).2
          · cases hev
        · split at hev
          · exact ih _ _ (wR h _ _ _) (ite_some hev).2
          · cases hev
        · split at hev
          · exact ih _ _ (wI h _ _ _) (ite_some (ite_some hev).2).2
          · cases hev
      · cases hev
    | new idx =>
      replace hev : (match (generalizing := false) pl with | [ci, n, _] => evL K FI FV FL SL SC XS rt ft rest la (.ref (nx h) :: st) (al h ci n) | _ => none) = some r := hev
      split at hev
      · exact al1 (ih _ _ _ hev)
      · cases hev
    | newarray k =>
      replace hev : (match (generalizing := false) st with | .int n :: st => if n < 0 ∨ 100000 < n.toNatClampNeg then none else evL K FI FV FL SL SC XS rt ft rest la (.ref (nx h) :: st) (al h (pl.headD 0) n.toNatClampNeg) | _ => none) = some r := hev
      split at hev
      · exact al1 (ih _ _ _ (ite_none hev).2)
      · cases hev
    | anewarray k =>
      replace hev : (match (generalizing := false) st with | .int n :: st => if n < 0 ∨ 100000 < n.toNatClampNeg then none else evL K FI FV FL SL SC XS rt ft rest la (.ref (nx h) :: st) (al h 104 n.toNatClampNeg) | _ => none) = some r := hev
      split at hev
      · exact al1 (ih _ _ _ (ite_none hev).2)
      · cases hev
    | arraylength =>
      replace hev : (match (generalizing := false) st with | .retAddr k :: st => if k = 0 then evL K FI FV FL SL SC XS rt ft rest la (.int (Int32.ofNat XS.1) :: st) h else none | _ => none) = some r := hev
      split at hev
      · exact ih _ _ _ (ite_some hev).2
      · cases hev
    | iaload =>
      replace hev : (match (generalizing := false) st with | .int i :: .ref a :: st => if inB h a 100 i then evL K FI FV FL SL SC XS rt ft rest la (.int (rI h a i.toNatClampNeg) :: st) h else none | .int i :: .retAddr k :: st => if k = 0 ∧ ¬ (i < 0 ∨ XS.1 ≤ i.toNatClampNeg) then evL K FI FV FL SL SC XS rt ft rest la (.int (XS.2 i.toNatClampNeg) :: st) h else none | _ => none) = some r := hev
      split at hev
      · exact ih _ _ _ (ite_some hev).2
      · exact ih _ _ _ (ite_some hev).2
      · cases hev
    | baload =>
      replace hev : (match (generalizing := false) st with | .int i :: .ref a :: st => if inB h a (pl.headD 0) i then evL K FI FV FL SL SC XS rt ft rest la (.int (rI h a i.toNatClampNeg) :: st) h else none | _ => none) = some r := hev
      split at hev
      · exact ih _ _ _ (ite_some hev).2
      · cases hev
    | laload =>
      replace hev : (match (generalizing := false) st with | .int i :: .ref a :: st => if inB h a 103 i then evL K FI FV FL SL SC XS rt ft rest la (.long (rL h a i.toNatClampNeg) :: st) h else none | _ => none) = some r := hev
      split at hev
      · exact ih _ _ _ (ite_some hev).2
      · cases hev
    | aaload =>
      replace hev : (match (generalizing := false) st with | .int i :: .ref a :: st => if inB h a 104 i then evL K FI FV FL SL SC XS rt ft rest la (.ref (rR h a i.toNatClampNeg) :: st) h else none | _ => none) = some r := hev
      split at hev
      · exact ih _ _ _ (ite_some hev).2
      · cases hev
    | iastore =>
      replace hev : (match (generalizing := false) st with | .int x :: .int i :: .ref a :: st => if inB h a 100 i then evL K FI FV FL SL SC XS rt ft rest la st (wI h a i.toNatClampNeg x) else none | _ => none) = some r := hev
      split at hev
      · exact ih _ _ (wI h _ _ _) (ite_some hev).2
      · cases hev
    | bastore =>
      replace hev : (match (generalizing := false) st with | .int x :: .int i :: .ref a :: st => if inB h a (pl.headD 0) i then evL K FI FV FL SL SC XS rt ft rest la st (wI h a i.toNatClampNeg (if pl.headD 0 = 101 then x.toInt8.toInt32 else x &&& 1)) else none | _ => none) = some r := hev
      split at hev
      · exact ih _ _ (wI h _ _ _) (ite_some hev).2
      · cases hev
    | lastore =>
      replace hev : (match (generalizing := false) st with | .long x :: .int i :: .ref a :: st => if inB h a 103 i then evL K FI FV FL SL SC XS rt ft rest la st (wL h a i.toNatClampNeg x) else none | _ => none) = some r := hev
      split at hev
      · exact ih _ _ (wL h _ _ _) (ite_some hev).2
      · cases hev
    | aastore =>
      replace hev : (match (generalizing := false) st with | .ref b :: .int i :: .ref a :: st => if inB h a 104 i ∧ (tg h b).1 = pl.headD 0 then evL K FI FV FL SL SC XS rt ft rest la st (wR h a i.toNatClampNeg b) else none | _ => none) = some r := hev
      split at hev
      · exact ih _ _ (wR h _ _ _) (ite_some hev).2
      · cases hev
    | invokespecial idx =>
      replace hev : (match (generalizing := false) pl with | [0, _] => (match (generalizing := false) st with | .ref a :: st => if a = 0 then none else cond (Nat.ble (csum st) 8) (evL K FI FV FL SL SC XS rt ft rest la st h) none | _ => none) | [2, mi, n, _] => (match (generalizing := false) st.drop (n - 1) with | .ref a :: st' => if a = 0 then none else cond (Nat.ble (csum st') 8) ((FV mi (.ref a :: (st.take (n - 1)).reverse) h).bind fun h => evL K FI FV FL SL SC XS rt ft rest la st' h) none | _ => none) | _ => none) = some r := hev
      split at hev
      · split at hev
        · exact ih _ _ _ (cond_some (ite_none hev).2).2
        · cases hev
      · split at hev
        · obtain ⟨h', hF, hev⟩ := bind_some (cond_some (ite_none hev).2).2
          exact tr (hFV _ _ _ _ hF) (ih _ _ _ hev)
        · cases hev
      · cases hev
    | invokestatic idx =>
      replace hev : (match (generalizing := false) pl with | [1, mi, n, _] => cond (Nat.ble n st.length && Nat.ble (csum (st.drop n)) 8) ((FI mi (st.take n).reverse h).bind fun p => evL K FI FV FL SL SC XS rt ft rest la (.int p.1 :: st.drop n) p.2) none | [2, mi, n, _] => cond (Nat.ble n st.length && Nat.ble (csum (st.drop n)) 8) ((FV mi (st.take n).reverse h).bind fun h => evL K FI FV FL SL SC XS rt ft rest la (st.drop n) h) none | [3, mi, n, _] => cond (Nat.ble n st.length && Nat.ble (csum (st.drop n)) 8) ((FL mi (st.take n).reverse h).bind fun p => evL K FI FV FL SL SC XS rt ft rest la (.long p.1 :: st.drop n) p.2) none | [4, _] => (match (generalizing := false) st with | .int n :: .int dp :: .ref d :: .int sp :: .ref s :: st => if ((tg h s).1 = 100 ∧ (tg h d).1 = 100) ∧ (¬ sp < 0 ∧ ¬ dp < 0 ∧ ¬ n < 0) ∧ sp.toNatClampNeg + n.toNatClampNeg ≤ (tg h s).2 ∧ dp.toNatClampNeg + n.toNatClampNeg ≤ (tg h d).2 then cond (Nat.ble (csum st) 8) (evL K FI FV FL SL SC XS rt ft rest la st (cpI h s sp.toNatClampNeg d dp.toNatClampNeg n.toNatClampNeg)) none else none | _ => none) | [5, _] => (match (generalizing := false) st with | .int y :: .int x :: st => cond (Nat.ble (csum st) 8) (evL K FI FV FL SL SC XS rt ft rest la (.int (if x < y then y else x) :: st) h) none | _ => none) | _ => none) = some r := hev
      split at hev
      · obtain ⟨⟨x, h'⟩, hF, hev⟩ := bind_some (cond_some hev).2
        exact tr (hFI _ _ _ _ _ hF) (ih _ _ _ hev)
      · obtain ⟨h', hF, hev⟩ := bind_some (cond_some hev).2
        exact tr (hFV _ _ _ _ hF) (ih _ _ _ hev)
      · obtain ⟨⟨x, h'⟩, hF, hev⟩ := bind_some (cond_some hev).2
        exact tr (hFL _ _ _ _ _ hF) (ih _ _ _ hev)
      · split at hev
        · exact ih _ _ (cpI h _ _ _ _ _) (cond_some (ite_some hev).2).2
        · cases hev
      · split at hev
        · exact ih _ _ _ (cond_some hev).2
        · cases hev
      · cases hev
    | invokevirtual idx =>
      replace hev : (match (generalizing := false) pl with | [1, mi, n, ci, _] => (match (generalizing := false) st.drop (n - 1) with | .ref a :: st' => if (tg h a).1 = ci then cond (Nat.ble (csum st') 8) ((FI mi (.ref a :: (st.take (n - 1)).reverse) h).bind fun p => evL K FI FV FL SL SC XS rt ft rest la (.int p.1 :: st') p.2) none else none | _ => none) | [2, mi, n, ci, _] => (match (generalizing := false) st.drop (n - 1) with | .ref a :: st' => if (tg h a).1 = ci then cond (Nat.ble (csum st') 8) ((FV mi (.ref a :: (st.take (n - 1)).reverse) h).bind fun h => evL K FI FV FL SL SC XS rt ft rest la st' h) none else none | _ => none) | [3, mi, n, ci, _] => (match (generalizing := false) st.drop (n - 1) with | .ref a :: st' => if (tg h a).1 = ci then cond (Nat.ble (csum st') 8) ((FL mi (.ref a :: (st.take (n - 1)).reverse) h).bind fun p => evL K FI FV FL SL SC XS rt ft rest la (.long p.1 :: st') p.2) none else none | _ => none) | [5, _] => (match (generalizing := false) st with | .retAddr k :: st => cond (Nat.ble (csum st) 8) ((SL k).bind fun x => evL K FI FV FL SL SC XS rt ft rest la (.int x :: st) h) none | _ => none) | [6, _] => (match (generalizing := false) st with | .int i :: .retAddr k :: st => cond (Nat.ble (csum st) 8) ((SC k i).bind fun x => evL K FI FV FL SL SC XS rt ft rest la (.int x :: st) h) none | _ => none) | _ => none) = some r := hev
      split at hev
      · split at hev
        · obtain ⟨⟨x, h'⟩, hF, hev⟩ := bind_some (cond_some (ite_some hev).2).2
          exact tr (hFI _ _ _ _ _ hF) (ih _ _ _ hev)
        · cases hev
      · split at hev
        · obtain ⟨h', hF, hev⟩ := bind_some (cond_some (ite_some hev).2).2
          exact tr (hFV _ _ _ _ hF) (ih _ _ _ hev)
        · cases hev
      · split at hev
        · obtain ⟨⟨x, h'⟩, hF, hev⟩ := bind_some (cond_some (ite_some hev).2).2
          exact tr (hFL _ _ _ _ _ hF) (ih _ _ _ hev)
        · cases hev
      · split at hev
        · obtain ⟨x, hF, hev⟩ := bind_some (cond_some hev).2
          exact ih _ _ _ hev
        · cases hev
      · split at hev
        · obtain ⟨x, hF, hev⟩ := bind_some (cond_some hev).2
          exact ih _ _ _ hev
        · cases hev
      · cases hev
    | ireturn =>
      replace hev : (match (generalizing := false) st with | [.int x] => rt (some (.int x)) h | _ => none) = some r := hev
      split at hev
      · exact hrt _ _ hev
      · cases hev
    | lreturn =>
      replace hev : (match (generalizing := false) st with | [.long x] => rt (some (.long x)) h | _ => none) = some r := hev
      split at hev
      · exact hrt _ _ hev
      · cases hev
    | return_ =>
      replace hev : (match (generalizing := false) st with | [] => rt none h | _ => none) = some r := hev
      split at hev
      · exact hrt _ _ hev
      · cases hev
    | iadd =>
      replace hev : (match (generalizing := false) ar .iadd st with | some st => evL K FI FV FL SL SC XS rt ft rest la st h | none => none) = some r := hev
      split at hev
      · exact ih _ _ _ hev
      · cases hev
    | isub =>
      replace hev : (match (generalizing := false) ar .isub st with | some st => evL K FI FV FL SL SC XS rt ft rest la st h | none => none) = some r := hev
      split at hev
      · exact ih _ _ _ hev
      · cases hev
    | imul =>
      replace hev : (match (generalizing := false) ar .imul st with | some st => evL K FI FV FL SL SC XS rt ft rest la st h | none => none) = some r := hev
      split at hev
      · exact ih _ _ _ hev
      · cases hev
    | iand =>
      replace hev : (match (generalizing := false) ar .iand st with | some st => evL K FI FV FL SL SC XS rt ft rest la st h | none => none) = some r := hev
      split at hev
      · exact ih _ _ _ hev
      · cases hev
    | ior =>
      replace hev : (match (generalizing := false) ar .ior st with | some st => evL K FI FV FL SL SC XS rt ft rest la st h | none => none) = some r := hev
      split at hev
      · exact ih _ _ _ hev
      · cases hev
    | ixor =>
      replace hev : (match (generalizing := false) ar .ixor st with | some st => evL K FI FV FL SL SC XS rt ft rest la st h | none => none) = some r := hev
      split at hev
      · exact ih _ _ _ hev
      · cases hev
    | ishl =>
      replace hev : (match (generalizing := false) ar .ishl st with | some st => evL K FI FV FL SL SC XS rt ft rest la st h | none => none) = some r := hev
      split at hev
      · exact ih _ _ _ hev
      · cases hev
    | ishr =>
      replace hev : (match (generalizing := false) ar .ishr st with | some st => evL K FI FV FL SL SC XS rt ft rest la st h | none => none) = some r := hev
      split at hev
      · exact ih _ _ _ hev
      · cases hev
    | iushr =>
      replace hev : (match (generalizing := false) ar .iushr st with | some st => evL K FI FV FL SL SC XS rt ft rest la st h | none => none) = some r := hev
      split at hev
      · exact ih _ _ _ hev
      · cases hev
    | i2b =>
      replace hev : (match (generalizing := false) ar .i2b st with | some st => evL K FI FV FL SL SC XS rt ft rest la st h | none => none) = some r := hev
      split at hev
      · exact ih _ _ _ hev
      · cases hev
    | ladd =>
      replace hev : (match (generalizing := false) ar .ladd st with | some st => evL K FI FV FL SL SC XS rt ft rest la st h | none => none) = some r := hev
      split at hev
      · exact ih _ _ _ hev
      · cases hev
    | lmul =>
      replace hev : (match (generalizing := false) ar .lmul st with | some st => evL K FI FV FL SL SC XS rt ft rest la st h | none => none) = some r := hev
      split at hev
      · exact ih _ _ _ hev
      · cases hev
    | i2l =>
      replace hev : (match (generalizing := false) ar .i2l st with | some st => evL K FI FV FL SL SC XS rt ft rest la st h | none => none) = some r := hev
      split at hev
      · exact ih _ _ _ hev
      · cases hev
    | l2i =>
      replace hev : (match (generalizing := false) ar .l2i st with | some st => evL K FI FV FL SL SC XS rt ft rest la st h | none => none) = some r := hev
      split at hev
      · exact ih _ _ _ hev
      · cases hev
    | lcmp =>
      replace hev : (match (generalizing := false) ar .lcmp st with | some st => evL K FI FV FL SL SC XS rt ft rest la st h | none => none) = some r := hev
      split at hev
      · exact ih _ _ _ hev
      · cases hev
    | dup =>
      replace hev : (match (generalizing := false) ar .dup st with | some st => evL K FI FV FL SL SC XS rt ft rest la st h | none => none) = some r := hev
      split at hev
      · exact ih _ _ _ hev
      · cases hev
    | dup2 =>
      replace hev : (match (generalizing := false) ar .dup2 st with | some st => evL K FI FV FL SL SC XS rt ft rest la st h | none => none) = some r := hev
      split at hev
      · exact ih _ _ _ hev
      · cases hev
    | pop =>
      replace hev : (match (generalizing := false) ar .pop st with | some st => evL K FI FV FL SL SC XS rt ft rest la st h | none => none) = some r := hev
      split at hev
      · exact ih _ _ _ hev
      · cases hev
    | _ => exact nomatch (show (none : Option ρ) = some r from hev)
end MONO
