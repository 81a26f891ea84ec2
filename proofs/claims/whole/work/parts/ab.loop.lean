/-! ===== the law: case 54, the loop, the beginning (printed by g/genab.py) ===== -/
def I_l0 : List AI := [(.new 8, 3, [6, 12, 131], 0), (.dup, 1, [], 0), (.invokespecial 15, 3, [2, 6, 1, 133], 0), (.astore_n 1, 1, [], 0), (.new 16, 3, [8, 41, 1339], 0), (.dup, 1, [], 0), (.invokespecial 18, 3, [2, 198, 1, 1341], 0), (.astore_n 2, 1, [], 0), (.iconst 1, 1, [], 1), (.newarray .long, 2, [103], 0), (.astore_n 3, 1, [], 0), (.iconst 0, 1, [], 0), (.istore 4, 2, [], 0)]
theorem ok_l0 : vBL MT qLen qCh true 14 522 7 "ShadowPagerLaw" "law" code 23 0 I_l0 = true := by decide +kernel
def I_l23 : List AI := [(.iload 4, 2, [], 0), (.aload_n 0, 1, [], 0), (.arraylength, 1, [], 0), (.bipush 6, 2, [], 6), (.isub, 1, [], 0), (.if_icmp .gt 1921, 3, [1951], 0), (.aload_n 0, 1, [], 0), (.iload 4, 2, [], 0), (.iaload, 1, [], 0), (.bipush 63, 2, [], 63), (.iand, 1, [], 0), (.tableswitch 1905 0 56 #[244, 317, 342, 355, 368, 405, 430, 455, 468, 481, 518, 599, 624, 649, 674, 699, 712, 793, 806, 819, 832, 869, 906, 931, 956, 981, 994, 1007, 1032, 1057, 1082, 1107, 1144, 1181, 1218, 1260, 1273, 1298, 1311, 1324, 1337, 1350, 1363, 1444, 1521, 1546, 1571, 1620, 1645, 1710, 1735, 1760, 1773, 1786, 1811, 1867, 1892], 244, [1945, 284, 357, 382, 395, 408, 445, 470, 495, 508, 521, 558, 639, 664, 689, 714, 739, 752, 833, 846, 859, 872, 909, 946, 971, 996, 1021, 1034, 1047, 1072, 1097, 1122, 1147, 1184, 1221, 1258, 1300, 1313, 1338, 1351, 1364, 1377, 1390, 1403, 1484, 1561, 1586, 1611, 1660, 1685, 1750, 1775, 1800, 1813, 1826, 1851, 1907, 1932], 0)]
theorem ok_l23 : vBL MT qLen qCh true 14 522 7 "ShadowPagerLaw" "law" code 0 23 I_l23 = true := by decide +kernel
def I_l1945 : List AI := [(.iinc 4 6, 3, [], 6), (.goto (-1925), 3, [23], 0)]
theorem ok_l1945 : vBL MT qLen qCh true 14 522 7 "ShadowPagerLaw" "law" code 0 1945 I_l1945 = true := by decide +kernel
def I_l1951 : List AI := [(.iconst 1, 1, [], 1), (.ireturn, 1, [], 0)]
theorem ok_l1951 : vBL MT qLen qCh true 14 522 7 "ShadowPagerLaw" "law" code 0 1951 I_l1951 = true := by decide +kernel
def I_l1851 : List AI := [(.aload_n 1, 1, [], 0), (.aload_n 0, 1, [], 0), (.iload 4, 2, [], 0), (.iconst 1, 1, [], 1), (.iadd, 1, [], 0), (.iaload, 1, [], 0), (.aload_n 3, 1, [], 0)]
theorem ok_l1851 : vBL MT qLen qCh true 14 522 7 "ShadowPagerLaw" "law" code 1859 1851 I_l1851 = true := by decide +kernel
def I_l1862 : List AI := [(.istore 5, 2, [], 0), (.aload_n 2, 1, [], 0), (.aload_n 0, 1, [], 0), (.iload 4, 2, [], 0), (.iconst 1, 1, [], 1), (.iadd, 1, [], 0), (.iaload, 1, [], 0), (.invokevirtual 250, 3, [1, 337, 2, 8, 2102], 0), (.istore 6, 2, [], 0), (.aload_n 2, 1, [], 0), (.invokevirtual 251, 3, [1, 199, 1, 8, 1469], 0), (.iload 5, 2, [], 0), (.if_icmp .eq 5, 3, [1887], 0), (.iconst 0, 1, [], 0), (.ireturn, 1, [], 0)]
theorem ok_l1862 : vBL MT qLen qCh true 14 522 7 "ShadowPagerLaw" "law" code 0 1862 I_l1862 = true := by decide +kernel
def I_l1887 : List AI := [(.iload 5, 2, [], 0), (.ifCond .ne 15, 3, [1904], 0), (.aload_n 3, 1, [], 0), (.iconst 0, 1, [], 0), (.laload, 1, [], 0), (.iload 6, 2, [], 0), (.i2l, 1, [], 0), (.lcmp, 1, [], 0), (.ifCond .eq 5, 3, [1904], 0), (.iconst 0, 1, [], 0), (.ireturn, 1, [], 0)]
theorem ok_l1887 : vBL MT qLen qCh true 14 522 7 "ShadowPagerLaw" "law" code 0 1887 I_l1887 = true := by decide +kernel
def I_l1904 : List AI := [(.goto 41, 3, [1945], 0)]
theorem ok_l1904 : vBL MT qLen qCh true 14 522 7 "ShadowPagerLaw" "law" code 0 1904 I_l1904 = true := by decide +kernel
def ledH (W : WD) (v : Int32) (h : AH) : AH := om (ledW W v) (alX h) (fun n => wL h 224 0 (ic n).toInt64)
def LedOK (G : Nat → LA → List Value → AH → Prop) : Prop := ∀ (la : LA) (h : AH) (W : WD) (c : Nat) (v : Int32), IN h W c → G 1862 la [.int (om (ledW W v) 1 (fun _ => 0))] (ledH W v h) → G 1859 la [.ref 224, .int v, .ref 1] h
set_option maxRecDepth 100000 in
theorem led_two {h : AH} {W : WD} {c : Nat} (hI : IN h W c) (v : Int32) : ∃ h2, p_X9_led 217 v (ledH W v h) = some (om (ledW W v) 0 ic, h2) ∧ (tg (ledH W v h) 217).1 = 8 ∧ p_X9_thrown 217 h2 = some (om (ledW W v) 1 (fun _ => 0), h2) ∧ (tg h2 217).1 = 8 ∧ tg h2 224 = (103, 1) ∧ (∀ n, ledW W v = some n → rL h2 224 0 = (ic n).toInt64) ∧ IN h2 W (c + 1) := by
  obtain ⟨S, I, L, ta, tb, a, rfl, H, ha, hM, hX, n1, n2, u1⟩ := hI
  have hY := H.2.1
  have hML : ML S 217 := hY.2.2.2.2.2.2.2.2.2.2.2.2.2.2.2.1
  have key : ∀ (S2 : SH) (L2 : LL), (∀ y, y < nS S → tT S2 y = tT S y) → (∀ y k, tR S2 y k = tR S y k) → nS S ≤ nS S2 → nS S2 ≤ nS S + 1 → uS S2 ≤ uS S + 6 →
      ∃ J, p_X9_led 217 v (hp S2 I L2) = some (om (ledW W v) 0 ic, hp S2 J L2) ∧ p_X9_thrown 217 (hp S2 J L2) = some (om (ledW W v) 1 (fun _ => 0), hp S2 J L2) ∧ (tT S2 217).1 = 8 ∧ tT S2 224 = (103, 1) ∧ IN (hp S2 J L2) W (c + 1) := by
    intro S2 L2 eT eR m1 m2 m3
    have hM2 : LM S2 217 a (vR W) := by
      refine ⟨fun z => ?_, fun z => by rw [eR]; exact hM.2 z⟩
      obtain ⟨l1, l2, l3, l4⟩ := hM.1 z
      exact ⟨by rw [eR]; exact l1, l2, by omega, l4.lc (fun y q1 q2 => eT y (by omega)) (fun k => eR a k)⟩
    have hML2 : ML S2 217 := hML.lc (fun y q1 q2 => eT y (by omega)) (fun k _ _ => eR 217 k)
    obtain ⟨J, e1, e2, hX2, f2⟩ := x_led (L := L2) (show XH S2 I 217 a W c from ⟨hML2, ha, hM2, hX, H.2.2.2⟩) v
    have hV2 := H.2.2.2.up
    exact ⟨J, e1, e2, by rw [hML2.1], by rw [eT 224 (by omega)]; exact hY.2.2.2.2.2.2.2.2.2.2.2.2.2.2.2.2, S2, J, L2, ta, tb, a, rfl, ⟨H.1, hY.lc H.1 (fun y hy => eT y (by omega)) (fun y k _ _ => eR y k) (fun k _ _ => eR 217 k), H.2.2.1.lo H.1 hV2.2.1 hV2.2.2.1 f2, hV2⟩, ha, hM2, hX2, by omega, by omega, by omega⟩
  unfold ledH
  cases hl : ledW W v with
  | none =>
    obtain ⟨J, e1, e2, k1, k2, k3⟩ := key ((nS S + 1, uS S + 6), (fun b => if b = nS S then (9, 0) else tT S b), S.2.2) L (fun y hy => if_neg (Nat.ne_of_lt hy)) (fun _ _ => rfl) (Nat.le_succ _) (Nat.le_refl _) (Nat.le_refl _)
    rw [hl] at e1 e2
    exact ⟨_, e1, k1, e2, k1, k2, fun n hn => (by cases hn), k3⟩
  | some n =>
    obtain ⟨J, e1, e2, k1, k2, k3⟩ := key S (up2 L 224 0 (ic n).toInt64) (fun _ _ => rfl) (fun _ _ => rfl) (Nat.le_refl _) (Nat.le_succ _) (Nat.le_add_right _ _)
    rw [hl] at e1 e2
    exact ⟨_, e1, k1, e2, k1, k2, fun n' hn => by
      cases hn
      show up2 L 224 0 (ic n).toInt64 224 0 = (ic n).toInt64
      unfold up2
      rw [if_pos ⟨rfl, rfl⟩], k3⟩
theorem lcmp_same (x : Int64) : lg_cmp x x = 0 := lcmp_rr

set_option maxRecDepth 100000 in
theorem lc_54 {l : Launch} {D : va_G} {dA : Nat → ClassId} {z : Nat} {sa : Nat → Nat} {Hz : Heap} {L c : Nat} {xs : Nat → Int32} {G : Nat → LA → List Value → AH → Prop} {h : AH} {W : WD} (hC : Clos l D dA z sa Hz L xs G) (hL : L ≤ 3072) (h6 : 6 * c + 6 ≤ L) (hI : IN h W c) (nxt : ∀ h' W', IN h' W' (c + 1) → G 1945 (laC c) [] h') (hLed : LedOK G) : G 1851 (laC c) [] h := by
  obtain ⟨h2, e1, t1, e2, t2, t3, e3, hI2⟩ := led_two hI (xs (6 * c + 1))
  generalize hk : om (ledW W (xs (6 * c + 1))) (1 : Int32) (fun _ => 0) = k9 at *
  generalize hb : om (ledW W (xs (6 * c + 1))) (0 : Int32) ic = b9 at *
  generalize hh : ledH W (xs (6 * c + 1)) h = g9 at *
  obtain ⟨FI, hF, f1, f2⟩ := two_FI (n1 := 337) (n2 := 199) (c_X9_led (l := l) (D := D) (dA := dA) (z := z) (sa := sa) (Hz := Hz) str_ok e1) (c_X9_thrown str_ok e2) (by decide)
  have g1945 : G 1945 [(6, .int b9), (5, .int k9), (0, .retAddr 0), (1, .ref 1), (2, .ref 217), (3, .ref 224), (4, .int (ic (6 * c)))] [] h2 := hC.1 _ _ _ _ _ (nxt h2 W hI2) (fun q hq => List.mem_cons_of_mem _ (List.mem_cons_of_mem _ hq))
  have g1904 : G 1904 [(6, .int b9), (5, .int k9), (0, .retAddr 0), (1, .ref 1), (2, .ref 217), (3, .ref 224), (4, .int (ic (6 * c)))] [] h2 := hC.2 fI0 fV0 fL0 I_l1904 0 1904 _ _ _ fi_0 fv_0 fl_0 (show KG G 1945 [(6, .int b9), (5, .int k9), (0, .retAddr 0), (1, .ref 1), (2, .ref 217), (3, .ref 224), (4, .int (ic (6 * c)))] [] h2 = some () from KG_of g1945) ok_l1904
  have g1887 : G 1887 [(6, .int b9), (5, .int k9), (0, .retAddr 0), (1, .ref 1), (2, .ref 217), (3, .ref 224), (4, .int (ic (6 * c)))] [] h2 := by
    refine hC.2 fI0 fV0 fL0 I_l1887 1904 1887 _ _ _ fi_0 fv_0 fl_0 ?_ ok_l1887
    show (if k9 = 0 then (if inB h2 224 103 0 then (if lg_cmp (rL h2 224 0) b9.toInt64 = 0 then KG G 1904 [(6, .int b9), (5, .int k9), (0, .retAddr 0), (1, .ref 1), (2, .ref 217), (3, .ref 224), (4, .int (ic (6 * c)))] [] h2 else rtQ (some (.int 0)) h2) else none) else KG G 1904 [(6, .int b9), (5, .int k9), (0, .retAddr 0), (1, .ref 1), (2, .ref 217), (3, .ref 224), (4, .int (ic (6 * c)))] [] h2) = some ()
    cases hw : ledW W (xs (6 * c + 1)) with
    | none =>
      rw [hw] at hk
      rw [if_neg (by rw [← hk]; decide)]
      exact KG_of g1904
    | some n =>
      rw [hw] at hk hb
      have hk0 : k9 = 0 := hk.symm
      have hb0 : ic n = b9 := hb
      rw [if_pos hk0, if_pos (by unfold inB; rw [t3]; decide), e3 n hw, if_pos (by rw [← hb0]; exact lcmp_same _)]
      exact KG_of g1904
  have g1862 : G 1862 (laC c) [.int k9] g9 := by
    refine hC.2 FI fV0 fL0 I_l1862 1887 1862 _ _ _ hF fv_0 fl_0 ?_ ok_l1862
    show (sld L xs (ic (6 * c) + 1) (fun w1 => if (tg g9 217).1 = 8 then (FI 337 [.ref 217, .int w1] g9).bind (fun q1 => if (tg q1.2 217).1 = 8 then (FI 199 [.ref 217] q1.2).bind (fun q2 => if q2.1 = k9 then KG G 1887 [(6, .int q1.1), (5, .int k9), (0, .retAddr 0), (1, .ref 1), (2, .ref 217), (3, .ref 224), (4, .int (ic (6 * c)))] [] q2.2 else rtQ (some (.int 0)) q2.2) else none) else none)) = some ()
    simp only [sld_1 h6 hL, t1, t2, f1, f2, Option.bind_some, if_true]
    exact KG_of g1887
  refine hC.2 fI0 fV0 fL0 I_l1851 1859 1851 _ _ _ fi_0 fv_0 fl_0 ?_ ok_l1851
  show (sld L xs (ic (6 * c) + 1) (fun w1 => KG G 1859 (laC c) [.ref 224, .int w1, .ref 1] h)) = some ()
  rw [sld_1 h6 hL]
  refine KG_of (hLed (laC c) h W c (xs (6 * c + 1)) hI ?_)
  rw [hk, hh]
  exact g1862
theorem swT_mem {lo hi : Int} {pl : List Nat} {v : Int32} (h0 : lo ≤ hi) (h : hi - lo + 2 = (pl.length : Int)) : swT lo hi pl v ∈ pl := by
  unfold swT
  split
  · cases pl with
    | nil => simp at h; omega
    | cons a r => exact List.mem_cons_self
  · have hlt : (v.toInt - lo).toNat + 1 < pl.length := by omega
    rw [List.getD_eq_getElem?_getD, List.getElem?_eq_getElem hlt]
    exact List.getElem_mem hlt
theorem len_lt {L c : Nat} (hL : L ≤ 3072) (hc : c ≤ 600) : (Int32.ofNat L - 6 < ic (6 * c)) = (L < 6 * c + 6) := by
  rcases Nat.lt_or_ge L 6 with d | d
  · have e : Int32.ofNat L - 6 < 0 := by
      match L, d with
      | 0, _ => decide
      | 1, _ => decide
      | 2, _ => decide
      | 3, _ => decide
      | 4, _ => decide
      | 5, _ => decide
      | n + 6, d => omega
    refine propext ⟨fun _ => by omega, fun _ => ?_⟩
    have e2 := Int32.lt_iff_toInt_lt.mp e
    refine Int32.lt_iff_toInt_lt.mpr ?_
    rw [ic_toInt (by omega)]
    have e3 : (0 : Int32).toInt = 0 := rfl
    omega
  · rw [show Int32.ofNat L - 6 = ic (L - 6) from ic_sub d, ic_lt (by omega) (by omega)]
    exact propext ⟨fun _ => by omega, fun _ => by omega⟩
section LOOP
variable {l : Launch} {D : va_G} {dA : Nat → ClassId} {z : Nat} {sa : Nat → Nat} {Hz : Heap} {L : Nat} {xs : Nat → Int32} {G : Nat → LA → List Value → AH → Prop}
set_option maxRecDepth 100000 in
theorem lw_case (hC : Clos l D dA z sa Hz L xs G) (hLed : LedOK G) (hL : L ≤ 3072) {c : Nat} {h : AH} {W : WD} (h6 : 6 * c + 6 ≤ L) (hI : IN h W c) (nxt : ∀ h' W', IN h' W' (c + 1) → G 1945 (laC c) [] h') (nxt0 : G 1945 (laC c) [] h) : ∀ t ∈ ([1945, 284, 357, 382, 395, 408, 445, 470, 495, 508, 521, 558, 639, 664, 689, 714, 739, 752, 833, 846, 859, 872, 909, 946, 971, 996, 1021, 1034, 1047, 1072, 1097, 1122, 1147, 1184, 1221, 1258, 1300, 1313, 1338, 1351, 1364, 1377, 1390, 1403, 1484, 1561, 1586, 1611, 1660, 1685, 1750, 1775, 1800, 1813, 1826, 1851, 1907, 1932] : List Nat), G t (laC c) [] h :=
  List.forall_mem_cons.mpr ⟨nxt0, List.forall_mem_cons.mpr ⟨(lc_0 hC hL h6 hI nxt), List.forall_mem_cons.mpr ⟨(lc_1 hC hL h6 hI nxt), List.forall_mem_cons.mpr ⟨(lc_2 hC hL h6 hI nxt), List.forall_mem_cons.mpr ⟨(lc_3 hC hL h6 hI nxt), List.forall_mem_cons.mpr ⟨(lc_4 hC hL h6 hI nxt), List.forall_mem_cons.mpr ⟨(lc_5 hC hL h6 hI nxt), List.forall_mem_cons.mpr ⟨(lc_6 hC hL h6 hI nxt), List.forall_mem_cons.mpr ⟨(lc_7 hC hL h6 hI nxt), List.forall_mem_cons.mpr ⟨(lc_8 hC hL h6 hI nxt), List.forall_mem_cons.mpr ⟨(lc_9 hC hL h6 hI nxt), List.forall_mem_cons.mpr ⟨(lc_10 hC hL h6 hI nxt), List.forall_mem_cons.mpr ⟨(lc_11 hC hL h6 hI nxt), List.forall_mem_cons.mpr ⟨(lc_12 hC hL h6 hI nxt), List.forall_mem_cons.mpr ⟨(lc_13 hC hL h6 hI nxt), List.forall_mem_cons.mpr ⟨(lc_14 hC hL h6 hI nxt), List.forall_mem_cons.mpr ⟨(lc_15 hC hL h6 hI nxt), List.forall_mem_cons.mpr ⟨(lc_16 hC hL h6 hI nxt), List.forall_mem_cons.mpr ⟨(lc_17 hC hL h6 hI nxt), List.forall_mem_cons.mpr ⟨(lc_18 hC hL h6 hI nxt), List.forall_mem_cons.mpr ⟨(lc_19 hC hL h6 hI nxt), List.forall_mem_cons.mpr ⟨(lc_20 hC hL h6 hI nxt), List.forall_mem_cons.mpr ⟨(lc_21 hC hL h6 hI nxt), List.forall_mem_cons.mpr ⟨(lc_22 hC hL h6 hI nxt), List.forall_mem_cons.mpr ⟨(lc_23 hC hL h6 hI nxt), List.forall_mem_cons.mpr ⟨(lc_24 hC hL h6 hI nxt), List.forall_mem_cons.mpr ⟨(lc_25 hC hL h6 hI nxt), List.forall_mem_cons.mpr ⟨(lc_26 hC hL h6 hI nxt), List.forall_mem_cons.mpr ⟨(lc_27 hC hL h6 hI nxt), List.forall_mem_cons.mpr ⟨(lc_28 hC hL h6 hI nxt), List.forall_mem_cons.mpr ⟨(lc_29 hC hL h6 hI nxt), List.forall_mem_cons.mpr ⟨(lc_30 hC hL h6 hI nxt), List.forall_mem_cons.mpr ⟨(lc_31 hC hL h6 hI nxt), List.forall_mem_cons.mpr ⟨(lc_32 hC hL h6 hI nxt), List.forall_mem_cons.mpr ⟨(lc_33 hC hL h6 hI nxt), List.forall_mem_cons.mpr ⟨(lc_34 hC hL h6 hI nxt), List.forall_mem_cons.mpr ⟨(lc_35 hC hL h6 hI nxt), List.forall_mem_cons.mpr ⟨(lc_36 hC hL h6 hI nxt), List.forall_mem_cons.mpr ⟨(lc_37 hC hL h6 hI nxt), List.forall_mem_cons.mpr ⟨(lc_38 hC hL h6 hI nxt), List.forall_mem_cons.mpr ⟨(lc_39 hC hL h6 hI nxt), List.forall_mem_cons.mpr ⟨(lc_40 hC hL h6 hI nxt), List.forall_mem_cons.mpr ⟨(lc_41 hC hL h6 hI nxt), List.forall_mem_cons.mpr ⟨(lc_42 hC hL h6 hI nxt), List.forall_mem_cons.mpr ⟨(lc_43 hC hL h6 hI nxt), List.forall_mem_cons.mpr ⟨(lc_44 hC hL h6 hI nxt), List.forall_mem_cons.mpr ⟨(lc_45 hC hL h6 hI nxt), List.forall_mem_cons.mpr ⟨(lc_46 hC hL h6 hI nxt), List.forall_mem_cons.mpr ⟨(lc_47 hC hL h6 hI nxt), List.forall_mem_cons.mpr ⟨(lc_48 hC hL h6 hI nxt), List.forall_mem_cons.mpr ⟨(lc_49 hC hL h6 hI nxt), List.forall_mem_cons.mpr ⟨(lc_50 hC hL h6 hI nxt), List.forall_mem_cons.mpr ⟨(lc_51 hC hL h6 hI nxt), List.forall_mem_cons.mpr ⟨(lc_52 hC hL h6 hI nxt), List.forall_mem_cons.mpr ⟨(lc_53 hC hL h6 hI nxt), List.forall_mem_cons.mpr ⟨(lc_54 hC hL h6 hI nxt hLed), List.forall_mem_cons.mpr ⟨(lc_55 hC hL h6 hI nxt), List.forall_mem_cons.mpr ⟨(lc_56 hC hL h6 hI nxt), fun _ hq => nomatch hq⟩⟩⟩⟩⟩⟩⟩⟩⟩⟩⟩⟩⟩⟩⟩⟩⟩⟩⟩⟩⟩⟩⟩⟩⟩⟩⟩⟩⟩⟩⟩⟩⟩⟩⟩⟩⟩⟩⟩⟩⟩⟩⟩⟩⟩⟩⟩⟩⟩⟩⟩⟩⟩⟩⟩⟩⟩⟩
set_option maxRecDepth 100000 in
theorem lw_loop (hC : Clos l D dA z sa Hz L xs G) (hLed : LedOK G) (hL : L ≤ 3072) : ∀ (n c : Nat) (h : AH) (W : WD), L < 6 * c + 6 * n → 6 * c ≤ L + 6 → IN h W c → G 23 (laC c) [] h := by
  intro n
  induction n with
  | zero =>
    intro c h W h1 h2 hI
    refine hC.2 fI0 fV0 fL0 I_l23 0 23 _ _ _ fi_0 fv_0 fl_0 ?_ ok_l23
    show (if Int32.ofNat L - 6 < ic (6 * c) then KG G 1951 (laC c) [] h else sld L xs (ic (6 * c)) (fun w1 => KG G (swT 0 56 [1945, 284, 357, 382, 395, 408, 445, 470, 495, 508, 521, 558, 639, 664, 689, 714, 739, 752, 833, 846, 859, 872, 909, 946, 971, 996, 1021, 1034, 1047, 1072, 1097, 1122, 1147, 1184, 1221, 1258, 1300, 1313, 1338, 1351, 1364, 1377, 1390, 1403, 1484, 1561, 1586, 1611, 1660, 1685, 1750, 1775, 1800, 1813, 1826, 1851, 1907, 1932] (w1 &&& 63)) (laC c) [] h)) = some ()
    rw [if_pos (by rw [len_lt hL (by omega)]; omega)]
    exact KG_of (hC.2 fI0 fV0 fL0 I_l1951 0 1951 _ _ _ fi_0 fv_0 fl_0 (show rtQ (some (.int 1)) h = some () from if_pos ⟨rfl, hI.room (by omega)⟩) ok_l1951)
  | succ n ih =>
    intro c h W h1 h2 hI
    refine hC.2 fI0 fV0 fL0 I_l23 0 23 _ _ _ fi_0 fv_0 fl_0 ?_ ok_l23
    show (if Int32.ofNat L - 6 < ic (6 * c) then KG G 1951 (laC c) [] h else sld L xs (ic (6 * c)) (fun w1 => KG G (swT 0 56 [1945, 284, 357, 382, 395, 408, 445, 470, 495, 508, 521, 558, 639, 664, 689, 714, 739, 752, 833, 846, 859, 872, 909, 946, 971, 996, 1021, 1034, 1047, 1072, 1097, 1122, 1147, 1184, 1221, 1258, 1300, 1313, 1338, 1351, 1364, 1377, 1390, 1403, 1484, 1561, 1586, 1611, 1660, 1685, 1750, 1775, 1800, 1813, 1826, 1851, 1907, 1932] (w1 &&& 63)) (laC c) [] h)) = some ()
    by_cases d : L < 6 * c + 6
    · rw [if_pos (by rw [len_lt hL (by omega)]; exact d)]
      exact KG_of (hC.2 fI0 fV0 fL0 I_l1951 0 1951 _ _ _ fi_0 fv_0 fl_0 (show rtQ (some (.int 1)) h = some () from if_pos ⟨rfl, hI.room (by omega)⟩) ok_l1951)
    · have h6 : 6 * c + 6 ≤ L := by omega
      have nxt : ∀ h' W', IN h' W' (c + 1) → G 1945 (laC c) [] h' := by
        intro h' W' hI'
        refine hC.2 fI0 fV0 fL0 I_l1945 0 1945 _ _ _ fi_0 fv_0 fl_0 ?_ ok_l1945
        show KG G 23 [(4, .int (ic (6 * c) + 6)), (0, .retAddr 0), (1, .ref 1), (2, .ref 217), (3, .ref 224)] [] h' = some ()
        refine KG_of (hC.1 _ _ _ _ _ (ih (c + 1) h' W' (by omega) (by omega) hI') ?_)
        rw [show ic (6 * c) + 6 = ic (6 * (c + 1)) from (ic_add _ 6).trans (congrArg ic (by omega))]
        exact List.forall_mem_cons.mpr ⟨by simp, List.forall_mem_cons.mpr ⟨by simp, List.forall_mem_cons.mpr ⟨by simp, List.forall_mem_cons.mpr ⟨by simp, List.forall_mem_cons.mpr ⟨by simp, fun _ hq => nomatch hq⟩⟩⟩⟩⟩
      rw [if_neg (by rw [len_lt hL (by omega)]; exact d), sld_0 h6 hL]
      exact KG_of (lw_case hC hLed hL h6 hI nxt (nxt h W hI.up) _ (swT_mem (by decide) rfl))
set_option maxRecDepth 100000 in
theorem lw_go (hC : Clos l D dA z sa Hz L xs G) (hLed : LedOK G) (hL : L ≤ 3072) : G 0 [(0, .retAddr 0)] [] h00 := by
  obtain ⟨h1, h2, e1, n1, e2, n2, hI⟩ := in_start
  obtain ⟨FV, hF, f1, f2⟩ := two_FV (n1 := 6) (n2 := 198) (c_X7_init (l := l) (D := D) (dA := dA) (z := z) (sa := sa) (Hz := Hz) str_ok e1) (c_X9_init str_ok e2) (by decide)
  have g23 := lw_loop hC hLed hL (L + 1) 0 _ _ (by omega) (by omega) hI
  refine hC.2 fI0 FV fL0 I_l0 23 0 _ _ _ fi_0 hF fl_0 ?_ ok_l0
  show (FV 6 [.ref 1] (al h00 6 12)).bind (fun h1 => if nx h1 = 0 then none else (FV 198 [.ref (nx h1)] (al h1 8 41)).bind (fun h2 => KG G 23 [(4, .int 0), (3, .ref (nx h2)), (2, .ref (nx h1)), (1, .ref 1), (0, .retAddr 0)] [] (al h2 103 1))) = some ()
  simp only [f1, Option.bind_some, n1, f2, n2]
  rw [if_neg (by decide)]
  exact KG_of (hC.1 _ _ _ _ _ g23 (List.forall_mem_cons.mpr ⟨by simp, List.forall_mem_cons.mpr ⟨by simp, List.forall_mem_cons.mpr ⟨by simp, List.forall_mem_cons.mpr ⟨by simp, List.forall_mem_cons.mpr ⟨by simp [ic_zero], fun _ hq => nomatch hq⟩⟩⟩⟩⟩))
end LOOP

