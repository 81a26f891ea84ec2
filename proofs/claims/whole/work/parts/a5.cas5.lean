/-! ===== the law, cases 42 and on (printed by g/gena1.py) ===== -/
def I_l1403 : List AI := [(.aload_n 1, 1, [], 0), (.aload_n 0, 1, [], 0), (.iload 4, 2, [], 0), (.iconst 1, 1, [], 1), (.iadd, 1, [], 0), (.iaload, 1, [], 0), (.aload_n 0, 1, [], 0), (.iload 4, 2, [], 0), (.iconst 2, 1, [], 2), (.iadd, 1, [], 0), (.iaload, 1, [], 0), (.ifCond .eq 7, 3, [1423], 0), (.iconst 1, 1, [], 1), (.goto 4, 3, [1424], 0)]
theorem ok_l1403 : vBL MT qLen qCh true 14 522 7 "ShadowPagerLaw" "law" code 0 1403 I_l1403 = true := by decide +kernel
theorem ok_l1423 : vBL MT qLen qCh true 14 522 7 "ShadowPagerLaw" "law" code 1424 1423 [(.iconst 0, 1, [], 0)] = true := by decide +kernel
def I_l1424 : List AI := [(.aload_n 0, 1, [], 0), (.iload 4, 2, [], 0), (.iconst 3, 1, [], 3), (.iadd, 1, [], 0), (.iaload, 1, [], 0), (.ifCond .eq 7, 3, [1437], 0), (.iconst 1, 1, [], 1), (.goto 4, 3, [1438], 0)]
theorem ok_l1424 : vBL MT qLen qCh true 14 522 7 "ShadowPagerLaw" "law" code 0 1424 I_l1424 = true := by decide +kernel
theorem ok_l1437 : vBL MT qLen qCh true 14 522 7 "ShadowPagerLaw" "law" code 1438 1437 [(.iconst 0, 1, [], 0)] = true := by decide +kernel
def I_l1438 : List AI := [(.invokevirtual 192, 3, [1, 168, 4, 6, 1127], 0), (.aload_n 2, 1, [], 0), (.aload_n 0, 1, [], 0), (.iload 4, 2, [], 0), (.iconst 1, 1, [], 1), (.iadd, 1, [], 0), (.iaload, 1, [], 0), (.aload_n 0, 1, [], 0), (.iload 4, 2, [], 0), (.iconst 2, 1, [], 2), (.iadd, 1, [], 0), (.iaload, 1, [], 0), (.ifCond .eq 7, 3, [1461], 0), (.iconst 1, 1, [], 1), (.goto 4, 3, [1462], 0)]
theorem ok_l1438 : vBL MT qLen qCh true 14 522 7 "ShadowPagerLaw" "law" code 0 1438 I_l1438 = true := by decide +kernel
theorem ok_l1461 : vBL MT qLen qCh true 14 522 7 "ShadowPagerLaw" "law" code 1462 1461 [(.iconst 0, 1, [], 0)] = true := by decide +kernel
def I_l1462 : List AI := [(.aload_n 0, 1, [], 0), (.iload 4, 2, [], 0), (.iconst 3, 1, [], 3), (.iadd, 1, [], 0), (.iaload, 1, [], 0), (.ifCond .eq 7, 3, [1475], 0), (.iconst 1, 1, [], 1), (.goto 4, 3, [1476], 0)]
theorem ok_l1462 : vBL MT qLen qCh true 14 522 7 "ShadowPagerLaw" "law" code 0 1462 I_l1462 = true := by decide +kernel
theorem ok_l1475 : vBL MT qLen qCh true 14 522 7 "ShadowPagerLaw" "law" code 1476 1475 [(.iconst 0, 1, [], 0)] = true := by decide +kernel
def I_l1476 : List AI := [(.invokevirtual 195, 3, [1, 320, 4, 8, 2026], 0), (.if_icmp .eq 466, 3, [1945], 0), (.iconst 0, 1, [], 0), (.ireturn, 1, [], 0)]
theorem ok_l1476 : vBL MT qLen qCh true 14 522 7 "ShadowPagerLaw" "law" code 0 1476 I_l1476 = true := by decide +kernel
set_option maxRecDepth 100000 in
theorem lc_42 {l : Launch} {D : va_G} {dA : Nat → ClassId} {z : Nat} {sa : Nat → Nat} {Hz : Heap} {L c : Nat} {xs : Nat → Int32} {G : Nat → LA → List Value → AH → Prop} {h : AH} {W : WD} (hC : Clos l D dA z sa Hz L xs G) (hL : L ≤ 3072) (h6 : 6 * c + 6 ≤ L) (hI : IN h W c) (nxt : ∀ h' W', IN h' W' (c + 1) → G 1945 (laC c) [] h') : G 1403 (laC c) [] h := by
  obtain ⟨r, h1, h2, W', e1, e2, t2, hI2⟩ := tw_access (xs (6 * c + 1)) (decide (xs (6 * c + 2) ≠ 0)) (decide (xs (6 * c + 3) ≠ 0)) h W c (by omega) hI
  obtain ⟨FI, hF, f1, f2⟩ := two_FI (n1 := 168) (n2 := 320) (c_X7_access str_ok e1) (c_X9_access str_ok e2) (by decide)
  have t1 := hI.t1
  have g1476 : G 1476 (laC c) [.int (bi (decide (xs (6 * c + 3) ≠ 0))), .int (bi (decide (xs (6 * c + 2) ≠ 0))), .int (xs (6 * c + 1)), .ref 217, .int r] h1 := by
    refine hC.2 FI fV0 fL0 I_l1476 0 1476 _ _ _ hF fv_0 fl_0 ?_ ok_l1476
    show (if (tg h1 217).1 = 8 then (FI 320 [.ref 217, .int (xs (6 * c + 1)), .int (bi (decide (xs (6 * c + 2) ≠ 0))), .int (bi (decide (xs (6 * c + 3) ≠ 0)))] h1).bind (fun q167 => if r = q167.1 then KG G 1945 (laC c) [] q167.2 else rtQ (some (.int ((0 : Int32)))) q167.2) else none) = some ()
    simp only [sld_1 h6 hL, sld_2 h6 hL, sld_3 h6 hL, sld_4 h6 hL, sld_5 h6 hL, t1, t2, f1, f2, Option.bind_some, if_true, lcmp_rr]
    exact KG_of (nxt h2 W' hI2)
  have g1462 : G 1462 (laC c) [.int (bi (decide (xs (6 * c + 2) ≠ 0))), .int (xs (6 * c + 1)), .ref 217, .int r] h1 := by
    refine hC.2 FI fV0 fL0 I_l1462 0 1462 _ _ _ hF fv_0 fl_0 ?_ ok_l1462
    show (sld L xs (ic (6 * c) + (3 : Int32)) (fun w168 => if w168 = 0 then KG G 1475 (laC c) [.int (bi (decide (xs (6 * c + 2) ≠ 0))), .int (xs (6 * c + 1)), .ref 217, .int r] h1 else KG G 1476 (laC c) [.int ((1 : Int32)), .int (bi (decide (xs (6 * c + 2) ≠ 0))), .int (xs (6 * c + 1)), .ref 217, .int r] h1)) = some ()
    simp only [sld_1 h6 hL, sld_2 h6 hL, sld_3 h6 hL, sld_4 h6 hL, sld_5 h6 hL, t1, t2, f1, f2, Option.bind_some, if_true, lcmp_rr]
    exact tern hC ok_l1475 g1476
  have g1438 : G 1438 (laC c) [.int (bi (decide (xs (6 * c + 3) ≠ 0))), .int (bi (decide (xs (6 * c + 2) ≠ 0))), .int (xs (6 * c + 1)), .ref 1] h := by
    refine hC.2 FI fV0 fL0 I_l1438 0 1438 _ _ _ hF fv_0 fl_0 ?_ ok_l1438
    show (if (tg h 1).1 = 6 then (FI 168 [.ref 1, .int (xs (6 * c + 1)), .int (bi (decide (xs (6 * c + 2) ≠ 0))), .int (bi (decide (xs (6 * c + 3) ≠ 0)))] h).bind (fun q169 => sld L xs (ic (6 * c) + (1 : Int32)) (fun w170 => sld L xs (ic (6 * c) + (2 : Int32)) (fun w171 => if w171 = 0 then KG G 1461 (laC c) [.int w170, .ref 217, .int q169.1] q169.2 else KG G 1462 (laC c) [.int ((1 : Int32)), .int w170, .ref 217, .int q169.1] q169.2))) else none) = some ()
    simp only [sld_1 h6 hL, sld_2 h6 hL, sld_3 h6 hL, sld_4 h6 hL, sld_5 h6 hL, t1, t2, f1, f2, Option.bind_some, if_true, lcmp_rr]
    exact tern hC ok_l1461 g1462
  have g1424 : G 1424 (laC c) [.int (bi (decide (xs (6 * c + 2) ≠ 0))), .int (xs (6 * c + 1)), .ref 1] h := by
    refine hC.2 FI fV0 fL0 I_l1424 0 1424 _ _ _ hF fv_0 fl_0 ?_ ok_l1424
    show (sld L xs (ic (6 * c) + (3 : Int32)) (fun w172 => if w172 = 0 then KG G 1437 (laC c) [.int (bi (decide (xs (6 * c + 2) ≠ 0))), .int (xs (6 * c + 1)), .ref 1] h else KG G 1438 (laC c) [.int ((1 : Int32)), .int (bi (decide (xs (6 * c + 2) ≠ 0))), .int (xs (6 * c + 1)), .ref 1] h)) = some ()
    simp only [sld_1 h6 hL, sld_2 h6 hL, sld_3 h6 hL, sld_4 h6 hL, sld_5 h6 hL, t1, t2, f1, f2, Option.bind_some, if_true, lcmp_rr]
    exact tern hC ok_l1437 g1438
  have g1403 : G 1403 (laC c) [] h := by
    refine hC.2 FI fV0 fL0 I_l1403 0 1403 _ _ _ hF fv_0 fl_0 ?_ ok_l1403
    show (sld L xs (ic (6 * c) + (1 : Int32)) (fun w173 => sld L xs (ic (6 * c) + (2 : Int32)) (fun w174 => if w174 = 0 then KG G 1423 (laC c) [.int w173, .ref 1] h else KG G 1424 (laC c) [.int ((1 : Int32)), .int w173, .ref 1] h))) = some ()
    simp only [sld_1 h6 hL, sld_2 h6 hL, sld_3 h6 hL, sld_4 h6 hL, sld_5 h6 hL, t1, t2, f1, f2, Option.bind_some, if_true, lcmp_rr]
    exact tern hC ok_l1423 g1424
  exact g1403
def I_l1484 : List AI := [(.aload_n 1, 1, [], 0), (.aload_n 0, 1, [], 0), (.iload 4, 2, [], 0), (.iconst 1, 1, [], 1), (.iadd, 1, [], 0), (.iaload, 1, [], 0), (.aload_n 0, 1, [], 0), (.iload 4, 2, [], 0), (.iconst 2, 1, [], 2), (.iadd, 1, [], 0), (.iaload, 1, [], 0), (.aload_n 0, 1, [], 0), (.iload 4, 2, [], 0), (.iconst 3, 1, [], 3), (.iadd, 1, [], 0), (.iaload, 1, [], 0), (.aload_n 0, 1, [], 0), (.iload 4, 2, [], 0), (.iconst 4, 1, [], 4), (.iadd, 1, [], 0), (.iaload, 1, [], 0), (.ifCond .eq 7, 3, [1516], 0), (.iconst 1, 1, [], 1), (.goto 4, 3, [1517], 0)]
theorem ok_l1484 : vBL MT qLen qCh true 14 522 7 "ShadowPagerLaw" "law" code 0 1484 I_l1484 = true := by decide +kernel
theorem ok_l1516 : vBL MT qLen qCh true 14 522 7 "ShadowPagerLaw" "law" code 1517 1516 [(.iconst 0, 1, [], 0)] = true := by decide +kernel
def I_l1517 : List AI := [(.invokevirtual 196, 3, [1, 175, 5, 6, 1136], 0), (.aload_n 2, 1, [], 0), (.aload_n 0, 1, [], 0), (.iload 4, 2, [], 0), (.iconst 1, 1, [], 1), (.iadd, 1, [], 0), (.iaload, 1, [], 0), (.aload_n 0, 1, [], 0), (.iload 4, 2, [], 0), (.iconst 2, 1, [], 2), (.iadd, 1, [], 0), (.iaload, 1, [], 0), (.aload_n 0, 1, [], 0), (.iload 4, 2, [], 0), (.iconst 3, 1, [], 3), (.iadd, 1, [], 0), (.iaload, 1, [], 0), (.aload_n 0, 1, [], 0), (.iload 4, 2, [], 0), (.iconst 4, 1, [], 4), (.iadd, 1, [], 0), (.iaload, 1, [], 0), (.ifCond .eq 7, 3, [1552], 0), (.iconst 1, 1, [], 1), (.goto 4, 3, [1553], 0)]
theorem ok_l1517 : vBL MT qLen qCh true 14 522 7 "ShadowPagerLaw" "law" code 0 1517 I_l1517 = true := by decide +kernel
theorem ok_l1552 : vBL MT qLen qCh true 14 522 7 "ShadowPagerLaw" "law" code 1553 1552 [(.iconst 0, 1, [], 0)] = true := by decide +kernel
def I_l1553 : List AI := [(.invokevirtual 200, 3, [1, 322, 5, 8, 2038], 0), (.if_icmp .eq 389, 3, [1945], 0), (.iconst 0, 1, [], 0), (.ireturn, 1, [], 0)]
theorem ok_l1553 : vBL MT qLen qCh true 14 522 7 "ShadowPagerLaw" "law" code 0 1553 I_l1553 = true := by decide +kernel
set_option maxRecDepth 100000 in
theorem lc_43 {l : Launch} {D : va_G} {dA : Nat → ClassId} {z : Nat} {sa : Nat → Nat} {Hz : Heap} {L c : Nat} {xs : Nat → Int32} {G : Nat → LA → List Value → AH → Prop} {h : AH} {W : WD} (hC : Clos l D dA z sa Hz L xs G) (hL : L ≤ 3072) (h6 : 6 * c + 6 ≤ L) (hI : IN h W c) (nxt : ∀ h' W', IN h' W' (c + 1) → G 1945 (laC c) [] h') : G 1484 (laC c) [] h := by
  obtain ⟨r, h1, h2, W', e1, e2, t2, hI2⟩ := tw_store (xs (6 * c + 1)) (xs (6 * c + 2)) (xs (6 * c + 3)) (decide (xs (6 * c + 4) ≠ 0)) h W c (by omega) hI
  obtain ⟨FI, hF, f1, f2⟩ := two_FI (n1 := 175) (n2 := 322) (c_X7_store str_ok e1) (c_X9_store str_ok e2) (by decide)
  have t1 := hI.t1
  have g1553 : G 1553 (laC c) [.int (bi (decide (xs (6 * c + 4) ≠ 0))), .int (xs (6 * c + 3)), .int (xs (6 * c + 2)), .int (xs (6 * c + 1)), .ref 217, .int r] h1 := by
    refine hC.2 FI fV0 fL0 I_l1553 0 1553 _ _ _ hF fv_0 fl_0 ?_ ok_l1553
    show (if (tg h1 217).1 = 8 then (FI 322 [.ref 217, .int (xs (6 * c + 1)), .int (xs (6 * c + 2)), .int (xs (6 * c + 3)), .int (bi (decide (xs (6 * c + 4) ≠ 0)))] h1).bind (fun q175 => if r = q175.1 then KG G 1945 (laC c) [] q175.2 else rtQ (some (.int ((0 : Int32)))) q175.2) else none) = some ()
    simp only [sld_1 h6 hL, sld_2 h6 hL, sld_3 h6 hL, sld_4 h6 hL, sld_5 h6 hL, t1, t2, f1, f2, Option.bind_some, if_true, lcmp_rr]
    exact KG_of (nxt h2 W' hI2)
  have g1517 : G 1517 (laC c) [.int (bi (decide (xs (6 * c + 4) ≠ 0))), .int (xs (6 * c + 3)), .int (xs (6 * c + 2)), .int (xs (6 * c + 1)), .ref 1] h := by
    refine hC.2 FI fV0 fL0 I_l1517 0 1517 _ _ _ hF fv_0 fl_0 ?_ ok_l1517
    show (if (tg h 1).1 = 6 then (FI 175 [.ref 1, .int (xs (6 * c + 1)), .int (xs (6 * c + 2)), .int (xs (6 * c + 3)), .int (bi (decide (xs (6 * c + 4) ≠ 0)))] h).bind (fun q176 => sld L xs (ic (6 * c) + (1 : Int32)) (fun w177 => sld L xs (ic (6 * c) + (2 : Int32)) (fun w178 => sld L xs (ic (6 * c) + (3 : Int32)) (fun w179 => sld L xs (ic (6 * c) + (4 : Int32)) (fun w180 => if w180 = 0 then KG G 1552 (laC c) [.int w179, .int w178, .int w177, .ref 217, .int q176.1] q176.2 else KG G 1553 (laC c) [.int ((1 : Int32)), .int w179, .int w178, .int w177, .ref 217, .int q176.1] q176.2))))) else none) = some ()
    simp only [sld_1 h6 hL, sld_2 h6 hL, sld_3 h6 hL, sld_4 h6 hL, sld_5 h6 hL, t1, t2, f1, f2, Option.bind_some, if_true, lcmp_rr]
    exact tern hC ok_l1552 g1553
  have g1484 : G 1484 (laC c) [] h := by
    refine hC.2 FI fV0 fL0 I_l1484 0 1484 _ _ _ hF fv_0 fl_0 ?_ ok_l1484
    show (sld L xs (ic (6 * c) + (1 : Int32)) (fun w181 => sld L xs (ic (6 * c) + (2 : Int32)) (fun w182 => sld L xs (ic (6 * c) + (3 : Int32)) (fun w183 => sld L xs (ic (6 * c) + (4 : Int32)) (fun w184 => if w184 = 0 then KG G 1516 (laC c) [.int w183, .int w182, .int w181, .ref 1] h else KG G 1517 (laC c) [.int ((1 : Int32)), .int w183, .int w182, .int w181, .ref 1] h))))) = some ()
    simp only [sld_1 h6 hL, sld_2 h6 hL, sld_3 h6 hL, sld_4 h6 hL, sld_5 h6 hL, t1, t2, f1, f2, Option.bind_some, if_true, lcmp_rr]
    exact tern hC ok_l1516 g1517
  exact g1484
def I_l1561 : List AI := [(.aload_n 1, 1, [], 0), (.aload_n 0, 1, [], 0), (.iload 4, 2, [], 0), (.iconst 1, 1, [], 1), (.iadd, 1, [], 0), (.iaload, 1, [], 0), (.invokevirtual 201, 3, [1, 178, 2, 6, 1166], 0), (.aload_n 2, 1, [], 0), (.aload_n 0, 1, [], 0), (.iload 4, 2, [], 0), (.iconst 1, 1, [], 1), (.iadd, 1, [], 0), (.iaload, 1, [], 0), (.invokevirtual 204, 3, [1, 324, 2, 8, 2046], 0), (.if_icmp .eq 364, 3, [1945], 0), (.iconst 0, 1, [], 0), (.ireturn, 1, [], 0)]
theorem ok_l1561 : vBL MT qLen qCh true 14 522 7 "ShadowPagerLaw" "law" code 0 1561 I_l1561 = true := by decide +kernel
set_option maxRecDepth 100000 in
theorem lc_44 {l : Launch} {D : va_G} {dA : Nat → ClassId} {z : Nat} {sa : Nat → Nat} {Hz : Heap} {L c : Nat} {xs : Nat → Int32} {G : Nat → LA → List Value → AH → Prop} {h : AH} {W : WD} (hC : Clos l D dA z sa Hz L xs G) (hL : L ≤ 3072) (h6 : 6 * c + 6 ≤ L) (hI : IN h W c) (nxt : ∀ h' W', IN h' W' (c + 1) → G 1945 (laC c) [] h') : G 1561 (laC c) [] h := by
  obtain ⟨r, h1, h2, W', e1, e2, t2, hI2⟩ := tw_load (xs (6 * c + 1)) h W c (by omega) hI
  obtain ⟨FI, hF, f1, f2⟩ := two_FI (n1 := 178) (n2 := 324) (c_X7_load str_ok e1) (c_X9_load str_ok e2) (by decide)
  have t1 := hI.t1
  have g1561 : G 1561 (laC c) [] h := by
    refine hC.2 FI fV0 fL0 I_l1561 0 1561 _ _ _ hF fv_0 fl_0 ?_ ok_l1561
    show (sld L xs (ic (6 * c) + (1 : Int32)) (fun w185 => if (tg h 1).1 = 6 then (FI 178 [.ref 1, .int w185] h).bind (fun q186 => sld L xs (ic (6 * c) + (1 : Int32)) (fun w187 => if (tg q186.2 217).1 = 8 then (FI 324 [.ref 217, .int w187] q186.2).bind (fun q188 => if q186.1 = q188.1 then KG G 1945 (laC c) [] q188.2 else rtQ (some (.int ((0 : Int32)))) q188.2) else none)) else none)) = some ()
    simp only [sld_1 h6 hL, sld_2 h6 hL, sld_3 h6 hL, sld_4 h6 hL, sld_5 h6 hL, t1, t2, f1, f2, Option.bind_some, if_true, lcmp_rr]
    exact KG_of (nxt h2 W' hI2)
  exact g1561
def I_l1586 : List AI := [(.aload_n 1, 1, [], 0), (.aload_n 0, 1, [], 0), (.iload 4, 2, [], 0), (.iconst 1, 1, [], 1), (.iadd, 1, [], 0), (.iaload, 1, [], 0), (.invokevirtual 205, 3, [1, 180, 2, 6, 1184], 0), (.aload_n 2, 1, [], 0), (.aload_n 0, 1, [], 0), (.iload 4, 2, [], 0), (.iconst 1, 1, [], 1), (.iadd, 1, [], 0), (.iaload, 1, [], 0), (.invokevirtual 208, 3, [1, 325, 2, 8, 2054], 0), (.if_icmp .eq 339, 3, [1945], 0), (.iconst 0, 1, [], 0), (.ireturn, 1, [], 0)]
theorem ok_l1586 : vBL MT qLen qCh true 14 522 7 "ShadowPagerLaw" "law" code 0 1586 I_l1586 = true := by decide +kernel
set_option maxRecDepth 100000 in
theorem lc_45 {l : Launch} {D : va_G} {dA : Nat → ClassId} {z : Nat} {sa : Nat → Nat} {Hz : Heap} {L c : Nat} {xs : Nat → Int32} {G : Nat → LA → List Value → AH → Prop} {h : AH} {W : WD} (hC : Clos l D dA z sa Hz L xs G) (hL : L ≤ 3072) (h6 : 6 * c + 6 ≤ L) (hI : IN h W c) (nxt : ∀ h' W', IN h' W' (c + 1) → G 1945 (laC c) [] h') : G 1586 (laC c) [] h := by
  obtain ⟨r, h1, h2, W', e1, e2, t2, hI2⟩ := tw_flush (xs (6 * c + 1)) h W c (by omega) hI
  obtain ⟨FI, hF, f1, f2⟩ := two_FI (n1 := 180) (n2 := 325) (c_X7_flush str_ok e1) (c_X9_flush str_ok e2) (by decide)
  have t1 := hI.t1
  have g1586 : G 1586 (laC c) [] h := by
    refine hC.2 FI fV0 fL0 I_l1586 0 1586 _ _ _ hF fv_0 fl_0 ?_ ok_l1586
    show (sld L xs (ic (6 * c) + (1 : Int32)) (fun w189 => if (tg h 1).1 = 6 then (FI 180 [.ref 1, .int w189] h).bind (fun q190 => sld L xs (ic (6 * c) + (1 : Int32)) (fun w191 => if (tg q190.2 217).1 = 8 then (FI 325 [.ref 217, .int w191] q190.2).bind (fun q192 => if q190.1 = q192.1 then KG G 1945 (laC c) [] q192.2 else rtQ (some (.int ((0 : Int32)))) q192.2) else none)) else none)) = some ()
    simp only [sld_1 h6 hL, sld_2 h6 hL, sld_3 h6 hL, sld_4 h6 hL, sld_5 h6 hL, t1, t2, f1, f2, Option.bind_some, if_true, lcmp_rr]
    exact KG_of (nxt h2 W' hI2)
  exact g1586
