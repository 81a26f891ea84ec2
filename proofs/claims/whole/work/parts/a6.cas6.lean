/-! ===== the law, cases 46 and on (printed by g/gena1.py) ===== -/
def I_l1611 : List AI := [(.aload_n 1, 1, [], 0), (.aload_n 0, 1, [], 0), (.iload 4, 2, [], 0), (.iconst 1, 1, [], 1), (.iadd, 1, [], 0), (.iaload, 1, [], 0), (.aload_n 0, 1, [], 0), (.iload 4, 2, [], 0), (.iconst 2, 1, [], 2), (.iadd, 1, [], 0), (.iaload, 1, [], 0), (.aload_n 0, 1, [], 0), (.iload 4, 2, [], 0), (.iconst 3, 1, [], 3), (.iadd, 1, [], 0), (.iaload, 1, [], 0), (.invokevirtual 209, 3, [1, 183, 4, 6, 1192], 0), (.aload_n 2, 1, [], 0), (.aload_n 0, 1, [], 0), (.iload 4, 2, [], 0), (.iconst 1, 1, [], 1), (.iadd, 1, [], 0), (.iaload, 1, [], 0), (.aload_n 0, 1, [], 0), (.iload 4, 2, [], 0), (.iconst 2, 1, [], 2), (.iadd, 1, [], 0), (.iaload, 1, [], 0), (.aload_n 0, 1, [], 0), (.iload 4, 2, [], 0), (.iconst 3, 1, [], 3), (.iadd, 1, [], 0), (.iaload, 1, [], 0), (.invokevirtual 213, 3, [1, 327, 4, 8, 2058], 0), (.if_icmp .eq 290, 3, [1945], 0), (.iconst 0, 1, [], 0), (.ireturn, 1, [], 0)]
theorem ok_l1611 : vBL MT qLen qCh true 14 522 7 "ShadowPagerLaw" "law" code 0 1611 I_l1611 = true := by decide +kernel
set_option maxRecDepth 100000 in
theorem lc_46 {l : Launch} {D : va_G} {dA : Nat → ClassId} {z : Nat} {sa : Nat → Nat} {Hz : Heap} {L c : Nat} {xs : Nat → Int32} {G : Nat → LA → List Value → AH → Prop} {h : AH} {W : WD} (hC : Clos l D dA z sa Hz L xs G) (hL : L ≤ 3072) (h6 : 6 * c + 6 ≤ L) (hI : IN h W c) (nxt : ∀ h' W', IN h' W' (c + 1) → G 1945 (laC c) [] h') : G 1611 (laC c) [] h := by
  obtain ⟨r, h1, h2, W', e1, e2, t2, hI2⟩ := tw_device (xs (6 * c + 1)) (xs (6 * c + 2)) (xs (6 * c + 3)) h W c (by omega) hI
  obtain ⟨FI, hF, f1, f2⟩ := two_FI (n1 := 183) (n2 := 327) (c_X7_device str_ok e1) (c_X9_device str_ok e2) (by decide)
  have t1 := hI.t1
  have g1611 : G 1611 (laC c) [] h := by
    refine hC.2 FI fV0 fL0 I_l1611 0 1611 _ _ _ hF fv_0 fl_0 ?_ ok_l1611
    show (sld L xs (ic (6 * c) + (1 : Int32)) (fun w193 => sld L xs (ic (6 * c) + (2 : Int32)) (fun w194 => sld L xs (ic (6 * c) + (3 : Int32)) (fun w195 => if (tg h 1).1 = 6 then (FI 183 [.ref 1, .int w193, .int w194, .int w195] h).bind (fun q196 => sld L xs (ic (6 * c) + (1 : Int32)) (fun w197 => sld L xs (ic (6 * c) + (2 : Int32)) (fun w198 => sld L xs (ic (6 * c) + (3 : Int32)) (fun w199 => if (tg q196.2 217).1 = 8 then (FI 327 [.ref 217, .int w197, .int w198, .int w199] q196.2).bind (fun q200 => if q196.1 = q200.1 then KG G 1945 (laC c) [] q200.2 else rtQ (some (.int ((0 : Int32)))) q200.2) else none)))) else none)))) = some ()
    simp only [sld_1 h6 hL, sld_2 h6 hL, sld_3 h6 hL, sld_4 h6 hL, sld_5 h6 hL, t1, t2, f1, f2, Option.bind_some, if_true, lcmp_rr]
    exact KG_of (nxt h2 W' hI2)
  exact g1611
def I_l1660 : List AI := [(.aload_n 1, 1, [], 0), (.aload_n 0, 1, [], 0), (.iload 4, 2, [], 0), (.iconst 1, 1, [], 1), (.iadd, 1, [], 0), (.iaload, 1, [], 0), (.invokevirtual 214, 3, [1, 186, 2, 6, 1206], 0), (.aload_n 2, 1, [], 0), (.aload_n 0, 1, [], 0), (.iload 4, 2, [], 0), (.iconst 1, 1, [], 1), (.iadd, 1, [], 0), (.iaload, 1, [], 0), (.invokevirtual 217, 3, [1, 328, 2, 8, 2066], 0), (.if_icmp .eq 265, 3, [1945], 0), (.iconst 0, 1, [], 0), (.ireturn, 1, [], 0)]
theorem ok_l1660 : vBL MT qLen qCh true 14 522 7 "ShadowPagerLaw" "law" code 0 1660 I_l1660 = true := by decide +kernel
set_option maxRecDepth 100000 in
theorem lc_47 {l : Launch} {D : va_G} {dA : Nat → ClassId} {z : Nat} {sa : Nat → Nat} {Hz : Heap} {L c : Nat} {xs : Nat → Int32} {G : Nat → LA → List Value → AH → Prop} {h : AH} {W : WD} (hC : Clos l D dA z sa Hz L xs G) (hL : L ≤ 3072) (h6 : 6 * c + 6 ≤ L) (hI : IN h W c) (nxt : ∀ h' W', IN h' W' (c + 1) → G 1945 (laC c) [] h') : G 1660 (laC c) [] h := by
  obtain ⟨r, h1, h2, W', e1, e2, t2, hI2⟩ := tw_unmap (xs (6 * c + 1)) h W c (by omega) hI
  obtain ⟨FI, hF, f1, f2⟩ := two_FI (n1 := 186) (n2 := 328) (c_X7_unmap str_ok e1) (c_X9_unmap str_ok e2) (by decide)
  have t1 := hI.t1
  have g1660 : G 1660 (laC c) [] h := by
    refine hC.2 FI fV0 fL0 I_l1660 0 1660 _ _ _ hF fv_0 fl_0 ?_ ok_l1660
    show (sld L xs (ic (6 * c) + (1 : Int32)) (fun w201 => if (tg h 1).1 = 6 then (FI 186 [.ref 1, .int w201] h).bind (fun q202 => sld L xs (ic (6 * c) + (1 : Int32)) (fun w203 => if (tg q202.2 217).1 = 8 then (FI 328 [.ref 217, .int w203] q202.2).bind (fun q204 => if q202.1 = q204.1 then KG G 1945 (laC c) [] q204.2 else rtQ (some (.int ((0 : Int32)))) q204.2) else none)) else none)) = some ()
    simp only [sld_1 h6 hL, sld_2 h6 hL, sld_3 h6 hL, sld_4 h6 hL, sld_5 h6 hL, t1, t2, f1, f2, Option.bind_some, if_true, lcmp_rr]
    exact KG_of (nxt h2 W' hI2)
  exact g1660
def I_l1685 : List AI := [(.aload_n 1, 1, [], 0), (.aload_n 0, 1, [], 0), (.iload 4, 2, [], 0), (.iconst 1, 1, [], 1), (.iadd, 1, [], 0), (.iaload, 1, [], 0), (.aload_n 0, 1, [], 0), (.iload 4, 2, [], 0), (.iconst 2, 1, [], 2), (.iadd, 1, [], 0), (.iaload, 1, [], 0), (.aload_n 0, 1, [], 0), (.iload 4, 2, [], 0), (.iconst 3, 1, [], 3), (.iadd, 1, [], 0), (.iaload, 1, [], 0), (.ifCond .eq 7, 3, [1711], 0), (.iconst 1, 1, [], 1), (.goto 4, 3, [1712], 0)]
theorem ok_l1685 : vBL MT qLen qCh true 14 522 7 "ShadowPagerLaw" "law" code 0 1685 I_l1685 = true := by decide +kernel
theorem ok_l1711 : vBL MT qLen qCh true 14 522 7 "ShadowPagerLaw" "law" code 1712 1711 [(.iconst 0, 1, [], 0)] = true := by decide +kernel
def I_l1712 : List AI := [(.invokevirtual 218, 3, [1, 188, 4, 6, 1218], 0), (.aload_n 2, 1, [], 0), (.aload_n 0, 1, [], 0), (.iload 4, 2, [], 0), (.iconst 1, 1, [], 1), (.iadd, 1, [], 0), (.iaload, 1, [], 0), (.aload_n 0, 1, [], 0), (.iload 4, 2, [], 0), (.iconst 2, 1, [], 2), (.iadd, 1, [], 0), (.iaload, 1, [], 0), (.aload_n 0, 1, [], 0), (.iload 4, 2, [], 0), (.iconst 3, 1, [], 3), (.iadd, 1, [], 0), (.iaload, 1, [], 0), (.ifCond .eq 7, 3, [1741], 0), (.iconst 1, 1, [], 1), (.goto 4, 3, [1742], 0)]
theorem ok_l1712 : vBL MT qLen qCh true 14 522 7 "ShadowPagerLaw" "law" code 0 1712 I_l1712 = true := by decide +kernel
theorem ok_l1741 : vBL MT qLen qCh true 14 522 7 "ShadowPagerLaw" "law" code 1742 1741 [(.iconst 0, 1, [], 0)] = true := by decide +kernel
def I_l1742 : List AI := [(.invokevirtual 222, 3, [1, 331, 4, 8, 2070], 0), (.if_icmp .eq 200, 3, [1945], 0), (.iconst 0, 1, [], 0), (.ireturn, 1, [], 0)]
theorem ok_l1742 : vBL MT qLen qCh true 14 522 7 "ShadowPagerLaw" "law" code 0 1742 I_l1742 = true := by decide +kernel
set_option maxRecDepth 100000 in
theorem lc_48 {l : Launch} {D : va_G} {dA : Nat → ClassId} {z : Nat} {sa : Nat → Nat} {Hz : Heap} {L c : Nat} {xs : Nat → Int32} {G : Nat → LA → List Value → AH → Prop} {h : AH} {W : WD} (hC : Clos l D dA z sa Hz L xs G) (hL : L ≤ 3072) (h6 : 6 * c + 6 ≤ L) (hI : IN h W c) (nxt : ∀ h' W', IN h' W' (c + 1) → G 1945 (laC c) [] h') : G 1685 (laC c) [] h := by
  obtain ⟨r, h1, h2, W', e1, e2, t2, hI2⟩ := tw_give (xs (6 * c + 1)) (xs (6 * c + 2)) (decide (xs (6 * c + 3) ≠ 0)) h W c (by omega) hI
  obtain ⟨FI, hF, f1, f2⟩ := two_FI (n1 := 188) (n2 := 331) (c_X7_give str_ok e1) (c_X9_give str_ok e2) (by decide)
  have t1 := hI.t1
  have g1742 : G 1742 (laC c) [.int (bi (decide (xs (6 * c + 3) ≠ 0))), .int (xs (6 * c + 2)), .int (xs (6 * c + 1)), .ref 217, .int r] h1 := by
    refine hC.2 FI fV0 fL0 I_l1742 0 1742 _ _ _ hF fv_0 fl_0 ?_ ok_l1742
    show (if (tg h1 217).1 = 8 then (FI 331 [.ref 217, .int (xs (6 * c + 1)), .int (xs (6 * c + 2)), .int (bi (decide (xs (6 * c + 3) ≠ 0)))] h1).bind (fun q205 => if r = q205.1 then KG G 1945 (laC c) [] q205.2 else rtQ (some (.int ((0 : Int32)))) q205.2) else none) = some ()
    simp only [sld_1 h6 hL, sld_2 h6 hL, sld_3 h6 hL, sld_4 h6 hL, sld_5 h6 hL, t1, t2, f1, f2, Option.bind_some, if_true, lcmp_rr]
    exact KG_of (nxt h2 W' hI2)
  have g1712 : G 1712 (laC c) [.int (bi (decide (xs (6 * c + 3) ≠ 0))), .int (xs (6 * c + 2)), .int (xs (6 * c + 1)), .ref 1] h := by
    refine hC.2 FI fV0 fL0 I_l1712 0 1712 _ _ _ hF fv_0 fl_0 ?_ ok_l1712
    show (if (tg h 1).1 = 6 then (FI 188 [.ref 1, .int (xs (6 * c + 1)), .int (xs (6 * c + 2)), .int (bi (decide (xs (6 * c + 3) ≠ 0)))] h).bind (fun q206 => sld L xs (ic (6 * c) + (1 : Int32)) (fun w207 => sld L xs (ic (6 * c) + (2 : Int32)) (fun w208 => sld L xs (ic (6 * c) + (3 : Int32)) (fun w209 => if w209 = 0 then KG G 1741 (laC c) [.int w208, .int w207, .ref 217, .int q206.1] q206.2 else KG G 1742 (laC c) [.int ((1 : Int32)), .int w208, .int w207, .ref 217, .int q206.1] q206.2)))) else none) = some ()
    simp only [sld_1 h6 hL, sld_2 h6 hL, sld_3 h6 hL, sld_4 h6 hL, sld_5 h6 hL, t1, t2, f1, f2, Option.bind_some, if_true, lcmp_rr]
    exact tern hC ok_l1741 g1742
  have g1685 : G 1685 (laC c) [] h := by
    refine hC.2 FI fV0 fL0 I_l1685 0 1685 _ _ _ hF fv_0 fl_0 ?_ ok_l1685
    show (sld L xs (ic (6 * c) + (1 : Int32)) (fun w210 => sld L xs (ic (6 * c) + (2 : Int32)) (fun w211 => sld L xs (ic (6 * c) + (3 : Int32)) (fun w212 => if w212 = 0 then KG G 1711 (laC c) [.int w211, .int w210, .ref 1] h else KG G 1712 (laC c) [.int ((1 : Int32)), .int w211, .int w210, .ref 1] h)))) = some ()
    simp only [sld_1 h6 hL, sld_2 h6 hL, sld_3 h6 hL, sld_4 h6 hL, sld_5 h6 hL, t1, t2, f1, f2, Option.bind_some, if_true, lcmp_rr]
    exact tern hC ok_l1711 g1712
  exact g1685
def I_l1750 : List AI := [(.aload_n 1, 1, [], 0), (.aload_n 0, 1, [], 0), (.iload 4, 2, [], 0), (.iconst 1, 1, [], 1), (.iadd, 1, [], 0), (.iaload, 1, [], 0), (.invokevirtual 223, 3, [1, 190, 2, 6, 1228], 0), (.aload_n 2, 1, [], 0), (.aload_n 0, 1, [], 0), (.iload 4, 2, [], 0), (.iconst 1, 1, [], 1), (.iadd, 1, [], 0), (.iaload, 1, [], 0), (.invokevirtual 226, 3, [1, 332, 2, 8, 2082], 0), (.if_icmp .eq 175, 3, [1945], 0), (.iconst 0, 1, [], 0), (.ireturn, 1, [], 0)]
theorem ok_l1750 : vBL MT qLen qCh true 14 522 7 "ShadowPagerLaw" "law" code 0 1750 I_l1750 = true := by decide +kernel
set_option maxRecDepth 100000 in
theorem lc_49 {l : Launch} {D : va_G} {dA : Nat → ClassId} {z : Nat} {sa : Nat → Nat} {Hz : Heap} {L c : Nat} {xs : Nat → Int32} {G : Nat → LA → List Value → AH → Prop} {h : AH} {W : WD} (hC : Clos l D dA z sa Hz L xs G) (hL : L ≤ 3072) (h6 : 6 * c + 6 ≤ L) (hI : IN h W c) (nxt : ∀ h' W', IN h' W' (c + 1) → G 1945 (laC c) [] h') : G 1750 (laC c) [] h := by
  obtain ⟨r, h1, h2, W', e1, e2, t2, hI2⟩ := tw_protect (xs (6 * c + 1)) h W c (by omega) hI
  obtain ⟨FI, hF, f1, f2⟩ := two_FI (n1 := 190) (n2 := 332) (c_X7_protect str_ok e1) (c_X9_protect str_ok e2) (by decide)
  have t1 := hI.t1
  have g1750 : G 1750 (laC c) [] h := by
    refine hC.2 FI fV0 fL0 I_l1750 0 1750 _ _ _ hF fv_0 fl_0 ?_ ok_l1750
    show (sld L xs (ic (6 * c) + (1 : Int32)) (fun w213 => if (tg h 1).1 = 6 then (FI 190 [.ref 1, .int w213] h).bind (fun q214 => sld L xs (ic (6 * c) + (1 : Int32)) (fun w215 => if (tg q214.2 217).1 = 8 then (FI 332 [.ref 217, .int w215] q214.2).bind (fun q216 => if q214.1 = q216.1 then KG G 1945 (laC c) [] q216.2 else rtQ (some (.int ((0 : Int32)))) q216.2) else none)) else none)) = some ()
    simp only [sld_1 h6 hL, sld_2 h6 hL, sld_3 h6 hL, sld_4 h6 hL, sld_5 h6 hL, t1, t2, f1, f2, Option.bind_some, if_true, lcmp_rr]
    exact KG_of (nxt h2 W' hI2)
  exact g1750
def I_l1775 : List AI := [(.aload_n 1, 1, [], 0), (.aload_n 0, 1, [], 0), (.iload 4, 2, [], 0), (.iconst 1, 1, [], 1), (.iadd, 1, [], 0), (.iaload, 1, [], 0), (.invokevirtual 227, 3, [1, 191, 2, 6, 1237], 0), (.aload_n 2, 1, [], 0), (.aload_n 0, 1, [], 0), (.iload 4, 2, [], 0), (.iconst 1, 1, [], 1), (.iadd, 1, [], 0), (.iaload, 1, [], 0), (.invokevirtual 230, 3, [1, 333, 2, 8, 2086], 0), (.if_icmp .eq 150, 3, [1945], 0), (.iconst 0, 1, [], 0), (.ireturn, 1, [], 0)]
theorem ok_l1775 : vBL MT qLen qCh true 14 522 7 "ShadowPagerLaw" "law" code 0 1775 I_l1775 = true := by decide +kernel
set_option maxRecDepth 100000 in
theorem lc_50 {l : Launch} {D : va_G} {dA : Nat → ClassId} {z : Nat} {sa : Nat → Nat} {Hz : Heap} {L c : Nat} {xs : Nat → Int32} {G : Nat → LA → List Value → AH → Prop} {h : AH} {W : WD} (hC : Clos l D dA z sa Hz L xs G) (hL : L ≤ 3072) (h6 : 6 * c + 6 ≤ L) (hI : IN h W c) (nxt : ∀ h' W', IN h' W' (c + 1) → G 1945 (laC c) [] h') : G 1775 (laC c) [] h := by
  obtain ⟨r, h1, h2, W', e1, e2, t2, hI2⟩ := tw_clean (xs (6 * c + 1)) h W c (by omega) hI
  obtain ⟨FI, hF, f1, f2⟩ := two_FI (n1 := 191) (n2 := 333) (c_X7_clean str_ok e1) (c_X9_clean str_ok e2) (by decide)
  have t1 := hI.t1
  have g1775 : G 1775 (laC c) [] h := by
    refine hC.2 FI fV0 fL0 I_l1775 0 1775 _ _ _ hF fv_0 fl_0 ?_ ok_l1775
    show (sld L xs (ic (6 * c) + (1 : Int32)) (fun w217 => if (tg h 1).1 = 6 then (FI 191 [.ref 1, .int w217] h).bind (fun q218 => sld L xs (ic (6 * c) + (1 : Int32)) (fun w219 => if (tg q218.2 217).1 = 8 then (FI 333 [.ref 217, .int w219] q218.2).bind (fun q220 => if q218.1 = q220.1 then KG G 1945 (laC c) [] q220.2 else rtQ (some (.int ((0 : Int32)))) q220.2) else none)) else none)) = some ()
    simp only [sld_1 h6 hL, sld_2 h6 hL, sld_3 h6 hL, sld_4 h6 hL, sld_5 h6 hL, t1, t2, f1, f2, Option.bind_some, if_true, lcmp_rr]
    exact KG_of (nxt h2 W' hI2)
  exact g1775
def I_l1800 : List AI := [(.aload_n 1, 1, [], 0), (.invokevirtual 231, 3, [1, 192, 1, 6, 1242], 0), (.aload_n 2, 1, [], 0), (.invokevirtual 235, 3, [1, 334, 1, 8, 2090], 0), (.if_icmp .eq 137, 3, [1945], 0), (.iconst 0, 1, [], 0), (.ireturn, 1, [], 0)]
theorem ok_l1800 : vBL MT qLen qCh true 14 522 7 "ShadowPagerLaw" "law" code 0 1800 I_l1800 = true := by decide +kernel
set_option maxRecDepth 100000 in
theorem lc_51 {l : Launch} {D : va_G} {dA : Nat → ClassId} {z : Nat} {sa : Nat → Nat} {Hz : Heap} {L c : Nat} {xs : Nat → Int32} {G : Nat → LA → List Value → AH → Prop} {h : AH} {W : WD} (hC : Clos l D dA z sa Hz L xs G) (hL : L ≤ 3072) (h6 : 6 * c + 6 ≤ L) (hI : IN h W c) (nxt : ∀ h' W', IN h' W' (c + 1) → G 1945 (laC c) [] h') : G 1800 (laC c) [] h := by
  obtain ⟨r, h1, h2, W', e1, e2, t2, hI2⟩ := tw_undo h W c (by omega) hI
  obtain ⟨FI, hF, f1, f2⟩ := two_FI (n1 := 192) (n2 := 334) (c_X7_undo str_ok e1) (c_X9_undo str_ok e2) (by decide)
  have t1 := hI.t1
  have g1800 : G 1800 (laC c) [] h := by
    refine hC.2 FI fV0 fL0 I_l1800 0 1800 _ _ _ hF fv_0 fl_0 ?_ ok_l1800
    show (if (tg h 1).1 = 6 then (FI 192 [.ref 1] h).bind (fun q221 => if (tg q221.2 217).1 = 8 then (FI 334 [.ref 217] q221.2).bind (fun q222 => if q221.1 = q222.1 then KG G 1945 (laC c) [] q222.2 else rtQ (some (.int ((0 : Int32)))) q222.2) else none) else none) = some ()
    simp only [sld_1 h6 hL, sld_2 h6 hL, sld_3 h6 hL, sld_4 h6 hL, sld_5 h6 hL, t1, t2, f1, f2, Option.bind_some, if_true, lcmp_rr]
    exact KG_of (nxt h2 W' hI2)
  exact g1800
def I_l1813 : List AI := [(.aload_n 1, 1, [], 0), (.invokevirtual 236, 3, [1, 193, 1, 6, 1246], 0), (.aload_n 2, 1, [], 0), (.invokevirtual 239, 3, [1, 335, 1, 8, 2094], 0), (.if_icmp .eq 124, 3, [1945], 0), (.iconst 0, 1, [], 0), (.ireturn, 1, [], 0)]
theorem ok_l1813 : vBL MT qLen qCh true 14 522 7 "ShadowPagerLaw" "law" code 0 1813 I_l1813 = true := by decide +kernel
set_option maxRecDepth 100000 in
theorem lc_52 {l : Launch} {D : va_G} {dA : Nat → ClassId} {z : Nat} {sa : Nat → Nat} {Hz : Heap} {L c : Nat} {xs : Nat → Int32} {G : Nat → LA → List Value → AH → Prop} {h : AH} {W : WD} (hC : Clos l D dA z sa Hz L xs G) (hL : L ≤ 3072) (h6 : 6 * c + 6 ≤ L) (hI : IN h W c) (nxt : ∀ h' W', IN h' W' (c + 1) → G 1945 (laC c) [] h') : G 1813 (laC c) [] h := by
  obtain ⟨r, h1, h2, W', e1, e2, t2, hI2⟩ := tw_image h W c (by omega) hI
  obtain ⟨FI, hF, f1, f2⟩ := two_FI (n1 := 193) (n2 := 335) (c_X7_image str_ok e1) (c_X9_image str_ok e2) (by decide)
  have t1 := hI.t1
  have g1813 : G 1813 (laC c) [] h := by
    refine hC.2 FI fV0 fL0 I_l1813 0 1813 _ _ _ hF fv_0 fl_0 ?_ ok_l1813
    show (if (tg h 1).1 = 6 then (FI 193 [.ref 1] h).bind (fun q223 => if (tg q223.2 217).1 = 8 then (FI 335 [.ref 217] q223.2).bind (fun q224 => if q223.1 = q224.1 then KG G 1945 (laC c) [] q224.2 else rtQ (some (.int ((0 : Int32)))) q224.2) else none) else none) = some ()
    simp only [sld_1 h6 hL, sld_2 h6 hL, sld_3 h6 hL, sld_4 h6 hL, sld_5 h6 hL, t1, t2, f1, f2, Option.bind_some, if_true, lcmp_rr]
    exact KG_of (nxt h2 W' hI2)
  exact g1813
def I_l1826 : List AI := [(.aload_n 1, 1, [], 0), (.aload_n 0, 1, [], 0), (.iload 4, 2, [], 0), (.iconst 1, 1, [], 1), (.iadd, 1, [], 0), (.iaload, 1, [], 0), (.invokevirtual 240, 3, [1, 194, 2, 6, 1250], 0), (.aload_n 2, 1, [], 0), (.aload_n 0, 1, [], 0), (.iload 4, 2, [], 0), (.iconst 1, 1, [], 1), (.iadd, 1, [], 0), (.iaload, 1, [], 0), (.invokevirtual 244, 3, [1, 336, 2, 8, 2098], 0), (.if_icmp .eq 99, 3, [1945], 0), (.iconst 0, 1, [], 0), (.ireturn, 1, [], 0)]
theorem ok_l1826 : vBL MT qLen qCh true 14 522 7 "ShadowPagerLaw" "law" code 0 1826 I_l1826 = true := by decide +kernel
set_option maxRecDepth 100000 in
theorem lc_53 {l : Launch} {D : va_G} {dA : Nat → ClassId} {z : Nat} {sa : Nat → Nat} {Hz : Heap} {L c : Nat} {xs : Nat → Int32} {G : Nat → LA → List Value → AH → Prop} {h : AH} {W : WD} (hC : Clos l D dA z sa Hz L xs G) (hL : L ≤ 3072) (h6 : 6 * c + 6 ≤ L) (hI : IN h W c) (nxt : ∀ h' W', IN h' W' (c + 1) → G 1945 (laC c) [] h') : G 1826 (laC c) [] h := by
  obtain ⟨r, h1, h2, W', e1, e2, t2, hI2⟩ := tw_back (xs (6 * c + 1)) h W c (by omega) hI
  obtain ⟨FI, hF, f1, f2⟩ := two_FI (n1 := 194) (n2 := 336) (c_X7_back str_ok e1) (c_X9_back str_ok e2) (by decide)
  have t1 := hI.t1
  have g1826 : G 1826 (laC c) [] h := by
    refine hC.2 FI fV0 fL0 I_l1826 0 1826 _ _ _ hF fv_0 fl_0 ?_ ok_l1826
    show (sld L xs (ic (6 * c) + (1 : Int32)) (fun w225 => if (tg h 1).1 = 6 then (FI 194 [.ref 1, .int w225] h).bind (fun q226 => sld L xs (ic (6 * c) + (1 : Int32)) (fun w227 => if (tg q226.2 217).1 = 8 then (FI 336 [.ref 217, .int w227] q226.2).bind (fun q228 => if q226.1 = q228.1 then KG G 1945 (laC c) [] q228.2 else rtQ (some (.int ((0 : Int32)))) q228.2) else none)) else none)) = some ()
    simp only [sld_1 h6 hL, sld_2 h6 hL, sld_3 h6 hL, sld_4 h6 hL, sld_5 h6 hL, t1, t2, f1, f2, Option.bind_some, if_true, lcmp_rr]
    exact KG_of (nxt h2 W' hI2)
  exact g1826
def I_l1907 : List AI := [(.aload_n 1, 1, [], 0), (.aload_n 0, 1, [], 0), (.iload 4, 2, [], 0), (.iconst 1, 1, [], 1), (.iadd, 1, [], 0), (.iaload, 1, [], 0), (.invokevirtual 254, 3, [1, 196, 2, 6, 1254], 0), (.aload_n 2, 1, [], 0), (.aload_n 0, 1, [], 0), (.iload 4, 2, [], 0), (.iconst 1, 1, [], 1), (.iadd, 1, [], 0), (.iaload, 1, [], 0), (.invokevirtual 257, 3, [1, 339, 2, 8, 2106], 0), (.if_icmp .eq 18, 3, [1945], 0), (.iconst 0, 1, [], 0), (.ireturn, 1, [], 0)]
theorem ok_l1907 : vBL MT qLen qCh true 14 522 7 "ShadowPagerLaw" "law" code 0 1907 I_l1907 = true := by decide +kernel
set_option maxRecDepth 100000 in
theorem lc_55 {l : Launch} {D : va_G} {dA : Nat → ClassId} {z : Nat} {sa : Nat → Nat} {Hz : Heap} {L c : Nat} {xs : Nat → Int32} {G : Nat → LA → List Value → AH → Prop} {h : AH} {W : WD} (hC : Clos l D dA z sa Hz L xs G) (hL : L ≤ 3072) (h6 : 6 * c + 6 ≤ L) (hI : IN h W c) (nxt : ∀ h' W', IN h' W' (c + 1) → G 1945 (laC c) [] h') : G 1907 (laC c) [] h := by
  obtain ⟨r, h1, h2, W', e1, e2, t2, hI2⟩ := tw_size (xs (6 * c + 1)) h W c (by omega) hI
  obtain ⟨FI, hF, f1, f2⟩ := two_FI (n1 := 196) (n2 := 339) (c_X7_size str_ok e1) (c_X9_size str_ok e2) (by decide)
  have t1 := hI.t1
  have g1907 : G 1907 (laC c) [] h := by
    refine hC.2 FI fV0 fL0 I_l1907 0 1907 _ _ _ hF fv_0 fl_0 ?_ ok_l1907
    show (sld L xs (ic (6 * c) + (1 : Int32)) (fun w229 => if (tg h 1).1 = 6 then (FI 196 [.ref 1, .int w229] h).bind (fun q230 => sld L xs (ic (6 * c) + (1 : Int32)) (fun w231 => if (tg q230.2 217).1 = 8 then (FI 339 [.ref 217, .int w231] q230.2).bind (fun q232 => if q230.1 = q232.1 then KG G 1945 (laC c) [] q232.2 else rtQ (some (.int ((0 : Int32)))) q232.2) else none)) else none)) = some ()
    simp only [sld_1 h6 hL, sld_2 h6 hL, sld_3 h6 hL, sld_4 h6 hL, sld_5 h6 hL, t1, t2, f1, f2, Option.bind_some, if_true, lcmp_rr]
    exact KG_of (nxt h2 W' hI2)
  exact g1907
def I_l1932 : List AI := [(.aload_n 1, 1, [], 0), (.invokevirtual 258, 3, [1, 197, 1, 6, 1262], 0), (.aload_n 2, 1, [], 0), (.invokevirtual 261, 3, [1, 340, 1, 8, 2114], 0), (.if_icmp .eq 5, 3, [1945], 0), (.iconst 0, 1, [], 0), (.ireturn, 1, [], 0)]
theorem ok_l1932 : vBL MT qLen qCh true 14 522 7 "ShadowPagerLaw" "law" code 0 1932 I_l1932 = true := by decide +kernel
set_option maxRecDepth 100000 in
theorem lc_56 {l : Launch} {D : va_G} {dA : Nat → ClassId} {z : Nat} {sa : Nat → Nat} {Hz : Heap} {L c : Nat} {xs : Nat → Int32} {G : Nat → LA → List Value → AH → Prop} {h : AH} {W : WD} (hC : Clos l D dA z sa Hz L xs G) (hL : L ≤ 3072) (h6 : 6 * c + 6 ≤ L) (hI : IN h W c) (nxt : ∀ h' W', IN h' W' (c + 1) → G 1945 (laC c) [] h') : G 1932 (laC c) [] h := by
  obtain ⟨r, h1, h2, W', e1, e2, t2, hI2⟩ := tw_trouble h W c (by omega) hI
  obtain ⟨FI, hF, f1, f2⟩ := two_FI (n1 := 197) (n2 := 340) (c_X7_trouble str_ok e1) (c_X9_trouble str_ok e2) (by decide)
  have t1 := hI.t1
  have g1932 : G 1932 (laC c) [] h := by
    refine hC.2 FI fV0 fL0 I_l1932 0 1932 _ _ _ hF fv_0 fl_0 ?_ ok_l1932
    show (if (tg h 1).1 = 6 then (FI 197 [.ref 1] h).bind (fun q233 => if (tg q233.2 217).1 = 8 then (FI 340 [.ref 217] q233.2).bind (fun q234 => if q233.1 = q234.1 then KG G 1945 (laC c) [] q234.2 else rtQ (some (.int ((0 : Int32)))) q234.2) else none) else none) = some ()
    simp only [sld_1 h6 hL, sld_2 h6 hL, sld_3 h6 hL, sld_4 h6 hL, sld_5 h6 hL, t1, t2, f1, f2, Option.bind_some, if_true, lcmp_rr]
    exact KG_of (nxt h2 W' hI2)
  exact g1932
