/-! ===== the law, cases 16 and on (printed by g/gena1.py) ===== -/
def I_l752 : List AI := [(.aload_n 1, 1, [], 0), (.aload_n 0, 1, [], 0), (.iload 4, 2, [], 0), (.iconst 1, 1, [], 1), (.iadd, 1, [], 0), (.iaload, 1, [], 0), (.aload_n 0, 1, [], 0), (.iload 4, 2, [], 0), (.iconst 2, 1, [], 2), (.iadd, 1, [], 0), (.iaload, 1, [], 0), (.ifCond .eq 7, 3, [772], 0), (.iconst 1, 1, [], 1), (.goto 4, 3, [773], 0)]
theorem ok_l752 : vBL MT qLen qCh true 14 522 7 "ShadowPagerLaw" "law" code 0 752 I_l752 = true := by decide +kernel
theorem ok_l772 : vBL MT qLen qCh true 14 522 7 "ShadowPagerLaw" "law" code 773 772 [(.iconst 0, 1, [], 0)] = true := by decide +kernel
def I_l773 : List AI := [(.aload_n 0, 1, [], 0), (.iload 4, 2, [], 0), (.iconst 3, 1, [], 3), (.iadd, 1, [], 0), (.iaload, 1, [], 0), (.ifCond .eq 7, 3, [786], 0), (.iconst 1, 1, [], 1), (.goto 4, 3, [787], 0)]
theorem ok_l773 : vBL MT qLen qCh true 14 522 7 "ShadowPagerLaw" "law" code 0 773 I_l773 = true := by decide +kernel
theorem ok_l786 : vBL MT qLen qCh true 14 522 7 "ShadowPagerLaw" "law" code 787 786 [(.iconst 0, 1, [], 0)] = true := by decide +kernel
def I_l787 : List AI := [(.invokevirtual 87, 3, [1, 92, 4, 6, 779], 0), (.aload_n 2, 1, [], 0), (.aload_n 0, 1, [], 0), (.iload 4, 2, [], 0), (.iconst 1, 1, [], 1), (.iadd, 1, [], 0), (.iaload, 1, [], 0), (.aload_n 0, 1, [], 0), (.iload 4, 2, [], 0), (.iconst 2, 1, [], 2), (.iadd, 1, [], 0), (.iaload, 1, [], 0), (.ifCond .eq 7, 3, [810], 0), (.iconst 1, 1, [], 1), (.goto 4, 3, [811], 0)]
theorem ok_l787 : vBL MT qLen qCh true 14 522 7 "ShadowPagerLaw" "law" code 0 787 I_l787 = true := by decide +kernel
theorem ok_l810 : vBL MT qLen qCh true 14 522 7 "ShadowPagerLaw" "law" code 811 810 [(.iconst 0, 1, [], 0)] = true := by decide +kernel
def I_l811 : List AI := [(.aload_n 0, 1, [], 0), (.iload 4, 2, [], 0), (.iconst 3, 1, [], 3), (.iadd, 1, [], 0), (.iaload, 1, [], 0), (.ifCond .eq 7, 3, [824], 0), (.iconst 1, 1, [], 1), (.goto 4, 3, [825], 0)]
theorem ok_l811 : vBL MT qLen qCh true 14 522 7 "ShadowPagerLaw" "law" code 0 811 I_l811 = true := by decide +kernel
theorem ok_l824 : vBL MT qLen qCh true 14 522 7 "ShadowPagerLaw" "law" code 825 824 [(.iconst 0, 1, [], 0)] = true := by decide +kernel
def I_l825 : List AI := [(.invokevirtual 90, 3, [1, 267, 4, 8, 1811], 0), (.if_icmp .eq 1117, 3, [1945], 0), (.iconst 0, 1, [], 0), (.ireturn, 1, [], 0)]
theorem ok_l825 : vBL MT qLen qCh true 14 522 7 "ShadowPagerLaw" "law" code 0 825 I_l825 = true := by decide +kernel
set_option maxRecDepth 100000 in
theorem lc_16 {l : Launch} {D : va_G} {dA : Nat → ClassId} {z : Nat} {sa : Nat → Nat} {Hz : Heap} {L c : Nat} {xs : Nat → Int32} {G : Nat → LA → List Value → AH → Prop} {h : AH} {W : WD} (hC : Clos l D dA z sa Hz L xs G) (hL : L ≤ 3072) (h6 : 6 * c + 6 ≤ L) (hI : IN h W c) (nxt : ∀ h' W', IN h' W' (c + 1) → G 1945 (laC c) [] h') : G 752 (laC c) [] h := by
  obtain ⟨r, h1, h2, W', e1, e2, t2, hI2⟩ := tw_hits (xs (6 * c + 1)) (decide (xs (6 * c + 2) ≠ 0)) (decide (xs (6 * c + 3) ≠ 0)) h W c (by omega) hI
  obtain ⟨FI, hF, f1, f2⟩ := two_FI (n1 := 92) (n2 := 267) (c_X7_hits str_ok e1) (c_X9_hits str_ok e2) (by decide)
  have t1 := hI.t1
  have g825 : G 825 (laC c) [.int (bi (decide (xs (6 * c + 3) ≠ 0))), .int (bi (decide (xs (6 * c + 2) ≠ 0))), .int (xs (6 * c + 1)), .ref 217, .int r] h1 := by
    refine hC.2 FI fV0 fL0 I_l825 0 825 _ _ _ hF fv_0 fl_0 ?_ ok_l825
    show (if (tg h1 217).1 = 8 then (FI 267 [.ref 217, .int (xs (6 * c + 1)), .int (bi (decide (xs (6 * c + 2) ≠ 0))), .int (bi (decide (xs (6 * c + 3) ≠ 0)))] h1).bind (fun q71 => if r = q71.1 then KG G 1945 (laC c) [] q71.2 else rtQ (some (.int ((0 : Int32)))) q71.2) else none) = some ()
    simp only [sld_1 h6 hL, sld_2 h6 hL, sld_3 h6 hL, sld_4 h6 hL, sld_5 h6 hL, t1, t2, f1, f2, Option.bind_some, if_true, lcmp_rr]
    exact KG_of (nxt h2 W' hI2)
  have g811 : G 811 (laC c) [.int (bi (decide (xs (6 * c + 2) ≠ 0))), .int (xs (6 * c + 1)), .ref 217, .int r] h1 := by
    refine hC.2 FI fV0 fL0 I_l811 0 811 _ _ _ hF fv_0 fl_0 ?_ ok_l811
    show (sld L xs (ic (6 * c) + (3 : Int32)) (fun w72 => if w72 = 0 then KG G 824 (laC c) [.int (bi (decide (xs (6 * c + 2) ≠ 0))), .int (xs (6 * c + 1)), .ref 217, .int r] h1 else KG G 825 (laC c) [.int ((1 : Int32)), .int (bi (decide (xs (6 * c + 2) ≠ 0))), .int (xs (6 * c + 1)), .ref 217, .int r] h1)) = some ()
    simp only [sld_1 h6 hL, sld_2 h6 hL, sld_3 h6 hL, sld_4 h6 hL, sld_5 h6 hL, t1, t2, f1, f2, Option.bind_some, if_true, lcmp_rr]
    exact tern hC ok_l824 g825
  have g787 : G 787 (laC c) [.int (bi (decide (xs (6 * c + 3) ≠ 0))), .int (bi (decide (xs (6 * c + 2) ≠ 0))), .int (xs (6 * c + 1)), .ref 1] h := by
    refine hC.2 FI fV0 fL0 I_l787 0 787 _ _ _ hF fv_0 fl_0 ?_ ok_l787
    show (if (tg h 1).1 = 6 then (FI 92 [.ref 1, .int (xs (6 * c + 1)), .int (bi (decide (xs (6 * c + 2) ≠ 0))), .int (bi (decide (xs (6 * c + 3) ≠ 0)))] h).bind (fun q73 => sld L xs (ic (6 * c) + (1 : Int32)) (fun w74 => sld L xs (ic (6 * c) + (2 : Int32)) (fun w75 => if w75 = 0 then KG G 810 (laC c) [.int w74, .ref 217, .int q73.1] q73.2 else KG G 811 (laC c) [.int ((1 : Int32)), .int w74, .ref 217, .int q73.1] q73.2))) else none) = some ()
    simp only [sld_1 h6 hL, sld_2 h6 hL, sld_3 h6 hL, sld_4 h6 hL, sld_5 h6 hL, t1, t2, f1, f2, Option.bind_some, if_true, lcmp_rr]
    exact tern hC ok_l810 g811
  have g773 : G 773 (laC c) [.int (bi (decide (xs (6 * c + 2) ≠ 0))), .int (xs (6 * c + 1)), .ref 1] h := by
    refine hC.2 FI fV0 fL0 I_l773 0 773 _ _ _ hF fv_0 fl_0 ?_ ok_l773
    show (sld L xs (ic (6 * c) + (3 : Int32)) (fun w76 => if w76 = 0 then KG G 786 (laC c) [.int (bi (decide (xs (6 * c + 2) ≠ 0))), .int (xs (6 * c + 1)), .ref 1] h else KG G 787 (laC c) [.int ((1 : Int32)), .int (bi (decide (xs (6 * c + 2) ≠ 0))), .int (xs (6 * c + 1)), .ref 1] h)) = some ()
    simp only [sld_1 h6 hL, sld_2 h6 hL, sld_3 h6 hL, sld_4 h6 hL, sld_5 h6 hL, t1, t2, f1, f2, Option.bind_some, if_true, lcmp_rr]
    exact tern hC ok_l786 g787
  have g752 : G 752 (laC c) [] h := by
    refine hC.2 FI fV0 fL0 I_l752 0 752 _ _ _ hF fv_0 fl_0 ?_ ok_l752
    show (sld L xs (ic (6 * c) + (1 : Int32)) (fun w77 => sld L xs (ic (6 * c) + (2 : Int32)) (fun w78 => if w78 = 0 then KG G 772 (laC c) [.int w77, .ref 1] h else KG G 773 (laC c) [.int ((1 : Int32)), .int w77, .ref 1] h))) = some ()
    simp only [sld_1 h6 hL, sld_2 h6 hL, sld_3 h6 hL, sld_4 h6 hL, sld_5 h6 hL, t1, t2, f1, f2, Option.bind_some, if_true, lcmp_rr]
    exact tern hC ok_l772 g773
  exact g752
def I_l833 : List AI := [(.aload_n 1, 1, [], 0), (.invokevirtual 91, 3, [1, 95, 1, 6, 805], 0), (.aload_n 2, 1, [], 0), (.invokevirtual 94, 3, [1, 270, 1, 8, 1823], 0), (.if_icmp .eq 1104, 3, [1945], 0), (.iconst 0, 1, [], 0), (.ireturn, 1, [], 0)]
theorem ok_l833 : vBL MT qLen qCh true 14 522 7 "ShadowPagerLaw" "law" code 0 833 I_l833 = true := by decide +kernel
set_option maxRecDepth 100000 in
theorem lc_17 {l : Launch} {D : va_G} {dA : Nat → ClassId} {z : Nat} {sa : Nat → Nat} {Hz : Heap} {L c : Nat} {xs : Nat → Int32} {G : Nat → LA → List Value → AH → Prop} {h : AH} {W : WD} (hC : Clos l D dA z sa Hz L xs G) (hL : L ≤ 3072) (h6 : 6 * c + 6 ≤ L) (hI : IN h W c) (nxt : ∀ h' W', IN h' W' (c + 1) → G 1945 (laC c) [] h') : G 833 (laC c) [] h := by
  obtain ⟨r, h1, h2, W', e1, e2, t2, hI2⟩ := tw_stale h W c (by omega) hI
  obtain ⟨FI, hF, f1, f2⟩ := two_FI (n1 := 95) (n2 := 270) (c_X7_stale str_ok e1) (c_X9_stale str_ok e2) (by decide)
  have t1 := hI.t1
  have g833 : G 833 (laC c) [] h := by
    refine hC.2 FI fV0 fL0 I_l833 0 833 _ _ _ hF fv_0 fl_0 ?_ ok_l833
    show (if (tg h 1).1 = 6 then (FI 95 [.ref 1] h).bind (fun q79 => if (tg q79.2 217).1 = 8 then (FI 270 [.ref 217] q79.2).bind (fun q80 => if q79.1 = q80.1 then KG G 1945 (laC c) [] q80.2 else rtQ (some (.int ((0 : Int32)))) q80.2) else none) else none) = some ()
    simp only [sld_1 h6 hL, sld_2 h6 hL, sld_3 h6 hL, sld_4 h6 hL, sld_5 h6 hL, t1, t2, f1, f2, Option.bind_some, if_true, lcmp_rr]
    exact KG_of (nxt h2 W' hI2)
  exact g833
def I_l846 : List AI := [(.aload_n 1, 1, [], 0), (.invokevirtual 95, 3, [1, 97, 1, 6, 820], 0), (.aload_n 2, 1, [], 0), (.invokevirtual 98, 3, [1, 271, 1, 8, 1835], 0), (.if_icmp .eq 1091, 3, [1945], 0), (.iconst 0, 1, [], 0), (.ireturn, 1, [], 0)]
theorem ok_l846 : vBL MT qLen qCh true 14 522 7 "ShadowPagerLaw" "law" code 0 846 I_l846 = true := by decide +kernel
set_option maxRecDepth 100000 in
theorem lc_18 {l : Launch} {D : va_G} {dA : Nat → ClassId} {z : Nat} {sa : Nat → Nat} {Hz : Heap} {L c : Nat} {xs : Nat → Int32} {G : Nat → LA → List Value → AH → Prop} {h : AH} {W : WD} (hC : Clos l D dA z sa Hz L xs G) (hL : L ≤ 3072) (h6 : 6 * c + 6 ≤ L) (hI : IN h W c) (nxt : ∀ h' W', IN h' W' (c + 1) → G 1945 (laC c) [] h') : G 846 (laC c) [] h := by
  obtain ⟨r, h1, h2, W', e1, e2, t2, hI2⟩ := tw_staleAt h W c (by omega) hI
  obtain ⟨FI, hF, f1, f2⟩ := two_FI (n1 := 97) (n2 := 271) (c_X7_staleAt str_ok e1) (c_X9_staleAt str_ok e2) (by decide)
  have t1 := hI.t1
  have g846 : G 846 (laC c) [] h := by
    refine hC.2 FI fV0 fL0 I_l846 0 846 _ _ _ hF fv_0 fl_0 ?_ ok_l846
    show (if (tg h 1).1 = 6 then (FI 97 [.ref 1] h).bind (fun q81 => if (tg q81.2 217).1 = 8 then (FI 271 [.ref 217] q81.2).bind (fun q82 => if q81.1 = q82.1 then KG G 1945 (laC c) [] q82.2 else rtQ (some (.int ((0 : Int32)))) q82.2) else none) else none) = some ()
    simp only [sld_1 h6 hL, sld_2 h6 hL, sld_3 h6 hL, sld_4 h6 hL, sld_5 h6 hL, t1, t2, f1, f2, Option.bind_some, if_true, lcmp_rr]
    exact KG_of (nxt h2 W' hI2)
  exact g846
def I_l859 : List AI := [(.aload_n 1, 1, [], 0), (.invokevirtual 99, 3, [1, 99, 1, 6, 828], 0), (.aload_n 2, 1, [], 0), (.invokevirtual 102, 3, [1, 272, 1, 8, 1839], 0), (.if_icmp .eq 1078, 3, [1945], 0), (.iconst 0, 1, [], 0), (.ireturn, 1, [], 0)]
theorem ok_l859 : vBL MT qLen qCh true 14 522 7 "ShadowPagerLaw" "law" code 0 859 I_l859 = true := by decide +kernel
set_option maxRecDepth 100000 in
theorem lc_19 {l : Launch} {D : va_G} {dA : Nat → ClassId} {z : Nat} {sa : Nat → Nat} {Hz : Heap} {L c : Nat} {xs : Nat → Int32} {G : Nat → LA → List Value → AH → Prop} {h : AH} {W : WD} (hC : Clos l D dA z sa Hz L xs G) (hL : L ≤ 3072) (h6 : 6 * c + 6 ≤ L) (hI : IN h W c) (nxt : ∀ h' W', IN h' W' (c + 1) → G 1945 (laC c) [] h') : G 859 (laC c) [] h := by
  obtain ⟨r, h1, h2, W', e1, e2, t2, hI2⟩ := tw_missing h W c (by omega) hI
  obtain ⟨FI, hF, f1, f2⟩ := two_FI (n1 := 99) (n2 := 272) (c_X7_missing str_ok e1) (c_X9_missing str_ok e2) (by decide)
  have t1 := hI.t1
  have g859 : G 859 (laC c) [] h := by
    refine hC.2 FI fV0 fL0 I_l859 0 859 _ _ _ hF fv_0 fl_0 ?_ ok_l859
    show (if (tg h 1).1 = 6 then (FI 99 [.ref 1] h).bind (fun q83 => if (tg q83.2 217).1 = 8 then (FI 272 [.ref 217] q83.2).bind (fun q84 => if q83.1 = q84.1 then KG G 1945 (laC c) [] q84.2 else rtQ (some (.int ((0 : Int32)))) q84.2) else none) else none) = some ()
    simp only [sld_1 h6 hL, sld_2 h6 hL, sld_3 h6 hL, sld_4 h6 hL, sld_5 h6 hL, t1, t2, f1, f2, Option.bind_some, if_true, lcmp_rr]
    exact KG_of (nxt h2 W' hI2)
  exact g859
def I_l872 : List AI := [(.aload_n 1, 1, [], 0), (.aload_n 0, 1, [], 0), (.iload 4, 2, [], 0), (.iconst 1, 1, [], 1), (.iadd, 1, [], 0), (.iaload, 1, [], 0), (.aload_n 0, 1, [], 0), (.iload 4, 2, [], 0), (.iconst 2, 1, [], 2), (.iadd, 1, [], 0), (.iaload, 1, [], 0), (.invokevirtual 103, 3, [1, 109, 3, 6, 836], 0), (.aload_n 2, 1, [], 0), (.aload_n 0, 1, [], 0), (.iload 4, 2, [], 0), (.iconst 1, 1, [], 1), (.iadd, 1, [], 0), (.iaload, 1, [], 0), (.aload_n 0, 1, [], 0), (.iload 4, 2, [], 0), (.iconst 2, 1, [], 2), (.iadd, 1, [], 0), (.iaload, 1, [], 0), (.invokevirtual 106, 3, [1, 277, 3, 8, 1843], 0), (.if_icmp .eq 1041, 3, [1945], 0), (.iconst 0, 1, [], 0), (.ireturn, 1, [], 0)]
theorem ok_l872 : vBL MT qLen qCh true 14 522 7 "ShadowPagerLaw" "law" code 0 872 I_l872 = true := by decide +kernel
set_option maxRecDepth 100000 in
theorem lc_20 {l : Launch} {D : va_G} {dA : Nat → ClassId} {z : Nat} {sa : Nat → Nat} {Hz : Heap} {L c : Nat} {xs : Nat → Int32} {G : Nat → LA → List Value → AH → Prop} {h : AH} {W : WD} (hC : Clos l D dA z sa Hz L xs G) (hL : L ≤ 3072) (h6 : 6 * c + 6 ≤ L) (hI : IN h W c) (nxt : ∀ h' W', IN h' W' (c + 1) → G 1945 (laC c) [] h') : G 872 (laC c) [] h := by
  obtain ⟨r, h1, h2, W', e1, e2, t2, hI2⟩ := tw_shadow (xs (6 * c + 1)) (xs (6 * c + 2)) h W c (by omega) hI
  obtain ⟨FI, hF, f1, f2⟩ := two_FI (n1 := 109) (n2 := 277) (c_X7_shadow str_ok e1) (c_X9_shadow str_ok e2) (by decide)
  have t1 := hI.t1
  have g872 : G 872 (laC c) [] h := by
    refine hC.2 FI fV0 fL0 I_l872 0 872 _ _ _ hF fv_0 fl_0 ?_ ok_l872
    show (sld L xs (ic (6 * c) + (1 : Int32)) (fun w85 => sld L xs (ic (6 * c) + (2 : Int32)) (fun w86 => if (tg h 1).1 = 6 then (FI 109 [.ref 1, .int w85, .int w86] h).bind (fun q87 => sld L xs (ic (6 * c) + (1 : Int32)) (fun w88 => sld L xs (ic (6 * c) + (2 : Int32)) (fun w89 => if (tg q87.2 217).1 = 8 then (FI 277 [.ref 217, .int w88, .int w89] q87.2).bind (fun q90 => if q87.1 = q90.1 then KG G 1945 (laC c) [] q90.2 else rtQ (some (.int ((0 : Int32)))) q90.2) else none))) else none))) = some ()
    simp only [sld_1 h6 hL, sld_2 h6 hL, sld_3 h6 hL, sld_4 h6 hL, sld_5 h6 hL, t1, t2, f1, f2, Option.bind_some, if_true, lcmp_rr]
    exact KG_of (nxt h2 W' hI2)
  exact g872
def I_l909 : List AI := [(.aload_n 1, 1, [], 0), (.aload_n 0, 1, [], 0), (.iload 4, 2, [], 0), (.iconst 1, 1, [], 1), (.iadd, 1, [], 0), (.iaload, 1, [], 0), (.aload_n 0, 1, [], 0), (.iload 4, 2, [], 0), (.iconst 2, 1, [], 2), (.iadd, 1, [], 0), (.iaload, 1, [], 0), (.invokevirtual 107, 3, [1, 110, 3, 6, 877], 0), (.aload_n 2, 1, [], 0), (.aload_n 0, 1, [], 0), (.iload 4, 2, [], 0), (.iconst 1, 1, [], 1), (.iadd, 1, [], 0), (.iaload, 1, [], 0), (.aload_n 0, 1, [], 0), (.iload 4, 2, [], 0), (.iconst 2, 1, [], 2), (.iadd, 1, [], 0), (.iaload, 1, [], 0), (.invokevirtual 110, 3, [1, 278, 3, 8, 1863], 0), (.if_icmp .eq 1004, 3, [1945], 0), (.iconst 0, 1, [], 0), (.ireturn, 1, [], 0)]
theorem ok_l909 : vBL MT qLen qCh true 14 522 7 "ShadowPagerLaw" "law" code 0 909 I_l909 = true := by decide +kernel
set_option maxRecDepth 100000 in
theorem lc_21 {l : Launch} {D : va_G} {dA : Nat → ClassId} {z : Nat} {sa : Nat → Nat} {Hz : Heap} {L c : Nat} {xs : Nat → Int32} {G : Nat → LA → List Value → AH → Prop} {h : AH} {W : WD} (hC : Clos l D dA z sa Hz L xs G) (hL : L ≤ 3072) (h6 : 6 * c + 6 ≤ L) (hI : IN h W c) (nxt : ∀ h' W', IN h' W' (c + 1) → G 1945 (laC c) [] h') : G 909 (laC c) [] h := by
  obtain ⟨r, h1, h2, W', e1, e2, t2, hI2⟩ := tw_entry (xs (6 * c + 1)) (xs (6 * c + 2)) h W c (by omega) hI
  obtain ⟨FI, hF, f1, f2⟩ := two_FI (n1 := 110) (n2 := 278) (c_X7_entry str_ok e1) (c_X9_entry str_ok e2) (by decide)
  have t1 := hI.t1
  have g909 : G 909 (laC c) [] h := by
    refine hC.2 FI fV0 fL0 I_l909 0 909 _ _ _ hF fv_0 fl_0 ?_ ok_l909
    show (sld L xs (ic (6 * c) + (1 : Int32)) (fun w91 => sld L xs (ic (6 * c) + (2 : Int32)) (fun w92 => if (tg h 1).1 = 6 then (FI 110 [.ref 1, .int w91, .int w92] h).bind (fun q93 => sld L xs (ic (6 * c) + (1 : Int32)) (fun w94 => sld L xs (ic (6 * c) + (2 : Int32)) (fun w95 => if (tg q93.2 217).1 = 8 then (FI 278 [.ref 217, .int w94, .int w95] q93.2).bind (fun q96 => if q93.1 = q96.1 then KG G 1945 (laC c) [] q96.2 else rtQ (some (.int ((0 : Int32)))) q96.2) else none))) else none))) = some ()
    simp only [sld_1 h6 hL, sld_2 h6 hL, sld_3 h6 hL, sld_4 h6 hL, sld_5 h6 hL, t1, t2, f1, f2, Option.bind_some, if_true, lcmp_rr]
    exact KG_of (nxt h2 W' hI2)
  exact g909
def I_l946 : List AI := [(.aload_n 1, 1, [], 0), (.aload_n 0, 1, [], 0), (.iload 4, 2, [], 0), (.iconst 1, 1, [], 1), (.iadd, 1, [], 0), (.iaload, 1, [], 0), (.invokevirtual 111, 3, [1, 113, 2, 6, 882], 0), (.aload_n 2, 1, [], 0), (.aload_n 0, 1, [], 0), (.iload 4, 2, [], 0), (.iconst 1, 1, [], 1), (.iadd, 1, [], 0), (.iaload, 1, [], 0), (.invokevirtual 114, 3, [1, 281, 2, 8, 1867], 0), (.if_icmp .eq 979, 3, [1945], 0), (.iconst 0, 1, [], 0), (.ireturn, 1, [], 0)]
theorem ok_l946 : vBL MT qLen qCh true 14 522 7 "ShadowPagerLaw" "law" code 0 946 I_l946 = true := by decide +kernel
set_option maxRecDepth 100000 in
theorem lc_22 {l : Launch} {D : va_G} {dA : Nat → ClassId} {z : Nat} {sa : Nat → Nat} {Hz : Heap} {L c : Nat} {xs : Nat → Int32} {G : Nat → LA → List Value → AH → Prop} {h : AH} {W : WD} (hC : Clos l D dA z sa Hz L xs G) (hL : L ≤ 3072) (h6 : 6 * c + 6 ≤ L) (hI : IN h W c) (nxt : ∀ h' W', IN h' W' (c + 1) → G 1945 (laC c) [] h') : G 946 (laC c) [] h := by
  obtain ⟨r, h1, h2, W', e1, e2, t2, hI2⟩ := tw_maps (xs (6 * c + 1)) h W c (by omega) hI
  obtain ⟨FI, hF, f1, f2⟩ := two_FI (n1 := 113) (n2 := 281) (c_X7_maps str_ok e1) (c_X9_maps str_ok e2) (by decide)
  have t1 := hI.t1
  have g946 : G 946 (laC c) [] h := by
    refine hC.2 FI fV0 fL0 I_l946 0 946 _ _ _ hF fv_0 fl_0 ?_ ok_l946
    show (sld L xs (ic (6 * c) + (1 : Int32)) (fun w97 => if (tg h 1).1 = 6 then (FI 113 [.ref 1, .int w97] h).bind (fun q98 => sld L xs (ic (6 * c) + (1 : Int32)) (fun w99 => if (tg q98.2 217).1 = 8 then (FI 281 [.ref 217, .int w99] q98.2).bind (fun q100 => if q98.1 = q100.1 then KG G 1945 (laC c) [] q100.2 else rtQ (some (.int ((0 : Int32)))) q100.2) else none)) else none)) = some ()
    simp only [sld_1 h6 hL, sld_2 h6 hL, sld_3 h6 hL, sld_4 h6 hL, sld_5 h6 hL, t1, t2, f1, f2, Option.bind_some, if_true, lcmp_rr]
    exact KG_of (nxt h2 W' hI2)
  exact g946
def I_l971 : List AI := [(.aload_n 1, 1, [], 0), (.aload_n 0, 1, [], 0), (.iload 4, 2, [], 0), (.iconst 1, 1, [], 1), (.iadd, 1, [], 0), (.iaload, 1, [], 0), (.invokevirtual 115, 3, [1, 114, 2, 6, 894], 0), (.aload_n 2, 1, [], 0), (.aload_n 0, 1, [], 0), (.iload 4, 2, [], 0), (.iconst 1, 1, [], 1), (.iadd, 1, [], 0), (.iaload, 1, [], 0), (.invokevirtual 118, 3, [1, 282, 2, 8, 1879], 0), (.if_icmp .eq 954, 3, [1945], 0), (.iconst 0, 1, [], 0), (.ireturn, 1, [], 0)]
theorem ok_l971 : vBL MT qLen qCh true 14 522 7 "ShadowPagerLaw" "law" code 0 971 I_l971 = true := by decide +kernel
set_option maxRecDepth 100000 in
theorem lc_23 {l : Launch} {D : va_G} {dA : Nat → ClassId} {z : Nat} {sa : Nat → Nat} {Hz : Heap} {L c : Nat} {xs : Nat → Int32} {G : Nat → LA → List Value → AH → Prop} {h : AH} {W : WD} (hC : Clos l D dA z sa Hz L xs G) (hL : L ≤ 3072) (h6 : 6 * c + 6 ≤ L) (hI : IN h W c) (nxt : ∀ h' W', IN h' W' (c + 1) → G 1945 (laC c) [] h') : G 971 (laC c) [] h := by
  obtain ⟨r, h1, h2, W', e1, e2, t2, hI2⟩ := tw_writers (xs (6 * c + 1)) h W c (by omega) hI
  obtain ⟨FI, hF, f1, f2⟩ := two_FI (n1 := 114) (n2 := 282) (c_X7_writers str_ok e1) (c_X9_writers str_ok e2) (by decide)
  have t1 := hI.t1
  have g971 : G 971 (laC c) [] h := by
    refine hC.2 FI fV0 fL0 I_l971 0 971 _ _ _ hF fv_0 fl_0 ?_ ok_l971
    show (sld L xs (ic (6 * c) + (1 : Int32)) (fun w101 => if (tg h 1).1 = 6 then (FI 114 [.ref 1, .int w101] h).bind (fun q102 => sld L xs (ic (6 * c) + (1 : Int32)) (fun w103 => if (tg q102.2 217).1 = 8 then (FI 282 [.ref 217, .int w103] q102.2).bind (fun q104 => if q102.1 = q104.1 then KG G 1945 (laC c) [] q104.2 else rtQ (some (.int ((0 : Int32)))) q104.2) else none)) else none)) = some ()
    simp only [sld_1 h6 hL, sld_2 h6 hL, sld_3 h6 hL, sld_4 h6 hL, sld_5 h6 hL, t1, t2, f1, f2, Option.bind_some, if_true, lcmp_rr]
    exact KG_of (nxt h2 W' hI2)
  exact g971
def I_l996 : List AI := [(.aload_n 1, 1, [], 0), (.aload_n 0, 1, [], 0), (.iload 4, 2, [], 0), (.iconst 1, 1, [], 1), (.iadd, 1, [], 0), (.iaload, 1, [], 0), (.invokevirtual 119, 3, [1, 116, 2, 6, 898], 0), (.aload_n 2, 1, [], 0), (.aload_n 0, 1, [], 0), (.iload 4, 2, [], 0), (.iconst 1, 1, [], 1), (.iadd, 1, [], 0), (.iaload, 1, [], 0), (.invokevirtual 122, 3, [1, 284, 2, 8, 1883], 0), (.if_icmp .eq 929, 3, [1945], 0), (.iconst 0, 1, [], 0), (.ireturn, 1, [], 0)]
theorem ok_l996 : vBL MT qLen qCh true 14 522 7 "ShadowPagerLaw" "law" code 0 996 I_l996 = true := by decide +kernel
set_option maxRecDepth 100000 in
theorem lc_24 {l : Launch} {D : va_G} {dA : Nat → ClassId} {z : Nat} {sa : Nat → Nat} {Hz : Heap} {L c : Nat} {xs : Nat → Int32} {G : Nat → LA → List Value → AH → Prop} {h : AH} {W : WD} (hC : Clos l D dA z sa Hz L xs G) (hL : L ≤ 3072) (h6 : 6 * c + 6 ≤ L) (hI : IN h W c) (nxt : ∀ h' W', IN h' W' (c + 1) → G 1945 (laC c) [] h') : G 996 (laC c) [] h := by
  obtain ⟨r, h1, h2, W', e1, e2, t2, hI2⟩ := tw_watched (xs (6 * c + 1)) h W c (by omega) hI
  obtain ⟨FI, hF, f1, f2⟩ := two_FI (n1 := 116) (n2 := 284) (c_X7_watched str_ok e1) (c_X9_watched str_ok e2) (by decide)
  have t1 := hI.t1
  have g996 : G 996 (laC c) [] h := by
    refine hC.2 FI fV0 fL0 I_l996 0 996 _ _ _ hF fv_0 fl_0 ?_ ok_l996
    show (sld L xs (ic (6 * c) + (1 : Int32)) (fun w105 => if (tg h 1).1 = 6 then (FI 116 [.ref 1, .int w105] h).bind (fun q106 => sld L xs (ic (6 * c) + (1 : Int32)) (fun w107 => if (tg q106.2 217).1 = 8 then (FI 284 [.ref 217, .int w107] q106.2).bind (fun q108 => if q106.1 = q108.1 then KG G 1945 (laC c) [] q108.2 else rtQ (some (.int ((0 : Int32)))) q108.2) else none)) else none)) = some ()
    simp only [sld_1 h6 hL, sld_2 h6 hL, sld_3 h6 hL, sld_4 h6 hL, sld_5 h6 hL, t1, t2, f1, f2, Option.bind_some, if_true, lcmp_rr]
    exact KG_of (nxt h2 W' hI2)
  exact g996
def I_l1021 : List AI := [(.aload_n 1, 1, [], 0), (.invokevirtual 123, 3, [1, 117, 1, 6, 906], 0), (.aload_n 2, 1, [], 0), (.invokevirtual 126, 3, [1, 285, 1, 8, 1891], 0), (.if_icmp .eq 916, 3, [1945], 0), (.iconst 0, 1, [], 0), (.ireturn, 1, [], 0)]
theorem ok_l1021 : vBL MT qLen qCh true 14 522 7 "ShadowPagerLaw" "law" code 0 1021 I_l1021 = true := by decide +kernel
set_option maxRecDepth 100000 in
theorem lc_25 {l : Launch} {D : va_G} {dA : Nat → ClassId} {z : Nat} {sa : Nat → Nat} {Hz : Heap} {L c : Nat} {xs : Nat → Int32} {G : Nat → LA → List Value → AH → Prop} {h : AH} {W : WD} (hC : Clos l D dA z sa Hz L xs G) (hL : L ≤ 3072) (h6 : 6 * c + 6 ≤ L) (hI : IN h W c) (nxt : ∀ h' W', IN h' W' (c + 1) → G 1945 (laC c) [] h') : G 1021 (laC c) [] h := by
  obtain ⟨r, h1, h2, W', e1, e2, t2, hI2⟩ := tw_outOfStep h W c (by omega) hI
  obtain ⟨FI, hF, f1, f2⟩ := two_FI (n1 := 117) (n2 := 285) (c_X7_outOfStep str_ok e1) (c_X9_outOfStep str_ok e2) (by decide)
  have t1 := hI.t1
  have g1021 : G 1021 (laC c) [] h := by
    refine hC.2 FI fV0 fL0 I_l1021 0 1021 _ _ _ hF fv_0 fl_0 ?_ ok_l1021
    show (if (tg h 1).1 = 6 then (FI 117 [.ref 1] h).bind (fun q109 => if (tg q109.2 217).1 = 8 then (FI 285 [.ref 217] q109.2).bind (fun q110 => if q109.1 = q110.1 then KG G 1945 (laC c) [] q110.2 else rtQ (some (.int ((0 : Int32)))) q110.2) else none) else none) = some ()
    simp only [sld_1 h6 hL, sld_2 h6 hL, sld_3 h6 hL, sld_4 h6 hL, sld_5 h6 hL, t1, t2, f1, f2, Option.bind_some, if_true, lcmp_rr]
    exact KG_of (nxt h2 W' hI2)
  exact g1021
def I_l1034 : List AI := [(.aload_n 1, 1, [], 0), (.invokevirtual 127, 3, [1, 120, 1, 6, 910], 0), (.aload_n 2, 1, [], 0), (.invokevirtual 130, 3, [1, 288, 1, 8, 1895], 0), (.if_icmp .eq 903, 3, [1945], 0), (.iconst 0, 1, [], 0), (.ireturn, 1, [], 0)]
theorem ok_l1034 : vBL MT qLen qCh true 14 522 7 "ShadowPagerLaw" "law" code 0 1034 I_l1034 = true := by decide +kernel
set_option maxRecDepth 100000 in
theorem lc_26 {l : Launch} {D : va_G} {dA : Nat → ClassId} {z : Nat} {sa : Nat → Nat} {Hz : Heap} {L c : Nat} {xs : Nat → Int32} {G : Nat → LA → List Value → AH → Prop} {h : AH} {W : WD} (hC : Clos l D dA z sa Hz L xs G) (hL : L ≤ 3072) (h6 : 6 * c + 6 ≤ L) (hI : IN h W c) (nxt : ∀ h' W', IN h' W' (c + 1) → G 1945 (laC c) [] h') : G 1034 (laC c) [] h := by
  obtain ⟨r, h1, h2, W', e1, e2, t2, hI2⟩ := tw_dropsNext h W c (by omega) hI
  obtain ⟨FI, hF, f1, f2⟩ := two_FI (n1 := 120) (n2 := 288) (c_X7_dropsNext str_ok e1) (c_X9_dropsNext str_ok e2) (by decide)
  have t1 := hI.t1
  have g1034 : G 1034 (laC c) [] h := by
    refine hC.2 FI fV0 fL0 I_l1034 0 1034 _ _ _ hF fv_0 fl_0 ?_ ok_l1034
    show (if (tg h 1).1 = 6 then (FI 120 [.ref 1] h).bind (fun q111 => if (tg q111.2 217).1 = 8 then (FI 288 [.ref 217] q111.2).bind (fun q112 => if q111.1 = q112.1 then KG G 1945 (laC c) [] q112.2 else rtQ (some (.int ((0 : Int32)))) q112.2) else none) else none) = some ()
    simp only [sld_1 h6 hL, sld_2 h6 hL, sld_3 h6 hL, sld_4 h6 hL, sld_5 h6 hL, t1, t2, f1, f2, Option.bind_some, if_true, lcmp_rr]
    exact KG_of (nxt h2 W' hI2)
  exact g1034
def I_l1047 : List AI := [(.aload_n 1, 1, [], 0), (.aload_n 0, 1, [], 0), (.iload 4, 2, [], 0), (.iconst 1, 1, [], 1), (.iadd, 1, [], 0), (.iaload, 1, [], 0), (.invokevirtual 131, 3, [1, 136, 2, 6, 922], 0), (.aload_n 2, 1, [], 0), (.aload_n 0, 1, [], 0), (.iload 4, 2, [], 0), (.iconst 1, 1, [], 1), (.iadd, 1, [], 0), (.iaload, 1, [], 0), (.invokevirtual 134, 3, [1, 296, 2, 8, 1907], 0), (.if_icmp .eq 878, 3, [1945], 0), (.iconst 0, 1, [], 0), (.ireturn, 1, [], 0)]
theorem ok_l1047 : vBL MT qLen qCh true 14 522 7 "ShadowPagerLaw" "law" code 0 1047 I_l1047 = true := by decide +kernel
set_option maxRecDepth 100000 in
theorem lc_27 {l : Launch} {D : va_G} {dA : Nat → ClassId} {z : Nat} {sa : Nat → Nat} {Hz : Heap} {L c : Nat} {xs : Nat → Int32} {G : Nat → LA → List Value → AH → Prop} {h : AH} {W : WD} (hC : Clos l D dA z sa Hz L xs G) (hL : L ≤ 3072) (h6 : 6 * c + 6 ≤ L) (hI : IN h W c) (nxt : ∀ h' W', IN h' W' (c + 1) → G 1945 (laC c) [] h') : G 1047 (laC c) [] h := by
  obtain ⟨r, h1, h2, W', e1, e2, t2, hI2⟩ := tw_runFaults (xs (6 * c + 1)) h W c (by omega) hI
  obtain ⟨FI, hF, f1, f2⟩ := two_FI (n1 := 136) (n2 := 296) (c_X7_runFaults str_ok e1) (c_X9_runFaults str_ok e2) (by decide)
  have t1 := hI.t1
  have g1047 : G 1047 (laC c) [] h := by
    refine hC.2 FI fV0 fL0 I_l1047 0 1047 _ _ _ hF fv_0 fl_0 ?_ ok_l1047
    show (sld L xs (ic (6 * c) + (1 : Int32)) (fun w113 => if (tg h 1).1 = 6 then (FI 136 [.ref 1, .int w113] h).bind (fun q114 => sld L xs (ic (6 * c) + (1 : Int32)) (fun w115 => if (tg q114.2 217).1 = 8 then (FI 296 [.ref 217, .int w115] q114.2).bind (fun q116 => if q114.1 = q116.1 then KG G 1945 (laC c) [] q116.2 else rtQ (some (.int ((0 : Int32)))) q116.2) else none)) else none)) = some ()
    simp only [sld_1 h6 hL, sld_2 h6 hL, sld_3 h6 hL, sld_4 h6 hL, sld_5 h6 hL, t1, t2, f1, f2, Option.bind_some, if_true, lcmp_rr]
    exact KG_of (nxt h2 W' hI2)
  exact g1047
def I_l1072 : List AI := [(.aload_n 1, 1, [], 0), (.aload_n 0, 1, [], 0), (.iload 4, 2, [], 0), (.iconst 1, 1, [], 1), (.iadd, 1, [], 0), (.iaload, 1, [], 0), (.invokevirtual 135, 3, [1, 137, 2, 6, 997], 0), (.aload_n 2, 1, [], 0), (.aload_n 0, 1, [], 0), (.iload 4, 2, [], 0), (.iconst 1, 1, [], 1), (.iadd, 1, [], 0), (.iaload, 1, [], 0), (.invokevirtual 138, 3, [1, 297, 2, 8, 1939], 0), (.if_icmp .eq 853, 3, [1945], 0), (.iconst 0, 1, [], 0), (.ireturn, 1, [], 0)]
theorem ok_l1072 : vBL MT qLen qCh true 14 522 7 "ShadowPagerLaw" "law" code 0 1072 I_l1072 = true := by decide +kernel
set_option maxRecDepth 100000 in
theorem lc_28 {l : Launch} {D : va_G} {dA : Nat → ClassId} {z : Nat} {sa : Nat → Nat} {Hz : Heap} {L c : Nat} {xs : Nat → Int32} {G : Nat → LA → List Value → AH → Prop} {h : AH} {W : WD} (hC : Clos l D dA z sa Hz L xs G) (hL : L ≤ 3072) (h6 : 6 * c + 6 ≤ L) (hI : IN h W c) (nxt : ∀ h' W', IN h' W' (c + 1) → G 1945 (laC c) [] h') : G 1072 (laC c) [] h := by
  obtain ⟨r, h1, h2, W', e1, e2, t2, hI2⟩ := tw_runRefused (xs (6 * c + 1)) h W c (by omega) hI
  obtain ⟨FI, hF, f1, f2⟩ := two_FI (n1 := 137) (n2 := 297) (c_X7_runRefused str_ok e1) (c_X9_runRefused str_ok e2) (by decide)
  have t1 := hI.t1
  have g1072 : G 1072 (laC c) [] h := by
    refine hC.2 FI fV0 fL0 I_l1072 0 1072 _ _ _ hF fv_0 fl_0 ?_ ok_l1072
    show (sld L xs (ic (6 * c) + (1 : Int32)) (fun w117 => if (tg h 1).1 = 6 then (FI 137 [.ref 1, .int w117] h).bind (fun q118 => sld L xs (ic (6 * c) + (1 : Int32)) (fun w119 => if (tg q118.2 217).1 = 8 then (FI 297 [.ref 217, .int w119] q118.2).bind (fun q120 => if q118.1 = q120.1 then KG G 1945 (laC c) [] q120.2 else rtQ (some (.int ((0 : Int32)))) q120.2) else none)) else none)) = some ()
    simp only [sld_1 h6 hL, sld_2 h6 hL, sld_3 h6 hL, sld_4 h6 hL, sld_5 h6 hL, t1, t2, f1, f2, Option.bind_some, if_true, lcmp_rr]
    exact KG_of (nxt h2 W' hI2)
  exact g1072
def I_l1097 : List AI := [(.aload_n 1, 1, [], 0), (.aload_n 0, 1, [], 0), (.iload 4, 2, [], 0), (.iconst 1, 1, [], 1), (.iadd, 1, [], 0), (.iaload, 1, [], 0), (.invokevirtual 139, 3, [1, 138, 2, 6, 1001], 0), (.aload_n 2, 1, [], 0), (.aload_n 0, 1, [], 0), (.iload 4, 2, [], 0), (.iconst 1, 1, [], 1), (.iadd, 1, [], 0), (.iaload, 1, [], 0), (.invokevirtual 142, 3, [1, 298, 2, 8, 1943], 0), (.if_icmp .eq 828, 3, [1945], 0), (.iconst 0, 1, [], 0), (.ireturn, 1, [], 0)]
theorem ok_l1097 : vBL MT qLen qCh true 14 522 7 "ShadowPagerLaw" "law" code 0 1097 I_l1097 = true := by decide +kernel
set_option maxRecDepth 100000 in
theorem lc_29 {l : Launch} {D : va_G} {dA : Nat → ClassId} {z : Nat} {sa : Nat → Nat} {Hz : Heap} {L c : Nat} {xs : Nat → Int32} {G : Nat → LA → List Value → AH → Prop} {h : AH} {W : WD} (hC : Clos l D dA z sa Hz L xs G) (hL : L ≤ 3072) (h6 : 6 * c + 6 ≤ L) (hI : IN h W c) (nxt : ∀ h' W', IN h' W' (c + 1) → G 1945 (laC c) [] h') : G 1097 (laC c) [] h := by
  obtain ⟨r, h1, h2, W', e1, e2, t2, hI2⟩ := tw_runDrops (xs (6 * c + 1)) h W c (by omega) hI
  obtain ⟨FI, hF, f1, f2⟩ := two_FI (n1 := 138) (n2 := 298) (c_X7_runDrops str_ok e1) (c_X9_runDrops str_ok e2) (by decide)
  have t1 := hI.t1
  have g1097 : G 1097 (laC c) [] h := by
    refine hC.2 FI fV0 fL0 I_l1097 0 1097 _ _ _ hF fv_0 fl_0 ?_ ok_l1097
    show (sld L xs (ic (6 * c) + (1 : Int32)) (fun w121 => if (tg h 1).1 = 6 then (FI 138 [.ref 1, .int w121] h).bind (fun q122 => sld L xs (ic (6 * c) + (1 : Int32)) (fun w123 => if (tg q122.2 217).1 = 8 then (FI 298 [.ref 217, .int w123] q122.2).bind (fun q124 => if q122.1 = q124.1 then KG G 1945 (laC c) [] q124.2 else rtQ (some (.int ((0 : Int32)))) q124.2) else none)) else none)) = some ()
    simp only [sld_1 h6 hL, sld_2 h6 hL, sld_3 h6 hL, sld_4 h6 hL, sld_5 h6 hL, t1, t2, f1, f2, Option.bind_some, if_true, lcmp_rr]
    exact KG_of (nxt h2 W' hI2)
  exact g1097
